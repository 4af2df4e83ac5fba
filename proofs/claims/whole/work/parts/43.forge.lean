theorem e7_kindAt {s : xs} {k : Nat} (hk : k < 60) : Ev_X7_kindAt [.ref 123, .int (nI k)] (wd s) (.inl (some (.int (s.1 125 k)))) (wd s) := by
  refine ⟨Nat.le_of_ble_eq_true rfl, Nat.le_refl _, Or.inl rfl, ?_⟩
  refine R1 (g' := (1, _, _, _, _, _)) rfl rfl ?_
  refine R_getf rfl rfl (Nat.le_of_ble_eq_true rfl) rfl rfl ?_
  refine R1 (g' := (5, _, _, _, _, _)) rfl rfl ?_
  refine R_call2 (Or.inr (Or.inl ⟨rfl, rfl⟩)) rfl rfl ⟨Nat.le_of_ble_eq_true rfl, Nat.le_of_ble_eq_true rfl⟩ (Nat.le_of_ble_eq_true rfl) ⟨rfl, rfl⟩ (⟨⟨_, _, _, rfl, (Nat.le_of_ble_eq_true rfl), rfl⟩, e_Row_get xrw_124 (by decide) hk⟩) ?_
  refine R_iret rfl ?_
  exact ⟨rfl, rfl⟩
def fT (t : Nat) : Nat → Nat
  | 0 => t
  | j + 1 => (if fT t j < 850 then 1250 else fT t j) - 12
def fQ (Q : Nat → Int32) (n k a b t : Nat) (p : Nat → Nat) : Nat → Nat → Int32
  | 0 => Q
  | j + 1 => qStrike (if fT t j < 850 then qHeat (fQ Q n k a b t p j) n else fQ Q n k a b t p j) k (wSec a b p (j + 1)).1 (wSec a b p (j + 1)).2 (if fT t j < 850 then 1250 else fT t j) 1
theorem fQ_eq {Q : Nat → Int32} {n k a b t m : Nat} {p p2 : Nat → Nat} (h : ∀ j, j < m → p j = p2 j) : ∀ j, j ≤ m → wSec a b p j = wSec a b p2 j ∧ fQ Q n k a b t p j = fQ Q n k a b t p2 j
  | 0, _ => ⟨rfl, rfl⟩
  | j + 1, hj => by
    obtain ⟨h1, h2⟩ := fQ_eq (Q := Q) (n := n) (k := k) (a := a) (b := b) (t := t) h j (by omega)
    have h3 : wSec a b p (j + 1) = wSec a b p2 (j + 1) := by rw [wSec, wSec, h1, h j (by omega)]
    exact ⟨h3, by rw [fQ, fQ, h2, h3]⟩
theorem qHeat_0 {Q : Nat → Int32} {n : Nat} : qHeat Q n 0 = nI 1250 := rfl
theorem qHeat_2 {Q : Nat → Int32} {n : Nat} : qHeat Q n 2 = Q 2 + nI 1 := rfl
theorem qHeat_7 {Q : Nat → Int32} {n : Nat} : qHeat Q n 7 = Q 7 := by simp only [qHeat]; rw [if_neg (by decide), if_neg (by decide), if_neg (by decide)]; exact qHot_lo (by decide)
theorem qHeat_W {Q : Nat → Int32} {n k : Nat} : qHeat Q n (9 + 4 * k) = Q (9 + 4 * k) ∧ qHeat Q n (10 + 4 * k) = Q (10 + 4 * k) := by
  simp only [qHeat, qHot]
  (repeat (first | rw [if_pos (by omega)] | rw [if_neg (by omega)]))
  exact ⟨rfl, rfl⟩
theorem qn_cg {Q Q2 : Nat → Int32} {i : Nat} (h : Q2 i = Q i) : qn Q2 i = qn Q i := congrArg _ h
theorem fQ_ok {Q : Nat → Int32} {k m : Nat} {p : Nat → Nat} (h : pInv Q) (hk : k < qn Q 7) (hR : ∀ j, j ≤ m → nRg (wSec (qn Q (9 + 4 * k)) (qn Q (10 + 4 * k)) p j).1 = true ∧ nRg (wSec (qn Q (9 + 4 * k)) (qn Q (10 + 4 * k)) p j).2 = true) : ∀ j, j ≤ m → pInv (fQ Q (qn Q 7) k (qn Q (9 + 4 * k)) (qn Q (10 + 4 * k)) (qn Q 0) p j) ∧ fQ Q (qn Q 7) k (qn Q (9 + 4 * k)) (qn Q (10 + 4 * k)) (qn Q 0) p j 0 = nI (fT (qn Q 0) j) ∧ (20 ≤ fT (qn Q 0) j ∧ fT (qn Q 0) j ≤ 1250) ∧ fQ Q (qn Q 7) k (qn Q (9 + 4 * k)) (qn Q (10 + 4 * k)) (qn Q 0) p j 7 = nI (qn Q 7) ∧ fQ Q (qn Q 7) k (qn Q (9 + 4 * k)) (qn Q (10 + 4 * k)) (qn Q 0) p j (9 + 4 * k) = nI (wSec (qn Q (9 + 4 * k)) (qn Q (10 + 4 * k)) p j).1 ∧ fQ Q (qn Q 7) k (qn Q (9 + 4 * k)) (qn Q (10 + 4 * k)) (qn Q 0) p j (10 + 4 * k) = nI (wSec (qn Q (9 + 4 * k)) (qn Q (10 + 4 * k)) p j).2 ∧ ∃ c, c ≤ j ∧ fQ Q (qn Q 7) k (qn Q (9 + 4 * k)) (qn Q (10 + 4 * k)) (qn Q 0) p j 2 = Q 2 + nI c
  | 0, _ => ⟨h, h.2.2.1.1, h.2.2.1.2, h.1.1, (h.2.2.2.2.1 k hk).1, (h.2.2.2.2.1 k hk).2.1, 0, Nat.le_refl _, (Int32.add_zero _).symm⟩
  | j + 1, hj => by
    obtain ⟨g1, g2, ⟨g3, g3'⟩, g4, g5, g6, c, g7, g8⟩ := fQ_ok h hk hR j (by omega)
    obtain ⟨r1, r2⟩ := hR (j + 1) hj
    have n8 := h.1.2.2
    rw [fQ, fT]
    generalize hP : fQ Q (qn Q 7) k (qn Q (9 + 4 * k)) (qn Q (10 + 4 * k)) (qn Q 0) p j = P at *
    generalize hT : fT (qn Q 0) j = t at *
    have e7 : qn P 7 = qn Q 7 := nq g4 (by omega)
    by_cases ht : t < 850
    · rw [if_pos ht, if_pos ht]
      have hI := i_heat g1
      rw [e7] at hI
      have e72 : qn (qHeat P (qn Q 7)) 7 = qn Q 7 := (qn_cg qHeat_7).trans e7
      refine ⟨i_strike hI (by rw [e72]; exact hk) r1 r2 (by decide) (by decide), qStrike_t, by decide, ?_, qStrike_W, qStrike_H, c + 1, by omega, ?_⟩
      · rw [qStrike_o (by decide) (by decide) (by decide) (by omega), qHeat_7]
        exact g4
      · rw [qStrike_o (by decide) (by decide) (by decide) (by omega), qHeat_2, g8, Int32.add_assoc, nI_add]
    · rw [if_neg ht, if_neg ht]
      refine ⟨i_strike g1 (by rw [e7]; exact hk) r1 r2 (by omega) (by omega), qStrike_t, by omega, ?_, qStrike_W, qStrike_H, c, by omega, ?_⟩
      · rw [qStrike_o (by decide) (by decide) (by decide) (by omega)]
        exact g4
      · rw [qStrike_o (by decide) (by decide) (by decide) (by omega)]
        exact g8
theorem bOut_strike2 {s : xs} {k a b c : Nat} : sOut 2 9 s (sStrike s 2 k a b c) := sOut_put (sOut_put (sOut_put (sOut_put (sOut_put (sOut_set sOut_rf (by decide) (by decide)) (by decide) (by decide)) (by decide) (by decide)) (by decide) (by decide)) (by decide) (by decide)) (by decide) (by decide)
theorem bOut_warm2 {s : xs} {n : Nat} : sOut 2 9 s (sWarm s 2 n) := sOut_put (sOut_put (sOut_put ⟨fun i hi => (sHot_out n).1 i (by omega), (sHot_out n).2⟩ (by decide) (by decide)) (by decide) (by decide)) (by decide) (by decide)
theorem fw_loop2 {Q : Nat → Int32} {k m : Nat} {p : Nat → Nat} (h : pInv Q) (hk : k < qn Q 7) (hm : m ≤ 60) (hp2 : ∀ j, j < m → p j ≤ 2) (hR : ∀ j, j ≤ m → nRg (wSec (qn Q (9 + 4 * k)) (qn Q (10 + 4 * k)) p j).1 = true ∧ nRg (wSec (qn Q (9 + 4 * k)) (qn Q (10 + 4 * k)) p j).2 = true) : ∀ (d j : Nat) (s : xs), j + d = m → bRel s 2 (fQ Q (qn Q 7) k (qn Q (9 + 4 * k)) (qn Q (10 + 4 * k)) (qn Q 0) p j) → (∀ i, i < m → s.1 125 i = nI (p i)) → xRun M_X8_followWay (fun o1 w1 => o1 = .inl none ∧ ∃ s', w1 = wd s' ∧ sOut 2 9 s s' ∧ bRel s' 2 (fQ Q (qn Q 7) k (qn Q (9 + 4 * k)) (qn Q (10 + 4 * k)) (qn Q 0) p m)) (11, [(4, .int (nI j)), (3, .int (nI m)), (0, .ref 0), (1, .ref 2), (2, .int (nI k))], [], wd s, 0, 0) := by
  intro d
  induction d with
  | zero =>
    intro j s hd hs hw
    have hj : j = m := by omega
    subst hj
    refine R1 (g' := (13, _, _, _, _, _)) rfl rfl ?_
    refine R1 (g' := (14, _, _, _, _, _)) rfl rfl ?_
    refine R_cgeN 53 (j) (j) rfl rfl (rfl) (rfl) (by omega) (by omega) (fun h14 => ?_) (fun h => by omega)
    refine R_vret rfl ?_
    exact ⟨rfl, s, rfl, sOut_rf, hs⟩
  | succ d ih =>
    intro j s hd hs hw
    obtain ⟨g1, g2, ⟨g3, g3'⟩, g4, g5, g6, c, g7, g8⟩ := fQ_ok h hk hR j (by omega)
    obtain ⟨r1, r2⟩ := hR j (by omega)
    obtain ⟨r3, r4⟩ := hR (j + 1) (by omega)
    have n8 := h.1.2.2
    have hq2 := hp2 j (by omega)
    have hk8 : k < 8 := by omega
    have hF : (fQ Q (qn Q 7) k (qn Q (9 + 4 * k)) (qn Q (10 + 4 * k)) (qn Q 0) p (j + 1)) = qStrike (if fT (qn Q 0) j < 850 then qHeat (fQ Q (qn Q 7) k (qn Q (9 + 4 * k)) (qn Q (10 + 4 * k)) (qn Q 0) p j) (qn Q 7) else (fQ Q (qn Q 7) k (qn Q (9 + 4 * k)) (qn Q (10 + 4 * k)) (qn Q 0) p j)) k (wSec (qn Q (9 + 4 * k)) (qn Q (10 + 4 * k)) p (j + 1)).1 (wSec (qn Q (9 + 4 * k)) (qn Q (10 + 4 * k)) p (j + 1)).2 (if fT (qn Q 0) j < 850 then 1250 else fT (qn Q 0) j) 1 := rfl
    have hN : wSec (qn Q (9 + 4 * k)) (qn Q (10 + 4 * k)) p (j + 1) = nIt (wSec (qn Q (9 + 4 * k)) (qn Q (10 + 4 * k)) p j).1 (wSec (qn Q (9 + 4 * k)) (qn Q (10 + 4 * k)) p j).2 (p j) 1 := rfl
    have hn : s.1 2 0 = nI (qn Q 7) := hs.1.1.trans g4
    have ht : s.1 2 1 = nI (fT (qn Q 0) j) := hs.1.2.1.trans g2
    by_cases ht8 : fT (qn Q 0) j < 850
    · rw [if_pos ht8, if_pos ht8] at hF
      obtain ⟨w1, w2⟩ := r_heat (n := qn Q 7) hs n8
      have wo : sOut 2 9 s (sWarm s 2 (qn Q 7)) := bOut_warm2
      have eW : (sWarm s 2 (qn Q 7)).1 4 k = nI (wSec (qn Q (9 + 4 * k)) (qn Q (10 + 4 * k)) p j).1 := (w1.2 k hk8).1.trans (qHeat_W.1.trans g5)
      have eH : (sWarm s 2 (qn Q 7)).1 6 k = nI (wSec (qn Q (9 + 4 * k)) (qn Q (10 + 4 * k)) p j).2 := (w1.2 k hk8).2.1.trans (qHeat_W.2.trans g6)
      have hst := e_strike (s := sWarm s 2 (qn Q 7)) (q := p j) (c := 1) xbar_2 hk8 eW eH hq2 (by decide) (fun i hi => by rw [show i = 0 by omega]; exact ⟨r1, r2⟩)
      have hrr := r_strike (k := k) (a := (nIt (wSec (qn Q (9 + 4 * k)) (qn Q (10 + 4 * k)) p j).1 (wSec (qn Q (9 + 4 * k)) (qn Q (10 + 4 * k)) p j).2 (p j) 1).1) (b := (nIt (wSec (qn Q (9 + 4 * k)) (qn Q (10 + 4 * k)) p j).1 (wSec (qn Q (9 + 4 * k)) (qn Q (10 + 4 * k)) p j).2 (p j) 1).2) (t := 1250) (c := 1) w1 qHeat_0 hk8 (by decide)
      rw [← hN, ← hF] at hrr
      have so : sOut 2 9 s (sStrike (sWarm s 2 (qn Q 7)) 2 k (wSec (qn Q (9 + 4 * k)) (qn Q (10 + 4 * k)) p (j + 1)).1 (wSec (qn Q (9 + 4 * k)) (qn Q (10 + 4 * k)) p (j + 1)).2 1) := sOut_tr wo bOut_strike2
      rw [← hN] at hst
      refine xRun_imp (Po := fun o1 w1 => o1 = .inl none ∧ ∃ s', w1 = wd s' ∧ sOut 2 9 (sStrike (sWarm s 2 (qn Q 7)) 2 k (wSec (qn Q (9 + 4 * k)) (qn Q (10 + 4 * k)) p (j + 1)).1 (wSec (qn Q (9 + 4 * k)) (qn Q (10 + 4 * k)) p (j + 1)).2 1) s' ∧ bRel s' 2 (fQ Q (qn Q 7) k (qn Q (9 + 4 * k)) (qn Q (10 + 4 * k)) (qn Q 0) p m)) ?_ (fun _ _ ⟨e1, s', e2, e3, e4⟩ => ⟨e1, s', e2, sOut_tr so e3, e4⟩)
      refine R1 (g' := (13, _, _, _, _, _)) rfl rfl ?_
      refine R1 (g' := (14, _, _, _, _, _)) rfl rfl ?_
      refine R_cgeN 53 (j) (m) rfl rfl (rfl) (rfl) (by omega) (by omega) (fun h => by omega) (fun h14 => ?_)
      refine R1 (g' := (18, _, _, _, _, _)) rfl rfl ?_
      refine R_getf rfl rfl (Nat.le_of_ble_eq_true rfl) rfl rfl ?_
      refine R1 (g' := (24, _, .int (nI 850) :: _, _, _, _)) rfl rfl ?_
      refine R_cgeN 32 (fT (qn Q 0) j) (850) rfl rfl (ht) (rfl) (by omega) (by omega) (fun h => by omega) (fun h24 => ?_)
      refine R1 (g' := (28, _, _, _, _, _)) rfl rfl ?_
      refine R_call1 (Or.inr (Or.inl ⟨rfl, rfl⟩)) rfl rfl ⟨Nat.le_of_ble_eq_true rfl, Nat.le_of_ble_eq_true rfl⟩ (Nat.le_of_ble_eq_true rfl) ⟨rfl, rfl⟩ (⟨⟨_, _, _, rfl, (Nat.le_of_ble_eq_true rfl), rfl⟩, e_warmUp xbar_2 hn n8⟩) ?_
      refine R1 (g' := (32, _, _, _, _, _)) rfl rfl ?_
      refine R1 (g' := (33, _, _, _, _, _)) rfl rfl ?_
      refine R1 (g' := (34, _, _, _, _, _)) rfl rfl ?_
      refine R1 (g' := (35, _, _, _, _, _)) rfl rfl ?_
      refine R_getf rfl rfl (Nat.le_of_ble_eq_true rfl) rfl rfl ?_
      refine R1 (g' := (40, _, _, _, _, _)) rfl rfl ?_
      refine R_call2 (Or.inr (Or.inl ⟨rfl, rfl⟩)) rfl rfl ⟨Nat.le_of_ble_eq_true rfl, Nat.le_of_ble_eq_true rfl⟩ (Nat.le_of_ble_eq_true rfl) ⟨rfl, rfl⟩ (⟨⟨_, _, _, rfl, (Nat.le_of_ble_eq_true rfl), rfl⟩, e7_kindAt (by omega)⟩) ?_
      refine R1 (g' := (44, _, .int (nI 1) :: _, _, _, _)) rfl rfl ?_
      rw [wo.1 125 (Or.inr (by decide)), hw j (by omega)]
      refine R_call4 (Or.inr (Or.inl ⟨rfl, rfl⟩)) rfl rfl ⟨Nat.le_of_ble_eq_true rfl, Nat.le_of_ble_eq_true rfl⟩ (Nat.le_of_ble_eq_true rfl) ⟨rfl, rfl⟩ (⟨⟨_, _, _, rfl, (Nat.le_of_ble_eq_true rfl), rfl⟩, hst⟩) ?_
      refine R1 (g' := (50, _, _, _, _, _)) rfl rfl ?_
      refine R1 (g' := (11, _, _, _, _, _)) rfl rfl ?_
      refine R_lv [(4, .int (nI (j + 1))), (3, .int (nI m)), (0, .ref 0), (1, .ref 2), (2, .int (nI k))] rfl (List.forall_mem_cons.mpr ⟨by rw [nI_succ j]; rfl, List.forall_mem_cons.mpr ⟨rfl, List.forall_mem_cons.mpr ⟨rfl, List.forall_mem_cons.mpr ⟨rfl, List.forall_mem_cons.mpr ⟨rfl, fun _ h => absurd h List.not_mem_nil⟩⟩⟩⟩⟩) ⟨rfl, rfl⟩ ?_
      exact ih (j + 1) _ (by omega) hrr (fun i hi => by rw [so.1 125 (Or.inr (by decide))]; exact hw i hi)
    · rw [if_neg ht8, if_neg ht8] at hF
      have hst := e_strike (s := s) (q := p j) (c := 1) xbar_2 hk8 ((hs.2 k hk8).1.trans g5) ((hs.2 k hk8).2.1.trans g6) hq2 (by decide) (fun i hi => by rw [show i = 0 by omega]; exact ⟨r1, r2⟩)
      have hrr := r_strike (k := k) (a := (nIt (wSec (qn Q (9 + 4 * k)) (qn Q (10 + 4 * k)) p j).1 (wSec (qn Q (9 + 4 * k)) (qn Q (10 + 4 * k)) p j).2 (p j) 1).1) (b := (nIt (wSec (qn Q (9 + 4 * k)) (qn Q (10 + 4 * k)) p j).1 (wSec (qn Q (9 + 4 * k)) (qn Q (10 + 4 * k)) p j).2 (p j) 1).2) (c := 1) hs g2 hk8 (by omega)
      rw [← hN, ← hF] at hrr
      have so : sOut 2 9 s (sStrike s 2 k (wSec (qn Q (9 + 4 * k)) (qn Q (10 + 4 * k)) p (j + 1)).1 (wSec (qn Q (9 + 4 * k)) (qn Q (10 + 4 * k)) p (j + 1)).2 1) := bOut_strike2
      rw [← hN] at hst
      refine xRun_imp (Po := fun o1 w1 => o1 = .inl none ∧ ∃ s', w1 = wd s' ∧ sOut 2 9 (sStrike s 2 k (wSec (qn Q (9 + 4 * k)) (qn Q (10 + 4 * k)) p (j + 1)).1 (wSec (qn Q (9 + 4 * k)) (qn Q (10 + 4 * k)) p (j + 1)).2 1) s' ∧ bRel s' 2 (fQ Q (qn Q 7) k (qn Q (9 + 4 * k)) (qn Q (10 + 4 * k)) (qn Q 0) p m)) ?_ (fun _ _ ⟨e1, s', e2, e3, e4⟩ => ⟨e1, s', e2, sOut_tr so e3, e4⟩)
      refine R1 (g' := (13, _, _, _, _, _)) rfl rfl ?_
      refine R1 (g' := (14, _, _, _, _, _)) rfl rfl ?_
      refine R_cgeN 53 (j) (m) rfl rfl (rfl) (rfl) (by omega) (by omega) (fun h => by omega) (fun h14 => ?_)
      refine R1 (g' := (18, _, _, _, _, _)) rfl rfl ?_
      refine R_getf rfl rfl (Nat.le_of_ble_eq_true rfl) rfl rfl ?_
      refine R1 (g' := (24, _, .int (nI 850) :: _, _, _, _)) rfl rfl ?_
      refine R_cgeN 32 (fT (qn Q 0) j) (850) rfl rfl (ht) (rfl) (by omega) (by omega) (fun h24 => ?_) (fun h => by omega)
      refine R1 (g' := (33, _, _, _, _, _)) rfl rfl ?_
      refine R1 (g' := (34, _, _, _, _, _)) rfl rfl ?_
      refine R1 (g' := (35, _, _, _, _, _)) rfl rfl ?_
      refine R_getf rfl rfl (Nat.le_of_ble_eq_true rfl) rfl rfl ?_
      refine R1 (g' := (40, _, _, _, _, _)) rfl rfl ?_
      refine R_call2 (Or.inr (Or.inl ⟨rfl, rfl⟩)) rfl rfl ⟨Nat.le_of_ble_eq_true rfl, Nat.le_of_ble_eq_true rfl⟩ (Nat.le_of_ble_eq_true rfl) ⟨rfl, rfl⟩ (⟨⟨_, _, _, rfl, (Nat.le_of_ble_eq_true rfl), rfl⟩, e7_kindAt (by omega)⟩) ?_
      refine R1 (g' := (44, _, .int (nI 1) :: _, _, _, _)) rfl rfl ?_
      rw [hw j (by omega)]
      refine R_call4 (Or.inr (Or.inl ⟨rfl, rfl⟩)) rfl rfl ⟨Nat.le_of_ble_eq_true rfl, Nat.le_of_ble_eq_true rfl⟩ (Nat.le_of_ble_eq_true rfl) ⟨rfl, rfl⟩ (⟨⟨_, _, _, rfl, (Nat.le_of_ble_eq_true rfl), rfl⟩, hst⟩) ?_
      refine R1 (g' := (50, _, _, _, _, _)) rfl rfl ?_
      refine R1 (g' := (11, _, _, _, _, _)) rfl rfl ?_
      refine R_lv [(4, .int (nI (j + 1))), (3, .int (nI m)), (0, .ref 0), (1, .ref 2), (2, .int (nI k))] rfl (List.forall_mem_cons.mpr ⟨by rw [nI_succ j]; rfl, List.forall_mem_cons.mpr ⟨rfl, List.forall_mem_cons.mpr ⟨rfl, List.forall_mem_cons.mpr ⟨rfl, List.forall_mem_cons.mpr ⟨rfl, fun _ h => absurd h List.not_mem_nil⟩⟩⟩⟩⟩) ⟨rfl, rfl⟩ ?_
      exact ih (j + 1) _ (by omega) hrr (fun i hi => by rw [so.1 125 (Or.inr (by decide))]; exact hw i hi)
theorem e8_followWay2 {s : xs} {Q : Nat → Int32} {k m : Nat} {p : Nat → Nat} (h : pInv Q) (hk : k < qn Q 7) (hm : m ≤ 60) (hp2 : ∀ j, j < m → p j ≤ 2) (hR : ∀ j, j ≤ m → nRg (wSec (qn Q (9 + 4 * k)) (qn Q (10 + 4 * k)) p j).1 = true ∧ nRg (wSec (qn Q (9 + 4 * k)) (qn Q (10 + 4 * k)) p j).2 = true) (hs : bRel s 2 Q) (hw : ∀ i, i < m → s.1 125 i = nI (p i)) (hb : s.1 123 0 = nI m) : ∃ s', sOut 2 9 s s' ∧ bRel s' 2 (fQ Q (qn Q 7) k (qn Q (9 + 4 * k)) (qn Q (10 + 4 * k)) (qn Q 0) p m) ∧ Ev_X8_followWay [.ref 0, .ref 2, .int (nI k)] (wd s) (.inl none) (wd s') := by
  have hr1 : xRun M_X8_followWay (fun o1 w1 => o1 = .inl none ∧ ∃ s', w1 = wd s' ∧ sOut 2 9 s s' ∧ bRel s' 2 (fQ Q (qn Q 7) k (qn Q (9 + 4 * k)) (qn Q (10 + 4 * k)) (qn Q 0) p m)) (0, xarg 0 [.ref 0, .ref 2, .int (nI k)], [], wd s, 0, 0) := by
    refine R1 (g' := (1, _, _, _, _, _)) rfl rfl ?_
    refine R_getf rfl rfl (Nat.le_of_ble_eq_true rfl) rfl rfl ?_
    refine R_getf rfl rfl (Nat.le_of_ble_eq_true rfl) rfl rfl ?_
    rw [hb]
    refine R1 (g' := (8, _, _, _, _, _)) rfl rfl ?_
    refine R1 (g' := (9, _, .int (nI 0) :: _, _, _, _)) rfl rfl ?_
    refine R1 (g' := (11, _, _, _, _, _)) rfl rfl ?_
    exact R_lv [(4, .int (nI 0)), (3, .int (nI m)), (0, .ref 0), (1, .ref 2), (2, .int (nI k))] rfl (List.forall_mem_cons.mpr ⟨rfl, List.forall_mem_cons.mpr ⟨rfl, List.forall_mem_cons.mpr ⟨rfl, List.forall_mem_cons.mpr ⟨rfl, List.forall_mem_cons.mpr ⟨rfl, fun _ h => absurd h List.not_mem_nil⟩⟩⟩⟩⟩) ⟨rfl, rfl⟩ (fw_loop2 h hk hm hp2 hR m 0 s (Nat.zero_add _) hs hw)
  obtain ⟨o1, w1, ⟨rfl, s', rfl, e1, e2⟩, hr2⟩ := xRun_ex hr1
  exact ⟨s', e1, e2, Nat.le_of_ble_eq_true rfl, Nat.le_refl _, rfl, hr2⟩
theorem bOut_strike22 {s : xs} {k a b c : Nat} : sOut 22 9 s (sStrike s 22 k a b c) := sOut_put (sOut_put (sOut_put (sOut_put (sOut_put (sOut_set sOut_rf (by decide) (by decide)) (by decide) (by decide)) (by decide) (by decide)) (by decide) (by decide)) (by decide) (by decide)) (by decide) (by decide)
theorem bOut_warm22 {s : xs} {n : Nat} : sOut 22 9 s (sWarm s 22 n) := sOut_put (sOut_put (sOut_put ⟨fun i hi => (sHot_out n).1 i (by omega), (sHot_out n).2⟩ (by decide) (by decide)) (by decide) (by decide)) (by decide) (by decide)
theorem fw_loop22 {Q : Nat → Int32} {k m : Nat} {p : Nat → Nat} (h : pInv Q) (hk : k < qn Q 7) (hm : m ≤ 60) (hp2 : ∀ j, j < m → p j ≤ 2) (hR : ∀ j, j ≤ m → nRg (wSec (qn Q (9 + 4 * k)) (qn Q (10 + 4 * k)) p j).1 = true ∧ nRg (wSec (qn Q (9 + 4 * k)) (qn Q (10 + 4 * k)) p j).2 = true) : ∀ (d j : Nat) (s : xs), j + d = m → bRel s 22 (fQ Q (qn Q 7) k (qn Q (9 + 4 * k)) (qn Q (10 + 4 * k)) (qn Q 0) p j) → (∀ i, i < m → s.1 125 i = nI (p i)) → xRun M_X8_followWay (fun o1 w1 => o1 = .inl none ∧ ∃ s', w1 = wd s' ∧ sOut 22 9 s s' ∧ bRel s' 22 (fQ Q (qn Q 7) k (qn Q (9 + 4 * k)) (qn Q (10 + 4 * k)) (qn Q 0) p m)) (11, [(4, .int (nI j)), (3, .int (nI m)), (0, .ref 0), (1, .ref 22), (2, .int (nI k))], [], wd s, 0, 0) := by
  intro d
  induction d with
  | zero =>
    intro j s hd hs hw
    have hj : j = m := by omega
    subst hj
    refine R1 (g' := (13, _, _, _, _, _)) rfl rfl ?_
    refine R1 (g' := (14, _, _, _, _, _)) rfl rfl ?_
    refine R_cgeN 53 (j) (j) rfl rfl (rfl) (rfl) (by omega) (by omega) (fun h14 => ?_) (fun h => by omega)
    refine R_vret rfl ?_
    exact ⟨rfl, s, rfl, sOut_rf, hs⟩
  | succ d ih =>
    intro j s hd hs hw
    obtain ⟨g1, g2, ⟨g3, g3'⟩, g4, g5, g6, c, g7, g8⟩ := fQ_ok h hk hR j (by omega)
    obtain ⟨r1, r2⟩ := hR j (by omega)
    obtain ⟨r3, r4⟩ := hR (j + 1) (by omega)
    have n8 := h.1.2.2
    have hq2 := hp2 j (by omega)
    have hk8 : k < 8 := by omega
    have hF : (fQ Q (qn Q 7) k (qn Q (9 + 4 * k)) (qn Q (10 + 4 * k)) (qn Q 0) p (j + 1)) = qStrike (if fT (qn Q 0) j < 850 then qHeat (fQ Q (qn Q 7) k (qn Q (9 + 4 * k)) (qn Q (10 + 4 * k)) (qn Q 0) p j) (qn Q 7) else (fQ Q (qn Q 7) k (qn Q (9 + 4 * k)) (qn Q (10 + 4 * k)) (qn Q 0) p j)) k (wSec (qn Q (9 + 4 * k)) (qn Q (10 + 4 * k)) p (j + 1)).1 (wSec (qn Q (9 + 4 * k)) (qn Q (10 + 4 * k)) p (j + 1)).2 (if fT (qn Q 0) j < 850 then 1250 else fT (qn Q 0) j) 1 := rfl
    have hN : wSec (qn Q (9 + 4 * k)) (qn Q (10 + 4 * k)) p (j + 1) = nIt (wSec (qn Q (9 + 4 * k)) (qn Q (10 + 4 * k)) p j).1 (wSec (qn Q (9 + 4 * k)) (qn Q (10 + 4 * k)) p j).2 (p j) 1 := rfl
    have hn : s.1 22 0 = nI (qn Q 7) := hs.1.1.trans g4
    have ht : s.1 22 1 = nI (fT (qn Q 0) j) := hs.1.2.1.trans g2
    by_cases ht8 : fT (qn Q 0) j < 850
    · rw [if_pos ht8, if_pos ht8] at hF
      obtain ⟨w1, w2⟩ := r_heat (n := qn Q 7) hs n8
      have wo : sOut 22 9 s (sWarm s 22 (qn Q 7)) := bOut_warm22
      have eW : (sWarm s 22 (qn Q 7)).1 24 k = nI (wSec (qn Q (9 + 4 * k)) (qn Q (10 + 4 * k)) p j).1 := (w1.2 k hk8).1.trans (qHeat_W.1.trans g5)
      have eH : (sWarm s 22 (qn Q 7)).1 26 k = nI (wSec (qn Q (9 + 4 * k)) (qn Q (10 + 4 * k)) p j).2 := (w1.2 k hk8).2.1.trans (qHeat_W.2.trans g6)
      have hst := e_strike (s := sWarm s 22 (qn Q 7)) (q := p j) (c := 1) xbar_22 hk8 eW eH hq2 (by decide) (fun i hi => by rw [show i = 0 by omega]; exact ⟨r1, r2⟩)
      have hrr := r_strike (k := k) (a := (nIt (wSec (qn Q (9 + 4 * k)) (qn Q (10 + 4 * k)) p j).1 (wSec (qn Q (9 + 4 * k)) (qn Q (10 + 4 * k)) p j).2 (p j) 1).1) (b := (nIt (wSec (qn Q (9 + 4 * k)) (qn Q (10 + 4 * k)) p j).1 (wSec (qn Q (9 + 4 * k)) (qn Q (10 + 4 * k)) p j).2 (p j) 1).2) (t := 1250) (c := 1) w1 qHeat_0 hk8 (by decide)
      rw [← hN, ← hF] at hrr
      have so : sOut 22 9 s (sStrike (sWarm s 22 (qn Q 7)) 22 k (wSec (qn Q (9 + 4 * k)) (qn Q (10 + 4 * k)) p (j + 1)).1 (wSec (qn Q (9 + 4 * k)) (qn Q (10 + 4 * k)) p (j + 1)).2 1) := sOut_tr wo bOut_strike22
      rw [← hN] at hst
      refine xRun_imp (Po := fun o1 w1 => o1 = .inl none ∧ ∃ s', w1 = wd s' ∧ sOut 22 9 (sStrike (sWarm s 22 (qn Q 7)) 22 k (wSec (qn Q (9 + 4 * k)) (qn Q (10 + 4 * k)) p (j + 1)).1 (wSec (qn Q (9 + 4 * k)) (qn Q (10 + 4 * k)) p (j + 1)).2 1) s' ∧ bRel s' 22 (fQ Q (qn Q 7) k (qn Q (9 + 4 * k)) (qn Q (10 + 4 * k)) (qn Q 0) p m)) ?_ (fun _ _ ⟨e1, s', e2, e3, e4⟩ => ⟨e1, s', e2, sOut_tr so e3, e4⟩)
      refine R1 (g' := (13, _, _, _, _, _)) rfl rfl ?_
      refine R1 (g' := (14, _, _, _, _, _)) rfl rfl ?_
      refine R_cgeN 53 (j) (m) rfl rfl (rfl) (rfl) (by omega) (by omega) (fun h => by omega) (fun h14 => ?_)
      refine R1 (g' := (18, _, _, _, _, _)) rfl rfl ?_
      refine R_getf rfl rfl (Nat.le_of_ble_eq_true rfl) rfl rfl ?_
      refine R1 (g' := (24, _, .int (nI 850) :: _, _, _, _)) rfl rfl ?_
      refine R_cgeN 32 (fT (qn Q 0) j) (850) rfl rfl (ht) (rfl) (by omega) (by omega) (fun h => by omega) (fun h24 => ?_)
      refine R1 (g' := (28, _, _, _, _, _)) rfl rfl ?_
      refine R_call1 (Or.inr (Or.inl ⟨rfl, rfl⟩)) rfl rfl ⟨Nat.le_of_ble_eq_true rfl, Nat.le_of_ble_eq_true rfl⟩ (Nat.le_of_ble_eq_true rfl) ⟨rfl, rfl⟩ (⟨⟨_, _, _, rfl, (Nat.le_of_ble_eq_true rfl), rfl⟩, e_warmUp xbar_22 hn n8⟩) ?_
      refine R1 (g' := (32, _, _, _, _, _)) rfl rfl ?_
      refine R1 (g' := (33, _, _, _, _, _)) rfl rfl ?_
      refine R1 (g' := (34, _, _, _, _, _)) rfl rfl ?_
      refine R1 (g' := (35, _, _, _, _, _)) rfl rfl ?_
      refine R_getf rfl rfl (Nat.le_of_ble_eq_true rfl) rfl rfl ?_
      refine R1 (g' := (40, _, _, _, _, _)) rfl rfl ?_
      refine R_call2 (Or.inr (Or.inl ⟨rfl, rfl⟩)) rfl rfl ⟨Nat.le_of_ble_eq_true rfl, Nat.le_of_ble_eq_true rfl⟩ (Nat.le_of_ble_eq_true rfl) ⟨rfl, rfl⟩ (⟨⟨_, _, _, rfl, (Nat.le_of_ble_eq_true rfl), rfl⟩, e7_kindAt (by omega)⟩) ?_
      refine R1 (g' := (44, _, .int (nI 1) :: _, _, _, _)) rfl rfl ?_
      rw [wo.1 125 (Or.inr (by decide)), hw j (by omega)]
      refine R_call4 (Or.inr (Or.inl ⟨rfl, rfl⟩)) rfl rfl ⟨Nat.le_of_ble_eq_true rfl, Nat.le_of_ble_eq_true rfl⟩ (Nat.le_of_ble_eq_true rfl) ⟨rfl, rfl⟩ (⟨⟨_, _, _, rfl, (Nat.le_of_ble_eq_true rfl), rfl⟩, hst⟩) ?_
      refine R1 (g' := (50, _, _, _, _, _)) rfl rfl ?_
      refine R1 (g' := (11, _, _, _, _, _)) rfl rfl ?_
      refine R_lv [(4, .int (nI (j + 1))), (3, .int (nI m)), (0, .ref 0), (1, .ref 22), (2, .int (nI k))] rfl (List.forall_mem_cons.mpr ⟨by rw [nI_succ j]; rfl, List.forall_mem_cons.mpr ⟨rfl, List.forall_mem_cons.mpr ⟨rfl, List.forall_mem_cons.mpr ⟨rfl, List.forall_mem_cons.mpr ⟨rfl, fun _ h => absurd h List.not_mem_nil⟩⟩⟩⟩⟩) ⟨rfl, rfl⟩ ?_
      exact ih (j + 1) _ (by omega) hrr (fun i hi => by rw [so.1 125 (Or.inr (by decide))]; exact hw i hi)
    · rw [if_neg ht8, if_neg ht8] at hF
      have hst := e_strike (s := s) (q := p j) (c := 1) xbar_22 hk8 ((hs.2 k hk8).1.trans g5) ((hs.2 k hk8).2.1.trans g6) hq2 (by decide) (fun i hi => by rw [show i = 0 by omega]; exact ⟨r1, r2⟩)
      have hrr := r_strike (k := k) (a := (nIt (wSec (qn Q (9 + 4 * k)) (qn Q (10 + 4 * k)) p j).1 (wSec (qn Q (9 + 4 * k)) (qn Q (10 + 4 * k)) p j).2 (p j) 1).1) (b := (nIt (wSec (qn Q (9 + 4 * k)) (qn Q (10 + 4 * k)) p j).1 (wSec (qn Q (9 + 4 * k)) (qn Q (10 + 4 * k)) p j).2 (p j) 1).2) (c := 1) hs g2 hk8 (by omega)
      rw [← hN, ← hF] at hrr
      have so : sOut 22 9 s (sStrike s 22 k (wSec (qn Q (9 + 4 * k)) (qn Q (10 + 4 * k)) p (j + 1)).1 (wSec (qn Q (9 + 4 * k)) (qn Q (10 + 4 * k)) p (j + 1)).2 1) := bOut_strike22
      rw [← hN] at hst
      refine xRun_imp (Po := fun o1 w1 => o1 = .inl none ∧ ∃ s', w1 = wd s' ∧ sOut 22 9 (sStrike s 22 k (wSec (qn Q (9 + 4 * k)) (qn Q (10 + 4 * k)) p (j + 1)).1 (wSec (qn Q (9 + 4 * k)) (qn Q (10 + 4 * k)) p (j + 1)).2 1) s' ∧ bRel s' 22 (fQ Q (qn Q 7) k (qn Q (9 + 4 * k)) (qn Q (10 + 4 * k)) (qn Q 0) p m)) ?_ (fun _ _ ⟨e1, s', e2, e3, e4⟩ => ⟨e1, s', e2, sOut_tr so e3, e4⟩)
      refine R1 (g' := (13, _, _, _, _, _)) rfl rfl ?_
      refine R1 (g' := (14, _, _, _, _, _)) rfl rfl ?_
      refine R_cgeN 53 (j) (m) rfl rfl (rfl) (rfl) (by omega) (by omega) (fun h => by omega) (fun h14 => ?_)
      refine R1 (g' := (18, _, _, _, _, _)) rfl rfl ?_
      refine R_getf rfl rfl (Nat.le_of_ble_eq_true rfl) rfl rfl ?_
      refine R1 (g' := (24, _, .int (nI 850) :: _, _, _, _)) rfl rfl ?_
      refine R_cgeN 32 (fT (qn Q 0) j) (850) rfl rfl (ht) (rfl) (by omega) (by omega) (fun h24 => ?_) (fun h => by omega)
      refine R1 (g' := (33, _, _, _, _, _)) rfl rfl ?_
      refine R1 (g' := (34, _, _, _, _, _)) rfl rfl ?_
      refine R1 (g' := (35, _, _, _, _, _)) rfl rfl ?_
      refine R_getf rfl rfl (Nat.le_of_ble_eq_true rfl) rfl rfl ?_
      refine R1 (g' := (40, _, _, _, _, _)) rfl rfl ?_
      refine R_call2 (Or.inr (Or.inl ⟨rfl, rfl⟩)) rfl rfl ⟨Nat.le_of_ble_eq_true rfl, Nat.le_of_ble_eq_true rfl⟩ (Nat.le_of_ble_eq_true rfl) ⟨rfl, rfl⟩ (⟨⟨_, _, _, rfl, (Nat.le_of_ble_eq_true rfl), rfl⟩, e7_kindAt (by omega)⟩) ?_
      refine R1 (g' := (44, _, .int (nI 1) :: _, _, _, _)) rfl rfl ?_
      rw [hw j (by omega)]
      refine R_call4 (Or.inr (Or.inl ⟨rfl, rfl⟩)) rfl rfl ⟨Nat.le_of_ble_eq_true rfl, Nat.le_of_ble_eq_true rfl⟩ (Nat.le_of_ble_eq_true rfl) ⟨rfl, rfl⟩ (⟨⟨_, _, _, rfl, (Nat.le_of_ble_eq_true rfl), rfl⟩, hst⟩) ?_
      refine R1 (g' := (50, _, _, _, _, _)) rfl rfl ?_
      refine R1 (g' := (11, _, _, _, _, _)) rfl rfl ?_
      refine R_lv [(4, .int (nI (j + 1))), (3, .int (nI m)), (0, .ref 0), (1, .ref 22), (2, .int (nI k))] rfl (List.forall_mem_cons.mpr ⟨by rw [nI_succ j]; rfl, List.forall_mem_cons.mpr ⟨rfl, List.forall_mem_cons.mpr ⟨rfl, List.forall_mem_cons.mpr ⟨rfl, List.forall_mem_cons.mpr ⟨rfl, fun _ h => absurd h List.not_mem_nil⟩⟩⟩⟩⟩) ⟨rfl, rfl⟩ ?_
      exact ih (j + 1) _ (by omega) hrr (fun i hi => by rw [so.1 125 (Or.inr (by decide))]; exact hw i hi)
theorem e8_followWay22 {s : xs} {Q : Nat → Int32} {k m : Nat} {p : Nat → Nat} (h : pInv Q) (hk : k < qn Q 7) (hm : m ≤ 60) (hp2 : ∀ j, j < m → p j ≤ 2) (hR : ∀ j, j ≤ m → nRg (wSec (qn Q (9 + 4 * k)) (qn Q (10 + 4 * k)) p j).1 = true ∧ nRg (wSec (qn Q (9 + 4 * k)) (qn Q (10 + 4 * k)) p j).2 = true) (hs : bRel s 22 Q) (hw : ∀ i, i < m → s.1 125 i = nI (p i)) (hb : s.1 123 0 = nI m) : ∃ s', sOut 22 9 s s' ∧ bRel s' 22 (fQ Q (qn Q 7) k (qn Q (9 + 4 * k)) (qn Q (10 + 4 * k)) (qn Q 0) p m) ∧ Ev_X8_followWay [.ref 0, .ref 22, .int (nI k)] (wd s) (.inl none) (wd s') := by
  have hr1 : xRun M_X8_followWay (fun o1 w1 => o1 = .inl none ∧ ∃ s', w1 = wd s' ∧ sOut 22 9 s s' ∧ bRel s' 22 (fQ Q (qn Q 7) k (qn Q (9 + 4 * k)) (qn Q (10 + 4 * k)) (qn Q 0) p m)) (0, xarg 0 [.ref 0, .ref 22, .int (nI k)], [], wd s, 0, 0) := by
    refine R1 (g' := (1, _, _, _, _, _)) rfl rfl ?_
    refine R_getf rfl rfl (Nat.le_of_ble_eq_true rfl) rfl rfl ?_
    refine R_getf rfl rfl (Nat.le_of_ble_eq_true rfl) rfl rfl ?_
    rw [hb]
    refine R1 (g' := (8, _, _, _, _, _)) rfl rfl ?_
    refine R1 (g' := (9, _, .int (nI 0) :: _, _, _, _)) rfl rfl ?_
    refine R1 (g' := (11, _, _, _, _, _)) rfl rfl ?_
    exact R_lv [(4, .int (nI 0)), (3, .int (nI m)), (0, .ref 0), (1, .ref 22), (2, .int (nI k))] rfl (List.forall_mem_cons.mpr ⟨rfl, List.forall_mem_cons.mpr ⟨rfl, List.forall_mem_cons.mpr ⟨rfl, List.forall_mem_cons.mpr ⟨rfl, List.forall_mem_cons.mpr ⟨rfl, fun _ h => absurd h List.not_mem_nil⟩⟩⟩⟩⟩) ⟨rfl, rfl⟩ (fw_loop22 h hk hm hp2 hR m 0 s (Nat.zero_add _) hs hw)
  obtain ⟨o1, w1, ⟨rfl, s', rfl, e1, e2⟩, hr2⟩ := xRun_ex hr1
  exact ⟨s', e1, e2, Nat.le_of_ble_eq_true rfl, Nat.le_refl _, rfl, hr2⟩
theorem fg_loop {s : xs} {Q : Nat → Int32} {k m : Nat} {p : Nat → Nat} (h : pInv Q) (hk : k < qn Q 7) (hm : m ≤ 60) (hp2 : ∀ j, j < m → p j ≤ 2) (hR : ∀ j, j ≤ m → nRg (wSec (qn Q (9 + 4 * k)) (qn Q (10 + 4 * k)) p j).1 = true ∧ nRg (wSec (qn Q (9 + 4 * k)) (qn Q (10 + 4 * k)) p j).2 = true) (hw : ∀ i, i < m → s.1 150 i = nI (p i)) : ∀ (d j : Nat) (x y : Int32), j + d = m → xRun M_X9_forges (fun o1 w1 => o1 = .inl none ∧ ∃ x y, w1 = wd (setP (nxtI s x y) 143 (fQ Q (qn Q 7) k (qn Q (9 + 4 * k)) (qn Q (10 + 4 * k)) (qn Q 0) p m))) (2, [(3, .int (nI j)), (0, .ref 142), (1, .int (nI k)), (2, .int (nI m))], [], wd (setP (nxtI s x y) 143 (fQ Q (qn Q 7) k (qn Q (9 + 4 * k)) (qn Q (10 + 4 * k)) (qn Q 0) p j)), 0, 0) := by
  intro d
  induction d with
  | zero =>
    intro j x y hd
    have hj : j = m := by omega
    subst hj
    refine R1 (g' := (3, _, _, _, _, _)) rfl rfl ?_
    refine R1 (g' := (4, _, _, _, _, _)) rfl rfl ?_
    refine R_cgeN 53 (j) (j) rfl rfl (rfl) (rfl) (by omega) (by omega) (fun h4 => ?_) (fun h => by omega)
    refine R_vret rfl ?_
    exact ⟨rfl, x, y, rfl⟩
  | succ d ih =>
    intro j x y hd
    obtain ⟨g1, g2, ⟨g3, g3'⟩, g4, g5, g6, c, g7, g8⟩ := fQ_ok h hk hR j (by omega)
    obtain ⟨r1, r2⟩ := hR j (by omega)
    obtain ⟨r3, r4⟩ := hR (j + 1) (by omega)
    have n8 := h.1.2.2
    have hq2 := hp2 j (by omega)
    have hk8 : k < 8 := by omega
    have hF : (fQ Q (qn Q 7) k (qn Q (9 + 4 * k)) (qn Q (10 + 4 * k)) (qn Q 0) p (j + 1)) = qStrike (if fT (qn Q 0) j < 850 then qHeat (fQ Q (qn Q 7) k (qn Q (9 + 4 * k)) (qn Q (10 + 4 * k)) (qn Q 0) p j) (qn Q 7) else (fQ Q (qn Q 7) k (qn Q (9 + 4 * k)) (qn Q (10 + 4 * k)) (qn Q 0) p j)) k (wSec (qn Q (9 + 4 * k)) (qn Q (10 + 4 * k)) p (j + 1)).1 (wSec (qn Q (9 + 4 * k)) (qn Q (10 + 4 * k)) p (j + 1)).2 (if fT (qn Q 0) j < 850 then 1250 else fT (qn Q 0) j) 1 := rfl
    have h143 : (setP (nxtI s x y) 143 (fQ Q (qn Q 7) k (qn Q (9 + 4 * k)) (qn Q (10 + 4 * k)) (qn Q 0) p j)).1 143 = (fQ Q (qn Q 7) k (qn Q (9 + 4 * k)) (qn Q (10 + 4 * k)) (qn Q 0) p j) := setP_at _ _ _
    have e7 : qn (fQ Q (qn Q 7) k (qn Q (9 + 4 * k)) (qn Q (10 + 4 * k)) (qn Q 0) p j) 7 = qn Q 7 := nq g4 (by omega)
    have b1 := nRg_iff.mp r1
    have b2 := nRg_iff.mp r2
    have hpart : qPart (fQ Q (qn Q 7) k (qn Q (9 + 4 * k)) (qn Q (10 + 4 * k)) (qn Q 0) p j) k := g1.2.2.2.2.1 k (by rw [e7]; exact hk)
    have hHI := i_heat g1
    rw [e7] at hHI
    have hpart2 : qPart (qHeat (fQ Q (qn Q 7) k (qn Q (9 + 4 * k)) (qn Q (10 + 4 * k)) (qn Q 0) p j) (qn Q 7)) k := hHI.2.2.2.2.1 k (by rw [qn_cg qHeat_7, e7]; exact hk)
    have hX : ∀ z : Nat → Int32, (setP (nxtI s x y) 143 z).1 150 j = nI (p j) := fun z => by rw [setP_ne _ _ (by decide), nxtI_ne (by decide)]; exact hw j (by omega)
    by_cases ht8 : fT (qn Q 0) j < 850
    · rw [if_pos ht8, if_pos ht8] at hF
      have hwo := e9_wouldPart (s := setP (nxtI s x y) 143 (qHeat (fQ Q (qn Q 7) k (qn Q (9 + 4 * k)) (qn Q (10 + 4 * k)) (qn Q 0) p j) (qn Q 7))) hk8 (by rw [setP_at]; exact hpart2) hq2
      rw [setP_at, nq (qHeat_W.1.trans g5) (by omega), nq (qHeat_W.2.trans g6) (by omega), nxt_S] at hwo
      have hhe := e9_heats (s := (setP (nxtI s x y) 143 (fQ Q (qn Q 7) k (qn Q (9 + 4 * k)) (qn Q (10 + 4 * k)) (qn Q 0) p j))) (n := qn Q 7) (by rw [h143]; exact g4) n8
      rw [h143, setP_setP] at hhe
      refine R1 (g' := (3, _, _, _, _, _)) rfl rfl ?_
      refine R1 (g' := (4, _, _, _, _, _)) rfl rfl ?_
      refine R_cgeN 53 (j) (m) rfl rfl (rfl) (rfl) (by omega) (by omega) (fun h => by omega) (fun h4 => ?_)
      refine R1 (g' := (8, _, _, _, _, _)) rfl rfl ?_
      refine R_getf rfl rfl (Nat.le_of_ble_eq_true rfl) rfl rfl ?_
      refine R1 (g' := (12, _, .int (nI 0) :: _, _, _, _)) rfl rfl ?_
      refine R_iald 0 rfl (Nat.le_of_ble_eq_true rfl) rfl (by decide) (by decide) rfl ?_
      refine R1 (g' := (16, _, .int (nI 850) :: _, _, _, _)) rfl rfl ?_
      refine R_cgeN 26 (fT (qn Q 0) j) (850) rfl rfl ((by rw [h143]; exact g2)) (rfl) (by omega) (by omega) (fun h => by omega) (fun h16 => ?_)
      refine R1 (g' := (20, _, _, _, _, _)) rfl rfl ?_
      refine R_call1 (Or.inr (Or.inl ⟨rfl, rfl⟩)) rfl rfl ⟨Nat.le_of_ble_eq_true rfl, Nat.le_of_ble_eq_true rfl⟩ (Nat.le_of_ble_eq_true rfl) ⟨rfl, rfl⟩ (⟨⟨_, _, _, rfl, (Nat.le_of_ble_eq_true rfl), rfl⟩, hhe⟩) ?_
      refine R1 (g' := (27, _, _, _, _, _)) rfl rfl ?_
      refine R1 (g' := (29, _, _, _, _, _)) rfl rfl ?_
      refine R1 (g' := (30, _, _, _, _, _)) rfl rfl ?_
      refine R1 (g' := (31, _, _, _, _, _)) rfl rfl ?_
      refine R1 (g' := (32, _, _, _, _, _)) rfl rfl ?_
      refine R_getf rfl rfl (Nat.le_of_ble_eq_true rfl) rfl rfl ?_
      refine R1 (g' := (36, _, _, _, _, _)) rfl rfl ?_
      refine R_iald j rfl (Nat.le_of_ble_eq_true rfl) rfl (by omega) (by decide) rfl ?_
      rw [hX]
      refine R_call3 (Or.inr (Or.inl ⟨rfl, rfl⟩)) rfl rfl ⟨Nat.le_of_ble_eq_true rfl, Nat.le_of_ble_eq_true rfl⟩ (Nat.le_of_ble_eq_true rfl) ⟨rfl, rfl⟩ (⟨⟨_, _, _, rfl, (Nat.le_of_ble_eq_true rfl), rfl⟩, hwo⟩) ?_
      refine R1 (g' := (42, _, _, _, _, _)) rfl rfl ?_
      refine R1 (g' := (43, _, _, _, _, _)) rfl rfl ?_
      refine R1 (g' := (44, _, _, _, _, _)) rfl rfl ?_
      refine R_call2 (Or.inr (Or.inl ⟨rfl, rfl⟩)) rfl rfl ⟨Nat.le_of_ble_eq_true rfl, Nat.le_of_ble_eq_true rfl⟩ (Nat.le_of_ble_eq_true rfl) ⟨rfl, rfl⟩ (⟨⟨_, _, _, rfl, (Nat.le_of_ble_eq_true rfl), rfl⟩, e9_hits (t := 1250) hk8 (a := (wSec (qn Q (9 + 4 * k)) (qn Q (10 + 4 * k)) p (j + 1)).1) (b := (wSec (qn Q (9 + 4 * k)) (qn Q (10 + 4 * k)) p (j + 1)).2) (by rw [setP_ne _ _ (by decide)]; simp [nxtI, put_val, wSec]) (by rw [setP_ne _ _ (by decide)]; simp [nxtI, put_val, wSec]) (by rw [setP_at]; exact qHeat_0) (by decide) (by decide)⟩) ?_
      refine R1 (g' := (50, _, _, _, _, _)) rfl rfl ?_
      refine R1 (g' := (2, _, _, _, _, _)) rfl rfl ?_
      rw [setP_setP, setP_at, ← hF]
      refine R_lv [(3, .int (nI (j + 1))), (0, .ref 142), (1, .int (nI k)), (2, .int (nI m))] rfl (List.forall_mem_cons.mpr ⟨by rw [nI_succ j]; rfl, List.forall_mem_cons.mpr ⟨rfl, List.forall_mem_cons.mpr ⟨rfl, List.forall_mem_cons.mpr ⟨rfl, fun _ h => absurd h List.not_mem_nil⟩⟩⟩⟩) ⟨rfl, rfl⟩ ?_
      exact ih (j + 1) _ _ (by omega)
    · rw [if_neg ht8, if_neg ht8] at hF
      have hwo := e9_wouldPart (s := (setP (nxtI s x y) 143 (fQ Q (qn Q 7) k (qn Q (9 + 4 * k)) (qn Q (10 + 4 * k)) (qn Q 0) p j))) hk8 (by rw [h143]; exact hpart) hq2
      rw [h143, nq g5 (by omega), nq g6 (by omega), nxt_S] at hwo
      refine R1 (g' := (3, _, _, _, _, _)) rfl rfl ?_
      refine R1 (g' := (4, _, _, _, _, _)) rfl rfl ?_
      refine R_cgeN 53 (j) (m) rfl rfl (rfl) (rfl) (by omega) (by omega) (fun h => by omega) (fun h4 => ?_)
      refine R1 (g' := (8, _, _, _, _, _)) rfl rfl ?_
      refine R_getf rfl rfl (Nat.le_of_ble_eq_true rfl) rfl rfl ?_
      refine R1 (g' := (12, _, .int (nI 0) :: _, _, _, _)) rfl rfl ?_
      refine R_iald 0 rfl (Nat.le_of_ble_eq_true rfl) rfl (by decide) (by decide) rfl ?_
      refine R1 (g' := (16, _, .int (nI 850) :: _, _, _, _)) rfl rfl ?_
      refine R_cgeN 26 (fT (qn Q 0) j) (850) rfl rfl ((by rw [h143]; exact g2)) (rfl) (by omega) (by omega) (fun h16 => ?_) (fun h => by omega)
      refine R1 (g' := (27, _, .int (nI 0) :: _, _, _, _)) rfl rfl ?_
      refine R1 (g' := (29, _, _, _, _, _)) rfl rfl ?_
      refine R1 (g' := (30, _, _, _, _, _)) rfl rfl ?_
      refine R1 (g' := (31, _, _, _, _, _)) rfl rfl ?_
      refine R1 (g' := (32, _, _, _, _, _)) rfl rfl ?_
      refine R_getf rfl rfl (Nat.le_of_ble_eq_true rfl) rfl rfl ?_
      refine R1 (g' := (36, _, _, _, _, _)) rfl rfl ?_
      refine R_iald j rfl (Nat.le_of_ble_eq_true rfl) rfl (by omega) (by decide) rfl ?_
      rw [hX]
      refine R_call3 (Or.inr (Or.inl ⟨rfl, rfl⟩)) rfl rfl ⟨Nat.le_of_ble_eq_true rfl, Nat.le_of_ble_eq_true rfl⟩ (Nat.le_of_ble_eq_true rfl) ⟨rfl, rfl⟩ (⟨⟨_, _, _, rfl, (Nat.le_of_ble_eq_true rfl), rfl⟩, hwo⟩) ?_
      refine R1 (g' := (42, _, _, _, _, _)) rfl rfl ?_
      refine R1 (g' := (43, _, _, _, _, _)) rfl rfl ?_
      refine R1 (g' := (44, _, _, _, _, _)) rfl rfl ?_
      refine R_call2 (Or.inr (Or.inl ⟨rfl, rfl⟩)) rfl rfl ⟨Nat.le_of_ble_eq_true rfl, Nat.le_of_ble_eq_true rfl⟩ (Nat.le_of_ble_eq_true rfl) ⟨rfl, rfl⟩ (⟨⟨_, _, _, rfl, (Nat.le_of_ble_eq_true rfl), rfl⟩, e9_hits (t := fT (qn Q 0) j) hk8 (a := (wSec (qn Q (9 + 4 * k)) (qn Q (10 + 4 * k)) p (j + 1)).1) (b := (wSec (qn Q (9 + 4 * k)) (qn Q (10 + 4 * k)) p (j + 1)).2) (by rw [setP_ne _ _ (by decide)]; simp [nxtI, put_val, wSec]) (by rw [setP_ne _ _ (by decide)]; simp [nxtI, put_val, wSec]) (by rw [setP_at]; exact g2) (by omega) (by omega)⟩) ?_
      refine R1 (g' := (50, _, _, _, _, _)) rfl rfl ?_
      refine R1 (g' := (2, _, _, _, _, _)) rfl rfl ?_
      rw [setP_setP, setP_at, ← hF]
      refine R_lv [(3, .int (nI (j + 1))), (0, .ref 142), (1, .int (nI k)), (2, .int (nI m))] rfl (List.forall_mem_cons.mpr ⟨by rw [nI_succ j]; rfl, List.forall_mem_cons.mpr ⟨rfl, List.forall_mem_cons.mpr ⟨rfl, List.forall_mem_cons.mpr ⟨rfl, fun _ h => absurd h List.not_mem_nil⟩⟩⟩⟩) ⟨rfl, rfl⟩ ?_
      exact ih (j + 1) _ _ (by omega)
theorem e9_forges {s : xs} {Q : Nat → Int32} {k m : Nat} {p : Nat → Nat} (h : pInv Q) (hQ : s.1 143 = Q) (hk : k < qn Q 7) (hm : m ≤ 60) (hp2 : ∀ j, j < m → p j ≤ 2) (hR : ∀ j, j ≤ m → nRg (wSec (qn Q (9 + 4 * k)) (qn Q (10 + 4 * k)) p j).1 = true ∧ nRg (wSec (qn Q (9 + 4 * k)) (qn Q (10 + 4 * k)) p j).2 = true) (hw : ∀ i, i < m → s.1 150 i = nI (p i)) : ∃ x y, Ev_X9_forges [.ref 142, .int (nI k), .int (nI m)] (wd s) (.inl none) (wd (setP (nxtI s x y) 143 (fQ Q (qn Q 7) k (qn Q (9 + 4 * k)) (qn Q (10 + 4 * k)) (qn Q 0) p m))) := by
  have hr := fg_loop (s := s) h hk hm hp2 hR hw m 0 (s.1 142 7) (s.1 142 8) (Nat.zero_add _)
  rw [nxtI_self, show (fQ Q (qn Q 7) k (qn Q (9 + 4 * k)) (qn Q (10 + 4 * k)) (qn Q 0) p 0) = Q from rfl, show setP s 143 Q = s from by rw [← hQ, setP_self]] at hr
  have hr1 : xRun M_X9_forges (fun o1 w1 => o1 = .inl none ∧ ∃ x y, w1 = wd (setP (nxtI s x y) 143 (fQ Q (qn Q 7) k (qn Q (9 + 4 * k)) (qn Q (10 + 4 * k)) (qn Q 0) p m))) (0, xarg 0 [.ref 142, .int (nI k), .int (nI m)], [], wd s, 0, 0) := by
    refine R1 (g' := (1, _, .int (nI 0) :: _, _, _, _)) rfl rfl ?_
    refine R1 (g' := (2, _, _, _, _, _)) rfl rfl ?_
    exact R_lv [(3, .int (nI 0)), (0, .ref 142), (1, .int (nI k)), (2, .int (nI m))] rfl (List.forall_mem_cons.mpr ⟨rfl, List.forall_mem_cons.mpr ⟨rfl, List.forall_mem_cons.mpr ⟨rfl, List.forall_mem_cons.mpr ⟨rfl, fun _ h => absurd h List.not_mem_nil⟩⟩⟩⟩) ⟨rfl, rfl⟩ hr
  obtain ⟨o1, w1, ⟨rfl, x, y, rfl⟩, hr2⟩ := xRun_ex hr1
  exact ⟨x, y, Nat.le_of_ble_eq_true rfl, Nat.le_refl _, rfl, hr2⟩
theorem e9_forgesN {s : xs} {k : Nat} : Ev_X9_forges [.ref 142, .int (nI k), .int (-1)] (wd s) (.inl none) (wd s) := by
  refine ⟨Nat.le_of_ble_eq_true rfl, Nat.le_refl _, rfl, ?_⟩
  refine R1 (g' := (1, _, .int (nI 0) :: _, _, _, _)) rfl rfl ?_
  refine R1 (g' := (2, _, _, _, _, _)) rfl rfl ?_
  refine R1 (g' := (3, _, _, _, _, _)) rfl rfl ?_
  refine R1 (g' := (4, _, _, _, _, _)) rfl rfl ?_
  refine R_cge 53 rfl rfl (fun h4 => ?_) (fun h => by exact absurd (by decide) h)
  refine R_vret rfl ?_
  exact ⟨rfl, rfl⟩
