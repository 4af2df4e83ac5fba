theorem nxt_S {s : xs} {x y : Int32} {a b : Nat} {P : Nat → Int32} : nxt (setP (nxtI s x y) 143 P) a b = setP (nxtI s (nI a) (nI b)) 143 P := by
  have hc : ∀ (s : xs) k v, put (setP s 143 P) 142 k v = setP (put s 142 k v) 143 P := by
    intro s k v
    unfold put
    rw [setP_ne _ _ (by decide)]
    unfold setP
    congr 1
    funext j
    show va_up (va_up s.1 143 P) 142 (upd (s.1 142) k v) j = va_up (va_up s.1 142 (upd (s.1 142) k v)) 143 P j
    by_cases h : j = 142
    · subst h
      rw [va_up_self, va_up_ne _ _ (by decide), va_up_self]
    · by_cases h2 : j = 143
      · subst h2
        rw [va_up_ne _ _ (by decide), va_up_self, va_up_self]
      · rw [va_up_ne _ _ h, va_up_ne _ _ h2, va_up_ne _ _ h2, va_up_ne _ _ h]
  rw [show nxt (setP (nxtI s x y) 143 P) a b = setP (nxt (nxtI s x y) a b) 143 P from by unfold nxt; rw [hc, hc], nxt_nxtI]
theorem qStrike_0 {Q : Nat → Int32} {k a b t : Nat} (h1 : Q (9 + 4 * k) = nI a) (h2 : Q (10 + 4 * k) = nI b) (h0 : Q 0 = nI t) : qStrike Q k a b t 0 = Q := by
  funext i
  simp only [qStrike]
  by_cases e1 : i = 9 + 4 * k
  · subst e1; rw [if_pos rfl, h1]
  · by_cases e2 : i = 10 + 4 * k
    · subst e2; rw [if_neg e1, if_pos rfl, h2]
    · rw [if_neg e1, if_neg e2]
      by_cases e3 : i = 12 + 4 * k
      · rw [if_pos e3]; exact Int32.add_zero _
      · by_cases e4 : i = 3
        · rw [if_neg e3, if_pos e4]; exact Int32.add_zero _
        · by_cases e5 : i = 0
          · subst e5; rw [if_neg e3, if_neg e4, if_pos rfl, h0]; rfl
          · rw [if_neg e3, if_neg e4, if_neg e5]
theorem qStrike_s {Q : Nat → Int32} {k a b a2 b2 t j : Nat} (ht : 12 * (j + 1) ≤ t) : qStrike (qStrike Q k a b t j) k a2 b2 (t - 12 * j) 1 = qStrike Q k a2 b2 t (j + 1) := by
  funext i
  simp only [qStrike]
  by_cases e1 : i = 9 + 4 * k
  · rw [if_pos e1, if_pos e1]
  · by_cases e2 : i = 10 + 4 * k
    · rw [if_neg e1, if_pos e2, if_neg e1, if_pos e2]
    · rw [if_neg e1, if_neg e2, if_neg e1, if_neg e2, if_neg e1, if_neg e2]
      by_cases e3 : i = 12 + 4 * k
      · rw [if_pos e3, if_pos e3, if_pos e3, Int32.add_assoc, nI_add]
      · rw [if_neg e3, if_neg e3, if_neg e3]
        by_cases e4 : i = 3
        · rw [if_pos e4, if_pos e4, if_pos e4, Int32.add_assoc, nI_add]
        · rw [if_neg e4, if_neg e4, if_neg e4]
          by_cases e5 : i = 0
          · rw [if_pos e5, if_pos e5, show t - 12 * j - 12 * 1 = t - 12 * (j + 1) by omega]
          · rw [if_neg e5, if_neg e5, if_neg e5]
theorem qStrike_W {Q : Nat → Int32} {k a b t c : Nat} : qStrike Q k a b t c (9 + 4 * k) = nI a := if_pos rfl
theorem qStrike_H {Q : Nat → Int32} {k a b t c : Nat} : qStrike Q k a b t c (10 + 4 * k) = nI b := (if_neg (by omega)).trans (if_pos rfl)
theorem qStrike_V {Q : Nat → Int32} {k a b t c i : Nat} (h : 11 ≤ i) (h2 : i % 4 = 3) : qStrike Q k a b t c i = Q i := by
  simp only [qStrike]
  (repeat (first | rw [if_pos (by omega)] | rw [if_neg (by omega)]))
theorem qStrike_P {Q : Nat → Int32} {k a b t c j : Nat} (h : j ≠ k) : qStrike Q k a b t c (9 + 4 * j) = Q (9 + 4 * j) ∧ qStrike Q k a b t c (10 + 4 * j) = Q (10 + 4 * j) := by
  simp only [qStrike]
  (repeat (first | rw [if_pos (by omega)] | rw [if_neg (by omega)]))
  exact ⟨rfl, rfl⟩
theorem qStrike_t {Q : Nat → Int32} {k a b t c : Nat} : qStrike Q k a b t c 0 = nI (t - 12 * c) := by
  simp only [qStrike]
  (repeat (first | rw [if_pos (by omega)] | rw [if_neg (by omega)]))
  exact if_pos trivial
theorem qStrike_o {Q : Nat → Int32} {k a b t c i : Nat} (h0 : i ≠ 0) (h3 : i ≠ 3) (h : i < 9 ∨ 40 < i) (hk : k < 8) : qStrike Q k a b t c i = Q i := by
  simp only [qStrike]
  (repeat (first | rw [if_pos (by omega)] | rw [if_neg (by omega)]))
theorem qStrike_part {Q : Nat → Int32} {k a b t c j : Nat} (hk : k < 8) (h : qPart Q j) (ha : j = k → nRg a = true) (hb : j = k → nRg b = true) : qPart (qStrike Q k a b t c) j := by
  obtain ⟨p1, p2, p3, p4, p5, p6, p7⟩ := id h
  by_cases e : j = k
  · subst e
    exact qPart_of qStrike_W qStrike_H ((qStrike_V (by omega) (by omega)).trans p3) (ha rfl) (hb rfl) p6 p7
  · exact qPart_cg (qStrike_P e).1 (qStrike_P e).2 (qStrike_V (by omega) (by omega)) h
theorem nLast_lt {a b q v : Nat} : ∀ {c : Nat}, nLast a b q v c = c → ∀ j, j < c → nLast a b q v j = j ∧ nCan (nIt a b q j).1 (nIt a b q j).2 q v = true
  | 0, _, j, hj => absurd hj (Nat.not_lt_zero _)
  | c + 1, h, j, hj => by
    have hl := nLast_le (a := a) (b := b) (k := q) (v := v) c
    rw [nLast] at h
    cases e : (Nat.beq (nLast a b q v c) c && nCan (nIt a b q c).1 (nIt a b q c).2 q v) with
    | false =>
      rw [e, cond_false] at h
      omega
    | true =>
      rw [Bool.and_eq_true] at e
      have h1 : nLast a b q v c = c := Nat.eq_of_beq_eq_true e.1
      rcases Nat.lt_or_ge j c with h2 | h2
      · exact nLast_lt h1 j h2
      · have : j = c := by omega
        subst this
        exact ⟨h1, e.2⟩
theorem nLast_rg {a b q v c : Nat} (h : nLast a b q v c = c) (ha : nRg a = true) (hb : nRg b = true) : ∀ j, j ≤ c → nRg (nIt a b q j).1 = true ∧ nRg (nIt a b q j).2 = true
  | 0, _ => ⟨ha, hb⟩
  | j + 1, hj => nCan_rg (nLast_lt h j hj).2
theorem strikes_loop {s : xs} {k a b q c t : Nat} (hk : k < 8) (h : qPart (s.1 143) k) (hq : q ≤ 2) (hc : c < 2 ^ 20) (ht : 20 + 12 * c ≤ t) (ht2 : t < 2 ^ 20) (hR : ∀ j, j ≤ c → nRg (nIt a b q j).1 = true ∧ nRg (nIt a b q j).2 = true) : ∀ (d j : Nat) (x y : Int32) (lv5 : List (Nat × Value)), (lv5 = [] ∨ ∃ z, lv5 = [(5, .int z)]) → j + d = c → xRun M_X9_strikes (fun o1 w1 => o1 = .inl (some (.int (nI (qLen (qStrike (s.1 143) k (nIt a b q c).1 (nIt a b q c).2 t c) k)))) ∧ ∃ x y, w1 = wd (setP (nxtI s x y) 143 (qStrike (s.1 143) k (nIt a b q c).1 (nIt a b q c).2 t c))) (3, (4, .int (nI j)) :: (0, .ref 142) :: (1, .int (nI k)) :: (2, .int (nI q)) :: (3, .int (nI c)) :: lv5, [], wd (setP (nxtI s x y) 143 (qStrike (s.1 143) k (nIt a b q j).1 (nIt a b q j).2 t j)), 0, 0) := by
  intro d
  induction d with
  | zero =>
    intro j x y lv5 h5 hj
    have hj : j = c := by omega
    subst hj
    have hp : qPart ((setP (nxtI s x y) 143 (qStrike (s.1 143) k (nIt a b q j).1 (nIt a b q j).2 t j)).1 143) k := by
      rw [setP_at]
      exact qStrike_part hk h (fun _ => (hR j (Nat.le_refl _)).1) (fun _ => (hR j (Nat.le_refl _)).2)
    rcases h5 with rfl | ⟨z, rfl⟩
    · refine R1 (g' := (5, _, _, _, _, _)) rfl rfl ?_
      refine R1 (g' := (6, _, _, _, _, _)) rfl rfl ?_
      refine R_cgeN 28 (j) (j) rfl rfl (rfl) (rfl) (by omega) (by omega) (fun h6 => ?_) (fun h => by omega)
      refine R1 (g' := (29, _, _, _, _, _)) rfl rfl ?_
      refine R1 (g' := (30, _, _, _, _, _)) rfl rfl ?_
      refine R_call2 (Or.inr (Or.inl ⟨rfl, rfl⟩)) rfl rfl ⟨Nat.le_of_ble_eq_true rfl, Nat.le_of_ble_eq_true rfl⟩ (Nat.le_of_ble_eq_true rfl) ⟨rfl, rfl⟩ (⟨⟨_, _, _, rfl, (Nat.le_of_ble_eq_true rfl), rfl⟩, e9_lengthOf hk hp⟩) ?_
      refine R_iret rfl ?_
      exact ⟨o_i (by rw [setP_at]), x, y, rfl⟩
    · refine R1 (g' := (5, _, _, _, _, _)) rfl rfl ?_
      refine R1 (g' := (6, _, _, _, _, _)) rfl rfl ?_
      refine R_cgeN 28 (j) (j) rfl rfl (rfl) (rfl) (by omega) (by omega) (fun h6 => ?_) (fun h => by omega)
      refine R1 (g' := (29, _, _, _, _, _)) rfl rfl ?_
      refine R1 (g' := (30, _, _, _, _, _)) rfl rfl ?_
      refine R_call2 (Or.inr (Or.inl ⟨rfl, rfl⟩)) rfl rfl ⟨Nat.le_of_ble_eq_true rfl, Nat.le_of_ble_eq_true rfl⟩ (Nat.le_of_ble_eq_true rfl) ⟨rfl, rfl⟩ (⟨⟨_, _, _, rfl, (Nat.le_of_ble_eq_true rfl), rfl⟩, e9_lengthOf hk hp⟩) ?_
      refine R_iret rfl ?_
      exact ⟨o_i (by rw [setP_at]), x, y, rfl⟩
  | succ d ih =>
    intro j x y lv5 h5 hj
    have hp : qPart ((setP (nxtI s x y) 143 (qStrike (s.1 143) k (nIt a b q j).1 (nIt a b q j).2 t j)).1 143) k := by
      rw [setP_at]
      exact qStrike_part hk h (fun _ => (hR j (by omega)).1) (fun _ => (hR j (by omega)).2)
    have e1 : qn ((setP (nxtI s x y) 143 (qStrike (s.1 143) k (nIt a b q j).1 (nIt a b q j).2 t j)).1 143) (9 + 4 * k) = (nIt a b q j).1 := by
      rw [setP_at]
      exact nq qStrike_W (by have := nRg_iff.mp (hR j (by omega)).1; omega)
    have e2 : qn ((setP (nxtI s x y) 143 (qStrike (s.1 143) k (nIt a b q j).1 (nIt a b q j).2 t j)).1 143) (10 + 4 * k) = (nIt a b q j).2 := by
      rw [setP_at]
      exact nq qStrike_H (by have := nRg_iff.mp (hR j (by omega)).2; omega)
    have hw := e9_wouldPart hk hp hq
    rw [e1, e2, nxt_S] at hw
    rcases h5 with rfl | ⟨z, rfl⟩
    · refine R1 (g' := (5, _, _, _, _, _)) rfl rfl ?_
      refine R1 (g' := (6, _, _, _, _, _)) rfl rfl ?_
      refine R_cgeN 28 (j) (c) rfl rfl (rfl) (rfl) (by omega) (by omega) (fun h => by omega) (fun h6 => ?_)
      refine R1 (g' := (10, _, _, _, _, _)) rfl rfl ?_
      refine R1 (g' := (11, _, _, _, _, _)) rfl rfl ?_
      refine R1 (g' := (12, _, _, _, _, _)) rfl rfl ?_
      refine R_call3 (Or.inr (Or.inl ⟨rfl, rfl⟩)) rfl rfl ⟨Nat.le_of_ble_eq_true rfl, Nat.le_of_ble_eq_true rfl⟩ (Nat.le_of_ble_eq_true rfl) ⟨rfl, rfl⟩ (⟨⟨_, _, _, rfl, (Nat.le_of_ble_eq_true rfl), rfl⟩, hw⟩) ?_
      refine R1 (g' := (17, _, _, _, _, _)) rfl rfl ?_
      refine R1 (g' := (18, _, _, _, _, _)) rfl rfl ?_
      refine R1 (g' := (19, _, _, _, _, _)) rfl rfl ?_
      refine R_call2 (Or.inr (Or.inl ⟨rfl, rfl⟩)) rfl rfl ⟨Nat.le_of_ble_eq_true rfl, Nat.le_of_ble_eq_true rfl⟩ (Nat.le_of_ble_eq_true rfl) ⟨rfl, rfl⟩ (⟨⟨_, _, _, rfl, (Nat.le_of_ble_eq_true rfl), rfl⟩, e9_hits (t := t - 12 * j) hk (by rw [setP_ne _ _ (by decide)]; simp [nxtI, put_val]; rfl) (by rw [setP_ne _ _ (by decide)]; simp [nxtI, put_val]; rfl) (by rw [setP_at]; exact qStrike_t) (by omega) (by omega)⟩) ?_
      simp only [setP_at, setP_setP]
      rw [qStrike_s (by omega)]
      refine R1 (g' := (25, _, _, _, _, _)) rfl rfl ?_
      refine R1 (g' := (3, _, _, _, _, _)) rfl rfl ?_
      refine R_lv [(4, .int (nI (j + 1))), (0, .ref 142), (1, .int (nI k)), (2, .int (nI q)), (3, .int (nI c)), (5, _)] rfl (List.forall_mem_cons.mpr ⟨by rw [nI_succ j]; rfl, List.forall_mem_cons.mpr ⟨rfl, List.forall_mem_cons.mpr ⟨rfl, List.forall_mem_cons.mpr ⟨rfl, List.forall_mem_cons.mpr ⟨rfl, List.forall_mem_cons.mpr ⟨rfl, fun _ h => absurd h List.not_mem_nil⟩⟩⟩⟩⟩⟩) ⟨rfl, rfl⟩ ?_
      exact ih (j + 1) _ _ [(5, .int _)] (Or.inr ⟨_, rfl⟩) (by omega)
    · refine R1 (g' := (5, _, _, _, _, _)) rfl rfl ?_
      refine R1 (g' := (6, _, _, _, _, _)) rfl rfl ?_
      refine R_cgeN 28 (j) (c) rfl rfl (rfl) (rfl) (by omega) (by omega) (fun h => by omega) (fun h6 => ?_)
      refine R1 (g' := (10, _, _, _, _, _)) rfl rfl ?_
      refine R1 (g' := (11, _, _, _, _, _)) rfl rfl ?_
      refine R1 (g' := (12, _, _, _, _, _)) rfl rfl ?_
      refine R_call3 (Or.inr (Or.inl ⟨rfl, rfl⟩)) rfl rfl ⟨Nat.le_of_ble_eq_true rfl, Nat.le_of_ble_eq_true rfl⟩ (Nat.le_of_ble_eq_true rfl) ⟨rfl, rfl⟩ (⟨⟨_, _, _, rfl, (Nat.le_of_ble_eq_true rfl), rfl⟩, hw⟩) ?_
      refine R1 (g' := (17, _, _, _, _, _)) rfl rfl ?_
      refine R1 (g' := (18, _, _, _, _, _)) rfl rfl ?_
      refine R1 (g' := (19, _, _, _, _, _)) rfl rfl ?_
      refine R_call2 (Or.inr (Or.inl ⟨rfl, rfl⟩)) rfl rfl ⟨Nat.le_of_ble_eq_true rfl, Nat.le_of_ble_eq_true rfl⟩ (Nat.le_of_ble_eq_true rfl) ⟨rfl, rfl⟩ (⟨⟨_, _, _, rfl, (Nat.le_of_ble_eq_true rfl), rfl⟩, e9_hits (t := t - 12 * j) hk (by rw [setP_ne _ _ (by decide)]; simp [nxtI, put_val]; rfl) (by rw [setP_ne _ _ (by decide)]; simp [nxtI, put_val]; rfl) (by rw [setP_at]; exact qStrike_t) (by omega) (by omega)⟩) ?_
      simp only [setP_at, setP_setP]
      rw [qStrike_s (by omega)]
      refine R1 (g' := (25, _, _, _, _, _)) rfl rfl ?_
      refine R1 (g' := (3, _, _, _, _, _)) rfl rfl ?_
      refine R_lv [(4, .int (nI (j + 1))), (0, .ref 142), (1, .int (nI k)), (2, .int (nI q)), (3, .int (nI c)), (5, _)] rfl (List.forall_mem_cons.mpr ⟨by rw [nI_succ j]; rfl, List.forall_mem_cons.mpr ⟨rfl, List.forall_mem_cons.mpr ⟨rfl, List.forall_mem_cons.mpr ⟨rfl, List.forall_mem_cons.mpr ⟨rfl, List.forall_mem_cons.mpr ⟨rfl, fun _ h => absurd h List.not_mem_nil⟩⟩⟩⟩⟩⟩) ⟨rfl, rfl⟩ ?_
      exact ih (j + 1) _ _ [(5, .int _)] (Or.inr ⟨_, rfl⟩) (by omega)
theorem e9_strikes {s : xs} {k q c t : Nat} (hk : k < 8) (h : qPart (s.1 143) k) (hq : q ≤ 2) (hc : c < 2 ^ 20) (h0 : s.1 143 0 = nI t) (ht : 20 + 12 * c ≤ t) (ht2 : t < 2 ^ 20) (hR : ∀ j, j ≤ c → nRg (nIt (qn (s.1 143) (9 + 4 * k)) (qn (s.1 143) (10 + 4 * k)) q j).1 = true ∧ nRg (nIt (qn (s.1 143) (9 + 4 * k)) (qn (s.1 143) (10 + 4 * k)) q j).2 = true) : ∃ x y, Ev_X9_strikes [.ref 142, .int (nI k), .int (nI q), .int (nI c)] (wd s) (.inl (some (.int (nI (qLen (qStrike (s.1 143) k (nIt (qn (s.1 143) (9 + 4 * k)) (qn (s.1 143) (10 + 4 * k)) q c).1 (nIt (qn (s.1 143) (9 + 4 * k)) (qn (s.1 143) (10 + 4 * k)) q c).2 t c) k))))) (wd (setP (nxtI s x y) 143 (qStrike (s.1 143) k (nIt (qn (s.1 143) (9 + 4 * k)) (qn (s.1 143) (10 + 4 * k)) q c).1 (nIt (qn (s.1 143) (9 + 4 * k)) (qn (s.1 143) (10 + 4 * k)) q c).2 t c))) := by
  obtain ⟨p1, p2, p3, p4, p5, p6, p7⟩ := id h
  have hr := strikes_loop hk h hq hc ht ht2 hR c 0 (s.1 142 7) (s.1 142 8) [] (Or.inl rfl) (Nat.zero_add _)
  rw [show (nIt (qn (s.1 143) (9 + 4 * k)) (qn (s.1 143) (10 + 4 * k)) q 0).1 = qn (s.1 143) (9 + 4 * k) from rfl, show (nIt (qn (s.1 143) (9 + 4 * k)) (qn (s.1 143) (10 + 4 * k)) q 0).2 = qn (s.1 143) (10 + 4 * k) from rfl, qStrike_0 p1 p2 h0, nxtI_self, setP_self] at hr
  have hr1 : xRun M_X9_strikes (fun o1 w1 => o1 = .inl (some (.int (nI (qLen (qStrike (s.1 143) k (nIt (qn (s.1 143) (9 + 4 * k)) (qn (s.1 143) (10 + 4 * k)) q c).1 (nIt (qn (s.1 143) (9 + 4 * k)) (qn (s.1 143) (10 + 4 * k)) q c).2 t c) k)))) ∧ ∃ x y, w1 = wd (setP (nxtI s x y) 143 (qStrike (s.1 143) k (nIt (qn (s.1 143) (9 + 4 * k)) (qn (s.1 143) (10 + 4 * k)) q c).1 (nIt (qn (s.1 143) (9 + 4 * k)) (qn (s.1 143) (10 + 4 * k)) q c).2 t c))) (0, xarg 0 [.ref 142, .int (nI k), .int (nI q), .int (nI c)], [], wd s, 0, 0) := by
    refine R1 (g' := (1, _, .int (nI 0) :: _, _, _, _)) rfl rfl ?_
    refine R1 (g' := (3, _, _, _, _, _)) rfl rfl ?_
    exact R_lv [(4, .int (nI 0)), (0, .ref 142), (1, .int (nI k)), (2, .int (nI q)), (3, .int (nI c))] rfl (List.forall_mem_cons.mpr ⟨rfl, List.forall_mem_cons.mpr ⟨rfl, List.forall_mem_cons.mpr ⟨rfl, List.forall_mem_cons.mpr ⟨rfl, List.forall_mem_cons.mpr ⟨rfl, fun _ h => absurd h List.not_mem_nil⟩⟩⟩⟩⟩) ⟨rfl, rfl⟩ hr
  obtain ⟨o1, w1, ⟨rfl, x, y, rfl⟩, hr2⟩ := xRun_ex hr1
  exact ⟨x, y, Nat.le_of_ble_eq_true rfl, Nat.le_refl _, Or.inl rfl, hr2⟩
theorem qHot_lo {Q : Nat → Int32} {n i : Nat} (h : i < 11) : qHot Q n i = Q i := if_neg (by omega)
theorem qHot_0 {Q : Nat → Int32} : qHot Q 0 = Q := funext fun i => if_neg (by omega)
theorem qHot_k {Q : Nat → Int32} {k : Nat} : qHot Q k (11 + 4 * k) = Q (11 + 4 * k) := if_neg (by omega)
theorem qHot_s {Q : Nat → Int32} {k : Nat} : upd (qHot Q k) (11 + 4 * k) (Q (11 + 4 * k) - qLoss Q k) = qHot Q (k + 1) := by
  funext i
  simp only [upd, qHot, qLoss]
  by_cases e : i = 11 + 4 * k
  · subst e
    rw [if_pos rfl, if_pos (by omega)]
  · rw [if_neg e]
    by_cases e2 : 11 ≤ i ∧ i < 9 + 4 * k ∧ i % 4 = 3
    · rw [if_pos e2, if_pos (by omega)]
    · rw [if_neg e2, if_neg (by omega)]
theorem heats_loop {s : xs} {n : Nat} (hn : s.1 143 7 = nI n) (hn8 : n ≤ 8) : ∀ (d k : Nat) (lv3 : List (Nat × Value)), (lv3 = [] ∨ ∃ z, lv3 = [(3, .int z)]) → k + d = n → xRun M_X9_heats (fun o1 w1 => o1 = .inl (some (.int (csum (qLoss (s.1 143)) n))) ∧ w1 = wd (setP s 143 (qHeat (s.1 143) n))) (4, (2, .int (nI k)) :: (1, .int (csum (qLoss (s.1 143)) k)) :: (0, .ref 142) :: lv3, [], wd (setP s 143 (qHot (s.1 143) k)), 0, 0) := by
  intro d
  induction d with
  | zero =>
    intro k lv3 h3 hk
    have hk : k = n := by omega
    subst hk
    have h7 : (setP s 143 (qHot (s.1 143) k)).1 143 7 = nI k := by rw [setP_at, qHot_lo (by decide)]; exact hn
    rcases h3 with rfl | ⟨z, rfl⟩
    · refine R1 (g' := (5, _, _, _, _, _)) rfl rfl ?_
      refine R1 (g' := (6, _, _, _, _, _)) rfl rfl ?_
      refine R_getf rfl rfl (Nat.le_of_ble_eq_true rfl) rfl rfl ?_
      refine R1 (g' := (11, _, .int (nI 7) :: _, _, _, _)) rfl rfl ?_
      refine R_iald 7 rfl (Nat.le_of_ble_eq_true rfl) rfl (by decide) (by decide) rfl ?_
      rw [h7]
      refine R_cgeN 57 (k) (k) rfl rfl (rfl) (rfl) (by omega) (by omega) (fun h12 => ?_) (fun h => by omega)
      refine R1 (g' := (58, _, _, _, _, _)) rfl rfl ?_
      refine R_getf rfl rfl (Nat.le_of_ble_eq_true rfl) rfl rfl ?_
      refine R1 (g' := (62, _, .int (nI 0) :: _, _, _, _)) rfl rfl ?_
      refine R1 (g' := (65, _, .int (nI 1250) :: _, _, _, _)) rfl rfl ?_
      refine R_iast 0 rfl (Nat.le_of_ble_eq_true rfl) (fun _ => rfl) (by decide) (by decide) rfl ?_
      refine R1 (g' := (67, _, _, _, _, _)) rfl rfl ?_
      refine R_getf rfl rfl (Nat.le_of_ble_eq_true rfl) rfl rfl ?_
      refine R1 (g' := (71, _, .int (nI 2) :: _, _, _, _)) rfl rfl ?_
      refine R1 (g' := (72, _, _, _, _, _)) rfl rfl ?_
      refine R_iald 2 rfl (Nat.le_of_ble_eq_true rfl) rfl (by decide) (by decide) rfl ?_
      refine R1 (g' := (74, _, .int (nI 1) :: _, _, _, _)) rfl rfl ?_
      refine R1 (g' := (75, _, _, _, _, _)) rfl rfl ?_
      refine R_iast 2 rfl (Nat.le_of_ble_eq_true rfl) (fun _ => rfl) (by decide) (by decide) rfl ?_
      refine R1 (g' := (77, _, _, _, _, _)) rfl rfl ?_
      refine R_getf rfl rfl (Nat.le_of_ble_eq_true rfl) rfl rfl ?_
      refine R1 (g' := (81, _, .int (nI 4) :: _, _, _, _)) rfl rfl ?_
      refine R1 (g' := (82, _, _, _, _, _)) rfl rfl ?_
      refine R_iald 4 rfl (Nat.le_of_ble_eq_true rfl) rfl (by decide) (by decide) rfl ?_
      refine R1 (g' := (84, _, _, _, _, _)) rfl rfl ?_
      refine R1 (g' := (85, _, _, _, _, _)) rfl rfl ?_
      refine R_iast 4 rfl (Nat.le_of_ble_eq_true rfl) (fun _ => rfl) (by decide) (by decide) rfl ?_
      refine R1 (g' := (87, _, _, _, _, _)) rfl rfl ?_
      refine R_iret rfl ?_
      refine ⟨rfl, congrArg wd ?_⟩
      simp only [setP_setP, setP_at]
      congr 1
      funext i
      simp only [upd, qHeat]
      by_cases e0 : i = 0
      · subst e0
        rfl
      · by_cases e2 : i = 2
        · subst e2
          rfl
        · by_cases e4 : i = 4
          · subst e4
            rfl
          · rw [if_neg e4, if_neg e2, if_neg e0, if_neg e0, if_neg e2, if_neg e4]
    · refine R1 (g' := (5, _, _, _, _, _)) rfl rfl ?_
      refine R1 (g' := (6, _, _, _, _, _)) rfl rfl ?_
      refine R_getf rfl rfl (Nat.le_of_ble_eq_true rfl) rfl rfl ?_
      refine R1 (g' := (11, _, .int (nI 7) :: _, _, _, _)) rfl rfl ?_
      refine R_iald 7 rfl (Nat.le_of_ble_eq_true rfl) rfl (by decide) (by decide) rfl ?_
      rw [h7]
      refine R_cgeN 57 (k) (k) rfl rfl (rfl) (rfl) (by omega) (by omega) (fun h12 => ?_) (fun h => by omega)
      refine R1 (g' := (58, _, _, _, _, _)) rfl rfl ?_
      refine R_getf rfl rfl (Nat.le_of_ble_eq_true rfl) rfl rfl ?_
      refine R1 (g' := (62, _, .int (nI 0) :: _, _, _, _)) rfl rfl ?_
      refine R1 (g' := (65, _, .int (nI 1250) :: _, _, _, _)) rfl rfl ?_
      refine R_iast 0 rfl (Nat.le_of_ble_eq_true rfl) (fun _ => rfl) (by decide) (by decide) rfl ?_
      refine R1 (g' := (67, _, _, _, _, _)) rfl rfl ?_
      refine R_getf rfl rfl (Nat.le_of_ble_eq_true rfl) rfl rfl ?_
      refine R1 (g' := (71, _, .int (nI 2) :: _, _, _, _)) rfl rfl ?_
      refine R1 (g' := (72, _, _, _, _, _)) rfl rfl ?_
      refine R_iald 2 rfl (Nat.le_of_ble_eq_true rfl) rfl (by decide) (by decide) rfl ?_
      refine R1 (g' := (74, _, .int (nI 1) :: _, _, _, _)) rfl rfl ?_
      refine R1 (g' := (75, _, _, _, _, _)) rfl rfl ?_
      refine R_iast 2 rfl (Nat.le_of_ble_eq_true rfl) (fun _ => rfl) (by decide) (by decide) rfl ?_
      refine R1 (g' := (77, _, _, _, _, _)) rfl rfl ?_
      refine R_getf rfl rfl (Nat.le_of_ble_eq_true rfl) rfl rfl ?_
      refine R1 (g' := (81, _, .int (nI 4) :: _, _, _, _)) rfl rfl ?_
      refine R1 (g' := (82, _, _, _, _, _)) rfl rfl ?_
      refine R_iald 4 rfl (Nat.le_of_ble_eq_true rfl) rfl (by decide) (by decide) rfl ?_
      refine R1 (g' := (84, _, _, _, _, _)) rfl rfl ?_
      refine R1 (g' := (85, _, _, _, _, _)) rfl rfl ?_
      refine R_iast 4 rfl (Nat.le_of_ble_eq_true rfl) (fun _ => rfl) (by decide) (by decide) rfl ?_
      refine R1 (g' := (87, _, _, _, _, _)) rfl rfl ?_
      refine R_iret rfl ?_
      refine ⟨rfl, congrArg wd ?_⟩
      simp only [setP_setP, setP_at]
      congr 1
      funext i
      simp only [upd, qHeat]
      by_cases e0 : i = 0
      · subst e0
        rfl
      · by_cases e2 : i = 2
        · subst e2
          rfl
        · by_cases e4 : i = 4
          · subst e4
            rfl
          · rw [if_neg e4, if_neg e2, if_neg e0, if_neg e0, if_neg e2, if_neg e4]
  | succ d ih =>
    intro k lv3 h3 hk
    have h7 : (setP s 143 (qHot (s.1 143) k)).1 143 7 = nI n := by rw [setP_at, qHot_lo (by decide)]; exact hn
    have hV : (setP s 143 (qHot (s.1 143) k)).1 143 (11 + 4 * k) = s.1 143 (11 + 4 * k) := by rw [setP_at, qHot_k]
    have h1 : (setP s 143 (qHot (s.1 143) k)).1 143 1 = s.1 143 1 := by rw [setP_at, qHot_lo (by decide)]
    rcases h3 with rfl | ⟨z, rfl⟩
    · refine R1 (g' := (5, _, _, _, _, _)) rfl rfl ?_
      refine R1 (g' := (6, _, _, _, _, _)) rfl rfl ?_
      refine R_getf rfl rfl (Nat.le_of_ble_eq_true rfl) rfl rfl ?_
      refine R1 (g' := (11, _, .int (nI 7) :: _, _, _, _)) rfl rfl ?_
      refine R_iald 7 rfl (Nat.le_of_ble_eq_true rfl) rfl (by decide) (by decide) rfl ?_
      rw [h7]
      refine R_cgeN 57 (k) (n) rfl rfl (rfl) (rfl) (by omega) (by omega) (fun h => by omega) (fun h12 => ?_)
      refine R1 (g' := (16, _, _, _, _, _)) rfl rfl ?_
      refine R1 (g' := (17, _, _, _, _, _)) rfl rfl ?_
      refine R1 (g' := (18, _, .int (nI 2) :: _, _, _, _)) rfl rfl ?_
      refine R_call3 (Or.inr (Or.inl ⟨rfl, rfl⟩)) rfl rfl ⟨Nat.le_of_ble_eq_true rfl, Nat.le_of_ble_eq_true rfl⟩ (Nat.le_of_ble_eq_true rfl) ⟨rfl, rfl⟩ (⟨⟨_, _, _, rfl, (Nat.le_of_ble_eq_true rfl), rfl⟩, e9_of (i := 11 + 4 * k) (by omega) (by omega)⟩) ?_
      rw [hV]
      refine R1 (g' := (22, _, _, _, _, _)) rfl rfl ?_
      refine R_getf rfl rfl (Nat.le_of_ble_eq_true rfl) rfl rfl ?_
      refine R1 (g' := (26, _, .int (nI 1) :: _, _, _, _)) rfl rfl ?_
      refine R_iald 1 rfl (Nat.le_of_ble_eq_true rfl) rfl (by decide) (by decide) rfl ?_
      rw [h1]
      refine R1 (g' := (28, _, _, _, _, _)) rfl rfl ?_
      refine R1 (g' := (31, _, .int (nI 1000) :: _, _, _, _)) rfl rfl ?_
      refine R_idiv rfl (by decide) ?_
      change xRun _ _ (32, _, [.int (qLoss (s.1 143) k)], _, _, _)
      refine R1 (g' := (33, _, _, _, _, _)) rfl rfl ?_
      refine R1 (g' := (34, _, _, _, _, _)) rfl rfl ?_
      refine R1 (g' := (35, _, _, _, _, _)) rfl rfl ?_
      refine R1 (g' := (36, _, .int (nI 2) :: _, _, _, _)) rfl rfl ?_
      refine R1 (g' := (37, _, _, _, _, _)) rfl rfl ?_
      refine R1 (g' := (38, _, _, _, _, _)) rfl rfl ?_
      refine R1 (g' := (39, _, .int (nI 2) :: _, _, _, _)) rfl rfl ?_
      refine R_call3 (Or.inr (Or.inl ⟨rfl, rfl⟩)) rfl rfl ⟨Nat.le_of_ble_eq_true rfl, Nat.le_of_ble_eq_true rfl⟩ (Nat.le_of_ble_eq_true rfl) ⟨rfl, rfl⟩ (⟨⟨_, _, _, rfl, (Nat.le_of_ble_eq_true rfl), rfl⟩, e9_of (i := 11 + 4 * k) (by omega) (by omega)⟩) ?_
      rw [hV]
      refine R1 (g' := (43, _, _, _, _, _)) rfl rfl ?_
      refine R1 (g' := (44, _, _, _, _, _)) rfl rfl ?_
      refine R_call4 (Or.inr (Or.inl ⟨rfl, rfl⟩)) rfl rfl ⟨Nat.le_of_ble_eq_true rfl, Nat.le_of_ble_eq_true rfl⟩ (Nat.le_of_ble_eq_true rfl) ⟨rfl, rfl⟩ (⟨⟨_, _, _, rfl, (Nat.le_of_ble_eq_true rfl), rfl⟩, e9_put (i := 11 + 4 * k) (by omega) (by omega)⟩) ?_
      rw [setP_setP, setP_at, qHot_s]
      refine R1 (g' := (48, _, _, _, _, _)) rfl rfl ?_
      refine R1 (g' := (49, _, _, _, _, _)) rfl rfl ?_
      refine R1 (g' := (50, _, _, _, _, _)) rfl rfl ?_
      refine R1 (g' := (51, _, _, _, _, _)) rfl rfl ?_
      refine R1 (g' := (54, _, _, _, _, _)) rfl rfl ?_
      refine R1 (g' := (4, _, _, _, _, _)) rfl rfl ?_
      refine R_lv [(2, .int (nI (k + 1))), (1, .int (csum (qLoss (s.1 143)) (k + 1))), (0, .ref 142), (3, .int (qLoss (s.1 143) k))] rfl (List.forall_mem_cons.mpr ⟨by rw [nI_succ k]; rfl, List.forall_mem_cons.mpr ⟨rfl, List.forall_mem_cons.mpr ⟨rfl, List.forall_mem_cons.mpr ⟨rfl, fun _ h => absurd h List.not_mem_nil⟩⟩⟩⟩) ⟨rfl, rfl⟩ ?_
      exact ih (k + 1) [(3, .int _)] (Or.inr ⟨_, rfl⟩) (by omega)
    · refine R1 (g' := (5, _, _, _, _, _)) rfl rfl ?_
      refine R1 (g' := (6, _, _, _, _, _)) rfl rfl ?_
      refine R_getf rfl rfl (Nat.le_of_ble_eq_true rfl) rfl rfl ?_
      refine R1 (g' := (11, _, .int (nI 7) :: _, _, _, _)) rfl rfl ?_
      refine R_iald 7 rfl (Nat.le_of_ble_eq_true rfl) rfl (by decide) (by decide) rfl ?_
      rw [h7]
      refine R_cgeN 57 (k) (n) rfl rfl (rfl) (rfl) (by omega) (by omega) (fun h => by omega) (fun h12 => ?_)
      refine R1 (g' := (16, _, _, _, _, _)) rfl rfl ?_
      refine R1 (g' := (17, _, _, _, _, _)) rfl rfl ?_
      refine R1 (g' := (18, _, .int (nI 2) :: _, _, _, _)) rfl rfl ?_
      refine R_call3 (Or.inr (Or.inl ⟨rfl, rfl⟩)) rfl rfl ⟨Nat.le_of_ble_eq_true rfl, Nat.le_of_ble_eq_true rfl⟩ (Nat.le_of_ble_eq_true rfl) ⟨rfl, rfl⟩ (⟨⟨_, _, _, rfl, (Nat.le_of_ble_eq_true rfl), rfl⟩, e9_of (i := 11 + 4 * k) (by omega) (by omega)⟩) ?_
      rw [hV]
      refine R1 (g' := (22, _, _, _, _, _)) rfl rfl ?_
      refine R_getf rfl rfl (Nat.le_of_ble_eq_true rfl) rfl rfl ?_
      refine R1 (g' := (26, _, .int (nI 1) :: _, _, _, _)) rfl rfl ?_
      refine R_iald 1 rfl (Nat.le_of_ble_eq_true rfl) rfl (by decide) (by decide) rfl ?_
      rw [h1]
      refine R1 (g' := (28, _, _, _, _, _)) rfl rfl ?_
      refine R1 (g' := (31, _, .int (nI 1000) :: _, _, _, _)) rfl rfl ?_
      refine R_idiv rfl (by decide) ?_
      change xRun _ _ (32, _, [.int (qLoss (s.1 143) k)], _, _, _)
      refine R1 (g' := (33, _, _, _, _, _)) rfl rfl ?_
      refine R1 (g' := (34, _, _, _, _, _)) rfl rfl ?_
      refine R1 (g' := (35, _, _, _, _, _)) rfl rfl ?_
      refine R1 (g' := (36, _, .int (nI 2) :: _, _, _, _)) rfl rfl ?_
      refine R1 (g' := (37, _, _, _, _, _)) rfl rfl ?_
      refine R1 (g' := (38, _, _, _, _, _)) rfl rfl ?_
      refine R1 (g' := (39, _, .int (nI 2) :: _, _, _, _)) rfl rfl ?_
      refine R_call3 (Or.inr (Or.inl ⟨rfl, rfl⟩)) rfl rfl ⟨Nat.le_of_ble_eq_true rfl, Nat.le_of_ble_eq_true rfl⟩ (Nat.le_of_ble_eq_true rfl) ⟨rfl, rfl⟩ (⟨⟨_, _, _, rfl, (Nat.le_of_ble_eq_true rfl), rfl⟩, e9_of (i := 11 + 4 * k) (by omega) (by omega)⟩) ?_
      rw [hV]
      refine R1 (g' := (43, _, _, _, _, _)) rfl rfl ?_
      refine R1 (g' := (44, _, _, _, _, _)) rfl rfl ?_
      refine R_call4 (Or.inr (Or.inl ⟨rfl, rfl⟩)) rfl rfl ⟨Nat.le_of_ble_eq_true rfl, Nat.le_of_ble_eq_true rfl⟩ (Nat.le_of_ble_eq_true rfl) ⟨rfl, rfl⟩ (⟨⟨_, _, _, rfl, (Nat.le_of_ble_eq_true rfl), rfl⟩, e9_put (i := 11 + 4 * k) (by omega) (by omega)⟩) ?_
      rw [setP_setP, setP_at, qHot_s]
      refine R1 (g' := (48, _, _, _, _, _)) rfl rfl ?_
      refine R1 (g' := (49, _, _, _, _, _)) rfl rfl ?_
      refine R1 (g' := (50, _, _, _, _, _)) rfl rfl ?_
      refine R1 (g' := (51, _, _, _, _, _)) rfl rfl ?_
      refine R1 (g' := (54, _, _, _, _, _)) rfl rfl ?_
      refine R1 (g' := (4, _, _, _, _, _)) rfl rfl ?_
      refine R_lv [(2, .int (nI (k + 1))), (1, .int (csum (qLoss (s.1 143)) (k + 1))), (0, .ref 142), (3, .int (qLoss (s.1 143) k))] rfl (List.forall_mem_cons.mpr ⟨by rw [nI_succ k]; rfl, List.forall_mem_cons.mpr ⟨rfl, List.forall_mem_cons.mpr ⟨rfl, List.forall_mem_cons.mpr ⟨rfl, fun _ h => absurd h List.not_mem_nil⟩⟩⟩⟩) ⟨rfl, rfl⟩ ?_
      exact ih (k + 1) [(3, .int _)] (Or.inr ⟨_, rfl⟩) (by omega)
theorem e9_heats {s : xs} {n : Nat} (hn : s.1 143 7 = nI n) (hn8 : n ≤ 8) : Ev_X9_heats [.ref 142] (wd s) (.inl (some (.int (csum (qLoss (s.1 143)) n)))) (wd (setP s 143 (qHeat (s.1 143) n))) := by
  have hr := heats_loop hn hn8 n 0 [] (Or.inl rfl) (Nat.zero_add _)
  rw [qHot_0, setP_self] at hr
  refine ⟨Nat.le_of_ble_eq_true rfl, Nat.le_refl _, Or.inl rfl, ?_⟩
  refine R1 (g' := (1, _, .int (nI 0) :: _, _, _, _)) rfl rfl ?_
  refine R1 (g' := (2, _, _, _, _, _)) rfl rfl ?_
  refine R1 (g' := (3, _, .int (nI 0) :: _, _, _, _)) rfl rfl ?_
  refine R1 (g' := (4, _, _, _, _, _)) rfl rfl ?_
  exact R_lv [(2, .int (nI 0)), (1, .int (csum (qLoss (s.1 143)) 0)), (0, .ref 142)] rfl (List.forall_mem_cons.mpr ⟨rfl, List.forall_mem_cons.mpr ⟨rfl, List.forall_mem_cons.mpr ⟨rfl, fun _ h => absurd h List.not_mem_nil⟩⟩⟩) ⟨rfl, rfl⟩ hr
