def gX (s s' : xs) : Prop := (∀ i, i ≠ 142 → i ≠ 143 → s'.1 i = s.1 i) ∧ (∀ j, j ≠ 7 → j ≠ 8 → s'.1 142 j = s.1 142 j) ∧ s'.2 = s.2
theorem gX_rf {s : xs} : gX s s := ⟨fun _ _ _ => rfl, fun _ _ _ => rfl, rfl⟩
theorem gX_tr {s s' s2 : xs} (h : gX s s') (g : gX s' s2) : gX s s2 := ⟨fun i a b => (g.1 i a b).trans (h.1 i a b), fun j a b => (g.2.1 j a b).trans (h.2.1 j a b), g.2.2.trans h.2.2⟩
theorem gX_P {s s' : xs} {P : Nat → Int32} (h : gX s s') : gX s (setP s' 143 P) := gX_tr h ⟨fun i _ b => setP_ne _ _ b, fun j _ _ => by rw [setP_ne _ _ (by decide)], rfl⟩
theorem gX_N {s s' : xs} {x y : Int32} (h : gX s s') : gX s (nxtI s' x y) := gX_tr h ⟨fun i a _ => nxtI_ne a, fun j a b => nxtI_o a b, rfl⟩
theorem qLoss_nI {Q : Nat → Int32} (h : pInv Q) : ∀ n, n ≤ qn Q 7 → ∃ m, m ≤ 450000 * n ∧ csum (qLoss Q) n = nI m
  | 0, _ => ⟨0, Nat.zero_le _, rfl⟩
  | n + 1, hn => by
    obtain ⟨m, h1, h2⟩ := qLoss_nI h n (by omega)
    obtain ⟨p1, p2, p3, p4, p5, p6, p7⟩ := h.2.2.2.2.1 n (by omega)
    obtain ⟨i1, i1a⟩ := h.2.2.2.1
    have hm : qn Q (11 + 4 * n) * qn Q 1 ≤ 9000000 * 50 := Nat.mul_le_mul p7 i1a
    refine ⟨m + qn Q (11 + 4 * n) * qn Q 1 / 1000, by omega, ?_⟩
    rw [csum, h2, qLoss]
    generalize qn Q (11 + 4 * n) = v at *
    generalize qn Q 1 = w at *
    rw [p3, i1, pk_mul, pk_div (by omega) (by decide) (by decide), nI_add]
theorem e9_carries {s : xs} {Q : Nat → Int32} {a b c : Nat} (hQ : s.1 143 = Q) (hi : pInv Q) (h14 : s.1 142 14 = nI (och a)) (hB : a ≠ 3 → s.1 142 15 = nI b ∧ s.1 142 16 = nI c) (hv : a = 3 ∨ (a = 4 ∧ b < 8 ∧ 1 ≤ c ∧ c ≤ 9999) ∨ (a ≤ 2 ∧ b < 8 ∧ 1 ≤ c ∧ c ≤ 60)) : ∃ s', Ev_X9_carries [.ref 142] (wd s) (.inl (some (.int (bI (qOk Q a b c))))) (wd s') ∧ gX s s' ∧ (qOk Q a b c = true → s'.1 143 = qDo Q a b c) ∧ (qOk Q a b c = false → s'.1 143 = Q) := by
  subst hQ
  have n8 := hi.1.2.2
  have n1 := hi.1.2.1
  have i7 := hi.1.1
  have i0 := hi.2.2.1
  rcases hv with rfl | ⟨rfl, b8, c1, c2⟩ | ⟨a2, b8, c1, c2⟩
  · obtain ⟨m, m1, m2⟩ := qLoss_nI hi _ (Nat.le_refl _)
    have hh := e9_heats i7 n8
    rw [m2] at hh
    refine ⟨_, ?_, gX_P gX_rf, fun _ => setP_at _ _ _, fun z => by cases z⟩
    refine ⟨Nat.le_of_ble_eq_true rfl, Nat.le_refl _, Or.inr ⟨rfl, bI_01 _⟩, ?_⟩
    refine R1 (g' := (1, _, _, _, _, _)) rfl rfl ?_
    refine R_getf rfl rfl (Nat.le_of_ble_eq_true rfl) rfl rfl ?_
    refine R1 (g' := (6, _, .int (nI 100) :: _, _, _, _)) rfl rfl ?_
    refine R_cneN 13 (104) (100) rfl rfl ((show _ = nI 104 from h14)) (rfl) (by omega) (by omega) (fun h6 => ?_) (fun h => by omega)
    refine R1 (g' := (14, _, _, _, _, _)) rfl rfl ?_
    refine R_getf rfl rfl (Nat.le_of_ble_eq_true rfl) rfl rfl ?_
    refine R1 (g' := (19, _, .int (nI 116) :: _, _, _, _)) rfl rfl ?_
    refine R_cneN 26 (104) (116) rfl rfl ((show _ = nI 104 from h14)) (rfl) (by omega) (by omega) (fun h19 => ?_) (fun h => by omega)
    refine R1 (g' := (27, _, .int (nI 2) :: _, _, _, _)) rfl rfl ?_
    refine R1 (g' := (28, _, _, _, _, _)) rfl rfl ?_
    refine R1 (g' := (29, _, _, _, _, _)) rfl rfl ?_
    refine R_getf rfl rfl (Nat.le_of_ble_eq_true rfl) rfl rfl ?_
    refine R1 (g' := (34, _, .int (nI 104) :: _, _, _, _)) rfl rfl ?_
    refine R_cneN 50 (104) (104) rfl rfl ((show _ = nI 104 from h14)) (rfl) (by omega) (by omega) (fun h => by omega) (fun h34 => ?_)
    refine R1 (g' := (38, _, _, _, _, _)) rfl rfl ?_
    refine R_call1 (Or.inr (Or.inl ⟨rfl, rfl⟩)) rfl rfl ⟨Nat.le_of_ble_eq_true rfl, Nat.le_of_ble_eq_true rfl⟩ (Nat.le_of_ble_eq_true rfl) ⟨rfl, rfl⟩ (⟨⟨_, _, _, rfl, (Nat.le_of_ble_eq_true rfl), rfl⟩, hh⟩) ?_
    refine R_lt 48 rfl rfl (fun h => by exact absurd h (nI_pos (by omega))) (fun h41 => ?_)
    refine R1 (g' := (45, _, .int (nI 1) :: _, _, _, _)) rfl rfl ?_
    refine R1 (g' := (49, _, _, _, _, _)) rfl rfl ?_
    refine R_iret rfl ?_
    exact ⟨rfl, rfl⟩
  · obtain ⟨hb, hc⟩ := hB (by decide)
    have hok : qOk (s.1 143) 4 b c = (decide (b < qn (s.1 143) 7) && qCanC (s.1 143) b c) := rfl
    by_cases hbn : b < qn (s.1 143) 7
    · have hp := hi.2.2.2.2.1 b hbn
      rw [decide_eq_true hbn, Bool.true_and] at hok
      have hcc := e9_canCut (c := c) i7 n8 hbn hp (by omega)
      rw [show (decide (qn (s.1 143) 7 < 8) && decide (c < qLen (s.1 143) b)) = qOk (s.1 143) 4 b c from hok.symm] at hcc
      cases hz : qOk (s.1 143) 4 b c with
      | true =>
        have h8 : qn (s.1 143) 7 < 8 := by
          have := hok.symm.trans hz
          unfold qCanC at this
          rw [Bool.and_eq_true] at this
          exact of_decide_eq_true this.1
        rw [hz] at hcc
        refine ⟨_, ?_, gX_P gX_rf, fun _ => setP_at _ _ _, (fun z => absurd z (by decide))⟩
        refine ⟨Nat.le_of_ble_eq_true rfl, Nat.le_refl _, Or.inr ⟨rfl, bI_01 _⟩, ?_⟩
        refine R1 (g' := (1, _, _, _, _, _)) rfl rfl ?_
        refine R_getf rfl rfl (Nat.le_of_ble_eq_true rfl) rfl rfl ?_
        refine R1 (g' := (6, _, .int (nI 100) :: _, _, _, _)) rfl rfl ?_
        refine R_cneN 13 (99) (100) rfl rfl ((show _ = nI 99 from h14)) (rfl) (by omega) (by omega) (fun h6 => ?_) (fun h => by omega)
        refine R1 (g' := (14, _, _, _, _, _)) rfl rfl ?_
        refine R_getf rfl rfl (Nat.le_of_ble_eq_true rfl) rfl rfl ?_
        refine R1 (g' := (19, _, .int (nI 116) :: _, _, _, _)) rfl rfl ?_
        refine R_cneN 26 (99) (116) rfl rfl ((show _ = nI 99 from h14)) (rfl) (by omega) (by omega) (fun h19 => ?_) (fun h => by omega)
        refine R1 (g' := (27, _, .int (nI 2) :: _, _, _, _)) rfl rfl ?_
        refine R1 (g' := (28, _, _, _, _, _)) rfl rfl ?_
        refine R1 (g' := (29, _, _, _, _, _)) rfl rfl ?_
        refine R_getf rfl rfl (Nat.le_of_ble_eq_true rfl) rfl rfl ?_
        refine R1 (g' := (34, _, .int (nI 104) :: _, _, _, _)) rfl rfl ?_
        refine R_cneN 50 (99) (104) rfl rfl ((show _ = nI 99 from h14)) (rfl) (by omega) (by omega) (fun h34 => ?_) (fun h => by omega)
        refine R1 (g' := (51, _, _, _, _, _)) rfl rfl ?_
        refine R1 (g' := (52, _, _, _, _, _)) rfl rfl ?_
        refine R_getf rfl rfl (Nat.le_of_ble_eq_true rfl) rfl rfl ?_
        rw [hb]
        refine R_call2 (Or.inr (Or.inl ⟨rfl, rfl⟩)) rfl rfl ⟨Nat.le_of_ble_eq_true rfl, Nat.le_of_ble_eq_true rfl⟩ (Nat.le_of_ble_eq_true rfl) ⟨rfl, rfl⟩ (⟨⟨_, _, _, rfl, (Nat.le_of_ble_eq_true rfl), rfl⟩, e9_isPart i7 n1 (by omega)⟩) ?_
        rw [show xhas (nI b) (qn (s.1 143) 7) = true from by rw [xhas_nI (by omega) (by omega)]; exact decide_eq_true hbn]
        refine R_ne 63 rfl rfl (fun h58 => ?_) (fun h => by exact absurd h (by decide))
        refine R1 (g' := (64, _, _, _, _, _)) rfl rfl ?_
        refine R_getf rfl rfl (Nat.le_of_ble_eq_true rfl) rfl rfl ?_
        refine R1 (g' := (69, _, .int (nI 99) :: _, _, _, _)) rfl rfl ?_
        refine R_cneN 108 (99) (99) rfl rfl ((show _ = nI 99 from h14)) (rfl) (by omega) (by omega) (fun h => by omega) (fun h69 => ?_)
        refine R1 (g' := (73, _, _, _, _, _)) rfl rfl ?_
        refine R1 (g' := (74, _, _, _, _, _)) rfl rfl ?_
        refine R_getf rfl rfl (Nat.le_of_ble_eq_true rfl) rfl rfl ?_
        refine R1 (g' := (78, _, _, _, _, _)) rfl rfl ?_
        refine R_getf rfl rfl (Nat.le_of_ble_eq_true rfl) rfl rfl ?_
        rw [hb, hc]
        refine R_call3 (Or.inr (Or.inl ⟨rfl, rfl⟩)) rfl rfl ⟨Nat.le_of_ble_eq_true rfl, Nat.le_of_ble_eq_true rfl⟩ (Nat.le_of_ble_eq_true rfl) ⟨rfl, rfl⟩ (⟨⟨_, _, _, rfl, (Nat.le_of_ble_eq_true rfl), rfl⟩, hcc⟩) ?_
        refine R_eq 106 rfl rfl (fun h => by exact absurd h (by decide)) (fun h84 => ?_)
        refine R1 (g' := (88, _, _, _, _, _)) rfl rfl ?_
        refine R1 (g' := (89, _, _, _, _, _)) rfl rfl ?_
        refine R_getf rfl rfl (Nat.le_of_ble_eq_true rfl) rfl rfl ?_
        refine R1 (g' := (93, _, _, _, _, _)) rfl rfl ?_
        refine R_getf rfl rfl (Nat.le_of_ble_eq_true rfl) rfl rfl ?_
        rw [hb, hc]
        refine R_call3 (Or.inr (Or.inl ⟨rfl, rfl⟩)) rfl rfl ⟨Nat.le_of_ble_eq_true rfl, Nat.le_of_ble_eq_true rfl⟩ (Nat.le_of_ble_eq_true rfl) ⟨rfl, rfl⟩ (⟨⟨_, _, _, rfl, (Nat.le_of_ble_eq_true rfl), rfl⟩, e9_cuts (c := nI c) i7 h8 hbn⟩) ?_
        refine R_le 106 rfl rfl (fun h => by exact absurd h (nI_nle (by omega) (by omega))) (fun h99 => ?_)
        refine R1 (g' := (103, _, .int (nI 1) :: _, _, _, _)) rfl rfl ?_
        refine R1 (g' := (107, _, _, _, _, _)) rfl rfl ?_
        refine R_iret rfl ?_
        exact ⟨rfl, rfl⟩
      | false =>
        rw [hz] at hcc
        refine ⟨s, ?_, gX_rf, (fun z => absurd z (by decide)), fun _ => rfl⟩
        refine ⟨Nat.le_of_ble_eq_true rfl, Nat.le_refl _, Or.inr ⟨rfl, bI_01 _⟩, ?_⟩
        refine R1 (g' := (1, _, _, _, _, _)) rfl rfl ?_
        refine R_getf rfl rfl (Nat.le_of_ble_eq_true rfl) rfl rfl ?_
        refine R1 (g' := (6, _, .int (nI 100) :: _, _, _, _)) rfl rfl ?_
        refine R_cneN 13 (99) (100) rfl rfl ((show _ = nI 99 from h14)) (rfl) (by omega) (by omega) (fun h6 => ?_) (fun h => by omega)
        refine R1 (g' := (14, _, _, _, _, _)) rfl rfl ?_
        refine R_getf rfl rfl (Nat.le_of_ble_eq_true rfl) rfl rfl ?_
        refine R1 (g' := (19, _, .int (nI 116) :: _, _, _, _)) rfl rfl ?_
        refine R_cneN 26 (99) (116) rfl rfl ((show _ = nI 99 from h14)) (rfl) (by omega) (by omega) (fun h19 => ?_) (fun h => by omega)
        refine R1 (g' := (27, _, .int (nI 2) :: _, _, _, _)) rfl rfl ?_
        refine R1 (g' := (28, _, _, _, _, _)) rfl rfl ?_
        refine R1 (g' := (29, _, _, _, _, _)) rfl rfl ?_
        refine R_getf rfl rfl (Nat.le_of_ble_eq_true rfl) rfl rfl ?_
        refine R1 (g' := (34, _, .int (nI 104) :: _, _, _, _)) rfl rfl ?_
        refine R_cneN 50 (99) (104) rfl rfl ((show _ = nI 99 from h14)) (rfl) (by omega) (by omega) (fun h34 => ?_) (fun h => by omega)
        refine R1 (g' := (51, _, _, _, _, _)) rfl rfl ?_
        refine R1 (g' := (52, _, _, _, _, _)) rfl rfl ?_
        refine R_getf rfl rfl (Nat.le_of_ble_eq_true rfl) rfl rfl ?_
        rw [hb]
        refine R_call2 (Or.inr (Or.inl ⟨rfl, rfl⟩)) rfl rfl ⟨Nat.le_of_ble_eq_true rfl, Nat.le_of_ble_eq_true rfl⟩ (Nat.le_of_ble_eq_true rfl) ⟨rfl, rfl⟩ (⟨⟨_, _, _, rfl, (Nat.le_of_ble_eq_true rfl), rfl⟩, e9_isPart i7 n1 (by omega)⟩) ?_
        rw [show xhas (nI b) (qn (s.1 143) 7) = true from by rw [xhas_nI (by omega) (by omega)]; exact decide_eq_true hbn]
        refine R_ne 63 rfl rfl (fun h58 => ?_) (fun h => by exact absurd h (by decide))
        refine R1 (g' := (64, _, _, _, _, _)) rfl rfl ?_
        refine R_getf rfl rfl (Nat.le_of_ble_eq_true rfl) rfl rfl ?_
        refine R1 (g' := (69, _, .int (nI 99) :: _, _, _, _)) rfl rfl ?_
        refine R_cneN 108 (99) (99) rfl rfl ((show _ = nI 99 from h14)) (rfl) (by omega) (by omega) (fun h => by omega) (fun h69 => ?_)
        refine R1 (g' := (73, _, _, _, _, _)) rfl rfl ?_
        refine R1 (g' := (74, _, _, _, _, _)) rfl rfl ?_
        refine R_getf rfl rfl (Nat.le_of_ble_eq_true rfl) rfl rfl ?_
        refine R1 (g' := (78, _, _, _, _, _)) rfl rfl ?_
        refine R_getf rfl rfl (Nat.le_of_ble_eq_true rfl) rfl rfl ?_
        rw [hb, hc]
        refine R_call3 (Or.inr (Or.inl ⟨rfl, rfl⟩)) rfl rfl ⟨Nat.le_of_ble_eq_true rfl, Nat.le_of_ble_eq_true rfl⟩ (Nat.le_of_ble_eq_true rfl) ⟨rfl, rfl⟩ (⟨⟨_, _, _, rfl, (Nat.le_of_ble_eq_true rfl), rfl⟩, hcc⟩) ?_
        refine R_eq 106 rfl rfl (fun h84 => ?_) (fun h => by exact absurd rfl h)
        refine R1 (g' := (107, _, .int (nI 0) :: _, _, _, _)) rfl rfl ?_
        refine R_iret rfl ?_
        exact ⟨rfl, rfl⟩
    · rw [decide_eq_false hbn, Bool.false_and] at hok
      rw [hok]
      refine ⟨s, ?_, gX_rf, (fun z => absurd z (by decide)), fun _ => rfl⟩
      refine ⟨Nat.le_of_ble_eq_true rfl, Nat.le_refl _, Or.inr ⟨rfl, bI_01 _⟩, ?_⟩
      refine R1 (g' := (1, _, _, _, _, _)) rfl rfl ?_
      refine R_getf rfl rfl (Nat.le_of_ble_eq_true rfl) rfl rfl ?_
      refine R1 (g' := (6, _, .int (nI 100) :: _, _, _, _)) rfl rfl ?_
      refine R_cneN 13 (99) (100) rfl rfl ((show _ = nI 99 from h14)) (rfl) (by omega) (by omega) (fun h6 => ?_) (fun h => by omega)
      refine R1 (g' := (14, _, _, _, _, _)) rfl rfl ?_
      refine R_getf rfl rfl (Nat.le_of_ble_eq_true rfl) rfl rfl ?_
      refine R1 (g' := (19, _, .int (nI 116) :: _, _, _, _)) rfl rfl ?_
      refine R_cneN 26 (99) (116) rfl rfl ((show _ = nI 99 from h14)) (rfl) (by omega) (by omega) (fun h19 => ?_) (fun h => by omega)
      refine R1 (g' := (27, _, .int (nI 2) :: _, _, _, _)) rfl rfl ?_
      refine R1 (g' := (28, _, _, _, _, _)) rfl rfl ?_
      refine R1 (g' := (29, _, _, _, _, _)) rfl rfl ?_
      refine R_getf rfl rfl (Nat.le_of_ble_eq_true rfl) rfl rfl ?_
      refine R1 (g' := (34, _, .int (nI 104) :: _, _, _, _)) rfl rfl ?_
      refine R_cneN 50 (99) (104) rfl rfl ((show _ = nI 99 from h14)) (rfl) (by omega) (by omega) (fun h34 => ?_) (fun h => by omega)
      refine R1 (g' := (51, _, _, _, _, _)) rfl rfl ?_
      refine R1 (g' := (52, _, _, _, _, _)) rfl rfl ?_
      refine R_getf rfl rfl (Nat.le_of_ble_eq_true rfl) rfl rfl ?_
      rw [hb]
      refine R_call2 (Or.inr (Or.inl ⟨rfl, rfl⟩)) rfl rfl ⟨Nat.le_of_ble_eq_true rfl, Nat.le_of_ble_eq_true rfl⟩ (Nat.le_of_ble_eq_true rfl) ⟨rfl, rfl⟩ (⟨⟨_, _, _, rfl, (Nat.le_of_ble_eq_true rfl), rfl⟩, e9_isPart i7 n1 (by omega)⟩) ?_
      rw [show xhas (nI b) (qn (s.1 143) 7) = false from by rw [xhas_nI (by omega) (by omega)]; exact decide_eq_false hbn]
      refine R_ne 63 rfl rfl (fun h => by exact absurd rfl h) (fun h58 => ?_)
      refine R1 (g' := (62, _, .int (nI 0) :: _, _, _, _)) rfl rfl ?_
      refine R_iret rfl ?_
      exact ⟨rfl, rfl⟩
  · obtain ⟨hb, hc⟩ := hB (by omega)
    have hok : qOk (s.1 143) a b c = (decide (b < qn (s.1 143) 7) && qCanS (s.1 143) b a c) := by unfold qOk; rw [if_neg (by omega), if_neg (by omega)]
    have hdo : qDo (s.1 143) a b c = qDoS (s.1 143) b a c := by unfold qDo; rw [if_neg (by omega), if_neg (by omega)]
    rw [hdo]
    by_cases hbn : b < qn (s.1 143) 7
    · have hp := hi.2.2.2.2.1 b hbn
      rw [decide_eq_true hbn, Bool.true_and] at hok
      obtain ⟨x, y, hcb⟩ := e9_canBlow (q := a) (c := c) (by omega) hp i0.1 (by omega) a2 c1 (by omega)
      rw [show (decide (c ≤ nBl (qn (s.1 143) 0)) && Nat.beq (nLast (qn (s.1 143) (9 + 4 * b)) (qn (s.1 143) (10 + 4 * b)) a (qn (s.1 143) (11 + 4 * b)) c) c) = qOk (s.1 143) a b c from hok.symm] at hcb
      have eN : (nxtI s x y).1 143 = s.1 143 := nxtI_ne (by decide)
      have g15 : (nxtI s x y).1 142 15 = nI b := (nxtI_o (by decide) (by decide)).trans hb
      have g16 : (nxtI s x y).1 142 16 = nI c := (nxtI_o (by decide) (by decide)).trans hc
      cases hz : qOk (s.1 143) a b c with
      | true =>
        obtain ⟨k1, k2, k3, k4⟩ := qCanS_ok hi hbn c1 (hok.symm.trans hz)
        have hst0 := e9_strikes (s := nxtI s x y) (k := b) (q := a) (c := c) (t := qn (s.1 143) 0) (by omega) (by rw [eN]; exact hp) a2 (by omega) (by rw [eN]; exact i0.1) (by omega) (by omega) (by rw [eN]; exact k3)
        rw [eN] at hst0
        obtain ⟨x2, y2, hst⟩ := hst0
        have hlen : qLen (qDoS (s.1 143) b a c) b ≤ 9000000 := qLen_le (k4.2.2.2.2.1 b (by rw [show qn (qDoS (s.1 143) b a c) 7 = qn (s.1 143) 7 from qn_cg (qStrike_o (by decide) (by decide) (by decide) (by omega))]; exact hbn))
        rw [hz] at hcb
        refine ⟨setP (nxtI (nxtI s x y) x2 y2) 143 (qDoS (s.1 143) b a c), ?_, gX_P (gX_N (gX_N gX_rf)), fun _ => setP_at _ _ _, (fun z => absurd z (by decide))⟩
        refine ⟨Nat.le_of_ble_eq_true rfl, Nat.le_refl _, Or.inr ⟨rfl, bI_01 _⟩, ?_⟩
        rcases (show a = 0 ∨ a = 1 ∨ a = 2 by omega) with rfl | rfl | rfl
        · refine R1 (g' := (1, _, _, _, _, _)) rfl rfl ?_
          refine R_getf rfl rfl (Nat.le_of_ble_eq_true rfl) rfl rfl ?_
          refine R1 (g' := (6, _, .int (nI 100) :: _, _, _, _)) rfl rfl ?_
          refine R_cneN 13 (100) (100) rfl rfl ((show _ = nI 100 from h14)) (rfl) (by omega) (by omega) (fun h => by omega) (fun h6 => ?_)
          refine R1 (g' := (10, _, .int (nI 0) :: _, _, _, _)) rfl rfl ?_
          refine R1 (g' := (27, _, _, _, _, _)) rfl rfl ?_
          refine R1 (g' := (28, _, _, _, _, _)) rfl rfl ?_
          refine R1 (g' := (29, _, _, _, _, _)) rfl rfl ?_
          refine R_getf rfl rfl (Nat.le_of_ble_eq_true rfl) rfl rfl ?_
          refine R1 (g' := (34, _, .int (nI 104) :: _, _, _, _)) rfl rfl ?_
          refine R_cneN 50 (100) (104) rfl rfl ((show _ = nI 100 from h14)) (rfl) (by omega) (by omega) (fun h34 => ?_) (fun h => by omega)
          refine R1 (g' := (51, _, _, _, _, _)) rfl rfl ?_
          refine R1 (g' := (52, _, _, _, _, _)) rfl rfl ?_
          refine R_getf rfl rfl (Nat.le_of_ble_eq_true rfl) rfl rfl ?_
          rw [hb]
          refine R_call2 (Or.inr (Or.inl ⟨rfl, rfl⟩)) rfl rfl ⟨Nat.le_of_ble_eq_true rfl, Nat.le_of_ble_eq_true rfl⟩ (Nat.le_of_ble_eq_true rfl) ⟨rfl, rfl⟩ (⟨⟨_, _, _, rfl, (Nat.le_of_ble_eq_true rfl), rfl⟩, e9_isPart i7 n1 (by omega)⟩) ?_
          rw [show xhas (nI b) (qn (s.1 143) 7) = true from by rw [xhas_nI (by omega) (by omega)]; exact decide_eq_true hbn]
          refine R_ne 63 rfl rfl (fun h58 => ?_) (fun h => by exact absurd h (by decide))
          refine R1 (g' := (64, _, _, _, _, _)) rfl rfl ?_
          refine R_getf rfl rfl (Nat.le_of_ble_eq_true rfl) rfl rfl ?_
          refine R1 (g' := (69, _, .int (nI 99) :: _, _, _, _)) rfl rfl ?_
          refine R_cneN 108 (100) (99) rfl rfl ((show _ = nI 100 from h14)) (rfl) (by omega) (by omega) (fun h69 => ?_) (fun h => by omega)
          refine R1 (g' := (109, _, _, _, _, _)) rfl rfl ?_
          refine R1 (g' := (110, _, _, _, _, _)) rfl rfl ?_
          refine R_getf rfl rfl (Nat.le_of_ble_eq_true rfl) rfl rfl ?_
          refine R1 (g' := (114, _, _, _, _, _)) rfl rfl ?_
          refine R1 (g' := (115, _, _, _, _, _)) rfl rfl ?_
          refine R_getf rfl rfl (Nat.le_of_ble_eq_true rfl) rfl rfl ?_
          rw [hb, hc]
          refine R_call4 (Or.inr (Or.inl ⟨rfl, rfl⟩)) rfl rfl ⟨Nat.le_of_ble_eq_true rfl, Nat.le_of_ble_eq_true rfl⟩ (Nat.le_of_ble_eq_true rfl) ⟨rfl, rfl⟩ (⟨⟨_, _, _, rfl, (Nat.le_of_ble_eq_true rfl), rfl⟩, hcb⟩) ?_
          refine R_eq 144 rfl rfl (fun h => by exact absurd h (by decide)) (fun h121 => ?_)
          refine R1 (g' := (125, _, _, _, _, _)) rfl rfl ?_
          refine R1 (g' := (126, _, _, _, _, _)) rfl rfl ?_
          refine R_getf rfl rfl (Nat.le_of_ble_eq_true rfl) rfl rfl ?_
          refine R1 (g' := (130, _, _, _, _, _)) rfl rfl ?_
          refine R1 (g' := (131, _, _, _, _, _)) rfl rfl ?_
          refine R_getf rfl rfl (Nat.le_of_ble_eq_true rfl) rfl rfl ?_
          rw [g15, g16]
          refine R_call4 (Or.inr (Or.inl ⟨rfl, rfl⟩)) rfl rfl ⟨Nat.le_of_ble_eq_true rfl, Nat.le_of_ble_eq_true rfl⟩ (Nat.le_of_ble_eq_true rfl) ⟨rfl, rfl⟩ (⟨⟨_, _, _, rfl, (Nat.le_of_ble_eq_true rfl), rfl⟩, hst⟩) ?_
          refine R_lt 144 rfl rfl (fun h => by exact absurd h (nI_pos (Nat.lt_of_le_of_lt hlen (by decide)))) (fun h137 => ?_)
          refine R1 (g' := (141, _, .int (nI 1) :: _, _, _, _)) rfl rfl ?_
          refine R1 (g' := (145, _, _, _, _, _)) rfl rfl ?_
          refine R_iret rfl ?_
          exact ⟨rfl, rfl⟩
        · refine R1 (g' := (1, _, _, _, _, _)) rfl rfl ?_
          refine R_getf rfl rfl (Nat.le_of_ble_eq_true rfl) rfl rfl ?_
          refine R1 (g' := (6, _, .int (nI 100) :: _, _, _, _)) rfl rfl ?_
          refine R_cneN 13 (116) (100) rfl rfl ((show _ = nI 116 from h14)) (rfl) (by omega) (by omega) (fun h6 => ?_) (fun h => by omega)
          refine R1 (g' := (14, _, _, _, _, _)) rfl rfl ?_
          refine R_getf rfl rfl (Nat.le_of_ble_eq_true rfl) rfl rfl ?_
          refine R1 (g' := (19, _, .int (nI 116) :: _, _, _, _)) rfl rfl ?_
          refine R_cneN 26 (116) (116) rfl rfl ((show _ = nI 116 from h14)) (rfl) (by omega) (by omega) (fun h => by omega) (fun h19 => ?_)
          refine R1 (g' := (23, _, .int (nI 1) :: _, _, _, _)) rfl rfl ?_
          refine R1 (g' := (27, _, _, _, _, _)) rfl rfl ?_
          refine R1 (g' := (28, _, _, _, _, _)) rfl rfl ?_
          refine R1 (g' := (29, _, _, _, _, _)) rfl rfl ?_
          refine R_getf rfl rfl (Nat.le_of_ble_eq_true rfl) rfl rfl ?_
          refine R1 (g' := (34, _, .int (nI 104) :: _, _, _, _)) rfl rfl ?_
          refine R_cneN 50 (116) (104) rfl rfl ((show _ = nI 116 from h14)) (rfl) (by omega) (by omega) (fun h34 => ?_) (fun h => by omega)
          refine R1 (g' := (51, _, _, _, _, _)) rfl rfl ?_
          refine R1 (g' := (52, _, _, _, _, _)) rfl rfl ?_
          refine R_getf rfl rfl (Nat.le_of_ble_eq_true rfl) rfl rfl ?_
          rw [hb]
          refine R_call2 (Or.inr (Or.inl ⟨rfl, rfl⟩)) rfl rfl ⟨Nat.le_of_ble_eq_true rfl, Nat.le_of_ble_eq_true rfl⟩ (Nat.le_of_ble_eq_true rfl) ⟨rfl, rfl⟩ (⟨⟨_, _, _, rfl, (Nat.le_of_ble_eq_true rfl), rfl⟩, e9_isPart i7 n1 (by omega)⟩) ?_
          rw [show xhas (nI b) (qn (s.1 143) 7) = true from by rw [xhas_nI (by omega) (by omega)]; exact decide_eq_true hbn]
          refine R_ne 63 rfl rfl (fun h58 => ?_) (fun h => by exact absurd h (by decide))
          refine R1 (g' := (64, _, _, _, _, _)) rfl rfl ?_
          refine R_getf rfl rfl (Nat.le_of_ble_eq_true rfl) rfl rfl ?_
          refine R1 (g' := (69, _, .int (nI 99) :: _, _, _, _)) rfl rfl ?_
          refine R_cneN 108 (116) (99) rfl rfl ((show _ = nI 116 from h14)) (rfl) (by omega) (by omega) (fun h69 => ?_) (fun h => by omega)
          refine R1 (g' := (109, _, _, _, _, _)) rfl rfl ?_
          refine R1 (g' := (110, _, _, _, _, _)) rfl rfl ?_
          refine R_getf rfl rfl (Nat.le_of_ble_eq_true rfl) rfl rfl ?_
          refine R1 (g' := (114, _, _, _, _, _)) rfl rfl ?_
          refine R1 (g' := (115, _, _, _, _, _)) rfl rfl ?_
          refine R_getf rfl rfl (Nat.le_of_ble_eq_true rfl) rfl rfl ?_
          rw [hb, hc]
          refine R_call4 (Or.inr (Or.inl ⟨rfl, rfl⟩)) rfl rfl ⟨Nat.le_of_ble_eq_true rfl, Nat.le_of_ble_eq_true rfl⟩ (Nat.le_of_ble_eq_true rfl) ⟨rfl, rfl⟩ (⟨⟨_, _, _, rfl, (Nat.le_of_ble_eq_true rfl), rfl⟩, hcb⟩) ?_
          refine R_eq 144 rfl rfl (fun h => by exact absurd h (by decide)) (fun h121 => ?_)
          refine R1 (g' := (125, _, _, _, _, _)) rfl rfl ?_
          refine R1 (g' := (126, _, _, _, _, _)) rfl rfl ?_
          refine R_getf rfl rfl (Nat.le_of_ble_eq_true rfl) rfl rfl ?_
          refine R1 (g' := (130, _, _, _, _, _)) rfl rfl ?_
          refine R1 (g' := (131, _, _, _, _, _)) rfl rfl ?_
          refine R_getf rfl rfl (Nat.le_of_ble_eq_true rfl) rfl rfl ?_
          rw [g15, g16]
          refine R_call4 (Or.inr (Or.inl ⟨rfl, rfl⟩)) rfl rfl ⟨Nat.le_of_ble_eq_true rfl, Nat.le_of_ble_eq_true rfl⟩ (Nat.le_of_ble_eq_true rfl) ⟨rfl, rfl⟩ (⟨⟨_, _, _, rfl, (Nat.le_of_ble_eq_true rfl), rfl⟩, hst⟩) ?_
          refine R_lt 144 rfl rfl (fun h => by exact absurd h (nI_pos (Nat.lt_of_le_of_lt hlen (by decide)))) (fun h137 => ?_)
          refine R1 (g' := (141, _, .int (nI 1) :: _, _, _, _)) rfl rfl ?_
          refine R1 (g' := (145, _, _, _, _, _)) rfl rfl ?_
          refine R_iret rfl ?_
          exact ⟨rfl, rfl⟩
        · refine R1 (g' := (1, _, _, _, _, _)) rfl rfl ?_
          refine R_getf rfl rfl (Nat.le_of_ble_eq_true rfl) rfl rfl ?_
          refine R1 (g' := (6, _, .int (nI 100) :: _, _, _, _)) rfl rfl ?_
          refine R_cneN 13 (117) (100) rfl rfl ((show _ = nI 117 from h14)) (rfl) (by omega) (by omega) (fun h6 => ?_) (fun h => by omega)
          refine R1 (g' := (14, _, _, _, _, _)) rfl rfl ?_
          refine R_getf rfl rfl (Nat.le_of_ble_eq_true rfl) rfl rfl ?_
          refine R1 (g' := (19, _, .int (nI 116) :: _, _, _, _)) rfl rfl ?_
          refine R_cneN 26 (117) (116) rfl rfl ((show _ = nI 117 from h14)) (rfl) (by omega) (by omega) (fun h19 => ?_) (fun h => by omega)
          refine R1 (g' := (27, _, .int (nI 2) :: _, _, _, _)) rfl rfl ?_
          refine R1 (g' := (28, _, _, _, _, _)) rfl rfl ?_
          refine R1 (g' := (29, _, _, _, _, _)) rfl rfl ?_
          refine R_getf rfl rfl (Nat.le_of_ble_eq_true rfl) rfl rfl ?_
          refine R1 (g' := (34, _, .int (nI 104) :: _, _, _, _)) rfl rfl ?_
          refine R_cneN 50 (117) (104) rfl rfl ((show _ = nI 117 from h14)) (rfl) (by omega) (by omega) (fun h34 => ?_) (fun h => by omega)
          refine R1 (g' := (51, _, _, _, _, _)) rfl rfl ?_
          refine R1 (g' := (52, _, _, _, _, _)) rfl rfl ?_
          refine R_getf rfl rfl (Nat.le_of_ble_eq_true rfl) rfl rfl ?_
          rw [hb]
          refine R_call2 (Or.inr (Or.inl ⟨rfl, rfl⟩)) rfl rfl ⟨Nat.le_of_ble_eq_true rfl, Nat.le_of_ble_eq_true rfl⟩ (Nat.le_of_ble_eq_true rfl) ⟨rfl, rfl⟩ (⟨⟨_, _, _, rfl, (Nat.le_of_ble_eq_true rfl), rfl⟩, e9_isPart i7 n1 (by omega)⟩) ?_
          rw [show xhas (nI b) (qn (s.1 143) 7) = true from by rw [xhas_nI (by omega) (by omega)]; exact decide_eq_true hbn]
          refine R_ne 63 rfl rfl (fun h58 => ?_) (fun h => by exact absurd h (by decide))
          refine R1 (g' := (64, _, _, _, _, _)) rfl rfl ?_
          refine R_getf rfl rfl (Nat.le_of_ble_eq_true rfl) rfl rfl ?_
          refine R1 (g' := (69, _, .int (nI 99) :: _, _, _, _)) rfl rfl ?_
          refine R_cneN 108 (117) (99) rfl rfl ((show _ = nI 117 from h14)) (rfl) (by omega) (by omega) (fun h69 => ?_) (fun h => by omega)
          refine R1 (g' := (109, _, _, _, _, _)) rfl rfl ?_
          refine R1 (g' := (110, _, _, _, _, _)) rfl rfl ?_
          refine R_getf rfl rfl (Nat.le_of_ble_eq_true rfl) rfl rfl ?_
          refine R1 (g' := (114, _, _, _, _, _)) rfl rfl ?_
          refine R1 (g' := (115, _, _, _, _, _)) rfl rfl ?_
          refine R_getf rfl rfl (Nat.le_of_ble_eq_true rfl) rfl rfl ?_
          rw [hb, hc]
          refine R_call4 (Or.inr (Or.inl ⟨rfl, rfl⟩)) rfl rfl ⟨Nat.le_of_ble_eq_true rfl, Nat.le_of_ble_eq_true rfl⟩ (Nat.le_of_ble_eq_true rfl) ⟨rfl, rfl⟩ (⟨⟨_, _, _, rfl, (Nat.le_of_ble_eq_true rfl), rfl⟩, hcb⟩) ?_
          refine R_eq 144 rfl rfl (fun h => by exact absurd h (by decide)) (fun h121 => ?_)
          refine R1 (g' := (125, _, _, _, _, _)) rfl rfl ?_
          refine R1 (g' := (126, _, _, _, _, _)) rfl rfl ?_
          refine R_getf rfl rfl (Nat.le_of_ble_eq_true rfl) rfl rfl ?_
          refine R1 (g' := (130, _, _, _, _, _)) rfl rfl ?_
          refine R1 (g' := (131, _, _, _, _, _)) rfl rfl ?_
          refine R_getf rfl rfl (Nat.le_of_ble_eq_true rfl) rfl rfl ?_
          rw [g15, g16]
          refine R_call4 (Or.inr (Or.inl ⟨rfl, rfl⟩)) rfl rfl ⟨Nat.le_of_ble_eq_true rfl, Nat.le_of_ble_eq_true rfl⟩ (Nat.le_of_ble_eq_true rfl) ⟨rfl, rfl⟩ (⟨⟨_, _, _, rfl, (Nat.le_of_ble_eq_true rfl), rfl⟩, hst⟩) ?_
          refine R_lt 144 rfl rfl (fun h => by exact absurd h (nI_pos (Nat.lt_of_le_of_lt hlen (by decide)))) (fun h137 => ?_)
          refine R1 (g' := (141, _, .int (nI 1) :: _, _, _, _)) rfl rfl ?_
          refine R1 (g' := (145, _, _, _, _, _)) rfl rfl ?_
          refine R_iret rfl ?_
          exact ⟨rfl, rfl⟩
      | false =>
        rw [hz] at hcb
        refine ⟨nxtI s x y, ?_, gX_N gX_rf, (fun z => absurd z (by decide)), fun _ => eN⟩
        refine ⟨Nat.le_of_ble_eq_true rfl, Nat.le_refl _, Or.inr ⟨rfl, bI_01 _⟩, ?_⟩
        rcases (show a = 0 ∨ a = 1 ∨ a = 2 by omega) with rfl | rfl | rfl
        · refine R1 (g' := (1, _, _, _, _, _)) rfl rfl ?_
          refine R_getf rfl rfl (Nat.le_of_ble_eq_true rfl) rfl rfl ?_
          refine R1 (g' := (6, _, .int (nI 100) :: _, _, _, _)) rfl rfl ?_
          refine R_cneN 13 (100) (100) rfl rfl ((show _ = nI 100 from h14)) (rfl) (by omega) (by omega) (fun h => by omega) (fun h6 => ?_)
          refine R1 (g' := (10, _, .int (nI 0) :: _, _, _, _)) rfl rfl ?_
          refine R1 (g' := (27, _, _, _, _, _)) rfl rfl ?_
          refine R1 (g' := (28, _, _, _, _, _)) rfl rfl ?_
          refine R1 (g' := (29, _, _, _, _, _)) rfl rfl ?_
          refine R_getf rfl rfl (Nat.le_of_ble_eq_true rfl) rfl rfl ?_
          refine R1 (g' := (34, _, .int (nI 104) :: _, _, _, _)) rfl rfl ?_
          refine R_cneN 50 (100) (104) rfl rfl ((show _ = nI 100 from h14)) (rfl) (by omega) (by omega) (fun h34 => ?_) (fun h => by omega)
          refine R1 (g' := (51, _, _, _, _, _)) rfl rfl ?_
          refine R1 (g' := (52, _, _, _, _, _)) rfl rfl ?_
          refine R_getf rfl rfl (Nat.le_of_ble_eq_true rfl) rfl rfl ?_
          rw [hb]
          refine R_call2 (Or.inr (Or.inl ⟨rfl, rfl⟩)) rfl rfl ⟨Nat.le_of_ble_eq_true rfl, Nat.le_of_ble_eq_true rfl⟩ (Nat.le_of_ble_eq_true rfl) ⟨rfl, rfl⟩ (⟨⟨_, _, _, rfl, (Nat.le_of_ble_eq_true rfl), rfl⟩, e9_isPart i7 n1 (by omega)⟩) ?_
          rw [show xhas (nI b) (qn (s.1 143) 7) = true from by rw [xhas_nI (by omega) (by omega)]; exact decide_eq_true hbn]
          refine R_ne 63 rfl rfl (fun h58 => ?_) (fun h => by exact absurd h (by decide))
          refine R1 (g' := (64, _, _, _, _, _)) rfl rfl ?_
          refine R_getf rfl rfl (Nat.le_of_ble_eq_true rfl) rfl rfl ?_
          refine R1 (g' := (69, _, .int (nI 99) :: _, _, _, _)) rfl rfl ?_
          refine R_cneN 108 (100) (99) rfl rfl ((show _ = nI 100 from h14)) (rfl) (by omega) (by omega) (fun h69 => ?_) (fun h => by omega)
          refine R1 (g' := (109, _, _, _, _, _)) rfl rfl ?_
          refine R1 (g' := (110, _, _, _, _, _)) rfl rfl ?_
          refine R_getf rfl rfl (Nat.le_of_ble_eq_true rfl) rfl rfl ?_
          refine R1 (g' := (114, _, _, _, _, _)) rfl rfl ?_
          refine R1 (g' := (115, _, _, _, _, _)) rfl rfl ?_
          refine R_getf rfl rfl (Nat.le_of_ble_eq_true rfl) rfl rfl ?_
          rw [hb, hc]
          refine R_call4 (Or.inr (Or.inl ⟨rfl, rfl⟩)) rfl rfl ⟨Nat.le_of_ble_eq_true rfl, Nat.le_of_ble_eq_true rfl⟩ (Nat.le_of_ble_eq_true rfl) ⟨rfl, rfl⟩ (⟨⟨_, _, _, rfl, (Nat.le_of_ble_eq_true rfl), rfl⟩, hcb⟩) ?_
          refine R_eq 144 rfl rfl (fun h121 => ?_) (fun h => by exact absurd rfl h)
          refine R1 (g' := (145, _, .int (nI 0) :: _, _, _, _)) rfl rfl ?_
          refine R_iret rfl ?_
          exact ⟨rfl, rfl⟩
        · refine R1 (g' := (1, _, _, _, _, _)) rfl rfl ?_
          refine R_getf rfl rfl (Nat.le_of_ble_eq_true rfl) rfl rfl ?_
          refine R1 (g' := (6, _, .int (nI 100) :: _, _, _, _)) rfl rfl ?_
          refine R_cneN 13 (116) (100) rfl rfl ((show _ = nI 116 from h14)) (rfl) (by omega) (by omega) (fun h6 => ?_) (fun h => by omega)
          refine R1 (g' := (14, _, _, _, _, _)) rfl rfl ?_
          refine R_getf rfl rfl (Nat.le_of_ble_eq_true rfl) rfl rfl ?_
          refine R1 (g' := (19, _, .int (nI 116) :: _, _, _, _)) rfl rfl ?_
          refine R_cneN 26 (116) (116) rfl rfl ((show _ = nI 116 from h14)) (rfl) (by omega) (by omega) (fun h => by omega) (fun h19 => ?_)
          refine R1 (g' := (23, _, .int (nI 1) :: _, _, _, _)) rfl rfl ?_
          refine R1 (g' := (27, _, _, _, _, _)) rfl rfl ?_
          refine R1 (g' := (28, _, _, _, _, _)) rfl rfl ?_
          refine R1 (g' := (29, _, _, _, _, _)) rfl rfl ?_
          refine R_getf rfl rfl (Nat.le_of_ble_eq_true rfl) rfl rfl ?_
          refine R1 (g' := (34, _, .int (nI 104) :: _, _, _, _)) rfl rfl ?_
          refine R_cneN 50 (116) (104) rfl rfl ((show _ = nI 116 from h14)) (rfl) (by omega) (by omega) (fun h34 => ?_) (fun h => by omega)
          refine R1 (g' := (51, _, _, _, _, _)) rfl rfl ?_
          refine R1 (g' := (52, _, _, _, _, _)) rfl rfl ?_
          refine R_getf rfl rfl (Nat.le_of_ble_eq_true rfl) rfl rfl ?_
          rw [hb]
          refine R_call2 (Or.inr (Or.inl ⟨rfl, rfl⟩)) rfl rfl ⟨Nat.le_of_ble_eq_true rfl, Nat.le_of_ble_eq_true rfl⟩ (Nat.le_of_ble_eq_true rfl) ⟨rfl, rfl⟩ (⟨⟨_, _, _, rfl, (Nat.le_of_ble_eq_true rfl), rfl⟩, e9_isPart i7 n1 (by omega)⟩) ?_
          rw [show xhas (nI b) (qn (s.1 143) 7) = true from by rw [xhas_nI (by omega) (by omega)]; exact decide_eq_true hbn]
          refine R_ne 63 rfl rfl (fun h58 => ?_) (fun h => by exact absurd h (by decide))
          refine R1 (g' := (64, _, _, _, _, _)) rfl rfl ?_
          refine R_getf rfl rfl (Nat.le_of_ble_eq_true rfl) rfl rfl ?_
          refine R1 (g' := (69, _, .int (nI 99) :: _, _, _, _)) rfl rfl ?_
          refine R_cneN 108 (116) (99) rfl rfl ((show _ = nI 116 from h14)) (rfl) (by omega) (by omega) (fun h69 => ?_) (fun h => by omega)
          refine R1 (g' := (109, _, _, _, _, _)) rfl rfl ?_
          refine R1 (g' := (110, _, _, _, _, _)) rfl rfl ?_
          refine R_getf rfl rfl (Nat.le_of_ble_eq_true rfl) rfl rfl ?_
          refine R1 (g' := (114, _, _, _, _, _)) rfl rfl ?_
          refine R1 (g' := (115, _, _, _, _, _)) rfl rfl ?_
          refine R_getf rfl rfl (Nat.le_of_ble_eq_true rfl) rfl rfl ?_
          rw [hb, hc]
          refine R_call4 (Or.inr (Or.inl ⟨rfl, rfl⟩)) rfl rfl ⟨Nat.le_of_ble_eq_true rfl, Nat.le_of_ble_eq_true rfl⟩ (Nat.le_of_ble_eq_true rfl) ⟨rfl, rfl⟩ (⟨⟨_, _, _, rfl, (Nat.le_of_ble_eq_true rfl), rfl⟩, hcb⟩) ?_
          refine R_eq 144 rfl rfl (fun h121 => ?_) (fun h => by exact absurd rfl h)
          refine R1 (g' := (145, _, .int (nI 0) :: _, _, _, _)) rfl rfl ?_
          refine R_iret rfl ?_
          exact ⟨rfl, rfl⟩
        · refine R1 (g' := (1, _, _, _, _, _)) rfl rfl ?_
          refine R_getf rfl rfl (Nat.le_of_ble_eq_true rfl) rfl rfl ?_
          refine R1 (g' := (6, _, .int (nI 100) :: _, _, _, _)) rfl rfl ?_
          refine R_cneN 13 (117) (100) rfl rfl ((show _ = nI 117 from h14)) (rfl) (by omega) (by omega) (fun h6 => ?_) (fun h => by omega)
          refine R1 (g' := (14, _, _, _, _, _)) rfl rfl ?_
          refine R_getf rfl rfl (Nat.le_of_ble_eq_true rfl) rfl rfl ?_
          refine R1 (g' := (19, _, .int (nI 116) :: _, _, _, _)) rfl rfl ?_
          refine R_cneN 26 (117) (116) rfl rfl ((show _ = nI 117 from h14)) (rfl) (by omega) (by omega) (fun h19 => ?_) (fun h => by omega)
          refine R1 (g' := (27, _, .int (nI 2) :: _, _, _, _)) rfl rfl ?_
          refine R1 (g' := (28, _, _, _, _, _)) rfl rfl ?_
          refine R1 (g' := (29, _, _, _, _, _)) rfl rfl ?_
          refine R_getf rfl rfl (Nat.le_of_ble_eq_true rfl) rfl rfl ?_
          refine R1 (g' := (34, _, .int (nI 104) :: _, _, _, _)) rfl rfl ?_
          refine R_cneN 50 (117) (104) rfl rfl ((show _ = nI 117 from h14)) (rfl) (by omega) (by omega) (fun h34 => ?_) (fun h => by omega)
          refine R1 (g' := (51, _, _, _, _, _)) rfl rfl ?_
          refine R1 (g' := (52, _, _, _, _, _)) rfl rfl ?_
          refine R_getf rfl rfl (Nat.le_of_ble_eq_true rfl) rfl rfl ?_
          rw [hb]
          refine R_call2 (Or.inr (Or.inl ⟨rfl, rfl⟩)) rfl rfl ⟨Nat.le_of_ble_eq_true rfl, Nat.le_of_ble_eq_true rfl⟩ (Nat.le_of_ble_eq_true rfl) ⟨rfl, rfl⟩ (⟨⟨_, _, _, rfl, (Nat.le_of_ble_eq_true rfl), rfl⟩, e9_isPart i7 n1 (by omega)⟩) ?_
          rw [show xhas (nI b) (qn (s.1 143) 7) = true from by rw [xhas_nI (by omega) (by omega)]; exact decide_eq_true hbn]
          refine R_ne 63 rfl rfl (fun h58 => ?_) (fun h => by exact absurd h (by decide))
          refine R1 (g' := (64, _, _, _, _, _)) rfl rfl ?_
          refine R_getf rfl rfl (Nat.le_of_ble_eq_true rfl) rfl rfl ?_
          refine R1 (g' := (69, _, .int (nI 99) :: _, _, _, _)) rfl rfl ?_
          refine R_cneN 108 (117) (99) rfl rfl ((show _ = nI 117 from h14)) (rfl) (by omega) (by omega) (fun h69 => ?_) (fun h => by omega)
          refine R1 (g' := (109, _, _, _, _, _)) rfl rfl ?_
          refine R1 (g' := (110, _, _, _, _, _)) rfl rfl ?_
          refine R_getf rfl rfl (Nat.le_of_ble_eq_true rfl) rfl rfl ?_
          refine R1 (g' := (114, _, _, _, _, _)) rfl rfl ?_
          refine R1 (g' := (115, _, _, _, _, _)) rfl rfl ?_
          refine R_getf rfl rfl (Nat.le_of_ble_eq_true rfl) rfl rfl ?_
          rw [hb, hc]
          refine R_call4 (Or.inr (Or.inl ⟨rfl, rfl⟩)) rfl rfl ⟨Nat.le_of_ble_eq_true rfl, Nat.le_of_ble_eq_true rfl⟩ (Nat.le_of_ble_eq_true rfl) ⟨rfl, rfl⟩ (⟨⟨_, _, _, rfl, (Nat.le_of_ble_eq_true rfl), rfl⟩, hcb⟩) ?_
          refine R_eq 144 rfl rfl (fun h121 => ?_) (fun h => by exact absurd rfl h)
          refine R1 (g' := (145, _, .int (nI 0) :: _, _, _, _)) rfl rfl ?_
          refine R_iret rfl ?_
          exact ⟨rfl, rfl⟩
    · rw [decide_eq_false hbn, Bool.false_and] at hok
      rw [hok]
      refine ⟨s, ?_, gX_rf, (fun z => absurd z (by decide)), fun _ => rfl⟩
      refine ⟨Nat.le_of_ble_eq_true rfl, Nat.le_refl _, Or.inr ⟨rfl, bI_01 _⟩, ?_⟩
      rcases (show a = 0 ∨ a = 1 ∨ a = 2 by omega) with rfl | rfl | rfl
      · refine R1 (g' := (1, _, _, _, _, _)) rfl rfl ?_
        refine R_getf rfl rfl (Nat.le_of_ble_eq_true rfl) rfl rfl ?_
        refine R1 (g' := (6, _, .int (nI 100) :: _, _, _, _)) rfl rfl ?_
        refine R_cneN 13 (100) (100) rfl rfl ((show _ = nI 100 from h14)) (rfl) (by omega) (by omega) (fun h => by omega) (fun h6 => ?_)
        refine R1 (g' := (10, _, .int (nI 0) :: _, _, _, _)) rfl rfl ?_
        refine R1 (g' := (27, _, _, _, _, _)) rfl rfl ?_
        refine R1 (g' := (28, _, _, _, _, _)) rfl rfl ?_
        refine R1 (g' := (29, _, _, _, _, _)) rfl rfl ?_
        refine R_getf rfl rfl (Nat.le_of_ble_eq_true rfl) rfl rfl ?_
        refine R1 (g' := (34, _, .int (nI 104) :: _, _, _, _)) rfl rfl ?_
        refine R_cneN 50 (100) (104) rfl rfl ((show _ = nI 100 from h14)) (rfl) (by omega) (by omega) (fun h34 => ?_) (fun h => by omega)
        refine R1 (g' := (51, _, _, _, _, _)) rfl rfl ?_
        refine R1 (g' := (52, _, _, _, _, _)) rfl rfl ?_
        refine R_getf rfl rfl (Nat.le_of_ble_eq_true rfl) rfl rfl ?_
        rw [hb]
        refine R_call2 (Or.inr (Or.inl ⟨rfl, rfl⟩)) rfl rfl ⟨Nat.le_of_ble_eq_true rfl, Nat.le_of_ble_eq_true rfl⟩ (Nat.le_of_ble_eq_true rfl) ⟨rfl, rfl⟩ (⟨⟨_, _, _, rfl, (Nat.le_of_ble_eq_true rfl), rfl⟩, e9_isPart i7 n1 (by omega)⟩) ?_
        rw [show xhas (nI b) (qn (s.1 143) 7) = false from by rw [xhas_nI (by omega) (by omega)]; exact decide_eq_false hbn]
        refine R_ne 63 rfl rfl (fun h => by exact absurd rfl h) (fun h58 => ?_)
        refine R1 (g' := (62, _, .int (nI 0) :: _, _, _, _)) rfl rfl ?_
        refine R_iret rfl ?_
        exact ⟨rfl, rfl⟩
      · refine R1 (g' := (1, _, _, _, _, _)) rfl rfl ?_
        refine R_getf rfl rfl (Nat.le_of_ble_eq_true rfl) rfl rfl ?_
        refine R1 (g' := (6, _, .int (nI 100) :: _, _, _, _)) rfl rfl ?_
        refine R_cneN 13 (116) (100) rfl rfl ((show _ = nI 116 from h14)) (rfl) (by omega) (by omega) (fun h6 => ?_) (fun h => by omega)
        refine R1 (g' := (14, _, _, _, _, _)) rfl rfl ?_
        refine R_getf rfl rfl (Nat.le_of_ble_eq_true rfl) rfl rfl ?_
        refine R1 (g' := (19, _, .int (nI 116) :: _, _, _, _)) rfl rfl ?_
        refine R_cneN 26 (116) (116) rfl rfl ((show _ = nI 116 from h14)) (rfl) (by omega) (by omega) (fun h => by omega) (fun h19 => ?_)
        refine R1 (g' := (23, _, .int (nI 1) :: _, _, _, _)) rfl rfl ?_
        refine R1 (g' := (27, _, _, _, _, _)) rfl rfl ?_
        refine R1 (g' := (28, _, _, _, _, _)) rfl rfl ?_
        refine R1 (g' := (29, _, _, _, _, _)) rfl rfl ?_
        refine R_getf rfl rfl (Nat.le_of_ble_eq_true rfl) rfl rfl ?_
        refine R1 (g' := (34, _, .int (nI 104) :: _, _, _, _)) rfl rfl ?_
        refine R_cneN 50 (116) (104) rfl rfl ((show _ = nI 116 from h14)) (rfl) (by omega) (by omega) (fun h34 => ?_) (fun h => by omega)
        refine R1 (g' := (51, _, _, _, _, _)) rfl rfl ?_
        refine R1 (g' := (52, _, _, _, _, _)) rfl rfl ?_
        refine R_getf rfl rfl (Nat.le_of_ble_eq_true rfl) rfl rfl ?_
        rw [hb]
        refine R_call2 (Or.inr (Or.inl ⟨rfl, rfl⟩)) rfl rfl ⟨Nat.le_of_ble_eq_true rfl, Nat.le_of_ble_eq_true rfl⟩ (Nat.le_of_ble_eq_true rfl) ⟨rfl, rfl⟩ (⟨⟨_, _, _, rfl, (Nat.le_of_ble_eq_true rfl), rfl⟩, e9_isPart i7 n1 (by omega)⟩) ?_
        rw [show xhas (nI b) (qn (s.1 143) 7) = false from by rw [xhas_nI (by omega) (by omega)]; exact decide_eq_false hbn]
        refine R_ne 63 rfl rfl (fun h => by exact absurd rfl h) (fun h58 => ?_)
        refine R1 (g' := (62, _, .int (nI 0) :: _, _, _, _)) rfl rfl ?_
        refine R_iret rfl ?_
        exact ⟨rfl, rfl⟩
      · refine R1 (g' := (1, _, _, _, _, _)) rfl rfl ?_
        refine R_getf rfl rfl (Nat.le_of_ble_eq_true rfl) rfl rfl ?_
        refine R1 (g' := (6, _, .int (nI 100) :: _, _, _, _)) rfl rfl ?_
        refine R_cneN 13 (117) (100) rfl rfl ((show _ = nI 117 from h14)) (rfl) (by omega) (by omega) (fun h6 => ?_) (fun h => by omega)
        refine R1 (g' := (14, _, _, _, _, _)) rfl rfl ?_
        refine R_getf rfl rfl (Nat.le_of_ble_eq_true rfl) rfl rfl ?_
        refine R1 (g' := (19, _, .int (nI 116) :: _, _, _, _)) rfl rfl ?_
        refine R_cneN 26 (117) (116) rfl rfl ((show _ = nI 117 from h14)) (rfl) (by omega) (by omega) (fun h19 => ?_) (fun h => by omega)
        refine R1 (g' := (27, _, .int (nI 2) :: _, _, _, _)) rfl rfl ?_
        refine R1 (g' := (28, _, _, _, _, _)) rfl rfl ?_
        refine R1 (g' := (29, _, _, _, _, _)) rfl rfl ?_
        refine R_getf rfl rfl (Nat.le_of_ble_eq_true rfl) rfl rfl ?_
        refine R1 (g' := (34, _, .int (nI 104) :: _, _, _, _)) rfl rfl ?_
        refine R_cneN 50 (117) (104) rfl rfl ((show _ = nI 117 from h14)) (rfl) (by omega) (by omega) (fun h34 => ?_) (fun h => by omega)
        refine R1 (g' := (51, _, _, _, _, _)) rfl rfl ?_
        refine R1 (g' := (52, _, _, _, _, _)) rfl rfl ?_
        refine R_getf rfl rfl (Nat.le_of_ble_eq_true rfl) rfl rfl ?_
        rw [hb]
        refine R_call2 (Or.inr (Or.inl ⟨rfl, rfl⟩)) rfl rfl ⟨Nat.le_of_ble_eq_true rfl, Nat.le_of_ble_eq_true rfl⟩ (Nat.le_of_ble_eq_true rfl) ⟨rfl, rfl⟩ (⟨⟨_, _, _, rfl, (Nat.le_of_ble_eq_true rfl), rfl⟩, e9_isPart i7 n1 (by omega)⟩) ?_
        rw [show xhas (nI b) (qn (s.1 143) 7) = false from by rw [xhas_nI (by omega) (by omega)]; exact decide_eq_false hbn]
        refine R_ne 63 rfl rfl (fun h => by exact absurd rfl h) (fun h58 => ?_)
        refine R1 (g' := (62, _, .int (nI 0) :: _, _, _, _)) rfl rfl ?_
        refine R_iret rfl ?_
        exact ⟨rfl, rfl⟩
