def K6 (s : xs) (c : Nat) (s' : xs) : Prop := (∀ i, i ≠ 142 → i ≠ 145 → s'.1 i = s.1 i) ∧ (∀ j, j ≠ 3 → j ≠ 6 → s'.1 142 j = s.1 142 j) ∧ s'.1 142 6 = nI 0 ∧ s'.1 142 3 = nI (cN4 c) ∧ (∀ j, j < cN4 c → ∀ q, q < 73 → pg s' j q = wN (pg s) c (s.1 143) j q) ∧ s'.2 = s.2
theorem r_keep6 {s : xs} {c : Nat} (hc4 : c ≤ 4) (hc : s.1 142 3 = nI c) : ∃ s', Ev_X9_keep [.ref 142] (wd (put s 142 6 (nI 0))) (.inl none) (wd s') ∧ K6 s c s' := by
  obtain ⟨s', hev, h1, h2, h3⟩ := r_keep (s := put s 142 6 (nI 0)) hc4 ((put6o (by decide)).trans hc)
  refine ⟨s', hev, fun i a b => (h3.1 i a b).trans (put6n a), fun j a b => (h3.2.1 j a).trans (put6o b), (h3.2.1 6 (by decide)).trans put6, h1, fun j hj q hq => (h2 j hj q hq).trans ?_, h3.2.2⟩
  rw [put6n (by decide)]
  have ep : pg (put s 142 6 (nI 0)) = pg s := by
    funext j q
    unfold pg
    rw [put6n (by decide)]
  rw [ep]
theorem Rl_mut {s s1 s2 s3 s5 : xs} {π : Nat → Nat} {c : Nat} {Q : Nat → Int32} (hT : RlT s) (hc : c ≤ 4) (h1 : xhi s1 π) (h2 : s1.1 41 0 = nI (cN4 c)) (h3 : HS s1 π (cN4 c) (wN (pg s) c (s.1 143))) (h4 : ∀ i, (i < 41 ∨ 122 < i) → s1.1 i = s.1 i) (o1 : ∀ i, 20 < i → s2.1 i = s1.1 i) (o2 : s2.2.1 42 = s1.2.1 42) (hp : pRel s2 1 Q) (hi : pInv Q) (K : K6 s2 c s3) (x : gX s3 s5) (r1 : s5.1 143 = Q) : Rl s5 ∧ s5.1 142 6 = nI 0 := by
  obtain ⟨k1, k2, k3, k4, k5, k6⟩ := K
  have e143 : s2.1 143 = s.1 143 := (o1 143 (by decide)).trans (h4 143 (by decide))
  have epg : pg s2 = pg s := by
    funext j q
    unfold pg
    rw [o1 145 (by decide), h4 145 (by decide)]
  rw [e143, epg] at k5
  refine ⟨Rl_step (s := s) (s1 := s1) (s2 := s2) hT hc h1 h2 h3 h4 o1 o2 hp hi r1 ((x.2.1 3 (by decide) (by decide)).trans k4) (fun j hj q hq => ?_) (fun i a => (x.1 i (by omega) (by omega)).trans (k1 i (by omega) (by omega))) ?_ ?_ ?_, (x.2.1 6 (by decide) (by decide)).trans k3⟩
  · rw [← k5 j hj q hq]
    unfold pg
    rw [x.1 145 (by decide) (by decide)]
  · rw [x.2.2, k6]
  · rw [x.2.1 5 (by decide) (by decide), k2 5 (by decide) (by decide), o1 142 (by decide), h4 142 (by decide)]
  · rw [x.1 146 (by decide) (by decide), k1 146 (by decide) (by decide), o1 146 (by decide), h4 146 (by decide)]
theorem pr_heat {s : xs} (h : Rl s) : Pair Ev_X8_heat Ev_X9_heat [.ref 0] [.ref 142] [] s := by
  obtain ⟨hp, hi, ⟨π, c, k1, k2, k3, k4, k5⟩, hT⟩ := h
  obtain ⟨s1, π', hev, g1, g2, g3, g4, g5⟩ := c_save k1 k2 k3 k5 hp hi
  have hp1 : pRel s1 1 (s.1 143) := pRel_fr (fun i a b => g4 i (Or.inl (by omega))) hp
  have n8 := hi.1.2.2
  have i7 := hp1.1.1.1.trans hi.1.1
  obtain ⟨w1, w2⟩ := r_heat (n := qn (s.1 143) 7) hp1.1 n8
  have hw := e_warmUp xbar_2 i7 n8
  rw [w2] at hw
  have wo : sOut 2 9 s1 (sWarm s1 2 (qn (s.1 143) 7)) := bOut_warm2
  obtain ⟨s3, hk, K⟩ := r_keep6 (s := sWarm s1 2 (qn (s.1 143) 7)) k2 ((by rw [wo.1 142 (by decide), g4 142 (by decide)]; exact k4))
  have e143 : s3.1 143 = s.1 143 := by rw [K.1 143 (by decide) (by decide), wo.1 143 (by decide), g4 143 (by decide)]
  have hh := e9_heats (s := s3) (n := qn (s.1 143) 7) (by rw [e143]; exact hi.1.1) n8
  rw [e143] at hh
  obtain ⟨f1, f2⟩ := Rl_mut (Q := qHeat (s.1 143) (qn (s.1 143) 7)) hT k2 g1 g2 g3 g4 (fun i a => wo.1 i (by omega)) (by rw [wo.2]) ⟨w1, tRel_fr (fun i a b => wo.1 i (by omega)) (tRel_cg hp1.2 rfl rfl rfl rfl rfl (by simp [qHeat, qHot]) (fun i a b => by simp only [qHeat, qHot]; (repeat (first | rw [if_pos (by omega)] | rw [if_neg (by omega)]))))⟩ (i_heat hi) K (gX_P gX_rf) (setP_at _ _ _)
  refine ⟨_, sWarm s1 2 (qn (s.1 143) 7), csum (qLoss (s.1 143)) (qn (s.1 143) 7), setP s3 143 (qHeat (s.1 143) (qn (s.1 143) 7)), ?_, ?_, f1, Or.inl ⟨rfl, f2⟩⟩
  · refine ⟨Nat.le_of_ble_eq_true rfl, Nat.le_refl _, Or.inl rfl, ?_⟩
    refine R1 (g' := (1, _, _, _, _, _)) rfl rfl ?_
    refine R_getf rfl rfl (Nat.le_of_ble_eq_true rfl) rfl rfl ?_
    refine R1 (g' := (5, _, _, _, _, _)) rfl rfl ?_
    refine R_getf rfl rfl (Nat.le_of_ble_eq_true rfl) rfl rfl ?_
    refine R_call2 (Or.inr (Or.inl ⟨rfl, rfl⟩)) rfl rfl ⟨Nat.le_of_ble_eq_true rfl, Nat.le_of_ble_eq_true rfl⟩ (Nat.le_of_ble_eq_true rfl) ⟨rfl, rfl⟩ (⟨⟨_, _, _, rfl, (Nat.le_of_ble_eq_true rfl), rfl⟩, hev⟩) ?_
    refine R1 (g' := (12, _, _, _, _, _)) rfl rfl ?_
    refine R_getf rfl rfl (Nat.le_of_ble_eq_true rfl) rfl rfl ?_
    refine R_getf rfl rfl (Nat.le_of_ble_eq_true rfl) rfl rfl ?_
    refine R_call1 (Or.inr (Or.inl ⟨rfl, rfl⟩)) rfl rfl ⟨Nat.le_of_ble_eq_true rfl, Nat.le_of_ble_eq_true rfl⟩ (Nat.le_of_ble_eq_true rfl) ⟨rfl, rfl⟩ (⟨⟨_, _, _, rfl, (Nat.le_of_ble_eq_true rfl), rfl⟩, hw⟩) ?_
    refine R_iret rfl ?_
    exact ⟨rfl, rfl⟩
  · refine ⟨Nat.le_of_ble_eq_true rfl, Nat.le_refl _, Or.inl rfl, ?_⟩
    refine R1 (g' := (1, _, _, _, _, _)) rfl rfl ?_
    refine R1 (g' := (2, _, .int (nI 0) :: _, _, _, _)) rfl rfl ?_
    refine R_put rfl rfl (Nat.le_of_ble_eq_true rfl) rfl (Nat.le_of_ble_eq_true rfl) ⟨_, rfl, Or.inl rfl, _, rfl, rfl⟩ rfl ?_
    change xRun _ _ (5, _, _, wd (put (sWarm s1 2 (qn (s.1 143) 7)) 142 6 (nI 0)), _, _)
    refine R1 (g' := (6, _, _, _, _, _)) rfl rfl ?_
    refine R_call1 (Or.inr (Or.inl ⟨rfl, rfl⟩)) rfl rfl ⟨Nat.le_of_ble_eq_true rfl, Nat.le_of_ble_eq_true rfl⟩ (Nat.le_of_ble_eq_true rfl) ⟨rfl, rfl⟩ (⟨⟨_, _, _, rfl, (Nat.le_of_ble_eq_true rfl), rfl⟩, hk⟩) ?_
    refine R1 (g' := (10, _, _, _, _, _)) rfl rfl ?_
    refine R_call1 (Or.inr (Or.inl ⟨rfl, rfl⟩)) rfl rfl ⟨Nat.le_of_ble_eq_true rfl, Nat.le_of_ble_eq_true rfl⟩ (Nat.le_of_ble_eq_true rfl) ⟨rfl, rfl⟩ (⟨⟨_, _, _, rfl, (Nat.le_of_ble_eq_true rfl), rfl⟩, hh⟩) ?_
    refine R_iret rfl ?_
    exact ⟨rfl, rfl⟩
