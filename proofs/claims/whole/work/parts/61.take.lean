theorem bOut_begin {s : xs} {w h v : Int32} : sOut 2 9 s (sBegin s 2 w h v) := sOut_put (sOut_put (sOut_put (sOut_put (sOut_put (sOut_put (sOut_put (sOut_put (sOut_put (sOut_put (sOut_put (sOut_rf) (by decide) (by decide)) (by decide) (by decide)) (by decide) (by decide)) (by decide) (by decide)) (by decide) (by decide)) (by decide) (by decide)) (by decide) (by decide)) (by decide) (by decide)) (by decide) (by decide)) (by decide) (by decide)) (by decide) (by decide)
theorem pr_take {s : xs} {w h v : Int32} (hR : Rl s) : Pair Ev_X8_take Ev_X9_take [.ref 0, .int w, .int h, .int v] [.ref 142, .int w, .int h, .int v] ["java/lang/IllegalArgumentException"] s := by
  cases k1 : inI w (nI 5) (nI 100) with
  | false =>
    have ks : okS2 w h = false := by unfold okS2; rw [k1, Bool.false_and]
    refine Pair_x (s1 := s) (s2 := s) 0 "java/lang/IllegalArgumentException" rfl ?_ ?_ hR
    · refine ⟨Nat.le_of_ble_eq_true rfl, Nat.le_refl _, trivial, ?_⟩
      refine R1 (g' := (1, _, _, _, _, _)) rfl rfl ?_
      refine R1 (g' := (2, _, _, _, _, _)) rfl rfl ?_
      refine R_call2X (Or.inl ⟨rfl, rfl⟩) rfl rfl ⟨Nat.le_of_ble_eq_true rfl, Nat.le_of_ble_eq_true rfl⟩ (Nat.le_of_ble_eq_true rfl) ⟨rfl, rfl⟩ (e8_sidesX ks) rfl ?_
      exact ⟨rfl, rfl⟩
    · refine ⟨Nat.le_of_ble_eq_true rfl, Nat.le_refl _, Or.inl rfl, ?_⟩
      refine R1 (g' := (1, _, _, _, _, _)) rfl rfl ?_
      refine R1 (g' := (2, _, _, _, _, _)) rfl rfl ?_
      refine R_call1 (Or.inl ⟨rfl, rfl⟩) rfl rfl ⟨Nat.le_of_ble_eq_true rfl, Nat.le_of_ble_eq_true rfl⟩ (Nat.le_of_ble_eq_true rfl) ⟨rfl, rfl⟩ (e9_isSize) ?_
      rw [k1]
      refine R_eq 29 rfl rfl (fun h5 => ?_) (fun h => by exact absurd rfl h)
      refine R1 (g' := (30, _, .int (nI 1) :: _, _, _, _)) rfl rfl ?_
      refine R_put rfl rfl (Nat.le_of_ble_eq_true rfl) rfl (Nat.le_of_ble_eq_true rfl) ⟨_, rfl, Or.inl rfl, _, rfl, rfl⟩ rfl ?_
      change xRun _ _ (33, _, _, wd (put s 142 6 (nI 1)), _, _)
      refine R1 (g' := (34, _, _, _, _, _)) rfl rfl ?_
      refine R_getf rfl rfl (Nat.le_of_ble_eq_true rfl) rfl rfl ?_
      rw [put6]
      refine R_eq 42 rfl rfl (fun h => by exact absurd h (by decide)) (fun h37 => ?_)
      refine R1 (g' := (41, _, .int (nI 0) :: _, _, _, _)) rfl rfl ?_
      refine R_iret rfl ?_
      exact ⟨rfl, rfl⟩
  | true =>
    cases k2 : inI h (nI 5) (nI 100) with
    | false =>
      have ks : okS2 w h = false := by unfold okS2; rw [k1, k2]; rfl
      refine Pair_x (s1 := s) (s2 := s) 0 "java/lang/IllegalArgumentException" rfl ?_ ?_ hR
      · refine ⟨Nat.le_of_ble_eq_true rfl, Nat.le_refl _, trivial, ?_⟩
        refine R1 (g' := (1, _, _, _, _, _)) rfl rfl ?_
        refine R1 (g' := (2, _, _, _, _, _)) rfl rfl ?_
        refine R_call2X (Or.inl ⟨rfl, rfl⟩) rfl rfl ⟨Nat.le_of_ble_eq_true rfl, Nat.le_of_ble_eq_true rfl⟩ (Nat.le_of_ble_eq_true rfl) ⟨rfl, rfl⟩ (e8_sidesX ks) rfl ?_
        exact ⟨rfl, rfl⟩
      · refine ⟨Nat.le_of_ble_eq_true rfl, Nat.le_refl _, Or.inl rfl, ?_⟩
        refine R1 (g' := (1, _, _, _, _, _)) rfl rfl ?_
        refine R1 (g' := (2, _, _, _, _, _)) rfl rfl ?_
        refine R_call1 (Or.inl ⟨rfl, rfl⟩) rfl rfl ⟨Nat.le_of_ble_eq_true rfl, Nat.le_of_ble_eq_true rfl⟩ (Nat.le_of_ble_eq_true rfl) ⟨rfl, rfl⟩ (e9_isSize) ?_
        rw [k1]
        refine R_eq 29 rfl rfl (fun h => by exact absurd h (by decide)) (fun h5 => ?_)
        refine R1 (g' := (9, _, _, _, _, _)) rfl rfl ?_
        refine R_call1 (Or.inl ⟨rfl, rfl⟩) rfl rfl ⟨Nat.le_of_ble_eq_true rfl, Nat.le_of_ble_eq_true rfl⟩ (Nat.le_of_ble_eq_true rfl) ⟨rfl, rfl⟩ (e9_isSize) ?_
        rw [k2]
        refine R_eq 29 rfl rfl (fun h12 => ?_) (fun h => by exact absurd rfl h)
        refine R1 (g' := (30, _, .int (nI 1) :: _, _, _, _)) rfl rfl ?_
        refine R_put rfl rfl (Nat.le_of_ble_eq_true rfl) rfl (Nat.le_of_ble_eq_true rfl) ⟨_, rfl, Or.inl rfl, _, rfl, rfl⟩ rfl ?_
        change xRun _ _ (33, _, _, wd (put s 142 6 (nI 1)), _, _)
        refine R1 (g' := (34, _, _, _, _, _)) rfl rfl ?_
        refine R_getf rfl rfl (Nat.le_of_ble_eq_true rfl) rfl rfl ?_
        rw [put6]
        refine R_eq 42 rfl rfl (fun h => by exact absurd h (by decide)) (fun h37 => ?_)
        refine R1 (g' := (41, _, .int (nI 0) :: _, _, _, _)) rfl rfl ?_
        refine R_iret rfl ?_
        exact ⟨rfl, rfl⟩
    | true =>
      have ks : okS2 w h = true := by unfold okS2; rw [k1, k2]; rfl
      cases k3 : inI v (nI 1) (nI 9000000) with
      | false =>
        refine Pair_x (s1 := s) (s2 := s) 0 "java/lang/IllegalArgumentException" rfl ?_ ?_ hR
        · refine ⟨Nat.le_of_ble_eq_true rfl, Nat.le_refl _, trivial, ?_⟩
          refine R1 (g' := (1, _, _, _, _, _)) rfl rfl ?_
          refine R1 (g' := (2, _, _, _, _, _)) rfl rfl ?_
          refine R_call2 (Or.inl ⟨rfl, rfl⟩) rfl rfl ⟨Nat.le_of_ble_eq_true rfl, Nat.le_of_ble_eq_true rfl⟩ (Nat.le_of_ble_eq_true rfl) ⟨rfl, rfl⟩ (e8_sides ks) ?_
          refine R1 (g' := (6, _, _, _, _, _)) rfl rfl ?_
          refine R1 (g' := (7, _, .int (nI 1) :: _, _, _, _)) rfl rfl ?_
          refine R1 (g' := (9, _, .int (nI 9000000) :: _, _, _, _)) rfl rfl ?_
          refine R_call3X (Or.inl ⟨rfl, rfl⟩) rfl rfl ⟨Nat.le_of_ble_eq_true rfl, Nat.le_of_ble_eq_true rfl⟩ (Nat.le_of_ble_eq_true rfl) ⟨rfl, rfl⟩ (e8_rangeX k3) rfl ?_
          exact ⟨rfl, rfl⟩
        · refine ⟨Nat.le_of_ble_eq_true rfl, Nat.le_refl _, Or.inl rfl, ?_⟩
          refine R1 (g' := (1, _, _, _, _, _)) rfl rfl ?_
          refine R1 (g' := (2, _, _, _, _, _)) rfl rfl ?_
          refine R_call1 (Or.inl ⟨rfl, rfl⟩) rfl rfl ⟨Nat.le_of_ble_eq_true rfl, Nat.le_of_ble_eq_true rfl⟩ (Nat.le_of_ble_eq_true rfl) ⟨rfl, rfl⟩ (e9_isSize) ?_
          rw [k1]
          refine R_eq 29 rfl rfl (fun h => by exact absurd h (by decide)) (fun h5 => ?_)
          refine R1 (g' := (9, _, _, _, _, _)) rfl rfl ?_
          refine R_call1 (Or.inl ⟨rfl, rfl⟩) rfl rfl ⟨Nat.le_of_ble_eq_true rfl, Nat.le_of_ble_eq_true rfl⟩ (Nat.le_of_ble_eq_true rfl) ⟨rfl, rfl⟩ (e9_isSize) ?_
          rw [k2]
          refine R_eq 29 rfl rfl (fun h => by exact absurd h (by decide)) (fun h12 => ?_)
          refine R1 (g' := (16, _, _, _, _, _)) rfl rfl ?_
          refine R1 (g' := (17, _, .int (nI 1) :: _, _, _, _)) rfl rfl ?_
          refine R1 (g' := (19, _, .int (nI 9000000) :: _, _, _, _)) rfl rfl ?_
          refine R_call3 (Or.inl ⟨rfl, rfl⟩) rfl rfl ⟨Nat.le_of_ble_eq_true rfl, Nat.le_of_ble_eq_true rfl⟩ (Nat.le_of_ble_eq_true rfl) ⟨rfl, rfl⟩ (e9_in) ?_
          rw [k3]
          refine R_eq 29 rfl rfl (fun h22 => ?_) (fun h => by exact absurd rfl h)
          refine R1 (g' := (30, _, .int (nI 1) :: _, _, _, _)) rfl rfl ?_
          refine R_put rfl rfl (Nat.le_of_ble_eq_true rfl) rfl (Nat.le_of_ble_eq_true rfl) ⟨_, rfl, Or.inl rfl, _, rfl, rfl⟩ rfl ?_
          change xRun _ _ (33, _, _, wd (put s 142 6 (nI 1)), _, _)
          refine R1 (g' := (34, _, _, _, _, _)) rfl rfl ?_
          refine R_getf rfl rfl (Nat.le_of_ble_eq_true rfl) rfl rfl ?_
          rw [put6]
          refine R_eq 42 rfl rfl (fun h => by exact absurd h (by decide)) (fun h37 => ?_)
          refine R1 (g' := (41, _, .int (nI 0) :: _, _, _, _)) rfl rfl ?_
          refine R_iret rfl ?_
          exact ⟨rfl, rfl⟩
      | true =>
        obtain ⟨a, b, rfl, rfl, a1, a2, b1, b2, ra, rb⟩ := okS2_of ks
        obtain ⟨v, rfl, v1, v2⟩ := inI_of (by decide) k3 (by decide)
        obtain ⟨s1, c, hc4, hc, hev, hp1, hv⟩ := Rl_sv hR
        have wo : sOut 2 9 s1 (sBegin s1 2 (nI a) (nI b) (nI v)) := bOut_begin
        have hb : bRel (sBegin s1 2 (nI a) (nI b) (nI v)) 2 (qBegin (s.1 143) (nI a) (nI b) (nI v)) := r_begin hp1.1
        have hi2 : pInv (qBegin (s.1 143) (nI a) (nI b) (nI v)) := i_begin hR.2.1 ra rb v1 v2
        have hq0 := hi2.2.2.2.2.1 0 (by have := hi2.1.2.1; omega)
        obtain ⟨s3, hk, K⟩ := r_keep6 (s := (sBegin s1 2 (nI a) (nI b) (nI v))) hc4 (sv_3 hv (Sx_lo wo (by decide) (by decide)) hc)
        have e3 : s3.1 143 = s.1 143 := (K6_q K).trans (sv_q hv (Sx_lo wo (by decide) (by decide)))
        have hbg := e9_begins (s := s3) (w := nI a) (h := nI b) (v := nI v)
        rw [e3] at hbg
        refine Pair_t (s1 := (sBegin s1 2 (nI a) (nI b) (nI v))) (s2 := setP s3 143 (qBegin (s.1 143) (nI a) (nI b) (nI v))) (v := nI (qLen (qBegin (s.1 143) (nI a) (nI b) (nI v)) 0)) ?_ ?_ (mutB hR hc4 hv hp1 wo hb (by simp [qBegin]) (fun i a b => by simp only [qBegin]; (repeat (first | rw [if_pos (by omega)] | rw [if_neg (by omega)]))) hi2 Sx_rf K (gX_P gX_rf) (setP_at _ _ _))
        · refine ⟨Nat.le_of_ble_eq_true rfl, Nat.le_refl _, Or.inl rfl, ?_⟩
          refine R1 (g' := (1, _, _, _, _, _)) rfl rfl ?_
          refine R1 (g' := (2, _, _, _, _, _)) rfl rfl ?_
          refine R_call2 (Or.inl ⟨rfl, rfl⟩) rfl rfl ⟨Nat.le_of_ble_eq_true rfl, Nat.le_of_ble_eq_true rfl⟩ (Nat.le_of_ble_eq_true rfl) ⟨rfl, rfl⟩ (e8_sides ks) ?_
          refine R1 (g' := (6, _, _, _, _, _)) rfl rfl ?_
          refine R1 (g' := (7, _, .int (nI 1) :: _, _, _, _)) rfl rfl ?_
          refine R1 (g' := (9, _, .int (nI 9000000) :: _, _, _, _)) rfl rfl ?_
          refine R_call3 (Or.inl ⟨rfl, rfl⟩) rfl rfl ⟨Nat.le_of_ble_eq_true rfl, Nat.le_of_ble_eq_true rfl⟩ (Nat.le_of_ble_eq_true rfl) ⟨rfl, rfl⟩ (e8_range k3) ?_
          refine R1 (g' := (13, _, _, _, _, _)) rfl rfl ?_
          refine R_getf rfl rfl (Nat.le_of_ble_eq_true rfl) rfl rfl ?_
          refine R1 (g' := (17, _, _, _, _, _)) rfl rfl ?_
          refine R_getf rfl rfl (Nat.le_of_ble_eq_true rfl) rfl rfl ?_
          refine R_call2 (Or.inr (Or.inl ⟨rfl, rfl⟩)) rfl rfl ⟨Nat.le_of_ble_eq_true rfl, Nat.le_of_ble_eq_true rfl⟩ (Nat.le_of_ble_eq_true rfl) ⟨rfl, rfl⟩ (⟨⟨_, _, _, rfl, (Nat.le_of_ble_eq_true rfl), rfl⟩, hev⟩) ?_
          refine R1 (g' := (24, _, _, _, _, _)) rfl rfl ?_
          refine R_getf rfl rfl (Nat.le_of_ble_eq_true rfl) rfl rfl ?_
          refine R_getf rfl rfl (Nat.le_of_ble_eq_true rfl) rfl rfl ?_
          refine R1 (g' := (31, _, _, _, _, _)) rfl rfl ?_
          refine R1 (g' := (32, _, _, _, _, _)) rfl rfl ?_
          refine R1 (g' := (33, _, _, _, _, _)) rfl rfl ?_
          refine R_call4 (Or.inr (Or.inl ⟨rfl, rfl⟩)) rfl rfl ⟨Nat.le_of_ble_eq_true rfl, Nat.le_of_ble_eq_true rfl⟩ (Nat.le_of_ble_eq_true rfl) ⟨rfl, rfl⟩ (⟨⟨_, _, _, rfl, (Nat.le_of_ble_eq_true rfl), rfl⟩, e_begin xbar_2⟩) ?_
          refine R1 (g' := (37, _, _, _, _, _)) rfl rfl ?_
          refine R_getf rfl rfl (Nat.le_of_ble_eq_true rfl) rfl rfl ?_
          refine R_getf rfl rfl (Nat.le_of_ble_eq_true rfl) rfl rfl ?_
          refine R1 (g' := (44, _, .int (nI 0) :: _, _, _, _)) rfl rfl ?_
          refine R_call2 (Or.inr (Or.inl ⟨rfl, rfl⟩)) rfl rfl ⟨Nat.le_of_ble_eq_true rfl, Nat.le_of_ble_eq_true rfl⟩ (Nat.le_of_ble_eq_true rfl) ⟨rfl, rfl⟩ (⟨⟨_, _, _, rfl, (Nat.le_of_ble_eq_true rfl), rfl⟩, c_lengthOf hb hq0 (by decide)⟩) ?_
          refine R_iret rfl ?_
          exact ⟨rfl, rfl⟩
        · refine ⟨Nat.le_of_ble_eq_true rfl, Nat.le_refl _, Or.inl rfl, ?_⟩
          refine R1 (g' := (1, _, _, _, _, _)) rfl rfl ?_
          refine R1 (g' := (2, _, _, _, _, _)) rfl rfl ?_
          refine R_call1 (Or.inl ⟨rfl, rfl⟩) rfl rfl ⟨Nat.le_of_ble_eq_true rfl, Nat.le_of_ble_eq_true rfl⟩ (Nat.le_of_ble_eq_true rfl) ⟨rfl, rfl⟩ (e9_isSize) ?_
          rw [k1]
          refine R_eq 29 rfl rfl (fun h => by exact absurd h (by decide)) (fun h5 => ?_)
          refine R1 (g' := (9, _, _, _, _, _)) rfl rfl ?_
          refine R_call1 (Or.inl ⟨rfl, rfl⟩) rfl rfl ⟨Nat.le_of_ble_eq_true rfl, Nat.le_of_ble_eq_true rfl⟩ (Nat.le_of_ble_eq_true rfl) ⟨rfl, rfl⟩ (e9_isSize) ?_
          rw [k2]
          refine R_eq 29 rfl rfl (fun h => by exact absurd h (by decide)) (fun h12 => ?_)
          refine R1 (g' := (16, _, _, _, _, _)) rfl rfl ?_
          refine R1 (g' := (17, _, .int (nI 1) :: _, _, _, _)) rfl rfl ?_
          refine R1 (g' := (19, _, .int (nI 9000000) :: _, _, _, _)) rfl rfl ?_
          refine R_call3 (Or.inl ⟨rfl, rfl⟩) rfl rfl ⟨Nat.le_of_ble_eq_true rfl, Nat.le_of_ble_eq_true rfl⟩ (Nat.le_of_ble_eq_true rfl) ⟨rfl, rfl⟩ (e9_in) ?_
          rw [k3]
          refine R_eq 29 rfl rfl (fun h => by exact absurd h (by decide)) (fun h22 => ?_)
          refine R1 (g' := (26, _, .int (nI 0) :: _, _, _, _)) rfl rfl ?_
          refine R1 (g' := (30, _, _, _, _, _)) rfl rfl ?_
          refine R_put rfl rfl (Nat.le_of_ble_eq_true rfl) rfl (Nat.le_of_ble_eq_true rfl) ⟨_, rfl, Or.inl rfl, _, rfl, rfl⟩ rfl ?_
          change xRun _ _ (33, _, _, wd (put (sBegin s1 2 (nI a) (nI b) (nI v)) 142 6 (nI 0)), _, _)
          refine R1 (g' := (34, _, _, _, _, _)) rfl rfl ?_
          refine R_getf rfl rfl (Nat.le_of_ble_eq_true rfl) rfl rfl ?_
          rw [put6]
          refine R_eq 42 rfl rfl (fun h37 => ?_) (fun h => by exact absurd (by decide) h)
          refine R1 (g' := (43, _, _, _, _, _)) rfl rfl ?_
          refine R_call1 (Or.inr (Or.inl ⟨rfl, rfl⟩)) rfl rfl ⟨Nat.le_of_ble_eq_true rfl, Nat.le_of_ble_eq_true rfl⟩ (Nat.le_of_ble_eq_true rfl) ⟨rfl, rfl⟩ (⟨⟨_, _, _, rfl, (Nat.le_of_ble_eq_true rfl), rfl⟩, hk⟩) ?_
          refine R1 (g' := (47, _, _, _, _, _)) rfl rfl ?_
          refine R1 (g' := (48, _, _, _, _, _)) rfl rfl ?_
          refine R1 (g' := (49, _, _, _, _, _)) rfl rfl ?_
          refine R1 (g' := (50, _, _, _, _, _)) rfl rfl ?_
          refine R_call4 (Or.inr (Or.inl ⟨rfl, rfl⟩)) rfl rfl ⟨Nat.le_of_ble_eq_true rfl, Nat.le_of_ble_eq_true rfl⟩ (Nat.le_of_ble_eq_true rfl) ⟨rfl, rfl⟩ (⟨⟨_, _, _, rfl, (Nat.le_of_ble_eq_true rfl), rfl⟩, hbg⟩) ?_
          refine R1 (g' := (54, _, _, _, _, _)) rfl rfl ?_
          refine R1 (g' := (55, _, .int (nI 0) :: _, _, _, _)) rfl rfl ?_
          refine R_call2 (Or.inr (Or.inl ⟨rfl, rfl⟩)) rfl rfl ⟨Nat.le_of_ble_eq_true rfl, Nat.le_of_ble_eq_true rfl⟩ (Nat.le_of_ble_eq_true rfl) ⟨rfl, rfl⟩ (⟨⟨_, _, _, rfl, (Nat.le_of_ble_eq_true rfl), rfl⟩, r_lengthOf (by decide) hq0⟩) ?_
          refine R_iret rfl ?_
          exact ⟨rfl, rfl⟩
theorem pz {t n : Nat} (ht : t ≤ 1250) (hn : n ≤ 60) : (if nI 20 < nI t - nI n * nI 20 then nI t - nI n * nI 20 else nI 20) = nI (qCl t (20 * n)) := by
  rw [pk_mul, Nat.mul_comm n 20]
  unfold qCl
  by_cases z : t < 20 + 20 * n
  · rw [if_pos z, if_neg ?_]
    intro hlt
    rw [Int32.lt_iff_toInt_lt, nI_toInt (by decide), pk_sub_toInt (by omega) (by omega)] at hlt
    omega
  · rw [if_neg z, pk_sub (by omega)]
    by_cases y : nI 20 < nI (t - 20 * n)
    · rw [if_pos y]
    · rw [if_neg y]
      rw [nI_ltI (by decide) (by omega)] at y
      rw [show t - 20 * n = 20 by omega]
theorem qCl_b {t n : Nat} (ht : t ≤ 1250) : 20 ≤ qCl t n ∧ (20 ≤ t → qCl t n ≤ 1250) := by
  unfold qCl
  split <;> omega
theorem pr_pause {s : xs} {x : Int32} (hR : Rl s) : Pair Ev_X8_pause Ev_X9_pause [.ref 0, .int x] [.ref 142, .int x] ["java/lang/IllegalArgumentException"] s := by
  cases k : inI x (nI 1) (nI 60) with
  | false =>
    refine Pair_x (s1 := s) (s2 := s) 0 "java/lang/IllegalArgumentException" rfl ?_ ?_ hR
    · refine ⟨Nat.le_of_ble_eq_true rfl, Nat.le_refl _, trivial, ?_⟩
      refine R1 (g' := (1, _, _, _, _, _)) rfl rfl ?_
      refine R1 (g' := (2, _, .int (nI 1) :: _, _, _, _)) rfl rfl ?_
      refine R1 (g' := (4, _, .int (nI 60) :: _, _, _, _)) rfl rfl ?_
      refine R_call3X (Or.inl ⟨rfl, rfl⟩) rfl rfl ⟨Nat.le_of_ble_eq_true rfl, Nat.le_of_ble_eq_true rfl⟩ (Nat.le_of_ble_eq_true rfl) ⟨rfl, rfl⟩ (e8_rangeX k) rfl ?_
      exact ⟨rfl, rfl⟩
    · refine ⟨Nat.le_of_ble_eq_true rfl, Nat.le_refl _, Or.inl rfl, ?_⟩
      refine R1 (g' := (1, _, _, _, _, _)) rfl rfl ?_
      refine R1 (g' := (2, _, _, _, _, _)) rfl rfl ?_
      refine R1 (g' := (3, _, .int (nI 1) :: _, _, _, _)) rfl rfl ?_
      refine R1 (g' := (5, _, .int (nI 60) :: _, _, _, _)) rfl rfl ?_
      refine R_call3 (Or.inl ⟨rfl, rfl⟩) rfl rfl ⟨Nat.le_of_ble_eq_true rfl, Nat.le_of_ble_eq_true rfl⟩ (Nat.le_of_ble_eq_true rfl) ⟨rfl, rfl⟩ (e9_in) ?_
      rw [k]
      refine R_eq 15 rfl rfl (fun h8 => ?_) (fun h => by exact absurd rfl h)
      refine R1 (g' := (16, _, .int (nI 1) :: _, _, _, _)) rfl rfl ?_
      refine R_put rfl rfl (Nat.le_of_ble_eq_true rfl) rfl (Nat.le_of_ble_eq_true rfl) ⟨_, rfl, Or.inl rfl, _, rfl, rfl⟩ rfl ?_
      change xRun _ _ (19, _, _, wd (put s 142 6 (nI 1)), _, _)
      refine R1 (g' := (20, _, _, _, _, _)) rfl rfl ?_
      refine R_getf rfl rfl (Nat.le_of_ble_eq_true rfl) rfl rfl ?_
      rw [put6]
      refine R_eq 28 rfl rfl (fun h => by exact absurd h (by decide)) (fun h23 => ?_)
      refine R1 (g' := (27, _, .int (nI 0) :: _, _, _, _)) rfl rfl ?_
      refine R_iret rfl ?_
      exact ⟨rfl, rfl⟩
  | true =>
    obtain ⟨n, rfl, n1, n2⟩ := inI_of (by decide) k (by decide)
    obtain ⟨i0, t1, t2⟩ := hR.2.1.2.2.1
    obtain ⟨s1, c, hc4, hc, hev, hp1, hv⟩ := Rl_sv hR
    have ew : s1.1 2 1 = nI (qn (s.1 143) 0) := hp1.1.1.2.1.trans i0
    have wo : sOut 2 9 s1 (put s1 2 1 (nI (qCl (qn (s.1 143) 0) (20 * n)))) := sOut_put sOut_rf (by decide) (by decide)
    have hb : bRel (put s1 2 1 (nI (qCl (qn (s.1 143) 0) (20 * n)))) 2 (upd (s.1 143) 0 (nI (qCl (qn (s.1 143) 0) (20 * n)))) := bRel_put hp1.1 (Or.inl ⟨rfl, rfl⟩)
    have qb := qCl_b (n := 20 * n) t2
    have hi2 : pInv (upd (s.1 143) 0 (nI (qCl (qn (s.1 143) 0) (20 * n)))) := i_upd0 hR.2.1 qb.1 (qb.2 t1)
    obtain ⟨s3, hk, K⟩ := r_keep6 (s := (put s1 2 1 (nI (qCl (qn (s.1 143) 0) (20 * n))))) hc4 (sv_3 hv (Sx_lo wo (by decide) (by decide)) hc)
    have e3 : s3.1 143 = s.1 143 := (K6_q K).trans (sv_q hv (Sx_lo wo (by decide) (by decide)))
    have hcl := e9_cools (s := s3) (t := qn (s.1 143) 0) (c := 20 * n) (by rw [e3]; exact i0) (by omega) (by omega)
    rw [e3] at hcl
    refine Pair_t (s1 := (put s1 2 1 (nI (qCl (qn (s.1 143) 0) (20 * n))))) (s2 := setP s3 143 (upd (s.1 143) 0 (nI (qCl (qn (s.1 143) 0) (20 * n))))) (v := nI (qCl (qn (s.1 143) 0) (20 * n))) ?_ ?_ (mutB hR hc4 hv hp1 wo hb (pk_un (by decide)) (fun i a b => pk_un (by omega)) hi2 Sx_rf K (gX_P gX_rf) (setP_at _ _ _))
    · refine ⟨Nat.le_of_ble_eq_true rfl, Nat.le_refl _, Or.inl rfl, ?_⟩
      refine R1 (g' := (1, _, _, _, _, _)) rfl rfl ?_
      refine R1 (g' := (2, _, .int (nI 1) :: _, _, _, _)) rfl rfl ?_
      refine R1 (g' := (4, _, .int (nI 60) :: _, _, _, _)) rfl rfl ?_
      refine R_call3 (Or.inl ⟨rfl, rfl⟩) rfl rfl ⟨Nat.le_of_ble_eq_true rfl, Nat.le_of_ble_eq_true rfl⟩ (Nat.le_of_ble_eq_true rfl) ⟨rfl, rfl⟩ (e8_range k) ?_
      refine R1 (g' := (8, _, _, _, _, _)) rfl rfl ?_
      refine R_getf rfl rfl (Nat.le_of_ble_eq_true rfl) rfl rfl ?_
      refine R1 (g' := (12, _, _, _, _, _)) rfl rfl ?_
      refine R_getf rfl rfl (Nat.le_of_ble_eq_true rfl) rfl rfl ?_
      refine R_call2 (Or.inr (Or.inl ⟨rfl, rfl⟩)) rfl rfl ⟨Nat.le_of_ble_eq_true rfl, Nat.le_of_ble_eq_true rfl⟩ (Nat.le_of_ble_eq_true rfl) ⟨rfl, rfl⟩ (⟨⟨_, _, _, rfl, (Nat.le_of_ble_eq_true rfl), rfl⟩, hev⟩) ?_
      refine R1 (g' := (19, _, _, _, _, _)) rfl rfl ?_
      refine R_getf rfl rfl (Nat.le_of_ble_eq_true rfl) rfl rfl ?_
      refine R_getf rfl rfl (Nat.le_of_ble_eq_true rfl) rfl rfl ?_
      refine R1 (g' := (27, _, .int (nI 20) :: _, _, _, _)) rfl rfl ?_
      refine R1 (g' := (28, _, _, _, _, _)) rfl rfl ?_
      refine R_getf rfl rfl (Nat.le_of_ble_eq_true rfl) rfl rfl ?_
      refine R_getf rfl rfl (Nat.le_of_ble_eq_true rfl) rfl rfl ?_
      refine R_getf rfl rfl (Nat.le_of_ble_eq_true rfl) rfl rfl ?_
      rw [ew]
      refine R1 (g' := (38, _, _, _, _, _)) rfl rfl ?_
      refine R1 (g' := (40, _, .int (nI 20) :: _, _, _, _)) rfl rfl ?_
      refine R1 (g' := (41, _, _, _, _, _)) rfl rfl ?_
      refine R1 (g' := (42, _, _, _, _, _)) rfl rfl ?_
      refine R_call2 (Or.inl ⟨rfl, rfl⟩) rfl rfl ⟨Nat.le_of_ble_eq_true rfl, Nat.le_of_ble_eq_true rfl⟩ (Nat.le_of_ble_eq_true rfl) ⟨rfl, rfl⟩ (⟨_, _, rfl, rfl, rfl⟩) ?_
      rw [pz t2 n2]
      refine R_put rfl rfl (Nat.le_of_ble_eq_true rfl) rfl (Nat.le_of_ble_eq_true rfl) ⟨_, rfl, Or.inl rfl, _, rfl, rfl⟩ rfl ?_
      refine R1 (g' := (49, _, _, _, _, _)) rfl rfl ?_
      refine R_getf rfl rfl (Nat.le_of_ble_eq_true rfl) rfl rfl ?_
      refine R_getf rfl rfl (Nat.le_of_ble_eq_true rfl) rfl rfl ?_
      refine R_getf rfl rfl (Nat.le_of_ble_eq_true rfl) rfl rfl ?_
      refine R_iret rfl ?_
      exact ⟨o_i (by rw [setP_at]; exact pk_us), rfl⟩
    · refine ⟨Nat.le_of_ble_eq_true rfl, Nat.le_refl _, Or.inl rfl, ?_⟩
      refine R1 (g' := (1, _, _, _, _, _)) rfl rfl ?_
      refine R1 (g' := (2, _, _, _, _, _)) rfl rfl ?_
      refine R1 (g' := (3, _, .int (nI 1) :: _, _, _, _)) rfl rfl ?_
      refine R1 (g' := (5, _, .int (nI 60) :: _, _, _, _)) rfl rfl ?_
      refine R_call3 (Or.inl ⟨rfl, rfl⟩) rfl rfl ⟨Nat.le_of_ble_eq_true rfl, Nat.le_of_ble_eq_true rfl⟩ (Nat.le_of_ble_eq_true rfl) ⟨rfl, rfl⟩ (e9_in) ?_
      rw [k]
      refine R_eq 15 rfl rfl (fun h => by exact absurd h (by decide)) (fun h8 => ?_)
      refine R1 (g' := (12, _, .int (nI 0) :: _, _, _, _)) rfl rfl ?_
      refine R1 (g' := (16, _, _, _, _, _)) rfl rfl ?_
      refine R_put rfl rfl (Nat.le_of_ble_eq_true rfl) rfl (Nat.le_of_ble_eq_true rfl) ⟨_, rfl, Or.inl rfl, _, rfl, rfl⟩ rfl ?_
      change xRun _ _ (19, _, _, wd (put (put s1 2 1 (nI (qCl (qn (s.1 143) 0) (20 * n)))) 142 6 (nI 0)), _, _)
      refine R1 (g' := (20, _, _, _, _, _)) rfl rfl ?_
      refine R_getf rfl rfl (Nat.le_of_ble_eq_true rfl) rfl rfl ?_
      rw [put6]
      refine R_eq 28 rfl rfl (fun h23 => ?_) (fun h => by exact absurd (by decide) h)
      refine R1 (g' := (29, _, _, _, _, _)) rfl rfl ?_
      refine R_call1 (Or.inr (Or.inl ⟨rfl, rfl⟩)) rfl rfl ⟨Nat.le_of_ble_eq_true rfl, Nat.le_of_ble_eq_true rfl⟩ (Nat.le_of_ble_eq_true rfl) ⟨rfl, rfl⟩ (⟨⟨_, _, _, rfl, (Nat.le_of_ble_eq_true rfl), rfl⟩, hk⟩) ?_
      refine R1 (g' := (33, _, _, _, _, _)) rfl rfl ?_
      refine R1 (g' := (35, _, .int (nI 20) :: _, _, _, _)) rfl rfl ?_
      refine R1 (g' := (36, _, _, _, _, _)) rfl rfl ?_
      refine R1 (g' := (37, _, _, _, _, _)) rfl rfl ?_
      rw [pk_mul]
      refine R_call2 (Or.inr (Or.inl ⟨rfl, rfl⟩)) rfl rfl ⟨Nat.le_of_ble_eq_true rfl, Nat.le_of_ble_eq_true rfl⟩ (Nat.le_of_ble_eq_true rfl) ⟨rfl, rfl⟩ (⟨⟨_, _, _, rfl, (Nat.le_of_ble_eq_true rfl), rfl⟩, hcl⟩) ?_
      refine R1 (g' := (41, _, _, _, _, _)) rfl rfl ?_
      refine R_getf rfl rfl (Nat.le_of_ble_eq_true rfl) rfl rfl ?_
      refine R1 (g' := (45, _, .int (nI 0) :: _, _, _, _)) rfl rfl ?_
      refine R_iald 0 rfl (Nat.le_of_ble_eq_true rfl) rfl (by decide) (by decide) rfl ?_
      refine R_iret rfl ?_
      exact ⟨o_i (by rw [setP_at, pk_us]), rfl⟩
theorem bRel_cg8 {s : xs} {p : Nat} {Q Q2 : Nat → Int32} (h : ∀ q, q < 41 → q ≠ 8 → Q2 q = Q q) (k : bRel s p Q) : bRel s p Q2 := by
  obtain ⟨⟨b0, b1, b2, b3, b4, b5, b6, b7⟩, br⟩ := k
  refine ⟨⟨b0.trans (h 7 (by decide) (by decide)).symm, b1.trans (h 0 (by decide) (by decide)).symm, b2.trans (h 1 (by decide) (by decide)).symm, b3.trans (h 2 (by decide) (by decide)).symm, b4.trans (h 3 (by decide) (by decide)).symm, b5.trans (h 4 (by decide) (by decide)).symm, b6.trans (h 5 (by decide) (by decide)).symm, b7.trans (h 6 (by decide) (by decide)).symm⟩, fun j hj => ?_⟩
  obtain ⟨r1, r2, r3, r4⟩ := br j hj
  exact ⟨r1.trans (h _ (by omega) (by omega)).symm, r2.trans (h _ (by omega) (by omega)).symm, r3.trans (h _ (by omega) (by omega)).symm, r4.trans (h _ (by omega) (by omega)).symm⟩
/-- a call that changes the steps -/
theorem mutT {s s1 s2 s2' s3 s5 : xs} {c : Nat} {Q2 : Nat → Int32} (hR : Rl s) (hc : c ≤ 4) (v : SV s s1 c) (hp : pRel s1 1 (s.1 143)) (wo : sOut 12 8 s1 s2) (hb : tRel s2 12 Q2) (hq : ∀ q, q < 41 → q ≠ 8 → Q2 q = s.1 143 q) (hi : pInv Q2) (g : Sx 0 s2 s2') (K : K6 s2' c s3) (x : gX s3 s5) (r1 : s5.1 143 = Q2) : Rl s5 ∧ s5.1 142 6 = nI 0 :=
  mutR hR hc v (Sx_tr (Sx_lo wo (by decide) (by decide)) (Sx_up (Nat.zero_le _) g)) (pRel_Sx g ⟨bRel_cg8 hq (bRel_fr (fun i a b => wo.1 i (by omega)) hp.1), hb⟩) hi K x r1
theorem pr_clearSteps {s : xs} (hR : Rl s) : Pair Ev_X8_clearSteps Ev_X9_clearSteps [.ref 0] [.ref 142] [] s := by
  obtain ⟨s1, c, hc4, hc, hev, hp1, hv⟩ := Rl_sv hR
  have et : s1.1 12 0 = s.1 143 8 := hp1.2.1
  have wo : sOut 12 8 s1 (put s1 12 0 (nI 0)) := sOut_put sOut_rf (by decide) (by decide)
  have hb : tRel (put s1 12 0 (nI 0)) 12 (upd (s.1 143) 8 (nI 0)) := by
    refine ⟨by rw [put_val, if_pos rfl, if_pos rfl, pk_us], fun k hk => ?_⟩
    obtain ⟨r1, r2, r3, r4⟩ := hp1.2.2 k hk
    rw [put_ne _ _ (by decide), put_ne _ _ (by decide), put_ne _ _ (by decide), put_ne _ _ (by decide), pk_un (by omega), pk_un (by omega), pk_un (by omega), pk_un (by omega)]
    exact ⟨r1, r2, r3, r4⟩
  have hi2 : pInv (upd (s.1 143) 8 (nI 0)) := i_upd8 hR.2.1
  obtain ⟨s3, hk, K⟩ := r_keep6 (s := (put s1 12 0 (nI 0))) hc4 (sv_3 hv (Sx_lo wo (by decide) (by decide)) hc)
  have e3 : s3.1 143 = s.1 143 := (K6_q K).trans (sv_q hv (Sx_lo wo (by decide) (by decide)))
  refine Pair_t (s1 := (put s1 12 0 (nI 0))) (s2 := setP s3 143 (upd (s.1 143) 8 (nI 0))) (v := s.1 143 8) ?_ ?_ (mutT hR hc4 hv hp1 wo hb (fun i a b => pk_un b) hi2 Sx_rf K (gX_P gX_rf) (setP_at _ _ _))
  · refine ⟨Nat.le_of_ble_eq_true rfl, Nat.le_refl _, Or.inl rfl, ?_⟩
    refine R1 (g' := (1, _, _, _, _, _)) rfl rfl ?_
    refine R_getf rfl rfl (Nat.le_of_ble_eq_true rfl) rfl rfl ?_
    refine R1 (g' := (5, _, _, _, _, _)) rfl rfl ?_
    refine R_getf rfl rfl (Nat.le_of_ble_eq_true rfl) rfl rfl ?_
    refine R_call2 (Or.inr (Or.inl ⟨rfl, rfl⟩)) rfl rfl ⟨Nat.le_of_ble_eq_true rfl, Nat.le_of_ble_eq_true rfl⟩ (Nat.le_of_ble_eq_true rfl) ⟨rfl, rfl⟩ (⟨⟨_, _, _, rfl, (Nat.le_of_ble_eq_true rfl), rfl⟩, hev⟩) ?_
    refine R1 (g' := (12, _, _, _, _, _)) rfl rfl ?_
    refine R_getf rfl rfl (Nat.le_of_ble_eq_true rfl) rfl rfl ?_
    refine R_getf rfl rfl (Nat.le_of_ble_eq_true rfl) rfl rfl ?_
    refine R_getf rfl rfl (Nat.le_of_ble_eq_true rfl) rfl rfl ?_
    rw [et]
    refine R1 (g' := (22, _, _, _, _, _)) rfl rfl ?_
    refine R1 (g' := (23, _, _, _, _, _)) rfl rfl ?_
    refine R_getf rfl rfl (Nat.le_of_ble_eq_true rfl) rfl rfl ?_
    refine R_getf rfl rfl (Nat.le_of_ble_eq_true rfl) rfl rfl ?_
    refine R1 (g' := (30, _, .int (nI 0) :: _, _, _, _)) rfl rfl ?_
    refine R_put rfl rfl (Nat.le_of_ble_eq_true rfl) rfl (Nat.le_of_ble_eq_true rfl) ⟨_, rfl, Or.inl rfl, _, rfl, rfl⟩ rfl ?_
    refine R1 (g' := (34, _, _, _, _, _)) rfl rfl ?_
    refine R_iret rfl ?_
    exact ⟨rfl, rfl⟩
  · refine ⟨Nat.le_of_ble_eq_true rfl, Nat.le_refl _, Or.inl rfl, ?_⟩
    refine R1 (g' := (1, _, _, _, _, _)) rfl rfl ?_
    refine R1 (g' := (2, _, .int (nI 0) :: _, _, _, _)) rfl rfl ?_
    refine R_put rfl rfl (Nat.le_of_ble_eq_true rfl) rfl (Nat.le_of_ble_eq_true rfl) ⟨_, rfl, Or.inl rfl, _, rfl, rfl⟩ rfl ?_
    change xRun _ _ (5, _, _, wd (put (put s1 12 0 (nI 0)) 142 6 (nI 0)), _, _)
    refine R1 (g' := (6, _, _, _, _, _)) rfl rfl ?_
    refine R_call1 (Or.inr (Or.inl ⟨rfl, rfl⟩)) rfl rfl ⟨Nat.le_of_ble_eq_true rfl, Nat.le_of_ble_eq_true rfl⟩ (Nat.le_of_ble_eq_true rfl) ⟨rfl, rfl⟩ (⟨⟨_, _, _, rfl, (Nat.le_of_ble_eq_true rfl), rfl⟩, hk⟩) ?_
    refine R1 (g' := (10, _, _, _, _, _)) rfl rfl ?_
    refine R_getf rfl rfl (Nat.le_of_ble_eq_true rfl) rfl rfl ?_
    refine R1 (g' := (15, _, .int (nI 8) :: _, _, _, _)) rfl rfl ?_
    refine R_iald 8 rfl (Nat.le_of_ble_eq_true rfl) rfl (by decide) (by decide) rfl ?_
    rw [e3]
    refine R1 (g' := (17, _, _, _, _, _)) rfl rfl ?_
    refine R1 (g' := (18, _, _, _, _, _)) rfl rfl ?_
    refine R_getf rfl rfl (Nat.le_of_ble_eq_true rfl) rfl rfl ?_
    refine R1 (g' := (23, _, .int (nI 8) :: _, _, _, _)) rfl rfl ?_
    refine R1 (g' := (24, _, .int (nI 0) :: _, _, _, _)) rfl rfl ?_
    refine R_iast 8 rfl (Nat.le_of_ble_eq_true rfl) (fun _ => rfl) (by decide) (by decide) rfl ?_
    rw [e3]
    refine R1 (g' := (26, _, _, _, _, _)) rfl rfl ?_
    refine R_iret rfl ?_
    exact ⟨rfl, rfl⟩
theorem bOut_tell {s : xs} {m : Nat} {w h x l : Int32} : sOut 12 8 s (sTell s 12 m w h x l) := sOut_put (sOut_put (sOut_put (sOut_put (sOut_put sOut_rf (by decide) (by decide)) (by decide) (by decide)) (by decide) (by decide)) (by decide) (by decide)) (by decide) (by decide)
theorem qTell_eq {Q : Nat → Int32} {m : Nat} {w h x l : Int32} (hm : m < 8) : upd (upd (upd (upd (upd Q (41 + 4 * m) w) (41 + 4 * m + 1) h) (41 + 4 * m + 2) x) (41 + 4 * m + 3) l) 8 (nI (m + 1)) = qTell Q m w h x l := by
  funext i
  simp only [upd, qTell]
  by_cases h1 : i = 41 + 4 * m
  · (repeat (first | rw [if_pos (by omega)] | rw [if_neg (by omega)]))
  · by_cases h2 : i = 42 + 4 * m
    · (repeat (first | rw [if_pos (by omega)] | rw [if_neg (by omega)]))
    · by_cases h3 : i = 43 + 4 * m
      · (repeat (first | rw [if_pos (by omega)] | rw [if_neg (by omega)]))
      · by_cases h4 : i = 44 + 4 * m
        · (repeat (first | rw [if_pos (by omega)] | rw [if_neg (by omega)]))
        · by_cases h5 : i = 8
          · (repeat (first | rw [if_pos (by omega)] | rw [if_neg (by omega)]))
          · (repeat (first | rw [if_pos (by omega)] | rw [if_neg (by omega)]))
theorem pr_tellStep {s : xs} {w h t x : Int32} (hR : Rl s) : Pair Ev_X8_tellStep Ev_X9_tellStep [.ref 0, .int w, .int h, .int t, .int x] [.ref 142, .int w, .int h, .int t, .int x] ["java/lang/IllegalArgumentException", "java/lang/IllegalStateException"] s := by
  obtain ⟨i8, m8⟩ := hR.2.1.2.1
  have et : s.1 12 0 = nI (qn (s.1 143) 8) := hR.1.2.1.trans i8
  cases k1 : okW w h t with
  | false =>
    refine Pair_x (s1 := s) (s2 := s) 0 "java/lang/IllegalArgumentException" rfl ?_ ?_ hR
    · refine ⟨Nat.le_of_ble_eq_true rfl, Nat.le_refl _, trivial, ?_⟩
      refine R1 (g' := (1, _, _, _, _, _)) rfl rfl ?_
      refine R1 (g' := (2, _, _, _, _, _)) rfl rfl ?_
      refine R1 (g' := (3, _, _, _, _, _)) rfl rfl ?_
      refine R_call3X (Or.inl ⟨rfl, rfl⟩) rfl rfl ⟨Nat.le_of_ble_eq_true rfl, Nat.le_of_ble_eq_true rfl⟩ (Nat.le_of_ble_eq_true rfl) ⟨rfl, rfl⟩ (e8_wishX k1) rfl ?_
      exact ⟨rfl, rfl⟩
    · refine ⟨Nat.le_of_ble_eq_true rfl, Nat.le_refl _, Or.inl rfl, ?_⟩
      refine R1 (g' := (1, _, _, _, _, _)) rfl rfl ?_
      refine R1 (g' := (2, _, _, _, _, _)) rfl rfl ?_
      refine R1 (g' := (3, _, _, _, _, _)) rfl rfl ?_
      refine R1 (g' := (4, _, _, _, _, _)) rfl rfl ?_
      refine R_call3 (Or.inl ⟨rfl, rfl⟩) rfl rfl ⟨Nat.le_of_ble_eq_true rfl, Nat.le_of_ble_eq_true rfl⟩ (Nat.le_of_ble_eq_true rfl) ⟨rfl, rfl⟩ (e9_isWish) ?_
      rw [k1]
      refine R_eq 22 rfl rfl (fun h7 => ?_) (fun h => by exact absurd rfl h)
      refine R1 (g' := (23, _, .int (nI 1) :: _, _, _, _)) rfl rfl ?_
      refine R1 (g' := (43, _, _, _, _, _)) rfl rfl ?_
      refine R_put rfl rfl (Nat.le_of_ble_eq_true rfl) rfl (Nat.le_of_ble_eq_true rfl) ⟨_, rfl, Or.inl rfl, _, rfl, rfl⟩ rfl ?_
      change xRun _ _ (46, _, _, wd (put s 142 6 (nI 1)), _, _)
      refine R1 (g' := (47, _, _, _, _, _)) rfl rfl ?_
      refine R_getf rfl rfl (Nat.le_of_ble_eq_true rfl) rfl rfl ?_
      rw [put6]
      refine R_eq 55 rfl rfl (fun h => by exact absurd h (by decide)) (fun h50 => ?_)
      refine R1 (g' := (54, _, .int (nI 0) :: _, _, _, _)) rfl rfl ?_
      refine R_iret rfl ?_
      exact ⟨rfl, rfl⟩
  | true =>
    cases k2 : inI x (nI 0) (nI 9999) with
    | false =>
      refine Pair_x (s1 := s) (s2 := s) 0 "java/lang/IllegalArgumentException" rfl ?_ ?_ hR
      · refine ⟨Nat.le_of_ble_eq_true rfl, Nat.le_refl _, trivial, ?_⟩
        refine R1 (g' := (1, _, _, _, _, _)) rfl rfl ?_
        refine R1 (g' := (2, _, _, _, _, _)) rfl rfl ?_
        refine R1 (g' := (3, _, _, _, _, _)) rfl rfl ?_
        refine R_call3 (Or.inl ⟨rfl, rfl⟩) rfl rfl ⟨Nat.le_of_ble_eq_true rfl, Nat.le_of_ble_eq_true rfl⟩ (Nat.le_of_ble_eq_true rfl) ⟨rfl, rfl⟩ (e8_wish k1) ?_
        refine R1 (g' := (8, _, _, _, _, _)) rfl rfl ?_
        refine R1 (g' := (9, _, .int (nI 0) :: _, _, _, _)) rfl rfl ?_
        refine R1 (g' := (12, _, .int (nI 9999) :: _, _, _, _)) rfl rfl ?_
        refine R_call3X (Or.inl ⟨rfl, rfl⟩) rfl rfl ⟨Nat.le_of_ble_eq_true rfl, Nat.le_of_ble_eq_true rfl⟩ (Nat.le_of_ble_eq_true rfl) ⟨rfl, rfl⟩ (e8_rangeX k2) rfl ?_
        exact ⟨rfl, rfl⟩
      · refine ⟨Nat.le_of_ble_eq_true rfl, Nat.le_refl _, Or.inl rfl, ?_⟩
        refine R1 (g' := (1, _, _, _, _, _)) rfl rfl ?_
        refine R1 (g' := (2, _, _, _, _, _)) rfl rfl ?_
        refine R1 (g' := (3, _, _, _, _, _)) rfl rfl ?_
        refine R1 (g' := (4, _, _, _, _, _)) rfl rfl ?_
        refine R_call3 (Or.inl ⟨rfl, rfl⟩) rfl rfl ⟨Nat.le_of_ble_eq_true rfl, Nat.le_of_ble_eq_true rfl⟩ (Nat.le_of_ble_eq_true rfl) ⟨rfl, rfl⟩ (e9_isWish) ?_
        rw [k1]
        refine R_eq 22 rfl rfl (fun h => by exact absurd h (by decide)) (fun h7 => ?_)
        refine R1 (g' := (12, _, _, _, _, _)) rfl rfl ?_
        refine R1 (g' := (13, _, .int (nI 0) :: _, _, _, _)) rfl rfl ?_
        refine R1 (g' := (16, _, .int (nI 9999) :: _, _, _, _)) rfl rfl ?_
        refine R_call3 (Or.inl ⟨rfl, rfl⟩) rfl rfl ⟨Nat.le_of_ble_eq_true rfl, Nat.le_of_ble_eq_true rfl⟩ (Nat.le_of_ble_eq_true rfl) ⟨rfl, rfl⟩ (e9_in) ?_
        rw [k2]
        refine R_ne 26 rfl rfl (fun h => by exact absurd rfl h) (fun h19 => ?_)
        refine R1 (g' := (23, _, .int (nI 1) :: _, _, _, _)) rfl rfl ?_
        refine R1 (g' := (43, _, _, _, _, _)) rfl rfl ?_
        refine R_put rfl rfl (Nat.le_of_ble_eq_true rfl) rfl (Nat.le_of_ble_eq_true rfl) ⟨_, rfl, Or.inl rfl, _, rfl, rfl⟩ rfl ?_
        change xRun _ _ (46, _, _, wd (put s 142 6 (nI 1)), _, _)
        refine R1 (g' := (47, _, _, _, _, _)) rfl rfl ?_
        refine R_getf rfl rfl (Nat.le_of_ble_eq_true rfl) rfl rfl ?_
        rw [put6]
        refine R_eq 55 rfl rfl (fun h => by exact absurd h (by decide)) (fun h50 => ?_)
        refine R1 (g' := (54, _, .int (nI 0) :: _, _, _, _)) rfl rfl ?_
        refine R_iret rfl ?_
        exact ⟨rfl, rfl⟩
    | true =>
      by_cases hm : qn (s.1 143) 8 < 8
      · obtain ⟨a, b, d, rfl, rfl, rfl, a1, a2, b1, b2, d9, ra, rb⟩ := okW_of k1
        obtain ⟨l, rfl, l1, l2⟩ := inI_of (by decide) k2 (by decide)
        obtain ⟨s1, c, hc4, hc, hev, hp1, hv⟩ := Rl_sv hR
        have et1 : s1.1 12 0 = nI (qn (s.1 143) 8) := hp1.2.1.trans i8
        have wo : sOut 12 8 s1 (sTell s1 12 (qn (s.1 143) 8) (nI a) (nI b) (nI d) (nI l)) := bOut_tell
        have hb : tRel (sTell s1 12 (qn (s.1 143) 8) (nI a) (nI b) (nI d) (nI l)) 12 (qTell (s.1 143) (qn (s.1 143) 8) (nI a) (nI b) (nI d) (nI l)) := r_tell hp1.2 i8 hm
        have hi2 : pInv (qTell (s.1 143) (qn (s.1 143) 8) (nI a) (nI b) (nI d) (nI l)) := i_tell hR.2.1 hm ra rb d9 l2
        obtain ⟨s3, hk, K⟩ := r_keep6 (s := (sTell s1 12 (qn (s.1 143) 8) (nI a) (nI b) (nI d) (nI l))) hc4 (sv_3 hv (Sx_lo wo (by decide) (by decide)) hc)
        have e2 : (sTell s1 12 (qn (s.1 143) 8) (nI a) (nI b) (nI d) (nI l)).1 143 = s.1 143 := sv_q hv (Sx_lo wo (by decide) (by decide))
        have e3 : s3.1 143 = s.1 143 := (K6_q K).trans e2
        have q8 : (qTell (s.1 143) (qn (s.1 143) 8) (nI a) (nI b) (nI d) (nI l)) 8 = nI (qn (s.1 143) 8 + 1) := by rw [← qTell_eq hm]; exact pk_us
        refine Pair_t (s1 := (sTell s1 12 (qn (s.1 143) 8) (nI a) (nI b) (nI d) (nI l))) (s2 := setP s3 143 (qTell (s.1 143) (qn (s.1 143) 8) (nI a) (nI b) (nI d) (nI l))) (v := nI (qn (s.1 143) 8)) ?_ ?_ (mutT hR hc4 hv hp1 wo hb (fun i a b => by simp only [qTell]; (repeat (first | rw [if_pos (by omega)] | rw [if_neg (by omega)]))) hi2 Sx_rf K (gX_P gX_rf) (setP_at _ _ _))
        · refine ⟨Nat.le_of_ble_eq_true rfl, Nat.le_refl _, Or.inl rfl, ?_⟩
          refine R1 (g' := (1, _, _, _, _, _)) rfl rfl ?_
          refine R1 (g' := (2, _, _, _, _, _)) rfl rfl ?_
          refine R1 (g' := (3, _, _, _, _, _)) rfl rfl ?_
          refine R_call3 (Or.inl ⟨rfl, rfl⟩) rfl rfl ⟨Nat.le_of_ble_eq_true rfl, Nat.le_of_ble_eq_true rfl⟩ (Nat.le_of_ble_eq_true rfl) ⟨rfl, rfl⟩ (e8_wish k1) ?_
          refine R1 (g' := (8, _, _, _, _, _)) rfl rfl ?_
          refine R1 (g' := (9, _, .int (nI 0) :: _, _, _, _)) rfl rfl ?_
          refine R1 (g' := (12, _, .int (nI 9999) :: _, _, _, _)) rfl rfl ?_
          refine R_call3 (Or.inl ⟨rfl, rfl⟩) rfl rfl ⟨Nat.le_of_ble_eq_true rfl, Nat.le_of_ble_eq_true rfl⟩ (Nat.le_of_ble_eq_true rfl) ⟨rfl, rfl⟩ (e8_range k2) ?_
          refine R1 (g' := (16, _, _, _, _, _)) rfl rfl ?_
          refine R_getf rfl rfl (Nat.le_of_ble_eq_true rfl) rfl rfl ?_
          refine R_getf rfl rfl (Nat.le_of_ble_eq_true rfl) rfl rfl ?_
          refine R_getf rfl rfl (Nat.le_of_ble_eq_true rfl) rfl rfl ?_
          refine R1 (g' := (27, _, .int (nI 8) :: _, _, _, _)) rfl rfl ?_
          refine R_cltN 40 ((qn (s.1 143) 8)) (8) rfl rfl (et) (rfl) (by omega) (by omega) (fun h27 => ?_) (fun h => by omega)
          refine R1 (g' := (41, _, _, _, _, _)) rfl rfl ?_
          refine R_getf rfl rfl (Nat.le_of_ble_eq_true rfl) rfl rfl ?_
          refine R1 (g' := (45, _, _, _, _, _)) rfl rfl ?_
          refine R_getf rfl rfl (Nat.le_of_ble_eq_true rfl) rfl rfl ?_
          refine R_call2 (Or.inr (Or.inl ⟨rfl, rfl⟩)) rfl rfl ⟨Nat.le_of_ble_eq_true rfl, Nat.le_of_ble_eq_true rfl⟩ (Nat.le_of_ble_eq_true rfl) ⟨rfl, rfl⟩ (⟨⟨_, _, _, rfl, (Nat.le_of_ble_eq_true rfl), rfl⟩, hev⟩) ?_
          refine R1 (g' := (52, _, _, _, _, _)) rfl rfl ?_
          refine R_getf rfl rfl (Nat.le_of_ble_eq_true rfl) rfl rfl ?_
          refine R_getf rfl rfl (Nat.le_of_ble_eq_true rfl) rfl rfl ?_
          refine R1 (g' := (59, _, _, _, _, _)) rfl rfl ?_
          refine R1 (g' := (60, _, _, _, _, _)) rfl rfl ?_
          refine R1 (g' := (61, _, _, _, _, _)) rfl rfl ?_
          refine R1 (g' := (63, _, _, _, _, _)) rfl rfl ?_
          refine R_call5 (Or.inr (Or.inl ⟨rfl, rfl⟩)) rfl rfl ⟨Nat.le_of_ble_eq_true rfl, Nat.le_of_ble_eq_true rfl⟩ (Nat.le_of_ble_eq_true rfl) ⟨rfl, rfl⟩ (⟨⟨_, _, _, rfl, (Nat.le_of_ble_eq_true rfl), rfl⟩, e_tell xsta_1.2.2.2 et1 hm⟩) ?_
          refine R_iret rfl ?_
          exact ⟨rfl, rfl⟩
        · refine ⟨Nat.le_of_ble_eq_true rfl, Nat.le_refl _, Or.inl rfl, ?_⟩
          refine R1 (g' := (1, _, _, _, _, _)) rfl rfl ?_
          refine R1 (g' := (2, _, _, _, _, _)) rfl rfl ?_
          refine R1 (g' := (3, _, _, _, _, _)) rfl rfl ?_
          refine R1 (g' := (4, _, _, _, _, _)) rfl rfl ?_
          refine R_call3 (Or.inl ⟨rfl, rfl⟩) rfl rfl ⟨Nat.le_of_ble_eq_true rfl, Nat.le_of_ble_eq_true rfl⟩ (Nat.le_of_ble_eq_true rfl) ⟨rfl, rfl⟩ (e9_isWish) ?_
          rw [k1]
          refine R_eq 22 rfl rfl (fun h => by exact absurd h (by decide)) (fun h7 => ?_)
          refine R1 (g' := (12, _, _, _, _, _)) rfl rfl ?_
          refine R1 (g' := (13, _, .int (nI 0) :: _, _, _, _)) rfl rfl ?_
          refine R1 (g' := (16, _, .int (nI 9999) :: _, _, _, _)) rfl rfl ?_
          refine R_call3 (Or.inl ⟨rfl, rfl⟩) rfl rfl ⟨Nat.le_of_ble_eq_true rfl, Nat.le_of_ble_eq_true rfl⟩ (Nat.le_of_ble_eq_true rfl) ⟨rfl, rfl⟩ (e9_in) ?_
          rw [k2]
          refine R_ne 26 rfl rfl (fun h19 => ?_) (fun h => by exact absurd h (by decide))
          refine R1 (g' := (27, _, _, _, _, _)) rfl rfl ?_
          refine R_getf rfl rfl (Nat.le_of_ble_eq_true rfl) rfl rfl ?_
          refine R1 (g' := (32, _, .int (nI 8) :: _, _, _, _)) rfl rfl ?_
          refine R_iald 8 rfl (Nat.le_of_ble_eq_true rfl) rfl (by decide) (by decide) rfl ?_
          refine R1 (g' := (35, _, .int (nI 8) :: _, _, _, _)) rfl rfl ?_
          refine R_cneN 42 ((qn (s.1 143) 8)) (8) rfl rfl (by rw [e2]; exact i8) (rfl) (by omega) (by omega) (fun h35 => ?_) (fun h => by omega)
          refine R1 (g' := (43, _, .int (nI 0) :: _, _, _, _)) rfl rfl ?_
          refine R_put rfl rfl (Nat.le_of_ble_eq_true rfl) rfl (Nat.le_of_ble_eq_true rfl) ⟨_, rfl, Or.inl rfl, _, rfl, rfl⟩ rfl ?_
          change xRun _ _ (46, _, _, wd (put (sTell s1 12 (qn (s.1 143) 8) (nI a) (nI b) (nI d) (nI l)) 142 6 (nI 0)), _, _)
          refine R1 (g' := (47, _, _, _, _, _)) rfl rfl ?_
          refine R_getf rfl rfl (Nat.le_of_ble_eq_true rfl) rfl rfl ?_
          rw [put6]
          refine R_eq 55 rfl rfl (fun h50 => ?_) (fun h => by exact absurd (by decide) h)
          refine R1 (g' := (56, _, _, _, _, _)) rfl rfl ?_
          refine R_call1 (Or.inr (Or.inl ⟨rfl, rfl⟩)) rfl rfl ⟨Nat.le_of_ble_eq_true rfl, Nat.le_of_ble_eq_true rfl⟩ (Nat.le_of_ble_eq_true rfl) ⟨rfl, rfl⟩ (⟨⟨_, _, _, rfl, (Nat.le_of_ble_eq_true rfl), rfl⟩, hk⟩) ?_
          refine R1 (g' := (61, _, .int (nI 41) :: _, _, _, _)) rfl rfl ?_
          refine R1 (g' := (62, _, .int (nI 4) :: _, _, _, _)) rfl rfl ?_
          refine R1 (g' := (63, _, _, _, _, _)) rfl rfl ?_
          refine R_getf rfl rfl (Nat.le_of_ble_eq_true rfl) rfl rfl ?_
          refine R1 (g' := (68, _, .int (nI 8) :: _, _, _, _)) rfl rfl ?_
          refine R_iald 8 rfl (Nat.le_of_ble_eq_true rfl) rfl (by decide) (by decide) rfl ?_
          rw [e3, i8]
          refine R1 (g' := (70, _, _, _, _, _)) rfl rfl ?_
          refine R1 (g' := (71, _, _, _, _, _)) rfl rfl ?_
          rw [pk_mul, nI_add]
          refine R1 (g' := (73, _, _, _, _, _)) rfl rfl ?_
          refine R1 (g' := (74, _, _, _, _, _)) rfl rfl ?_
          refine R_getf rfl rfl (Nat.le_of_ble_eq_true rfl) rfl rfl ?_
          refine R1 (g' := (79, _, _, _, _, _)) rfl rfl ?_
          refine R1 (g' := (80, _, _, _, _, _)) rfl rfl ?_
          refine R_iast (41 + 4 * (qn (s.1 143) 8)) rfl (Nat.le_of_ble_eq_true rfl) (fun _ => rfl) (by omega) (by decide) rfl ?_
          rw [e3]
          refine R1 (g' := (82, _, _, _, _, _)) rfl rfl ?_
          refine R_getf rfl rfl (Nat.le_of_ble_eq_true rfl) rfl rfl ?_
          refine R1 (g' := (87, _, _, _, _, _)) rfl rfl ?_
          refine R1 (g' := (88, _, .int (nI 1) :: _, _, _, _)) rfl rfl ?_
          refine R1 (g' := (89, _, _, _, _, _)) rfl rfl ?_
          refine R1 (g' := (90, _, _, _, _, _)) rfl rfl ?_
          rw [nI_add]
          refine R_iast (41 + 4 * (qn (s.1 143) 8) + 1) rfl (Nat.le_of_ble_eq_true rfl) (fun _ => rfl) (by omega) (by decide) rfl ?_
          rw [setP_at, setP_setP]
          refine R1 (g' := (92, _, _, _, _, _)) rfl rfl ?_
          refine R_getf rfl rfl (Nat.le_of_ble_eq_true rfl) rfl rfl ?_
          refine R1 (g' := (97, _, _, _, _, _)) rfl rfl ?_
          refine R1 (g' := (98, _, .int (nI 2) :: _, _, _, _)) rfl rfl ?_
          refine R1 (g' := (99, _, _, _, _, _)) rfl rfl ?_
          refine R1 (g' := (100, _, _, _, _, _)) rfl rfl ?_
          rw [nI_add]
          refine R_iast (41 + 4 * (qn (s.1 143) 8) + 2) rfl (Nat.le_of_ble_eq_true rfl) (fun _ => rfl) (by omega) (by decide) rfl ?_
          rw [setP_at, setP_setP]
          refine R1 (g' := (102, _, _, _, _, _)) rfl rfl ?_
          refine R_getf rfl rfl (Nat.le_of_ble_eq_true rfl) rfl rfl ?_
          refine R1 (g' := (107, _, _, _, _, _)) rfl rfl ?_
          refine R1 (g' := (108, _, .int (nI 3) :: _, _, _, _)) rfl rfl ?_
          refine R1 (g' := (109, _, _, _, _, _)) rfl rfl ?_
          refine R1 (g' := (111, _, _, _, _, _)) rfl rfl ?_
          rw [nI_add]
          refine R_iast (41 + 4 * (qn (s.1 143) 8) + 3) rfl (Nat.le_of_ble_eq_true rfl) (fun _ => rfl) (by omega) (by decide) rfl ?_
          rw [setP_at, setP_setP]
          refine R1 (g' := (113, _, _, _, _, _)) rfl rfl ?_
          refine R_getf rfl rfl (Nat.le_of_ble_eq_true rfl) rfl rfl ?_
          refine R1 (g' := (118, _, .int (nI 8) :: _, _, _, _)) rfl rfl ?_
          refine R1 (g' := (119, _, _, _, _, _)) rfl rfl ?_
          refine R_iald 8 rfl (Nat.le_of_ble_eq_true rfl) rfl (by decide) (by decide) rfl ?_
          rw [setP_at, pk_un (by omega), pk_un (by omega), pk_un (by omega), pk_un (by omega), i8]
          refine R1 (g' := (121, _, .int (nI 1) :: _, _, _, _)) rfl rfl ?_
          refine R1 (g' := (122, _, _, _, _, _)) rfl rfl ?_
          rw [nI_add]
          refine R_iast 8 rfl (Nat.le_of_ble_eq_true rfl) (fun _ => rfl) (by decide) (by decide) rfl ?_
          rw [setP_at, setP_setP, qTell_eq hm]
          refine R1 (g' := (124, _, _, _, _, _)) rfl rfl ?_
          refine R_getf rfl rfl (Nat.le_of_ble_eq_true rfl) rfl rfl ?_
          refine R1 (g' := (129, _, .int (nI 8) :: _, _, _, _)) rfl rfl ?_
          refine R_iald 8 rfl (Nat.le_of_ble_eq_true rfl) rfl (by decide) (by decide) rfl ?_
          rw [setP_at, q8]
          refine R1 (g' := (131, _, .int (nI 1) :: _, _, _, _)) rfl rfl ?_
          refine R1 (g' := (132, _, _, _, _, _)) rfl rfl ?_
          refine R_iret rfl ?_
          exact ⟨o_i (nI_sub_1 _), rfl⟩
      · have em : s.1 143 8 = nI 8 := by rw [i8, show qn (s.1 143) 8 = 8 by omega]
        refine Pair_x (s1 := s) (s2 := s) 1 "java/lang/IllegalStateException" rfl ?_ ?_ hR
        · refine ⟨Nat.le_of_ble_eq_true rfl, Nat.le_refl _, trivial, ?_⟩
          refine R1 (g' := (1, _, _, _, _, _)) rfl rfl ?_
          refine R1 (g' := (2, _, _, _, _, _)) rfl rfl ?_
          refine R1 (g' := (3, _, _, _, _, _)) rfl rfl ?_
          refine R_call3 (Or.inl ⟨rfl, rfl⟩) rfl rfl ⟨Nat.le_of_ble_eq_true rfl, Nat.le_of_ble_eq_true rfl⟩ (Nat.le_of_ble_eq_true rfl) ⟨rfl, rfl⟩ (e8_wish k1) ?_
          refine R1 (g' := (8, _, _, _, _, _)) rfl rfl ?_
          refine R1 (g' := (9, _, .int (nI 0) :: _, _, _, _)) rfl rfl ?_
          refine R1 (g' := (12, _, .int (nI 9999) :: _, _, _, _)) rfl rfl ?_
          refine R_call3 (Or.inl ⟨rfl, rfl⟩) rfl rfl ⟨Nat.le_of_ble_eq_true rfl, Nat.le_of_ble_eq_true rfl⟩ (Nat.le_of_ble_eq_true rfl) ⟨rfl, rfl⟩ (e8_range k2) ?_
          refine R1 (g' := (16, _, _, _, _, _)) rfl rfl ?_
          refine R_getf rfl rfl (Nat.le_of_ble_eq_true rfl) rfl rfl ?_
          refine R_getf rfl rfl (Nat.le_of_ble_eq_true rfl) rfl rfl ?_
          refine R_getf rfl rfl (Nat.le_of_ble_eq_true rfl) rfl rfl ?_
          refine R1 (g' := (27, _, .int (nI 8) :: _, _, _, _)) rfl rfl ?_
          refine R_cltN 40 ((qn (s.1 143) 8)) (8) rfl rfl (et) (rfl) (by omega) (by omega) (fun h => by omega) (fun h27 => ?_)
          refine R_throw rfl rfl ⟨Nat.le_of_ble_eq_true rfl, Nat.le_of_ble_eq_true rfl⟩ (Nat.le_of_ble_eq_true rfl) ?_
          exact ⟨rfl, rfl⟩
        · refine ⟨Nat.le_of_ble_eq_true rfl, Nat.le_refl _, Or.inl rfl, ?_⟩
          refine R1 (g' := (1, _, _, _, _, _)) rfl rfl ?_
          refine R1 (g' := (2, _, _, _, _, _)) rfl rfl ?_
          refine R1 (g' := (3, _, _, _, _, _)) rfl rfl ?_
          refine R1 (g' := (4, _, _, _, _, _)) rfl rfl ?_
          refine R_call3 (Or.inl ⟨rfl, rfl⟩) rfl rfl ⟨Nat.le_of_ble_eq_true rfl, Nat.le_of_ble_eq_true rfl⟩ (Nat.le_of_ble_eq_true rfl) ⟨rfl, rfl⟩ (e9_isWish) ?_
          rw [k1]
          refine R_eq 22 rfl rfl (fun h => by exact absurd h (by decide)) (fun h7 => ?_)
          refine R1 (g' := (12, _, _, _, _, _)) rfl rfl ?_
          refine R1 (g' := (13, _, .int (nI 0) :: _, _, _, _)) rfl rfl ?_
          refine R1 (g' := (16, _, .int (nI 9999) :: _, _, _, _)) rfl rfl ?_
          refine R_call3 (Or.inl ⟨rfl, rfl⟩) rfl rfl ⟨Nat.le_of_ble_eq_true rfl, Nat.le_of_ble_eq_true rfl⟩ (Nat.le_of_ble_eq_true rfl) ⟨rfl, rfl⟩ (e9_in) ?_
          rw [k2]
          refine R_ne 26 rfl rfl (fun h19 => ?_) (fun h => by exact absurd h (by decide))
          refine R1 (g' := (27, _, _, _, _, _)) rfl rfl ?_
          refine R_getf rfl rfl (Nat.le_of_ble_eq_true rfl) rfl rfl ?_
          refine R1 (g' := (32, _, .int (nI 8) :: _, _, _, _)) rfl rfl ?_
          refine R_iald 8 rfl (Nat.le_of_ble_eq_true rfl) rfl (by decide) (by decide) rfl ?_
          refine R1 (g' := (35, _, .int (nI 8) :: _, _, _, _)) rfl rfl ?_
          refine R_cneN 42 ((qn (s.1 143) 8)) (8) rfl rfl (i8) (rfl) (by omega) (by omega) (fun h => by omega) (fun h35 => ?_)
          refine R1 (g' := (39, _, .int (nI 2) :: _, _, _, _)) rfl rfl ?_
          refine R1 (g' := (43, _, _, _, _, _)) rfl rfl ?_
          refine R_put rfl rfl (Nat.le_of_ble_eq_true rfl) rfl (Nat.le_of_ble_eq_true rfl) ⟨_, rfl, Or.inl rfl, _, rfl, rfl⟩ rfl ?_
          change xRun _ _ (46, _, _, wd (put s 142 6 (nI 2)), _, _)
          refine R1 (g' := (47, _, _, _, _, _)) rfl rfl ?_
          refine R_getf rfl rfl (Nat.le_of_ble_eq_true rfl) rfl rfl ?_
          rw [put6]
          refine R_eq 55 rfl rfl (fun h => by exact absurd h (by decide)) (fun h50 => ?_)
          refine R1 (g' := (54, _, .int (nI 0) :: _, _, _, _)) rfl rfl ?_
          refine R_iret rfl ?_
          exact ⟨rfl, rfl⟩
