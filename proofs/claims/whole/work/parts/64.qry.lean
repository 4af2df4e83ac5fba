theorem pr_value {s : xs} {x : Int32} (hR : Rl s) : Pair Ev_X8_value Ev_X9_value [.ref 0, .int x] [.ref 142, .int x] ["java/lang/IllegalArgumentException"] s := by
  cases k : inI x (nI 0) (nI 11) with
  | false =>
    refine Pair_x (s1 := s) (s2 := s) 0 "java/lang/IllegalArgumentException" rfl ?_ ?_ hR
    · refine ⟨Nat.le_of_ble_eq_true rfl, Nat.le_refl _, trivial, ?_⟩
      refine R1 (g' := (1, _, _, _, _, _)) rfl rfl ?_
      refine R1 (g' := (2, _, .int (nI 0) :: _, _, _, _)) rfl rfl ?_
      refine R1 (g' := (4, _, .int (nI 11) :: _, _, _, _)) rfl rfl ?_
      refine R_call3X (Or.inl ⟨rfl, rfl⟩) rfl rfl ⟨Nat.le_of_ble_eq_true rfl, Nat.le_of_ble_eq_true rfl⟩ (Nat.le_of_ble_eq_true rfl) ⟨rfl, rfl⟩ (e8_rangeX k) rfl ?_
      exact ⟨rfl, rfl⟩
    · refine ⟨Nat.le_of_ble_eq_true rfl, Nat.le_refl _, Or.inl rfl, ?_⟩
      refine R1 (g' := (1, _, _, _, _, _)) rfl rfl ?_
      refine R1 (g' := (2, _, _, _, _, _)) rfl rfl ?_
      refine R1 (g' := (3, _, .int (nI 0) :: _, _, _, _)) rfl rfl ?_
      refine R1 (g' := (5, _, .int (nI 11) :: _, _, _, _)) rfl rfl ?_
      refine R_call3 (Or.inl ⟨rfl, rfl⟩) rfl rfl ⟨Nat.le_of_ble_eq_true rfl, Nat.le_of_ble_eq_true rfl⟩ (Nat.le_of_ble_eq_true rfl) ⟨rfl, rfl⟩ (e9_in) ?_
      rw [k]
      refine R_eq 15 rfl rfl (fun h8 => ?_) (fun h => by exact absurd rfl h)
      refine R1 (g' := (16, _, .int (nI 1) :: _, _, _, _)) rfl rfl ?_
      refine R_put rfl rfl (Nat.le_of_ble_eq_true rfl) rfl (Nat.le_of_ble_eq_true rfl) ⟨_, rfl, Or.inl rfl, _, rfl, rfl⟩ rfl ?_
      change xRun _ _ (19, _, _, wd (put s 142 6 (nI 1)), _, _)
      refine R1 (g' := (20, _, _, _, _, _)) rfl rfl ?_
      refine R_getf rfl rfl (Nat.le_of_ble_eq_true rfl) rfl rfl ?_
      rw [put6]
      refine R_eq 30 rfl rfl (fun h => by exact absurd h (by decide)) (fun h23 => ?_)
      refine R1 (g' := (27, _, .int (nI 0) :: _, _, _, _)) rfl rfl ?_
      refine R1 (g' := (35, _, _, _, _, _)) rfl rfl ?_
      refine R_iret rfl ?_
      exact ⟨rfl, rfl⟩
  | true =>
    obtain ⟨w, rfl, w1, w2⟩ := inI_of (by decide) k (by decide)
    have hv9 := e9_valueOf (s := put s 142 6 (nI 0)) (w := w) (by rw [put6n (by decide)]; exact hR.2.1) (by omega)
    rw [put6n (by decide)] at hv9
    refine Pair_t (s1 := s) (s2 := put s 142 6 (nI 0)) (v := qOf (s.1 143) w) ?_ ?_ ⟨Rl_code hR, put6⟩
    · refine ⟨Nat.le_of_ble_eq_true rfl, Nat.le_refl _, Or.inl rfl, ?_⟩
      refine R1 (g' := (1, _, _, _, _, _)) rfl rfl ?_
      refine R1 (g' := (2, _, .int (nI 0) :: _, _, _, _)) rfl rfl ?_
      refine R1 (g' := (4, _, .int (nI 11) :: _, _, _, _)) rfl rfl ?_
      refine R_call3 (Or.inl ⟨rfl, rfl⟩) rfl rfl ⟨Nat.le_of_ble_eq_true rfl, Nat.le_of_ble_eq_true rfl⟩ (Nat.le_of_ble_eq_true rfl) ⟨rfl, rfl⟩ (e8_range k) ?_
      refine R1 (g' := (8, _, _, _, _, _)) rfl rfl ?_
      refine R_getf rfl rfl (Nat.le_of_ble_eq_true rfl) rfl rfl ?_
      refine R1 (g' := (12, _, _, _, _, _)) rfl rfl ?_
      refine R_call2 (Or.inr (Or.inl ⟨rfl, rfl⟩)) rfl rfl ⟨Nat.le_of_ble_eq_true rfl, Nat.le_of_ble_eq_true rfl⟩ (Nat.le_of_ble_eq_true rfl) ⟨rfl, rfl⟩ (⟨⟨_, _, _, rfl, (Nat.le_of_ble_eq_true rfl), rfl⟩, e_ofWhole xsta_1 hR.1 hR.2.1 (by omega)⟩) ?_
      refine R_iret rfl ?_
      exact ⟨rfl, rfl⟩
    · refine ⟨Nat.le_of_ble_eq_true rfl, Nat.le_refl _, Or.inl rfl, ?_⟩
      refine R1 (g' := (1, _, _, _, _, _)) rfl rfl ?_
      refine R1 (g' := (2, _, _, _, _, _)) rfl rfl ?_
      refine R1 (g' := (3, _, .int (nI 0) :: _, _, _, _)) rfl rfl ?_
      refine R1 (g' := (5, _, .int (nI 11) :: _, _, _, _)) rfl rfl ?_
      refine R_call3 (Or.inl ⟨rfl, rfl⟩) rfl rfl ⟨Nat.le_of_ble_eq_true rfl, Nat.le_of_ble_eq_true rfl⟩ (Nat.le_of_ble_eq_true rfl) ⟨rfl, rfl⟩ (e9_in) ?_
      rw [k]
      refine R_eq 15 rfl rfl (fun h => by exact absurd h (by decide)) (fun h8 => ?_)
      refine R1 (g' := (12, _, .int (nI 0) :: _, _, _, _)) rfl rfl ?_
      refine R1 (g' := (16, _, _, _, _, _)) rfl rfl ?_
      refine R_put rfl rfl (Nat.le_of_ble_eq_true rfl) rfl (Nat.le_of_ble_eq_true rfl) ⟨_, rfl, Or.inl rfl, _, rfl, rfl⟩ rfl ?_
      change xRun _ _ (19, _, _, wd (put s 142 6 (nI 0)), _, _)
      refine R1 (g' := (20, _, _, _, _, _)) rfl rfl ?_
      refine R_getf rfl rfl (Nat.le_of_ble_eq_true rfl) rfl rfl ?_
      rw [put6]
      refine R_eq 30 rfl rfl (fun h23 => ?_) (fun h => by exact absurd (by decide) h)
      refine R1 (g' := (31, _, _, _, _, _)) rfl rfl ?_
      refine R1 (g' := (32, _, _, _, _, _)) rfl rfl ?_
      refine R_call2 (Or.inr (Or.inl ⟨rfl, rfl⟩)) rfl rfl ⟨Nat.le_of_ble_eq_true rfl, Nat.le_of_ble_eq_true rfl⟩ (Nat.le_of_ble_eq_true rfl) ⟨rfl, rfl⟩ (⟨⟨_, _, _, rfl, (Nat.le_of_ble_eq_true rfl), rfl⟩, hv9⟩) ?_
      refine R_iret rfl ?_
      exact ⟨rfl, rfl⟩
theorem pr_part {s : xs} {x y : Int32} (hR : Rl s) : Pair Ev_X8_part Ev_X9_part [.ref 0, .int x, .int y] [.ref 142, .int x, .int y] ["java/lang/IndexOutOfBoundsException", "java/lang/IllegalArgumentException"] s := by
  obtain ⟨i7, n1, n8⟩ := hR.2.1.1
  have hn : s.1 2 0 = nI (qn (s.1 143) 7) := hR.1.1.1.1.trans i7
  cases k1 : xhas x (qn (s.1 143) 7) with
  | false =>
    refine Pair_x (s1 := s) (s2 := s) 0 "java/lang/IndexOutOfBoundsException" rfl ?_ ?_ hR
    · refine ⟨Nat.le_of_ble_eq_true rfl, Nat.le_refl _, trivial, ?_⟩
      refine R1 (g' := (1, _, _, _, _, _)) rfl rfl ?_
      refine R1 (g' := (2, _, _, _, _, _)) rfl rfl ?_
      refine R_call2X (Or.inr (Or.inl ⟨rfl, rfl⟩)) rfl rfl ⟨Nat.le_of_ble_eq_true rfl, Nat.le_of_ble_eq_true rfl⟩ (Nat.le_of_ble_eq_true rfl) ⟨rfl, rfl⟩ (⟨⟨_, _, _, rfl, (Nat.le_of_ble_eq_true rfl), rfl⟩, e8_partX hn k1⟩) rfl ?_
      exact ⟨rfl, rfl⟩
    · refine ⟨Nat.le_of_ble_eq_true rfl, Nat.le_refl _, Or.inl rfl, ?_⟩
      refine R1 (g' := (1, _, _, _, _, _)) rfl rfl ?_
      refine R1 (g' := (2, _, _, _, _, _)) rfl rfl ?_
      refine R1 (g' := (3, _, _, _, _, _)) rfl rfl ?_
      refine R_call2 (Or.inr (Or.inl ⟨rfl, rfl⟩)) rfl rfl ⟨Nat.le_of_ble_eq_true rfl, Nat.le_of_ble_eq_true rfl⟩ (Nat.le_of_ble_eq_true rfl) ⟨rfl, rfl⟩ (⟨⟨_, _, _, rfl, (Nat.le_of_ble_eq_true rfl), rfl⟩, e9_isPart i7 n1 (by omega)⟩) ?_
      rw [k1]
      refine R_ne 13 rfl rfl (fun h => by exact absurd rfl h) (fun h6 => ?_)
      refine R1 (g' := (10, _, .int (nI 1) :: _, _, _, _)) rfl rfl ?_
      refine R1 (g' := (28, _, _, _, _, _)) rfl rfl ?_
      refine R_put rfl rfl (Nat.le_of_ble_eq_true rfl) rfl (Nat.le_of_ble_eq_true rfl) ⟨_, rfl, Or.inl rfl, _, rfl, rfl⟩ rfl ?_
      change xRun _ _ (31, _, _, wd (put s 142 6 (nI 1)), _, _)
      refine R1 (g' := (32, _, _, _, _, _)) rfl rfl ?_
      refine R_getf rfl rfl (Nat.le_of_ble_eq_true rfl) rfl rfl ?_
      rw [put6]
      refine R_eq 42 rfl rfl (fun h => by exact absurd h (by decide)) (fun h35 => ?_)
      refine R1 (g' := (39, _, .int (nI 0) :: _, _, _, _)) rfl rfl ?_
      refine R1 (g' := (48, _, _, _, _, _)) rfl rfl ?_
      refine R_iret rfl ?_
      exact ⟨rfl, rfl⟩
  | true =>
    cases k2 : inI y (nI 0) (nI 8) with
    | false =>
      refine Pair_x (s1 := s) (s2 := s) 1 "java/lang/IllegalArgumentException" rfl ?_ ?_ hR
      · refine ⟨Nat.le_of_ble_eq_true rfl, Nat.le_refl _, trivial, ?_⟩
        refine R1 (g' := (1, _, _, _, _, _)) rfl rfl ?_
        refine R1 (g' := (2, _, _, _, _, _)) rfl rfl ?_
        refine R_call2 (Or.inr (Or.inl ⟨rfl, rfl⟩)) rfl rfl ⟨Nat.le_of_ble_eq_true rfl, Nat.le_of_ble_eq_true rfl⟩ (Nat.le_of_ble_eq_true rfl) ⟨rfl, rfl⟩ (⟨⟨_, _, _, rfl, (Nat.le_of_ble_eq_true rfl), rfl⟩, e8_part hn k1⟩) ?_
        refine R1 (g' := (6, _, _, _, _, _)) rfl rfl ?_
        refine R1 (g' := (7, _, .int (nI 0) :: _, _, _, _)) rfl rfl ?_
        refine R1 (g' := (9, _, .int (nI 8) :: _, _, _, _)) rfl rfl ?_
        refine R_call3X (Or.inl ⟨rfl, rfl⟩) rfl rfl ⟨Nat.le_of_ble_eq_true rfl, Nat.le_of_ble_eq_true rfl⟩ (Nat.le_of_ble_eq_true rfl) ⟨rfl, rfl⟩ (e8_rangeX k2) rfl ?_
        exact ⟨rfl, rfl⟩
      · refine ⟨Nat.le_of_ble_eq_true rfl, Nat.le_refl _, Or.inl rfl, ?_⟩
        refine R1 (g' := (1, _, _, _, _, _)) rfl rfl ?_
        refine R1 (g' := (2, _, _, _, _, _)) rfl rfl ?_
        refine R1 (g' := (3, _, _, _, _, _)) rfl rfl ?_
        refine R_call2 (Or.inr (Or.inl ⟨rfl, rfl⟩)) rfl rfl ⟨Nat.le_of_ble_eq_true rfl, Nat.le_of_ble_eq_true rfl⟩ (Nat.le_of_ble_eq_true rfl) ⟨rfl, rfl⟩ (⟨⟨_, _, _, rfl, (Nat.le_of_ble_eq_true rfl), rfl⟩, e9_isPart i7 n1 (by omega)⟩) ?_
        rw [k1]
        refine R_ne 13 rfl rfl (fun h6 => ?_) (fun h => by exact absurd h (by decide))
        refine R1 (g' := (14, _, _, _, _, _)) rfl rfl ?_
        refine R1 (g' := (15, _, .int (nI 0) :: _, _, _, _)) rfl rfl ?_
        refine R1 (g' := (17, _, .int (nI 8) :: _, _, _, _)) rfl rfl ?_
        refine R_call3 (Or.inl ⟨rfl, rfl⟩) rfl rfl ⟨Nat.le_of_ble_eq_true rfl, Nat.le_of_ble_eq_true rfl⟩ (Nat.le_of_ble_eq_true rfl) ⟨rfl, rfl⟩ (e9_in) ?_
        rw [k2]
        refine R_eq 27 rfl rfl (fun h20 => ?_) (fun h => by exact absurd rfl h)
        refine R1 (g' := (28, _, .int (nI 2) :: _, _, _, _)) rfl rfl ?_
        refine R_put rfl rfl (Nat.le_of_ble_eq_true rfl) rfl (Nat.le_of_ble_eq_true rfl) ⟨_, rfl, Or.inl rfl, _, rfl, rfl⟩ rfl ?_
        change xRun _ _ (31, _, _, wd (put s 142 6 (nI 2)), _, _)
        refine R1 (g' := (32, _, _, _, _, _)) rfl rfl ?_
        refine R_getf rfl rfl (Nat.le_of_ble_eq_true rfl) rfl rfl ?_
        rw [put6]
        refine R_eq 42 rfl rfl (fun h => by exact absurd h (by decide)) (fun h35 => ?_)
        refine R1 (g' := (39, _, .int (nI 0) :: _, _, _, _)) rfl rfl ?_
        refine R1 (g' := (48, _, _, _, _, _)) rfl rfl ?_
        refine R_iret rfl ?_
        exact ⟨rfl, rfl⟩
    | true =>
      obtain ⟨k, hk, rfl⟩ := xhas_of (by omega) k1
      obtain ⟨w, rfl, w1, w2⟩ := inI_of (by decide) k2 (by decide)
      obtain ⟨f, hop⟩ := e_ofPart xsta_1 hR.1 hR.2.1 hk (show w < 9 by omega)
      have hR1 : Rl (setP s 11 f) := Rl_Sx hR (Sx_set (by unfold scP; omega) (by decide) (by decide))
      have e1 : (setP s 11 f).1 143 = s.1 143 := setP_ne _ _ (by decide)
      obtain ⟨x, y, hpo⟩ := e9_partOf (s := put (setP s 11 f) 142 6 (nI 0)) (k := k) (w := w) (by rw [put6n (by decide), e1]; exact hR.2.1) (by rw [put6n (by decide), e1]; exact hk) (by omega)
      rw [put6n (by decide), e1] at hpo
      refine Pair_t (s1 := setP s 11 f) (s2 := nxtI (put (setP s 11 f) 142 6 (nI 0)) x y) (v := qPartOf (s.1 143) k w) ?_ ?_ ⟨Rl_Sx (Rl_code hR1) Sx_N, (nxtI_o (by decide) (by decide)).trans put6⟩
      · refine ⟨Nat.le_of_ble_eq_true rfl, Nat.le_refl _, Or.inl rfl, ?_⟩
        refine R1 (g' := (1, _, _, _, _, _)) rfl rfl ?_
        refine R1 (g' := (2, _, _, _, _, _)) rfl rfl ?_
        refine R_call2 (Or.inr (Or.inl ⟨rfl, rfl⟩)) rfl rfl ⟨Nat.le_of_ble_eq_true rfl, Nat.le_of_ble_eq_true rfl⟩ (Nat.le_of_ble_eq_true rfl) ⟨rfl, rfl⟩ (⟨⟨_, _, _, rfl, (Nat.le_of_ble_eq_true rfl), rfl⟩, e8_part hn k1⟩) ?_
        refine R1 (g' := (6, _, _, _, _, _)) rfl rfl ?_
        refine R1 (g' := (7, _, .int (nI 0) :: _, _, _, _)) rfl rfl ?_
        refine R1 (g' := (9, _, .int (nI 8) :: _, _, _, _)) rfl rfl ?_
        refine R_call3 (Or.inl ⟨rfl, rfl⟩) rfl rfl ⟨Nat.le_of_ble_eq_true rfl, Nat.le_of_ble_eq_true rfl⟩ (Nat.le_of_ble_eq_true rfl) ⟨rfl, rfl⟩ (e8_range k2) ?_
        refine R1 (g' := (13, _, _, _, _, _)) rfl rfl ?_
        refine R_getf rfl rfl (Nat.le_of_ble_eq_true rfl) rfl rfl ?_
        refine R1 (g' := (17, _, _, _, _, _)) rfl rfl ?_
        refine R1 (g' := (18, _, _, _, _, _)) rfl rfl ?_
        refine R_call3 (Or.inr (Or.inl ⟨rfl, rfl⟩)) rfl rfl ⟨Nat.le_of_ble_eq_true rfl, Nat.le_of_ble_eq_true rfl⟩ (Nat.le_of_ble_eq_true rfl) ⟨rfl, rfl⟩ (⟨⟨_, _, _, rfl, (Nat.le_of_ble_eq_true rfl), rfl⟩, hop⟩) ?_
        refine R_iret rfl ?_
        exact ⟨rfl, rfl⟩
      · refine ⟨Nat.le_of_ble_eq_true rfl, Nat.le_refl _, Or.inl rfl, ?_⟩
        refine R1 (g' := (1, _, _, _, _, _)) rfl rfl ?_
        refine R1 (g' := (2, _, _, _, _, _)) rfl rfl ?_
        refine R1 (g' := (3, _, _, _, _, _)) rfl rfl ?_
        refine R_call2 (Or.inr (Or.inl ⟨rfl, rfl⟩)) rfl rfl ⟨Nat.le_of_ble_eq_true rfl, Nat.le_of_ble_eq_true rfl⟩ (Nat.le_of_ble_eq_true rfl) ⟨rfl, rfl⟩ (⟨⟨_, _, _, rfl, (Nat.le_of_ble_eq_true rfl), rfl⟩, e9_isPart (by rw [e1]; exact i7) n1 (by omega)⟩) ?_
        rw [k1]
        refine R_ne 13 rfl rfl (fun h6 => ?_) (fun h => by exact absurd h (by decide))
        refine R1 (g' := (14, _, _, _, _, _)) rfl rfl ?_
        refine R1 (g' := (15, _, .int (nI 0) :: _, _, _, _)) rfl rfl ?_
        refine R1 (g' := (17, _, .int (nI 8) :: _, _, _, _)) rfl rfl ?_
        refine R_call3 (Or.inl ⟨rfl, rfl⟩) rfl rfl ⟨Nat.le_of_ble_eq_true rfl, Nat.le_of_ble_eq_true rfl⟩ (Nat.le_of_ble_eq_true rfl) ⟨rfl, rfl⟩ (e9_in) ?_
        rw [k2]
        refine R_eq 27 rfl rfl (fun h => by exact absurd h (by decide)) (fun h20 => ?_)
        refine R1 (g' := (24, _, .int (nI 0) :: _, _, _, _)) rfl rfl ?_
        refine R1 (g' := (28, _, _, _, _, _)) rfl rfl ?_
        refine R_put rfl rfl (Nat.le_of_ble_eq_true rfl) rfl (Nat.le_of_ble_eq_true rfl) ⟨_, rfl, Or.inl rfl, _, rfl, rfl⟩ rfl ?_
        change xRun _ _ (31, _, _, wd (put (setP s 11 f) 142 6 (nI 0)), _, _)
        refine R1 (g' := (32, _, _, _, _, _)) rfl rfl ?_
        refine R_getf rfl rfl (Nat.le_of_ble_eq_true rfl) rfl rfl ?_
        rw [put6]
        refine R_eq 42 rfl rfl (fun h35 => ?_) (fun h => by exact absurd (by decide) h)
        refine R1 (g' := (43, _, _, _, _, _)) rfl rfl ?_
        refine R1 (g' := (44, _, _, _, _, _)) rfl rfl ?_
        refine R1 (g' := (45, _, _, _, _, _)) rfl rfl ?_
        refine R_call3 (Or.inr (Or.inl ⟨rfl, rfl⟩)) rfl rfl ⟨Nat.le_of_ble_eq_true rfl, Nat.le_of_ble_eq_true rfl⟩ (Nat.le_of_ble_eq_true rfl) ⟨rfl, rfl⟩ (⟨⟨_, _, _, rfl, (Nat.le_of_ble_eq_true rfl), rfl⟩, hpo⟩) ?_
        refine R_iret rfl ?_
        exact ⟨rfl, rfl⟩
theorem sIn {x : Int32} {m : Nat} (m8 : m ≤ 8) : inI x (nI 0) (nI m - nI 1) = xhas x m := by
  have hs : (nI m - nI 1).toInt = (m : Int) - ((1 : Nat) : Int) := pk_sub_toInt (by omega) (by decide)
  unfold inI xhas
  rw [nI_0]
  congr 1
  refine decide_eq_decide.mpr ?_
  rw [Int32.le_iff_toInt_le, Int32.lt_iff_toInt_lt, hs, nI_toInt (by omega)]
  omega
theorem sStep_eq {s : xs} {Q : Nat → Int32} {k w : Nat} (h : tRel s 12 Q) (hk : k < 8) (hw : w < 4) : sStepOf s 12 k w = Q (41 + 4 * k + w) := by
  obtain ⟨r1, r2, r3, r4⟩ := h.2 k hk
  unfold sStepOf
  rcases (show w = 0 ∨ w = 1 ∨ w = 2 ∨ w = 3 by omega) with rfl | rfl | rfl | rfl
  · exact r1
  · rw [if_neg (by decide), if_pos rfl, show 41 + 4 * k + 1 = 42 + 4 * k by omega]
    exact r2
  · rw [if_neg (by decide), if_neg (by decide), if_pos rfl, show 41 + 4 * k + 2 = 43 + 4 * k by omega]
    exact r3
  · rw [if_neg (by decide), if_neg (by decide), if_neg (by decide), show 41 + 4 * k + 3 = 44 + 4 * k by omega]
    exact r4
theorem pr_step {s : xs} {x y : Int32} (hR : Rl s) : Pair Ev_X8_step Ev_X9_step [.ref 0, .int x, .int y] [.ref 142, .int x, .int y] ["java/lang/IndexOutOfBoundsException", "java/lang/IllegalArgumentException"] s := by
  obtain ⟨i8, m8⟩ := hR.2.1.2.1
  have hm : s.1 12 0 = nI (qn (s.1 143) 8) := hR.1.2.1.trans i8
  have w1 := sIn (x := x) m8
  cases k1 : xhas x (qn (s.1 143) 8) with
  | false =>
    rw [k1] at w1
    refine Pair_x (s1 := s) (s2 := s) 0 "java/lang/IndexOutOfBoundsException" rfl ?_ ?_ hR
    · refine ⟨Nat.le_of_ble_eq_true rfl, Nat.le_refl _, trivial, ?_⟩
      refine R1 (g' := (1, _, _, _, _, _)) rfl rfl ?_
      refine R_getf rfl rfl (Nat.le_of_ble_eq_true rfl) rfl rfl ?_
      refine R_getf rfl rfl (Nat.le_of_ble_eq_true rfl) rfl rfl ?_
      refine R1 (g' := (8, _, _, _, _, _)) rfl rfl ?_
      refine R_call2 (Or.inr (Or.inl ⟨rfl, rfl⟩)) rfl rfl ⟨Nat.le_of_ble_eq_true rfl, Nat.le_of_ble_eq_true rfl⟩ (Nat.le_of_ble_eq_true rfl) ⟨rfl, rfl⟩ (⟨⟨_, _, _, rfl, (Nat.le_of_ble_eq_true rfl), rfl⟩, e_stHas xsta_1.2.2.2 hm⟩) ?_
      rw [k1]
      refine R_ne 24 rfl rfl (fun h => by exact absurd rfl h) (fun h11 => ?_)
      refine R_throw rfl rfl ⟨Nat.le_of_ble_eq_true rfl, Nat.le_of_ble_eq_true rfl⟩ (Nat.le_of_ble_eq_true rfl) ?_
      exact ⟨rfl, rfl⟩
    · refine ⟨Nat.le_of_ble_eq_true rfl, Nat.le_refl _, Or.inl rfl, ?_⟩
      refine R1 (g' := (1, _, _, _, _, _)) rfl rfl ?_
      refine R1 (g' := (2, _, _, _, _, _)) rfl rfl ?_
      refine R1 (g' := (3, _, .int (nI 0) :: _, _, _, _)) rfl rfl ?_
      refine R1 (g' := (4, _, _, _, _, _)) rfl rfl ?_
      refine R_getf rfl rfl (Nat.le_of_ble_eq_true rfl) rfl rfl ?_
      refine R1 (g' := (9, _, .int (nI 8) :: _, _, _, _)) rfl rfl ?_
      refine R_iald 8 rfl (Nat.le_of_ble_eq_true rfl) rfl (by decide) (by decide) rfl ?_
      rw [i8]
      refine R1 (g' := (11, _, .int (nI 1) :: _, _, _, _)) rfl rfl ?_
      refine R1 (g' := (12, _, _, _, _, _)) rfl rfl ?_
      refine R_call3 (Or.inl ⟨rfl, rfl⟩) rfl rfl ⟨Nat.le_of_ble_eq_true rfl, Nat.le_of_ble_eq_true rfl⟩ (Nat.le_of_ble_eq_true rfl) ⟨rfl, rfl⟩ (e9_in) ?_
      rw [w1]
      refine R_ne 22 rfl rfl (fun h => by exact absurd rfl h) (fun h15 => ?_)
      refine R1 (g' := (19, _, .int (nI 1) :: _, _, _, _)) rfl rfl ?_
      refine R1 (g' := (36, _, _, _, _, _)) rfl rfl ?_
      refine R_put rfl rfl (Nat.le_of_ble_eq_true rfl) rfl (Nat.le_of_ble_eq_true rfl) ⟨_, rfl, Or.inl rfl, _, rfl, rfl⟩ rfl ?_
      change xRun _ _ (39, _, _, wd (put s 142 6 (nI 1)), _, _)
      refine R1 (g' := (40, _, _, _, _, _)) rfl rfl ?_
      refine R_getf rfl rfl (Nat.le_of_ble_eq_true rfl) rfl rfl ?_
      rw [put6]
      refine R_eq 50 rfl rfl (fun h => by exact absurd h (by decide)) (fun h43 => ?_)
      refine R1 (g' := (47, _, .int (nI 0) :: _, _, _, _)) rfl rfl ?_
      refine R1 (g' := (63, _, _, _, _, _)) rfl rfl ?_
      refine R_iret rfl ?_
      exact ⟨rfl, rfl⟩
  | true =>
    rw [k1] at w1
    cases k2 : inI y (nI 0) (nI 3) with
    | false =>
      refine Pair_x (s1 := s) (s2 := s) 1 "java/lang/IllegalArgumentException" rfl ?_ ?_ hR
      · refine ⟨Nat.le_of_ble_eq_true rfl, Nat.le_refl _, trivial, ?_⟩
        refine R1 (g' := (1, _, _, _, _, _)) rfl rfl ?_
        refine R_getf rfl rfl (Nat.le_of_ble_eq_true rfl) rfl rfl ?_
        refine R_getf rfl rfl (Nat.le_of_ble_eq_true rfl) rfl rfl ?_
        refine R1 (g' := (8, _, _, _, _, _)) rfl rfl ?_
        refine R_call2 (Or.inr (Or.inl ⟨rfl, rfl⟩)) rfl rfl ⟨Nat.le_of_ble_eq_true rfl, Nat.le_of_ble_eq_true rfl⟩ (Nat.le_of_ble_eq_true rfl) ⟨rfl, rfl⟩ (⟨⟨_, _, _, rfl, (Nat.le_of_ble_eq_true rfl), rfl⟩, e_stHas xsta_1.2.2.2 hm⟩) ?_
        rw [k1]
        refine R_ne 24 rfl rfl (fun h11 => ?_) (fun h => by exact absurd h (by decide))
        refine R1 (g' := (25, _, _, _, _, _)) rfl rfl ?_
        refine R1 (g' := (26, _, .int (nI 0) :: _, _, _, _)) rfl rfl ?_
        refine R1 (g' := (27, _, .int (nI 3) :: _, _, _, _)) rfl rfl ?_
        refine R_call3X (Or.inl ⟨rfl, rfl⟩) rfl rfl ⟨Nat.le_of_ble_eq_true rfl, Nat.le_of_ble_eq_true rfl⟩ (Nat.le_of_ble_eq_true rfl) ⟨rfl, rfl⟩ (e8_rangeX k2) rfl ?_
        exact ⟨rfl, rfl⟩
      · refine ⟨Nat.le_of_ble_eq_true rfl, Nat.le_refl _, Or.inl rfl, ?_⟩
        refine R1 (g' := (1, _, _, _, _, _)) rfl rfl ?_
        refine R1 (g' := (2, _, _, _, _, _)) rfl rfl ?_
        refine R1 (g' := (3, _, .int (nI 0) :: _, _, _, _)) rfl rfl ?_
        refine R1 (g' := (4, _, _, _, _, _)) rfl rfl ?_
        refine R_getf rfl rfl (Nat.le_of_ble_eq_true rfl) rfl rfl ?_
        refine R1 (g' := (9, _, .int (nI 8) :: _, _, _, _)) rfl rfl ?_
        refine R_iald 8 rfl (Nat.le_of_ble_eq_true rfl) rfl (by decide) (by decide) rfl ?_
        rw [i8]
        refine R1 (g' := (11, _, .int (nI 1) :: _, _, _, _)) rfl rfl ?_
        refine R1 (g' := (12, _, _, _, _, _)) rfl rfl ?_
        refine R_call3 (Or.inl ⟨rfl, rfl⟩) rfl rfl ⟨Nat.le_of_ble_eq_true rfl, Nat.le_of_ble_eq_true rfl⟩ (Nat.le_of_ble_eq_true rfl) ⟨rfl, rfl⟩ (e9_in) ?_
        rw [w1]
        refine R_ne 22 rfl rfl (fun h15 => ?_) (fun h => by exact absurd h (by decide))
        refine R1 (g' := (23, _, _, _, _, _)) rfl rfl ?_
        refine R1 (g' := (24, _, .int (nI 0) :: _, _, _, _)) rfl rfl ?_
        refine R1 (g' := (25, _, .int (nI 3) :: _, _, _, _)) rfl rfl ?_
        refine R_call3 (Or.inl ⟨rfl, rfl⟩) rfl rfl ⟨Nat.le_of_ble_eq_true rfl, Nat.le_of_ble_eq_true rfl⟩ (Nat.le_of_ble_eq_true rfl) ⟨rfl, rfl⟩ (e9_in) ?_
        rw [k2]
        refine R_eq 35 rfl rfl (fun h28 => ?_) (fun h => by exact absurd rfl h)
        refine R1 (g' := (36, _, .int (nI 2) :: _, _, _, _)) rfl rfl ?_
        refine R_put rfl rfl (Nat.le_of_ble_eq_true rfl) rfl (Nat.le_of_ble_eq_true rfl) ⟨_, rfl, Or.inl rfl, _, rfl, rfl⟩ rfl ?_
        change xRun _ _ (39, _, _, wd (put s 142 6 (nI 2)), _, _)
        refine R1 (g' := (40, _, _, _, _, _)) rfl rfl ?_
        refine R_getf rfl rfl (Nat.le_of_ble_eq_true rfl) rfl rfl ?_
        rw [put6]
        refine R_eq 50 rfl rfl (fun h => by exact absurd h (by decide)) (fun h43 => ?_)
        refine R1 (g' := (47, _, .int (nI 0) :: _, _, _, _)) rfl rfl ?_
        refine R1 (g' := (63, _, _, _, _, _)) rfl rfl ?_
        refine R_iret rfl ?_
        exact ⟨rfl, rfl⟩
    | true =>
      obtain ⟨k, hk, rfl⟩ := xhas_of (by omega) k1
      obtain ⟨w, rfl, y1, y2⟩ := inI_of (by decide) k2 (by decide)
      have hos := e_ofStep (s := s) xsta_1.2.2.2 (show k < 8 by omega) (show w < 4 by omega)
      rw [sStep_eq hR.1.2 (by omega) (by omega)] at hos
      refine Pair_t (s1 := s) (s2 := put s 142 6 (nI 0)) (v := s.1 143 (41 + 4 * k + w)) ?_ ?_ ⟨Rl_code hR, put6⟩
      · refine ⟨Nat.le_of_ble_eq_true rfl, Nat.le_refl _, Or.inl rfl, ?_⟩
        refine R1 (g' := (1, _, _, _, _, _)) rfl rfl ?_
        refine R_getf rfl rfl (Nat.le_of_ble_eq_true rfl) rfl rfl ?_
        refine R_getf rfl rfl (Nat.le_of_ble_eq_true rfl) rfl rfl ?_
        refine R1 (g' := (8, _, _, _, _, _)) rfl rfl ?_
        refine R_call2 (Or.inr (Or.inl ⟨rfl, rfl⟩)) rfl rfl ⟨Nat.le_of_ble_eq_true rfl, Nat.le_of_ble_eq_true rfl⟩ (Nat.le_of_ble_eq_true rfl) ⟨rfl, rfl⟩ (⟨⟨_, _, _, rfl, (Nat.le_of_ble_eq_true rfl), rfl⟩, e_stHas xsta_1.2.2.2 hm⟩) ?_
        rw [k1]
        refine R_ne 24 rfl rfl (fun h11 => ?_) (fun h => by exact absurd h (by decide))
        refine R1 (g' := (25, _, _, _, _, _)) rfl rfl ?_
        refine R1 (g' := (26, _, .int (nI 0) :: _, _, _, _)) rfl rfl ?_
        refine R1 (g' := (27, _, .int (nI 3) :: _, _, _, _)) rfl rfl ?_
        refine R_call3 (Or.inl ⟨rfl, rfl⟩) rfl rfl ⟨Nat.le_of_ble_eq_true rfl, Nat.le_of_ble_eq_true rfl⟩ (Nat.le_of_ble_eq_true rfl) ⟨rfl, rfl⟩ (e8_range k2) ?_
        refine R1 (g' := (31, _, _, _, _, _)) rfl rfl ?_
        refine R_getf rfl rfl (Nat.le_of_ble_eq_true rfl) rfl rfl ?_
        refine R_getf rfl rfl (Nat.le_of_ble_eq_true rfl) rfl rfl ?_
        refine R1 (g' := (38, _, _, _, _, _)) rfl rfl ?_
        refine R1 (g' := (39, _, _, _, _, _)) rfl rfl ?_
        refine R_call3 (Or.inr (Or.inl ⟨rfl, rfl⟩)) rfl rfl ⟨Nat.le_of_ble_eq_true rfl, Nat.le_of_ble_eq_true rfl⟩ (Nat.le_of_ble_eq_true rfl) ⟨rfl, rfl⟩ (⟨⟨_, _, _, rfl, (Nat.le_of_ble_eq_true rfl), rfl⟩, hos⟩) ?_
        refine R_iret rfl ?_
        exact ⟨rfl, rfl⟩
      · refine ⟨Nat.le_of_ble_eq_true rfl, Nat.le_refl _, Or.inl rfl, ?_⟩
        refine R1 (g' := (1, _, _, _, _, _)) rfl rfl ?_
        refine R1 (g' := (2, _, _, _, _, _)) rfl rfl ?_
        refine R1 (g' := (3, _, .int (nI 0) :: _, _, _, _)) rfl rfl ?_
        refine R1 (g' := (4, _, _, _, _, _)) rfl rfl ?_
        refine R_getf rfl rfl (Nat.le_of_ble_eq_true rfl) rfl rfl ?_
        refine R1 (g' := (9, _, .int (nI 8) :: _, _, _, _)) rfl rfl ?_
        refine R_iald 8 rfl (Nat.le_of_ble_eq_true rfl) rfl (by decide) (by decide) rfl ?_
        rw [i8]
        refine R1 (g' := (11, _, .int (nI 1) :: _, _, _, _)) rfl rfl ?_
        refine R1 (g' := (12, _, _, _, _, _)) rfl rfl ?_
        refine R_call3 (Or.inl ⟨rfl, rfl⟩) rfl rfl ⟨Nat.le_of_ble_eq_true rfl, Nat.le_of_ble_eq_true rfl⟩ (Nat.le_of_ble_eq_true rfl) ⟨rfl, rfl⟩ (e9_in) ?_
        rw [w1]
        refine R_ne 22 rfl rfl (fun h15 => ?_) (fun h => by exact absurd h (by decide))
        refine R1 (g' := (23, _, _, _, _, _)) rfl rfl ?_
        refine R1 (g' := (24, _, .int (nI 0) :: _, _, _, _)) rfl rfl ?_
        refine R1 (g' := (25, _, .int (nI 3) :: _, _, _, _)) rfl rfl ?_
        refine R_call3 (Or.inl ⟨rfl, rfl⟩) rfl rfl ⟨Nat.le_of_ble_eq_true rfl, Nat.le_of_ble_eq_true rfl⟩ (Nat.le_of_ble_eq_true rfl) ⟨rfl, rfl⟩ (e9_in) ?_
        rw [k2]
        refine R_eq 35 rfl rfl (fun h => by exact absurd h (by decide)) (fun h28 => ?_)
        refine R1 (g' := (32, _, .int (nI 0) :: _, _, _, _)) rfl rfl ?_
        refine R1 (g' := (36, _, _, _, _, _)) rfl rfl ?_
        refine R_put rfl rfl (Nat.le_of_ble_eq_true rfl) rfl (Nat.le_of_ble_eq_true rfl) ⟨_, rfl, Or.inl rfl, _, rfl, rfl⟩ rfl ?_
        change xRun _ _ (39, _, _, wd (put s 142 6 (nI 0)), _, _)
        refine R1 (g' := (40, _, _, _, _, _)) rfl rfl ?_
        refine R_getf rfl rfl (Nat.le_of_ble_eq_true rfl) rfl rfl ?_
        rw [put6]
        refine R_eq 50 rfl rfl (fun h43 => ?_) (fun h => by exact absurd (by decide) h)
        refine R1 (g' := (51, _, _, _, _, _)) rfl rfl ?_
        refine R_getf rfl rfl (Nat.le_of_ble_eq_true rfl) rfl rfl ?_
        refine R1 (g' := (56, _, .int (nI 41) :: _, _, _, _)) rfl rfl ?_
        refine R1 (g' := (57, _, .int (nI 4) :: _, _, _, _)) rfl rfl ?_
        refine R1 (g' := (58, _, _, _, _, _)) rfl rfl ?_
        refine R1 (g' := (59, _, _, _, _, _)) rfl rfl ?_
        rw [pk_mul]
        refine R1 (g' := (60, _, _, _, _, _)) rfl rfl ?_
        rw [nI_add]
        refine R1 (g' := (61, _, _, _, _, _)) rfl rfl ?_
        refine R1 (g' := (62, _, _, _, _, _)) rfl rfl ?_
        rw [nI_add]
        refine R_iald (41 + 4 * k + w) rfl (Nat.le_of_ble_eq_true rfl) rfl (by omega) (by decide) rfl ?_
        rw [put6n (by decide)]
        refine R_iret rfl ?_
        exact ⟨rfl, rfl⟩
theorem qVol {Q : Nat → Int32} (h : pInv Q) : ∀ n, n ≤ qn Q 7 → ∃ V, V ≤ 9000000 * n ∧ csum (fun k => Q (11 + 4 * k)) n = nI V
  | 0, _ => ⟨0, Nat.zero_le _, rfl⟩
  | n + 1, hn => by
    obtain ⟨m, h1, h2⟩ := qVol h n (by omega)
    obtain ⟨p1, p2, p3, p4, p5, p6, p7⟩ := h.2.2.2.2.1 n (by omega)
    refine ⟨m + qn Q (11 + 4 * n), by omega, ?_⟩
    rw [csum, h2, ← nI_add]
    exact congrArg (fun z => nI m + z) p3
theorem e8_lengthWith {s : xs} {v a b : Nat} (ha : 5 ≤ a) (ha2 : a ≤ 100) (hb : 5 ≤ b) (hb2 : b ≤ 100) (hv : v < 2 ^ 31) : Ev_X8_lengthWith [.int (nI v), .int (nI a), .int (nI b)] (wd s) (.inl (some (.int (nI (nLn v a b))))) (wd s) :=
  e_lengthWith ha2 hb2 (Nat.mul_pos (by omega) (by omega)) hv
theorem c_vol {s : xs} {Q : Nat → Int32} (hs : bRel s 2 Q) (hi : pInv Q) : Ev_X0_volumeOfAll [.ref 2] (wd s) (.inl (some (.int (csum (fun k => Q (11 + 4 * k)) (qn Q 7))))) (wd s) := by
  have h := e_volumeOfAll (s := s) xbar_2 (hs.1.1.trans hi.1.1) hi.1.2.2
  rw [csum_congr (g := fun k => Q (11 + 4 * k)) (fun k hk => (hs.2 k (by have := hi.1.2.2; omega)).2.2.1)] at h
  exact h
theorem pr_lengthAs {s : xs} {w h : Int32} (hR : Rl s) : Pair Ev_X8_lengthAs Ev_X9_lengthAs [.ref 0, .int w, .int h] [.ref 142, .int w, .int h] ["java/lang/IllegalArgumentException"] s := by
  obtain ⟨i7, n1, n8⟩ := hR.2.1.1
  cases k1 : inI w (nI 5) (nI 100) with
  | false =>
    have ks : okS2 w h = false := by unfold okS2; rw [k1, Bool.false_and]
    refine Pair_x (s1 := s) (s2 := s) 0 "java/lang/IllegalArgumentException" rfl ?_ ?_ hR
    · refine ⟨Nat.le_of_ble_eq_true rfl, Nat.le_refl _, trivial, ?_⟩
      refine R1 (g' := (1, _, _, _, _, _)) rfl rfl ?_
      refine R1 (g' := (2, _, _, _, _, _)) rfl rfl ?_
      refine R_call2X (Or.inl ⟨rfl, rfl⟩) rfl rfl ⟨Nat.le_of_ble_eq_true rfl, Nat.le_of_ble_eq_true rfl⟩ (Nat.le_of_ble_eq_true rfl) ⟨rfl, rfl⟩ (e8_sidesX ks) rfl ?_
      exact ⟨rfl, rfl⟩
    · refine ⟨Nat.le_of_ble_eq_true rfl, Nat.le_refl _, Or.inl rfl, ?_⟩
      refine R1 (g' := (1, _, _, _, _, _)) rfl rfl ?_
      refine R1 (g' := (2, _, _, _, _, _)) rfl rfl ?_
      refine R_call1 (Or.inl ⟨rfl, rfl⟩) rfl rfl ⟨Nat.le_of_ble_eq_true rfl, Nat.le_of_ble_eq_true rfl⟩ (Nat.le_of_ble_eq_true rfl) ⟨rfl, rfl⟩ (e9_isSize) ?_
      rw [k1]
      refine R_eq 19 rfl rfl (fun h5 => ?_) (fun h => by exact absurd rfl h)
      refine R1 (g' := (20, _, .int (nI 1) :: _, _, _, _)) rfl rfl ?_
      refine R_put rfl rfl (Nat.le_of_ble_eq_true rfl) rfl (Nat.le_of_ble_eq_true rfl) ⟨_, rfl, Or.inl rfl, _, rfl, rfl⟩ rfl ?_
      change xRun _ _ (23, _, _, wd (put s 142 6 (nI 1)), _, _)
      refine R1 (g' := (24, _, _, _, _, _)) rfl rfl ?_
      refine R_getf rfl rfl (Nat.le_of_ble_eq_true rfl) rfl rfl ?_
      rw [put6]
      refine R_eq 34 rfl rfl (fun h => by exact absurd h (by decide)) (fun h27 => ?_)
      refine R1 (g' := (31, _, .int (nI 0) :: _, _, _, _)) rfl rfl ?_
      refine R1 (g' := (42, _, _, _, _, _)) rfl rfl ?_
      refine R_iret rfl ?_
      exact ⟨rfl, rfl⟩
  | true =>
    cases k2 : inI h (nI 5) (nI 100) with
    | false =>
      have ks : okS2 w h = false := by unfold okS2; rw [k1, k2]; rfl
      refine Pair_x (s1 := s) (s2 := s) 0 "java/lang/IllegalArgumentException" rfl ?_ ?_ hR
      · refine ⟨Nat.le_of_ble_eq_true rfl, Nat.le_refl _, trivial, ?_⟩
        refine R1 (g' := (1, _, _, _, _, _)) rfl rfl ?_
        refine R1 (g' := (2, _, _, _, _, _)) rfl rfl ?_
        refine R_call2X (Or.inl ⟨rfl, rfl⟩) rfl rfl ⟨Nat.le_of_ble_eq_true rfl, Nat.le_of_ble_eq_true rfl⟩ (Nat.le_of_ble_eq_true rfl) ⟨rfl, rfl⟩ (e8_sidesX ks) rfl ?_
        exact ⟨rfl, rfl⟩
      · refine ⟨Nat.le_of_ble_eq_true rfl, Nat.le_refl _, Or.inl rfl, ?_⟩
        refine R1 (g' := (1, _, _, _, _, _)) rfl rfl ?_
        refine R1 (g' := (2, _, _, _, _, _)) rfl rfl ?_
        refine R_call1 (Or.inl ⟨rfl, rfl⟩) rfl rfl ⟨Nat.le_of_ble_eq_true rfl, Nat.le_of_ble_eq_true rfl⟩ (Nat.le_of_ble_eq_true rfl) ⟨rfl, rfl⟩ (e9_isSize) ?_
        rw [k1]
        refine R_eq 19 rfl rfl (fun h => by exact absurd h (by decide)) (fun h5 => ?_)
        refine R1 (g' := (9, _, _, _, _, _)) rfl rfl ?_
        refine R_call1 (Or.inl ⟨rfl, rfl⟩) rfl rfl ⟨Nat.le_of_ble_eq_true rfl, Nat.le_of_ble_eq_true rfl⟩ (Nat.le_of_ble_eq_true rfl) ⟨rfl, rfl⟩ (e9_isSize) ?_
        rw [k2]
        refine R_eq 19 rfl rfl (fun h12 => ?_) (fun h => by exact absurd rfl h)
        refine R1 (g' := (20, _, .int (nI 1) :: _, _, _, _)) rfl rfl ?_
        refine R_put rfl rfl (Nat.le_of_ble_eq_true rfl) rfl (Nat.le_of_ble_eq_true rfl) ⟨_, rfl, Or.inl rfl, _, rfl, rfl⟩ rfl ?_
        change xRun _ _ (23, _, _, wd (put s 142 6 (nI 1)), _, _)
        refine R1 (g' := (24, _, _, _, _, _)) rfl rfl ?_
        refine R_getf rfl rfl (Nat.le_of_ble_eq_true rfl) rfl rfl ?_
        rw [put6]
        refine R_eq 34 rfl rfl (fun h => by exact absurd h (by decide)) (fun h27 => ?_)
        refine R1 (g' := (31, _, .int (nI 0) :: _, _, _, _)) rfl rfl ?_
        refine R1 (g' := (42, _, _, _, _, _)) rfl rfl ?_
        refine R_iret rfl ?_
        exact ⟨rfl, rfl⟩
    | true =>
      have ks : okS2 w h = true := by unfold okS2; rw [k1, k2]; rfl
      obtain ⟨a, b, rfl, rfl, a1, a2, b1, b2, ra, rb⟩ := okS2_of ks
      obtain ⟨V, V1, V2⟩ := qVol hR.2.1 _ (Nat.le_refl _)
      have hcv := c_vol hR.1.1 hR.2.1
      rw [V2] at hcv
      have hrv := e9_volumes (s := put s 142 6 (nI 0)) (n := qn (s.1 143) 7) (by rw [put6n (by decide)]; exact i7) n8
      rw [put6n (by decide), V2] at hrv
      have hab : a * b ≤ 100 * 100 := Nat.mul_le_mul a2 b2
      have hab1 : 5 * 5 ≤ a * b := Nat.mul_le_mul a1 b1
      refine Pair_t (s1 := s) (s2 := put s 142 6 (nI 0)) (v := nI (nLn V a b)) ?_ ?_ ⟨Rl_code hR, put6⟩
      · refine ⟨Nat.le_of_ble_eq_true rfl, Nat.le_refl _, Or.inl rfl, ?_⟩
        refine R1 (g' := (1, _, _, _, _, _)) rfl rfl ?_
        refine R1 (g' := (2, _, _, _, _, _)) rfl rfl ?_
        refine R_call2 (Or.inl ⟨rfl, rfl⟩) rfl rfl ⟨Nat.le_of_ble_eq_true rfl, Nat.le_of_ble_eq_true rfl⟩ (Nat.le_of_ble_eq_true rfl) ⟨rfl, rfl⟩ (e8_sides ks) ?_
        refine R1 (g' := (6, _, _, _, _, _)) rfl rfl ?_
        refine R_getf rfl rfl (Nat.le_of_ble_eq_true rfl) rfl rfl ?_
        refine R_getf rfl rfl (Nat.le_of_ble_eq_true rfl) rfl rfl ?_
        refine R_call1 (Or.inr (Or.inl ⟨rfl, rfl⟩)) rfl rfl ⟨Nat.le_of_ble_eq_true rfl, Nat.le_of_ble_eq_true rfl⟩ (Nat.le_of_ble_eq_true rfl) ⟨rfl, rfl⟩ (⟨⟨_, _, _, rfl, (Nat.le_of_ble_eq_true rfl), rfl⟩, hcv⟩) ?_
        refine R1 (g' := (16, _, _, _, _, _)) rfl rfl ?_
        refine R1 (g' := (17, _, _, _, _, _)) rfl rfl ?_
        refine R_call3 (Or.inl ⟨rfl, rfl⟩) rfl rfl ⟨Nat.le_of_ble_eq_true rfl, Nat.le_of_ble_eq_true rfl⟩ (Nat.le_of_ble_eq_true rfl) ⟨rfl, rfl⟩ (e8_lengthWith a1 a2 b1 b2 (by omega)) ?_
        refine R_iret rfl ?_
        exact ⟨rfl, rfl⟩
      · refine ⟨Nat.le_of_ble_eq_true rfl, Nat.le_refl _, Or.inl rfl, ?_⟩
        refine R1 (g' := (1, _, _, _, _, _)) rfl rfl ?_
        refine R1 (g' := (2, _, _, _, _, _)) rfl rfl ?_
        refine R_call1 (Or.inl ⟨rfl, rfl⟩) rfl rfl ⟨Nat.le_of_ble_eq_true rfl, Nat.le_of_ble_eq_true rfl⟩ (Nat.le_of_ble_eq_true rfl) ⟨rfl, rfl⟩ (e9_isSize) ?_
        rw [k1]
        refine R_eq 19 rfl rfl (fun h => by exact absurd h (by decide)) (fun h5 => ?_)
        refine R1 (g' := (9, _, _, _, _, _)) rfl rfl ?_
        refine R_call1 (Or.inl ⟨rfl, rfl⟩) rfl rfl ⟨Nat.le_of_ble_eq_true rfl, Nat.le_of_ble_eq_true rfl⟩ (Nat.le_of_ble_eq_true rfl) ⟨rfl, rfl⟩ (e9_isSize) ?_
        rw [k2]
        refine R_eq 19 rfl rfl (fun h => by exact absurd h (by decide)) (fun h12 => ?_)
        refine R1 (g' := (16, _, .int (nI 0) :: _, _, _, _)) rfl rfl ?_
        refine R1 (g' := (20, _, _, _, _, _)) rfl rfl ?_
        refine R_put rfl rfl (Nat.le_of_ble_eq_true rfl) rfl (Nat.le_of_ble_eq_true rfl) ⟨_, rfl, Or.inl rfl, _, rfl, rfl⟩ rfl ?_
        change xRun _ _ (23, _, _, wd (put s 142 6 (nI 0)), _, _)
        refine R1 (g' := (24, _, _, _, _, _)) rfl rfl ?_
        refine R_getf rfl rfl (Nat.le_of_ble_eq_true rfl) rfl rfl ?_
        rw [put6]
        refine R_eq 34 rfl rfl (fun h27 => ?_) (fun h => by exact absurd (by decide) h)
        refine R1 (g' := (35, _, _, _, _, _)) rfl rfl ?_
        refine R_call1 (Or.inr (Or.inl ⟨rfl, rfl⟩)) rfl rfl ⟨Nat.le_of_ble_eq_true rfl, Nat.le_of_ble_eq_true rfl⟩ (Nat.le_of_ble_eq_true rfl) ⟨rfl, rfl⟩ (⟨⟨_, _, _, rfl, (Nat.le_of_ble_eq_true rfl), rfl⟩, hrv⟩) ?_
        refine R1 (g' := (39, _, _, _, _, _)) rfl rfl ?_
        refine R1 (g' := (40, _, _, _, _, _)) rfl rfl ?_
        refine R1 (g' := (41, _, _, _, _, _)) rfl rfl ?_
        rw [pk_mul]
        refine R_idiv rfl (nI_ne0 (by omega) (by omega)) ?_
        refine R_iret rfl ?_
        exact ⟨o_i (pk_div (by omega) (by omega) (by omega)), rfl⟩
