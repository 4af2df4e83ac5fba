theorem pr_cut {s : xs} {x y : Int32} (hR : Rl s) : Pair Ev_X8_cut Ev_X9_cut [.ref 0, .int x, .int y] [.ref 142, .int x, .int y] ["java/lang/IndexOutOfBoundsException", "java/lang/IllegalArgumentException", "java/lang/IllegalStateException"] s := by
  obtain ⟨i7, n1, n8⟩ := hR.2.1.1
  have hn : s.1 2 0 = nI (qn (s.1 143) 7) := hR.1.1.1.1.trans i7
  cases k1 : xhas x (qn (s.1 143) 7) with
  | false =>
    refine Pair_x (s1 := s) (s2 := s) 0 "java/lang/IndexOutOfBoundsException" rfl ?_ ?_ hR
    · refine ⟨Nat.le_of_ble_eq_true rfl, Nat.le_refl _, trivial, ?_⟩
      refine R1 (g' := (1, _, _, _, _, _)) rfl rfl ?_
      refine R1 (g' := (2, _, _, _, _, _)) rfl rfl ?_
      refine R_call2X (Or.inr (Or.inl ⟨rfl, rfl⟩)) rfl rfl ⟨Nat.le_of_ble_eq_true rfl, Nat.le_of_ble_eq_true rfl⟩ (Nat.le_of_ble_eq_true rfl) ⟨rfl, rfl⟩ (⟨⟨_, _, _, rfl, (Nat.le_of_ble_eq_true rfl), rfl⟩, e8_partX hn k1⟩) rfl ?_
      exact ⟨rfl, rfl⟩
    · refine ⟨Nat.le_of_ble_eq_true rfl, Nat.le_refl _, Or.inl rfl, ?_⟩
      refine R1 (g' := (1, _, _, _, _, _)) rfl rfl ?_
      refine R1 (g' := (2, _, _, _, _, _)) rfl rfl ?_
      refine R1 (g' := (3, _, _, _, _, _)) rfl rfl ?_
      refine R_call2 (Or.inr (Or.inl ⟨rfl, rfl⟩)) rfl rfl ⟨Nat.le_of_ble_eq_true rfl, Nat.le_of_ble_eq_true rfl⟩ (Nat.le_of_ble_eq_true rfl) ⟨rfl, rfl⟩ (⟨⟨_, _, _, rfl, (Nat.le_of_ble_eq_true rfl), rfl⟩, e9_isPart i7 n1 (by omega)⟩) ?_
      rw [k1]
      refine R_ne 13 rfl rfl (fun h => by exact absurd rfl h) (fun h6 => ?_)
      refine R1 (g' := (10, _, .int (nI 1) :: _, _, _, _)) rfl rfl ?_
      refine R1 (g' := (42, _, _, _, _, _)) rfl rfl ?_
      refine R_put rfl rfl (Nat.le_of_ble_eq_true rfl) rfl (Nat.le_of_ble_eq_true rfl) ⟨_, rfl, Or.inl rfl, _, rfl, rfl⟩ rfl ?_
      change xRun _ _ (45, _, _, wd (put s 142 6 (nI 1)), _, _)
      refine R1 (g' := (46, _, _, _, _, _)) rfl rfl ?_
      refine R_getf rfl rfl (Nat.le_of_ble_eq_true rfl) rfl rfl ?_
      rw [put6]
      refine R_eq 54 rfl rfl (fun h => by exact absurd h (by decide)) (fun h49 => ?_)
      refine R1 (g' := (53, _, .int (nI 0) :: _, _, _, _)) rfl rfl ?_
      refine R_iret rfl ?_
      exact ⟨rfl, rfl⟩
  | true =>
    cases k2 : inI y (nI 1) (nI 9999) with
    | false =>
      refine Pair_x (s1 := s) (s2 := s) 1 "java/lang/IllegalArgumentException" rfl ?_ ?_ hR
      · refine ⟨Nat.le_of_ble_eq_true rfl, Nat.le_refl _, trivial, ?_⟩
        refine R1 (g' := (1, _, _, _, _, _)) rfl rfl ?_
        refine R1 (g' := (2, _, _, _, _, _)) rfl rfl ?_
        refine R_call2 (Or.inr (Or.inl ⟨rfl, rfl⟩)) rfl rfl ⟨Nat.le_of_ble_eq_true rfl, Nat.le_of_ble_eq_true rfl⟩ (Nat.le_of_ble_eq_true rfl) ⟨rfl, rfl⟩ (⟨⟨_, _, _, rfl, (Nat.le_of_ble_eq_true rfl), rfl⟩, e8_part hn k1⟩) ?_
        refine R1 (g' := (6, _, _, _, _, _)) rfl rfl ?_
        refine R1 (g' := (7, _, .int (nI 1) :: _, _, _, _)) rfl rfl ?_
        refine R1 (g' := (10, _, .int (nI 9999) :: _, _, _, _)) rfl rfl ?_
        refine R_call3X (Or.inl ⟨rfl, rfl⟩) rfl rfl ⟨Nat.le_of_ble_eq_true rfl, Nat.le_of_ble_eq_true rfl⟩ (Nat.le_of_ble_eq_true rfl) ⟨rfl, rfl⟩ (e8_rangeX k2) rfl ?_
        exact ⟨rfl, rfl⟩
      · refine ⟨Nat.le_of_ble_eq_true rfl, Nat.le_refl _, Or.inl rfl, ?_⟩
        refine R1 (g' := (1, _, _, _, _, _)) rfl rfl ?_
        refine R1 (g' := (2, _, _, _, _, _)) rfl rfl ?_
        refine R1 (g' := (3, _, _, _, _, _)) rfl rfl ?_
        refine R_call2 (Or.inr (Or.inl ⟨rfl, rfl⟩)) rfl rfl ⟨Nat.le_of_ble_eq_true rfl, Nat.le_of_ble_eq_true rfl⟩ (Nat.le_of_ble_eq_true rfl) ⟨rfl, rfl⟩ (⟨⟨_, _, _, rfl, (Nat.le_of_ble_eq_true rfl), rfl⟩, e9_isPart i7 n1 (by omega)⟩) ?_
        rw [k1]
        refine R_ne 13 rfl rfl (fun h6 => ?_) (fun h => by exact absurd h (by decide))
        refine R1 (g' := (14, _, _, _, _, _)) rfl rfl ?_
        refine R1 (g' := (15, _, .int (nI 1) :: _, _, _, _)) rfl rfl ?_
        refine R1 (g' := (18, _, .int (nI 9999) :: _, _, _, _)) rfl rfl ?_
        refine R_call3 (Or.inl ⟨rfl, rfl⟩) rfl rfl ⟨Nat.le_of_ble_eq_true rfl, Nat.le_of_ble_eq_true rfl⟩ (Nat.le_of_ble_eq_true rfl) ⟨rfl, rfl⟩ (e9_in) ?_
        rw [k2]
        refine R_ne 28 rfl rfl (fun h => by exact absurd rfl h) (fun h21 => ?_)
        refine R1 (g' := (25, _, .int (nI 2) :: _, _, _, _)) rfl rfl ?_
        refine R1 (g' := (42, _, _, _, _, _)) rfl rfl ?_
        refine R_put rfl rfl (Nat.le_of_ble_eq_true rfl) rfl (Nat.le_of_ble_eq_true rfl) ⟨_, rfl, Or.inl rfl, _, rfl, rfl⟩ rfl ?_
        change xRun _ _ (45, _, _, wd (put s 142 6 (nI 2)), _, _)
        refine R1 (g' := (46, _, _, _, _, _)) rfl rfl ?_
        refine R_getf rfl rfl (Nat.le_of_ble_eq_true rfl) rfl rfl ?_
        rw [put6]
        refine R_eq 54 rfl rfl (fun h => by exact absurd h (by decide)) (fun h49 => ?_)
        refine R1 (g' := (53, _, .int (nI 0) :: _, _, _, _)) rfl rfl ?_
        refine R_iret rfl ?_
        exact ⟨rfl, rfl⟩
    | true =>
      obtain ⟨k, hk, rfl⟩ := xhas_of (by omega) k1
      obtain ⟨l, rfl, l1, l2⟩ := inI_of (by decide) k2 (by decide)
      have hp := hR.2.1.2.2.2.2.1 k hk
      have hcs := c_canSplit (c := l) hR.1.1 hR.2.1 hk (by omega)
      cases k3 : qCanC (s.1 143) k l with
      | false =>
        have k3' : (decide (qn (s.1 143) 7 < 8) && decide (l < qLen (s.1 143) k)) = false := k3
        refine Pair_x (s1 := s) (s2 := s) 2 "java/lang/IllegalStateException" rfl ?_ ?_ hR
        · refine ⟨Nat.le_of_ble_eq_true rfl, Nat.le_refl _, trivial, ?_⟩
          refine R1 (g' := (1, _, _, _, _, _)) rfl rfl ?_
          refine R1 (g' := (2, _, _, _, _, _)) rfl rfl ?_
          refine R_call2 (Or.inr (Or.inl ⟨rfl, rfl⟩)) rfl rfl ⟨Nat.le_of_ble_eq_true rfl, Nat.le_of_ble_eq_true rfl⟩ (Nat.le_of_ble_eq_true rfl) ⟨rfl, rfl⟩ (⟨⟨_, _, _, rfl, (Nat.le_of_ble_eq_true rfl), rfl⟩, e8_part hn k1⟩) ?_
          refine R1 (g' := (6, _, _, _, _, _)) rfl rfl ?_
          refine R1 (g' := (7, _, .int (nI 1) :: _, _, _, _)) rfl rfl ?_
          refine R1 (g' := (10, _, .int (nI 9999) :: _, _, _, _)) rfl rfl ?_
          refine R_call3 (Or.inl ⟨rfl, rfl⟩) rfl rfl ⟨Nat.le_of_ble_eq_true rfl, Nat.le_of_ble_eq_true rfl⟩ (Nat.le_of_ble_eq_true rfl) ⟨rfl, rfl⟩ (e8_range k2) ?_
          refine R1 (g' := (14, _, _, _, _, _)) rfl rfl ?_
          refine R_getf rfl rfl (Nat.le_of_ble_eq_true rfl) rfl rfl ?_
          refine R_getf rfl rfl (Nat.le_of_ble_eq_true rfl) rfl rfl ?_
          refine R1 (g' := (21, _, _, _, _, _)) rfl rfl ?_
          refine R1 (g' := (22, _, _, _, _, _)) rfl rfl ?_
          refine R_call3 (Or.inr (Or.inl ⟨rfl, rfl⟩)) rfl rfl ⟨Nat.le_of_ble_eq_true rfl, Nat.le_of_ble_eq_true rfl⟩ (Nat.le_of_ble_eq_true rfl) ⟨rfl, rfl⟩ (⟨⟨_, _, _, rfl, (Nat.le_of_ble_eq_true rfl), rfl⟩, hcs⟩) ?_
          rw [k3]
          refine R_ne 38 rfl rfl (fun h => by exact absurd rfl h) (fun h25 => ?_)
          refine R_throw rfl rfl ⟨Nat.le_of_ble_eq_true rfl, Nat.le_of_ble_eq_true rfl⟩ (Nat.le_of_ble_eq_true rfl) ?_
          exact ⟨rfl, rfl⟩
        · refine ⟨Nat.le_of_ble_eq_true rfl, Nat.le_refl _, Or.inl rfl, ?_⟩
          refine R1 (g' := (1, _, _, _, _, _)) rfl rfl ?_
          refine R1 (g' := (2, _, _, _, _, _)) rfl rfl ?_
          refine R1 (g' := (3, _, _, _, _, _)) rfl rfl ?_
          refine R_call2 (Or.inr (Or.inl ⟨rfl, rfl⟩)) rfl rfl ⟨Nat.le_of_ble_eq_true rfl, Nat.le_of_ble_eq_true rfl⟩ (Nat.le_of_ble_eq_true rfl) ⟨rfl, rfl⟩ (⟨⟨_, _, _, rfl, (Nat.le_of_ble_eq_true rfl), rfl⟩, e9_isPart i7 n1 (by omega)⟩) ?_
          rw [k1]
          refine R_ne 13 rfl rfl (fun h6 => ?_) (fun h => by exact absurd h (by decide))
          refine R1 (g' := (14, _, _, _, _, _)) rfl rfl ?_
          refine R1 (g' := (15, _, .int (nI 1) :: _, _, _, _)) rfl rfl ?_
          refine R1 (g' := (18, _, .int (nI 9999) :: _, _, _, _)) rfl rfl ?_
          refine R_call3 (Or.inl ⟨rfl, rfl⟩) rfl rfl ⟨Nat.le_of_ble_eq_true rfl, Nat.le_of_ble_eq_true rfl⟩ (Nat.le_of_ble_eq_true rfl) ⟨rfl, rfl⟩ (e9_in) ?_
          rw [k2]
          refine R_ne 28 rfl rfl (fun h21 => ?_) (fun h => by exact absurd h (by decide))
          refine R1 (g' := (29, _, _, _, _, _)) rfl rfl ?_
          refine R1 (g' := (30, _, _, _, _, _)) rfl rfl ?_
          refine R1 (g' := (31, _, _, _, _, _)) rfl rfl ?_
          refine R_call3 (Or.inr (Or.inl ⟨rfl, rfl⟩)) rfl rfl ⟨Nat.le_of_ble_eq_true rfl, Nat.le_of_ble_eq_true rfl⟩ (Nat.le_of_ble_eq_true rfl) ⟨rfl, rfl⟩ (⟨⟨_, _, _, rfl, (Nat.le_of_ble_eq_true rfl), rfl⟩, e9_canCut i7 n8 hk hp (by omega)⟩) ?_
          rw [k3']
          refine R_eq 41 rfl rfl (fun h34 => ?_) (fun h => by exact absurd rfl h)
          refine R1 (g' := (42, _, .int (nI 3) :: _, _, _, _)) rfl rfl ?_
          refine R_put rfl rfl (Nat.le_of_ble_eq_true rfl) rfl (Nat.le_of_ble_eq_true rfl) ⟨_, rfl, Or.inl rfl, _, rfl, rfl⟩ rfl ?_
          change xRun _ _ (45, _, _, wd (put s 142 6 (nI 3)), _, _)
          refine R1 (g' := (46, _, _, _, _, _)) rfl rfl ?_
          refine R_getf rfl rfl (Nat.le_of_ble_eq_true rfl) rfl rfl ?_
          rw [put6]
          refine R_eq 54 rfl rfl (fun h => by exact absurd h (by decide)) (fun h49 => ?_)
          refine R1 (g' := (53, _, .int (nI 0) :: _, _, _, _)) rfl rfl ?_
          refine R_iret rfl ?_
          exact ⟨rfl, rfl⟩
      | true =>
        have k3' : (decide (qn (s.1 143) 7 < 8) && decide (l < qLen (s.1 143) k)) = true := k3
        have h8 : qn (s.1 143) 7 < 8 := by
          rw [Bool.and_eq_true] at k3'
          exact of_decide_eq_true k3'.1
        obtain ⟨s1, c, hc4, hc, hev, hp1, hv⟩ := Rl_sv hR
        obtain ⟨s2, hsp, hb, wo, hi2⟩ := c_split hp1.1 hR.2.1 hk l1 k3
        have o2 : Sx 21 s1 s2 := Sx_lo wo (by decide) (by decide)
        have e2 : s2.1 143 = s.1 143 := sv_q hv o2
        have ep : s2.1 2 0 = nI (qn (s.1 143) 7 + 1) := hb.1.1.trans (if_pos rfl)
        obtain ⟨s3, hk3, K⟩ := r_keep6 (s := s2) hc4 (sv_3 hv o2 hc)
        have e3 : s3.1 143 = s.1 143 := (K6_q K).trans e2
        have hcc := e9_canCut (s := s2) (k := k) (c := l) (by rw [e2]; exact i7) n8 hk (by rw [e2]; exact hp) (by omega)
        rw [e2] at hcc
        have hcu := e9_cuts (s := s3) (k := k) (c := nI l) (by rw [e3]; exact i7) h8 hk
        rw [e3] at hcu
        refine Pair_t (s1 := s2) (s2 := setP s3 143 (qCut (s.1 143) k (qn (s.1 143) 7) (nI l))) (v := nI (qn (s.1 143) 7 + 1)) ?_ ?_ (mutB hR hc4 hv hp1 wo hb (by simp only [qCut]; (repeat (first | rw [if_pos (by omega)] | rw [if_neg (by omega)]))) (fun i a b => by simp only [qCut]; (repeat (first | rw [if_pos (by omega)] | rw [if_neg (by omega)]))) hi2 Sx_rf K (gX_P gX_rf) (setP_at _ _ _))
        · refine ⟨Nat.le_of_ble_eq_true rfl, Nat.le_refl _, Or.inl rfl, ?_⟩
          refine R1 (g' := (1, _, _, _, _, _)) rfl rfl ?_
          refine R1 (g' := (2, _, _, _, _, _)) rfl rfl ?_
          refine R_call2 (Or.inr (Or.inl ⟨rfl, rfl⟩)) rfl rfl ⟨Nat.le_of_ble_eq_true rfl, Nat.le_of_ble_eq_true rfl⟩ (Nat.le_of_ble_eq_true rfl) ⟨rfl, rfl⟩ (⟨⟨_, _, _, rfl, (Nat.le_of_ble_eq_true rfl), rfl⟩, e8_part hn k1⟩) ?_
          refine R1 (g' := (6, _, _, _, _, _)) rfl rfl ?_
          refine R1 (g' := (7, _, .int (nI 1) :: _, _, _, _)) rfl rfl ?_
          refine R1 (g' := (10, _, .int (nI 9999) :: _, _, _, _)) rfl rfl ?_
          refine R_call3 (Or.inl ⟨rfl, rfl⟩) rfl rfl ⟨Nat.le_of_ble_eq_true rfl, Nat.le_of_ble_eq_true rfl⟩ (Nat.le_of_ble_eq_true rfl) ⟨rfl, rfl⟩ (e8_range k2) ?_
          refine R1 (g' := (14, _, _, _, _, _)) rfl rfl ?_
          refine R_getf rfl rfl (Nat.le_of_ble_eq_true rfl) rfl rfl ?_
          refine R_getf rfl rfl (Nat.le_of_ble_eq_true rfl) rfl rfl ?_
          refine R1 (g' := (21, _, _, _, _, _)) rfl rfl ?_
          refine R1 (g' := (22, _, _, _, _, _)) rfl rfl ?_
          refine R_call3 (Or.inr (Or.inl ⟨rfl, rfl⟩)) rfl rfl ⟨Nat.le_of_ble_eq_true rfl, Nat.le_of_ble_eq_true rfl⟩ (Nat.le_of_ble_eq_true rfl) ⟨rfl, rfl⟩ (⟨⟨_, _, _, rfl, (Nat.le_of_ble_eq_true rfl), rfl⟩, hcs⟩) ?_
          rw [k3]
          refine R_ne 38 rfl rfl (fun h25 => ?_) (fun h => by exact absurd h (by decide))
          refine R1 (g' := (39, _, _, _, _, _)) rfl rfl ?_
          refine R_getf rfl rfl (Nat.le_of_ble_eq_true rfl) rfl rfl ?_
          refine R1 (g' := (43, _, _, _, _, _)) rfl rfl ?_
          refine R_getf rfl rfl (Nat.le_of_ble_eq_true rfl) rfl rfl ?_
          refine R_call2 (Or.inr (Or.inl ⟨rfl, rfl⟩)) rfl rfl ⟨Nat.le_of_ble_eq_true rfl, Nat.le_of_ble_eq_true rfl⟩ (Nat.le_of_ble_eq_true rfl) ⟨rfl, rfl⟩ (⟨⟨_, _, _, rfl, (Nat.le_of_ble_eq_true rfl), rfl⟩, hev⟩) ?_
          refine R1 (g' := (50, _, _, _, _, _)) rfl rfl ?_
          refine R_getf rfl rfl (Nat.le_of_ble_eq_true rfl) rfl rfl ?_
          refine R_getf rfl rfl (Nat.le_of_ble_eq_true rfl) rfl rfl ?_
          refine R1 (g' := (57, _, _, _, _, _)) rfl rfl ?_
          refine R1 (g' := (58, _, _, _, _, _)) rfl rfl ?_
          refine R_call3 (Or.inr (Or.inl ⟨rfl, rfl⟩)) rfl rfl ⟨Nat.le_of_ble_eq_true rfl, Nat.le_of_ble_eq_true rfl⟩ (Nat.le_of_ble_eq_true rfl) ⟨rfl, rfl⟩ (⟨⟨_, _, _, rfl, (Nat.le_of_ble_eq_true rfl), rfl⟩, hsp⟩) ?_
          refine R1 (g' := (62, _, _, _, _, _)) rfl rfl ?_
          refine R_getf rfl rfl (Nat.le_of_ble_eq_true rfl) rfl rfl ?_
          refine R_getf rfl rfl (Nat.le_of_ble_eq_true rfl) rfl rfl ?_
          refine R_getf rfl rfl (Nat.le_of_ble_eq_true rfl) rfl rfl ?_
          refine R_iret rfl ?_
          exact ⟨o_i ep, rfl⟩
        · refine ⟨Nat.le_of_ble_eq_true rfl, Nat.le_refl _, Or.inl rfl, ?_⟩
          refine R1 (g' := (1, _, _, _, _, _)) rfl rfl ?_
          refine R1 (g' := (2, _, _, _, _, _)) rfl rfl ?_
          refine R1 (g' := (3, _, _, _, _, _)) rfl rfl ?_
          refine R_call2 (Or.inr (Or.inl ⟨rfl, rfl⟩)) rfl rfl ⟨Nat.le_of_ble_eq_true rfl, Nat.le_of_ble_eq_true rfl⟩ (Nat.le_of_ble_eq_true rfl) ⟨rfl, rfl⟩ (⟨⟨_, _, _, rfl, (Nat.le_of_ble_eq_true rfl), rfl⟩, e9_isPart (by rw [e2]; exact i7) n1 (by omega)⟩) ?_
          rw [k1]
          refine R_ne 13 rfl rfl (fun h6 => ?_) (fun h => by exact absurd h (by decide))
          refine R1 (g' := (14, _, _, _, _, _)) rfl rfl ?_
          refine R1 (g' := (15, _, .int (nI 1) :: _, _, _, _)) rfl rfl ?_
          refine R1 (g' := (18, _, .int (nI 9999) :: _, _, _, _)) rfl rfl ?_
          refine R_call3 (Or.inl ⟨rfl, rfl⟩) rfl rfl ⟨Nat.le_of_ble_eq_true rfl, Nat.le_of_ble_eq_true rfl⟩ (Nat.le_of_ble_eq_true rfl) ⟨rfl, rfl⟩ (e9_in) ?_
          rw [k2]
          refine R_ne 28 rfl rfl (fun h21 => ?_) (fun h => by exact absurd h (by decide))
          refine R1 (g' := (29, _, _, _, _, _)) rfl rfl ?_
          refine R1 (g' := (30, _, _, _, _, _)) rfl rfl ?_
          refine R1 (g' := (31, _, _, _, _, _)) rfl rfl ?_
          refine R_call3 (Or.inr (Or.inl ⟨rfl, rfl⟩)) rfl rfl ⟨Nat.le_of_ble_eq_true rfl, Nat.le_of_ble_eq_true rfl⟩ (Nat.le_of_ble_eq_true rfl) ⟨rfl, rfl⟩ (⟨⟨_, _, _, rfl, (Nat.le_of_ble_eq_true rfl), rfl⟩, hcc⟩) ?_
          rw [k3']
          refine R_eq 41 rfl rfl (fun h => by exact absurd h (by decide)) (fun h34 => ?_)
          refine R1 (g' := (38, _, .int (nI 0) :: _, _, _, _)) rfl rfl ?_
          refine R1 (g' := (42, _, _, _, _, _)) rfl rfl ?_
          refine R_put rfl rfl (Nat.le_of_ble_eq_true rfl) rfl (Nat.le_of_ble_eq_true rfl) ⟨_, rfl, Or.inl rfl, _, rfl, rfl⟩ rfl ?_
          change xRun _ _ (45, _, _, wd (put s2 142 6 (nI 0)), _, _)
          refine R1 (g' := (46, _, _, _, _, _)) rfl rfl ?_
          refine R_getf rfl rfl (Nat.le_of_ble_eq_true rfl) rfl rfl ?_
          rw [put6]
          refine R_eq 54 rfl rfl (fun h49 => ?_) (fun h => by exact absurd (by decide) h)
          refine R1 (g' := (55, _, _, _, _, _)) rfl rfl ?_
          refine R_call1 (Or.inr (Or.inl ⟨rfl, rfl⟩)) rfl rfl ⟨Nat.le_of_ble_eq_true rfl, Nat.le_of_ble_eq_true rfl⟩ (Nat.le_of_ble_eq_true rfl) ⟨rfl, rfl⟩ (⟨⟨_, _, _, rfl, (Nat.le_of_ble_eq_true rfl), rfl⟩, hk3⟩) ?_
          refine R1 (g' := (59, _, _, _, _, _)) rfl rfl ?_
          refine R1 (g' := (60, _, _, _, _, _)) rfl rfl ?_
          refine R1 (g' := (61, _, _, _, _, _)) rfl rfl ?_
          refine R_call3 (Or.inr (Or.inl ⟨rfl, rfl⟩)) rfl rfl ⟨Nat.le_of_ble_eq_true rfl, Nat.le_of_ble_eq_true rfl⟩ (Nat.le_of_ble_eq_true rfl) ⟨rfl, rfl⟩ (⟨⟨_, _, _, rfl, (Nat.le_of_ble_eq_true rfl), rfl⟩, hcu⟩) ?_
          refine R_iret rfl ?_
          exact ⟨rfl, rfl⟩
theorem pr_blow {s : xs} {x y z : Int32} (hR : Rl s) : Pair Ev_X8_blow Ev_X9_blow [.ref 0, .int x, .int y, .int z] [.ref 142, .int x, .int y, .int z] ["java/lang/IndexOutOfBoundsException", "java/lang/IllegalArgumentException", "java/lang/IllegalStateException"] s := by
  obtain ⟨i7, n1, n8⟩ := hR.2.1.1
  have hn : s.1 2 0 = nI (qn (s.1 143) 7) := hR.1.1.1.1.trans i7
  cases k1 : xhas x (qn (s.1 143) 7) with
  | false =>
    refine Pair_x (s1 := s) (s2 := s) 0 "java/lang/IndexOutOfBoundsException" rfl ?_ ?_ hR
    · refine ⟨Nat.le_of_ble_eq_true rfl, Nat.le_refl _, trivial, ?_⟩
      refine R1 (g' := (1, _, _, _, _, _)) rfl rfl ?_
      refine R1 (g' := (2, _, _, _, _, _)) rfl rfl ?_
      refine R_call2X (Or.inr (Or.inl ⟨rfl, rfl⟩)) rfl rfl ⟨Nat.le_of_ble_eq_true rfl, Nat.le_of_ble_eq_true rfl⟩ (Nat.le_of_ble_eq_true rfl) ⟨rfl, rfl⟩ (⟨⟨_, _, _, rfl, (Nat.le_of_ble_eq_true rfl), rfl⟩, e8_partX hn k1⟩) rfl ?_
      exact ⟨rfl, rfl⟩
    · refine ⟨Nat.le_of_ble_eq_true rfl, Nat.le_refl _, Or.inl rfl, ?_⟩
      refine R1 (g' := (1, _, _, _, _, _)) rfl rfl ?_
      refine R1 (g' := (2, _, _, _, _, _)) rfl rfl ?_
      refine R1 (g' := (3, _, _, _, _, _)) rfl rfl ?_
      refine R_call2 (Or.inr (Or.inl ⟨rfl, rfl⟩)) rfl rfl ⟨Nat.le_of_ble_eq_true rfl, Nat.le_of_ble_eq_true rfl⟩ (Nat.le_of_ble_eq_true rfl) ⟨rfl, rfl⟩ (⟨⟨_, _, _, rfl, (Nat.le_of_ble_eq_true rfl), rfl⟩, e9_isPart i7 n1 (by omega)⟩) ?_
      rw [k1]
      refine R_ne 13 rfl rfl (fun h => by exact absurd rfl h) (fun h6 => ?_)
      refine R1 (g' := (10, _, .int (nI 1) :: _, _, _, _)) rfl rfl ?_
      refine R1 (g' := (51, _, _, _, _, _)) rfl rfl ?_
      refine R_put rfl rfl (Nat.le_of_ble_eq_true rfl) rfl (Nat.le_of_ble_eq_true rfl) ⟨_, rfl, Or.inl rfl, _, rfl, rfl⟩ rfl ?_
      change xRun _ _ (54, _, _, wd (put s 142 6 (nI 1)), _, _)
      refine R1 (g' := (55, _, _, _, _, _)) rfl rfl ?_
      refine R_getf rfl rfl (Nat.le_of_ble_eq_true rfl) rfl rfl ?_
      rw [put6]
      refine R_eq 63 rfl rfl (fun h => by exact absurd h (by decide)) (fun h58 => ?_)
      refine R1 (g' := (62, _, .int (nI 0) :: _, _, _, _)) rfl rfl ?_
      refine R_iret rfl ?_
      exact ⟨rfl, rfl⟩
  | true =>
    cases k2 : inI y (nI 0) (nI 2) with
    | false =>
      refine Pair_x (s1 := s) (s2 := s) 1 "java/lang/IllegalArgumentException" rfl ?_ ?_ hR
      · refine ⟨Nat.le_of_ble_eq_true rfl, Nat.le_refl _, trivial, ?_⟩
        refine R1 (g' := (1, _, _, _, _, _)) rfl rfl ?_
        refine R1 (g' := (2, _, _, _, _, _)) rfl rfl ?_
        refine R_call2 (Or.inr (Or.inl ⟨rfl, rfl⟩)) rfl rfl ⟨Nat.le_of_ble_eq_true rfl, Nat.le_of_ble_eq_true rfl⟩ (Nat.le_of_ble_eq_true rfl) ⟨rfl, rfl⟩ (⟨⟨_, _, _, rfl, (Nat.le_of_ble_eq_true rfl), rfl⟩, e8_part hn k1⟩) ?_
        refine R1 (g' := (6, _, _, _, _, _)) rfl rfl ?_
        refine R1 (g' := (7, _, .int (nI 0) :: _, _, _, _)) rfl rfl ?_
        refine R1 (g' := (8, _, .int (nI 2) :: _, _, _, _)) rfl rfl ?_
        refine R_call3X (Or.inl ⟨rfl, rfl⟩) rfl rfl ⟨Nat.le_of_ble_eq_true rfl, Nat.le_of_ble_eq_true rfl⟩ (Nat.le_of_ble_eq_true rfl) ⟨rfl, rfl⟩ (e8_rangeX k2) rfl ?_
        exact ⟨rfl, rfl⟩
      · refine ⟨Nat.le_of_ble_eq_true rfl, Nat.le_refl _, Or.inl rfl, ?_⟩
        refine R1 (g' := (1, _, _, _, _, _)) rfl rfl ?_
        refine R1 (g' := (2, _, _, _, _, _)) rfl rfl ?_
        refine R1 (g' := (3, _, _, _, _, _)) rfl rfl ?_
        refine R_call2 (Or.inr (Or.inl ⟨rfl, rfl⟩)) rfl rfl ⟨Nat.le_of_ble_eq_true rfl, Nat.le_of_ble_eq_true rfl⟩ (Nat.le_of_ble_eq_true rfl) ⟨rfl, rfl⟩ (⟨⟨_, _, _, rfl, (Nat.le_of_ble_eq_true rfl), rfl⟩, e9_isPart i7 n1 (by omega)⟩) ?_
        rw [k1]
        refine R_ne 13 rfl rfl (fun h6 => ?_) (fun h => by exact absurd h (by decide))
        refine R1 (g' := (14, _, _, _, _, _)) rfl rfl ?_
        refine R1 (g' := (15, _, .int (nI 0) :: _, _, _, _)) rfl rfl ?_
        refine R1 (g' := (16, _, .int (nI 2) :: _, _, _, _)) rfl rfl ?_
        refine R_call3 (Or.inl ⟨rfl, rfl⟩) rfl rfl ⟨Nat.le_of_ble_eq_true rfl, Nat.le_of_ble_eq_true rfl⟩ (Nat.le_of_ble_eq_true rfl) ⟨rfl, rfl⟩ (e9_in) ?_
        rw [k2]
        refine R_eq 32 rfl rfl (fun h19 => ?_) (fun h => by exact absurd rfl h)
        refine R1 (g' := (33, _, .int (nI 2) :: _, _, _, _)) rfl rfl ?_
        refine R1 (g' := (51, _, _, _, _, _)) rfl rfl ?_
        refine R_put rfl rfl (Nat.le_of_ble_eq_true rfl) rfl (Nat.le_of_ble_eq_true rfl) ⟨_, rfl, Or.inl rfl, _, rfl, rfl⟩ rfl ?_
        change xRun _ _ (54, _, _, wd (put s 142 6 (nI 2)), _, _)
        refine R1 (g' := (55, _, _, _, _, _)) rfl rfl ?_
        refine R_getf rfl rfl (Nat.le_of_ble_eq_true rfl) rfl rfl ?_
        rw [put6]
        refine R_eq 63 rfl rfl (fun h => by exact absurd h (by decide)) (fun h58 => ?_)
        refine R1 (g' := (62, _, .int (nI 0) :: _, _, _, _)) rfl rfl ?_
        refine R_iret rfl ?_
        exact ⟨rfl, rfl⟩
    | true =>
      cases k3 : inI z (nI 1) (nI 60) with
      | false =>
        refine Pair_x (s1 := s) (s2 := s) 1 "java/lang/IllegalArgumentException" rfl ?_ ?_ hR
        · refine ⟨Nat.le_of_ble_eq_true rfl, Nat.le_refl _, trivial, ?_⟩
          refine R1 (g' := (1, _, _, _, _, _)) rfl rfl ?_
          refine R1 (g' := (2, _, _, _, _, _)) rfl rfl ?_
          refine R_call2 (Or.inr (Or.inl ⟨rfl, rfl⟩)) rfl rfl ⟨Nat.le_of_ble_eq_true rfl, Nat.le_of_ble_eq_true rfl⟩ (Nat.le_of_ble_eq_true rfl) ⟨rfl, rfl⟩ (⟨⟨_, _, _, rfl, (Nat.le_of_ble_eq_true rfl), rfl⟩, e8_part hn k1⟩) ?_
          refine R1 (g' := (6, _, _, _, _, _)) rfl rfl ?_
          refine R1 (g' := (7, _, .int (nI 0) :: _, _, _, _)) rfl rfl ?_
          refine R1 (g' := (8, _, .int (nI 2) :: _, _, _, _)) rfl rfl ?_
          refine R_call3 (Or.inl ⟨rfl, rfl⟩) rfl rfl ⟨Nat.le_of_ble_eq_true rfl, Nat.le_of_ble_eq_true rfl⟩ (Nat.le_of_ble_eq_true rfl) ⟨rfl, rfl⟩ (e8_range k2) ?_
          refine R1 (g' := (12, _, _, _, _, _)) rfl rfl ?_
          refine R1 (g' := (13, _, .int (nI 1) :: _, _, _, _)) rfl rfl ?_
          refine R1 (g' := (15, _, .int (nI 60) :: _, _, _, _)) rfl rfl ?_
          refine R_call3X (Or.inl ⟨rfl, rfl⟩) rfl rfl ⟨Nat.le_of_ble_eq_true rfl, Nat.le_of_ble_eq_true rfl⟩ (Nat.le_of_ble_eq_true rfl) ⟨rfl, rfl⟩ (e8_rangeX k3) rfl ?_
          exact ⟨rfl, rfl⟩
        · refine ⟨Nat.le_of_ble_eq_true rfl, Nat.le_refl _, Or.inl rfl, ?_⟩
          refine R1 (g' := (1, _, _, _, _, _)) rfl rfl ?_
          refine R1 (g' := (2, _, _, _, _, _)) rfl rfl ?_
          refine R1 (g' := (3, _, _, _, _, _)) rfl rfl ?_
          refine R_call2 (Or.inr (Or.inl ⟨rfl, rfl⟩)) rfl rfl ⟨Nat.le_of_ble_eq_true rfl, Nat.le_of_ble_eq_true rfl⟩ (Nat.le_of_ble_eq_true rfl) ⟨rfl, rfl⟩ (⟨⟨_, _, _, rfl, (Nat.le_of_ble_eq_true rfl), rfl⟩, e9_isPart i7 n1 (by omega)⟩) ?_
          rw [k1]
          refine R_ne 13 rfl rfl (fun h6 => ?_) (fun h => by exact absurd h (by decide))
          refine R1 (g' := (14, _, _, _, _, _)) rfl rfl ?_
          refine R1 (g' := (15, _, .int (nI 0) :: _, _, _, _)) rfl rfl ?_
          refine R1 (g' := (16, _, .int (nI 2) :: _, _, _, _)) rfl rfl ?_
          refine R_call3 (Or.inl ⟨rfl, rfl⟩) rfl rfl ⟨Nat.le_of_ble_eq_true rfl, Nat.le_of_ble_eq_true rfl⟩ (Nat.le_of_ble_eq_true rfl) ⟨rfl, rfl⟩ (e9_in) ?_
          rw [k2]
          refine R_eq 32 rfl rfl (fun h => by exact absurd h (by decide)) (fun h19 => ?_)
          refine R1 (g' := (23, _, _, _, _, _)) rfl rfl ?_
          refine R1 (g' := (24, _, .int (nI 1) :: _, _, _, _)) rfl rfl ?_
          refine R1 (g' := (26, _, .int (nI 60) :: _, _, _, _)) rfl rfl ?_
          refine R_call3 (Or.inl ⟨rfl, rfl⟩) rfl rfl ⟨Nat.le_of_ble_eq_true rfl, Nat.le_of_ble_eq_true rfl⟩ (Nat.le_of_ble_eq_true rfl) ⟨rfl, rfl⟩ (e9_in) ?_
          rw [k3]
          refine R_ne 36 rfl rfl (fun h => by exact absurd rfl h) (fun h29 => ?_)
          refine R1 (g' := (33, _, .int (nI 2) :: _, _, _, _)) rfl rfl ?_
          refine R1 (g' := (51, _, _, _, _, _)) rfl rfl ?_
          refine R_put rfl rfl (Nat.le_of_ble_eq_true rfl) rfl (Nat.le_of_ble_eq_true rfl) ⟨_, rfl, Or.inl rfl, _, rfl, rfl⟩ rfl ?_
          change xRun _ _ (54, _, _, wd (put s 142 6 (nI 2)), _, _)
          refine R1 (g' := (55, _, _, _, _, _)) rfl rfl ?_
          refine R_getf rfl rfl (Nat.le_of_ble_eq_true rfl) rfl rfl ?_
          rw [put6]
          refine R_eq 63 rfl rfl (fun h => by exact absurd h (by decide)) (fun h58 => ?_)
          refine R1 (g' := (62, _, .int (nI 0) :: _, _, _, _)) rfl rfl ?_
          refine R_iret rfl ?_
          exact ⟨rfl, rfl⟩
      | true =>
        obtain ⟨k, hk, rfl⟩ := xhas_of (by omega) k1
        obtain ⟨q, rfl, q1, q2⟩ := inI_of (by decide) k2 (by decide)
        obtain ⟨l, rfl, l1, l2⟩ := inI_of (by decide) k3 (by decide)
        have hk8 : k < 8 := by omega
        obtain ⟨s0, hcs, hb0, wo0⟩ := c_canStrike (q := q) (c := l) hR.1.1 hR.2.1 hk q2 (by omega)
        have e0 : s0.1 143 = s.1 143 := wo0.1 143 (by decide)
        have hR0 : Rl s0 := Rl_bar hR wo0 hb0
        rw [← e0] at k1 hk i7 n1 n8 hcs
        have hp := hR0.2.1.2.2.2.2.1 k hk
        obtain ⟨t0, t1, t2⟩ := hR0.2.1.2.2.1
        cases k4 : qCanS (s0.1 143) k q l with
        | false =>
          have k4' : (decide (l ≤ nBl (qn (s0.1 143) 0)) && Nat.beq (nLast (qn (s0.1 143) (9 + 4 * k)) (qn (s0.1 143) (10 + 4 * k)) q (qn (s0.1 143) (11 + 4 * k)) l) l) = false := k4
          obtain ⟨x, y, hcb⟩ := e9_canBlow (q := q) (c := l) hk8 hp t0 (by omega) q2 l1 (by omega)
          refine Pair_x (s1 := s0) (s2 := nxtI s0 x y) 2 "java/lang/IllegalStateException" rfl ?_ ?_ (Rl_Sx hR0 Sx_N)
          · refine ⟨Nat.le_of_ble_eq_true rfl, Nat.le_refl _, trivial, ?_⟩
            refine R1 (g' := (1, _, _, _, _, _)) rfl rfl ?_
            refine R1 (g' := (2, _, _, _, _, _)) rfl rfl ?_
            refine R_call2 (Or.inr (Or.inl ⟨rfl, rfl⟩)) rfl rfl ⟨Nat.le_of_ble_eq_true rfl, Nat.le_of_ble_eq_true rfl⟩ (Nat.le_of_ble_eq_true rfl) ⟨rfl, rfl⟩ (⟨⟨_, _, _, rfl, (Nat.le_of_ble_eq_true rfl), rfl⟩, e8_part hn (by rw [← e0]; exact k1)⟩) ?_
            refine R1 (g' := (6, _, _, _, _, _)) rfl rfl ?_
            refine R1 (g' := (7, _, .int (nI 0) :: _, _, _, _)) rfl rfl ?_
            refine R1 (g' := (8, _, .int (nI 2) :: _, _, _, _)) rfl rfl ?_
            refine R_call3 (Or.inl ⟨rfl, rfl⟩) rfl rfl ⟨Nat.le_of_ble_eq_true rfl, Nat.le_of_ble_eq_true rfl⟩ (Nat.le_of_ble_eq_true rfl) ⟨rfl, rfl⟩ (e8_range k2) ?_
            refine R1 (g' := (12, _, _, _, _, _)) rfl rfl ?_
            refine R1 (g' := (13, _, .int (nI 1) :: _, _, _, _)) rfl rfl ?_
            refine R1 (g' := (15, _, .int (nI 60) :: _, _, _, _)) rfl rfl ?_
            refine R_call3 (Or.inl ⟨rfl, rfl⟩) rfl rfl ⟨Nat.le_of_ble_eq_true rfl, Nat.le_of_ble_eq_true rfl⟩ (Nat.le_of_ble_eq_true rfl) ⟨rfl, rfl⟩ (e8_range k3) ?_
            refine R1 (g' := (19, _, _, _, _, _)) rfl rfl ?_
            refine R_getf rfl rfl (Nat.le_of_ble_eq_true rfl) rfl rfl ?_
            refine R_getf rfl rfl (Nat.le_of_ble_eq_true rfl) rfl rfl ?_
            refine R1 (g' := (26, _, _, _, _, _)) rfl rfl ?_
            refine R1 (g' := (27, _, _, _, _, _)) rfl rfl ?_
            refine R1 (g' := (28, _, _, _, _, _)) rfl rfl ?_
            refine R_call4 (Or.inr (Or.inl ⟨rfl, rfl⟩)) rfl rfl ⟨Nat.le_of_ble_eq_true rfl, Nat.le_of_ble_eq_true rfl⟩ (Nat.le_of_ble_eq_true rfl) ⟨rfl, rfl⟩ (⟨⟨_, _, _, rfl, (Nat.le_of_ble_eq_true rfl), rfl⟩, hcs⟩) ?_
            rw [k4]
            refine R_ne 44 rfl rfl (fun h => by exact absurd rfl h) (fun h31 => ?_)
            refine R_throw rfl rfl ⟨Nat.le_of_ble_eq_true rfl, Nat.le_of_ble_eq_true rfl⟩ (Nat.le_of_ble_eq_true rfl) ?_
            exact ⟨rfl, rfl⟩
          · refine ⟨Nat.le_of_ble_eq_true rfl, Nat.le_refl _, Or.inl rfl, ?_⟩
            refine R1 (g' := (1, _, _, _, _, _)) rfl rfl ?_
            refine R1 (g' := (2, _, _, _, _, _)) rfl rfl ?_
            refine R1 (g' := (3, _, _, _, _, _)) rfl rfl ?_
            refine R_call2 (Or.inr (Or.inl ⟨rfl, rfl⟩)) rfl rfl ⟨Nat.le_of_ble_eq_true rfl, Nat.le_of_ble_eq_true rfl⟩ (Nat.le_of_ble_eq_true rfl) ⟨rfl, rfl⟩ (⟨⟨_, _, _, rfl, (Nat.le_of_ble_eq_true rfl), rfl⟩, e9_isPart i7 n1 (by omega)⟩) ?_
            rw [k1]
            refine R_ne 13 rfl rfl (fun h6 => ?_) (fun h => by exact absurd h (by decide))
            refine R1 (g' := (14, _, _, _, _, _)) rfl rfl ?_
            refine R1 (g' := (15, _, .int (nI 0) :: _, _, _, _)) rfl rfl ?_
            refine R1 (g' := (16, _, .int (nI 2) :: _, _, _, _)) rfl rfl ?_
            refine R_call3 (Or.inl ⟨rfl, rfl⟩) rfl rfl ⟨Nat.le_of_ble_eq_true rfl, Nat.le_of_ble_eq_true rfl⟩ (Nat.le_of_ble_eq_true rfl) ⟨rfl, rfl⟩ (e9_in) ?_
            rw [k2]
            refine R_eq 32 rfl rfl (fun h => by exact absurd h (by decide)) (fun h19 => ?_)
            refine R1 (g' := (23, _, _, _, _, _)) rfl rfl ?_
            refine R1 (g' := (24, _, .int (nI 1) :: _, _, _, _)) rfl rfl ?_
            refine R1 (g' := (26, _, .int (nI 60) :: _, _, _, _)) rfl rfl ?_
            refine R_call3 (Or.inl ⟨rfl, rfl⟩) rfl rfl ⟨Nat.le_of_ble_eq_true rfl, Nat.le_of_ble_eq_true rfl⟩ (Nat.le_of_ble_eq_true rfl) ⟨rfl, rfl⟩ (e9_in) ?_
            rw [k3]
            refine R_ne 36 rfl rfl (fun h29 => ?_) (fun h => by exact absurd h (by decide))
            refine R1 (g' := (37, _, _, _, _, _)) rfl rfl ?_
            refine R1 (g' := (38, _, _, _, _, _)) rfl rfl ?_
            refine R1 (g' := (39, _, _, _, _, _)) rfl rfl ?_
            refine R1 (g' := (40, _, _, _, _, _)) rfl rfl ?_
            refine R_call4 (Or.inr (Or.inl ⟨rfl, rfl⟩)) rfl rfl ⟨Nat.le_of_ble_eq_true rfl, Nat.le_of_ble_eq_true rfl⟩ (Nat.le_of_ble_eq_true rfl) ⟨rfl, rfl⟩ (⟨⟨_, _, _, rfl, (Nat.le_of_ble_eq_true rfl), rfl⟩, hcb⟩) ?_
            rw [k4']
            refine R_eq 50 rfl rfl (fun h43 => ?_) (fun h => by exact absurd rfl h)
            refine R1 (g' := (51, _, .int (nI 3) :: _, _, _, _)) rfl rfl ?_
            refine R_put rfl rfl (Nat.le_of_ble_eq_true rfl) rfl (Nat.le_of_ble_eq_true rfl) ⟨_, rfl, Or.inl rfl, _, rfl, rfl⟩ rfl ?_
            change xRun _ _ (54, _, _, wd (put (nxtI s0 x y) 142 6 (nI 3)), _, _)
            refine R1 (g' := (55, _, _, _, _, _)) rfl rfl ?_
            refine R_getf rfl rfl (Nat.le_of_ble_eq_true rfl) rfl rfl ?_
            rw [put6]
            refine R_eq 63 rfl rfl (fun h => by exact absurd h (by decide)) (fun h58 => ?_)
            refine R1 (g' := (62, _, .int (nI 0) :: _, _, _, _)) rfl rfl ?_
            refine R_iret rfl ?_
            exact ⟨rfl, rfl⟩
        | true =>
          have k4' : (decide (l ≤ nBl (qn (s0.1 143) 0)) && Nat.beq (nLast (qn (s0.1 143) (9 + 4 * k)) (qn (s0.1 143) (10 + 4 * k)) q (qn (s0.1 143) (11 + 4 * k)) l) l) = true := k4
          obtain ⟨ok1, ok2, ok3, hi2⟩ := qCanS_ok hR0.2.1 hk l1 k4
          obtain ⟨s1, c, hc4, hc, hev, hp1, hv⟩ := Rl_sv hR0
          obtain ⟨s2, hst, hb, wo⟩ := c_strike hp1.1 hR0.2.1 hk q2 l1 (by omega) k4
          have o1 : Sx 21 s1 s2 := Sx_lo wo (by decide) (by decide)
          have e2 : s2.1 143 = s0.1 143 := sv_q hv o1
          have h72 : qn (qDoS (s0.1 143) k q l) 7 = qn (s0.1 143) 7 := qn_cg (qStrike_o (by decide) (by decide) (by decide) hk8)
          have hq2 := hi2.2.2.2.2.1 k (by rw [h72]; exact hk)
          obtain ⟨x, y, hcb⟩ := e9_canBlow (s := s2) (k := k) (t := qn (s0.1 143) 0) (q := q) (c := l) hk8 (by rw [e2]; exact hp) (by rw [e2]; exact t0) (by omega) q2 l1 (by omega)
          rw [e2] at hcb
          have o2 : Sx 21 s1 (nxtI s2 x y) := Sx_tr o1 (Sx_up (Nat.zero_le _) Sx_N)
          obtain ⟨s3, hk3, K⟩ := r_keep6 (s := nxtI s2 x y) hc4 (sv_3 hv o2 hc)
          have e3 : s3.1 143 = s0.1 143 := (K6_q K).trans (sv_q hv o2)
          obtain ⟨x2, y2, hss⟩ := e9_strikes (s := s3) (k := k) (t := qn (s0.1 143) 0) (q := q) (c := l) hk8 (by rw [e3]; exact hp) q2 (by omega) (by rw [e3]; exact t0) (by omega) (by omega) (by rw [e3]; exact ok3)
          rw [e3] at hss
          refine Pair_t (s1 := s2) (s2 := setP (nxtI s3 x2 y2) 143 (qDoS (s0.1 143) k q l)) (v := nI (qLen (qDoS (s0.1 143) k q l) k)) ?_ ?_ (mutB hR0 hc4 hv hp1 wo hb (qStrike_o (by decide) (by decide) (by decide) hk8) (fun i a b => qStrike_o (by omega) (by omega) (by omega) hk8) hi2 Sx_N K (gX_P (gX_N gX_rf)) (setP_at _ _ _))
          · refine ⟨Nat.le_of_ble_eq_true rfl, Nat.le_refl _, Or.inl rfl, ?_⟩
            refine R1 (g' := (1, _, _, _, _, _)) rfl rfl ?_
            refine R1 (g' := (2, _, _, _, _, _)) rfl rfl ?_
            refine R_call2 (Or.inr (Or.inl ⟨rfl, rfl⟩)) rfl rfl ⟨Nat.le_of_ble_eq_true rfl, Nat.le_of_ble_eq_true rfl⟩ (Nat.le_of_ble_eq_true rfl) ⟨rfl, rfl⟩ (⟨⟨_, _, _, rfl, (Nat.le_of_ble_eq_true rfl), rfl⟩, e8_part hn (by rw [← e0]; exact k1)⟩) ?_
            refine R1 (g' := (6, _, _, _, _, _)) rfl rfl ?_
            refine R1 (g' := (7, _, .int (nI 0) :: _, _, _, _)) rfl rfl ?_
            refine R1 (g' := (8, _, .int (nI 2) :: _, _, _, _)) rfl rfl ?_
            refine R_call3 (Or.inl ⟨rfl, rfl⟩) rfl rfl ⟨Nat.le_of_ble_eq_true rfl, Nat.le_of_ble_eq_true rfl⟩ (Nat.le_of_ble_eq_true rfl) ⟨rfl, rfl⟩ (e8_range k2) ?_
            refine R1 (g' := (12, _, _, _, _, _)) rfl rfl ?_
            refine R1 (g' := (13, _, .int (nI 1) :: _, _, _, _)) rfl rfl ?_
            refine R1 (g' := (15, _, .int (nI 60) :: _, _, _, _)) rfl rfl ?_
            refine R_call3 (Or.inl ⟨rfl, rfl⟩) rfl rfl ⟨Nat.le_of_ble_eq_true rfl, Nat.le_of_ble_eq_true rfl⟩ (Nat.le_of_ble_eq_true rfl) ⟨rfl, rfl⟩ (e8_range k3) ?_
            refine R1 (g' := (19, _, _, _, _, _)) rfl rfl ?_
            refine R_getf rfl rfl (Nat.le_of_ble_eq_true rfl) rfl rfl ?_
            refine R_getf rfl rfl (Nat.le_of_ble_eq_true rfl) rfl rfl ?_
            refine R1 (g' := (26, _, _, _, _, _)) rfl rfl ?_
            refine R1 (g' := (27, _, _, _, _, _)) rfl rfl ?_
            refine R1 (g' := (28, _, _, _, _, _)) rfl rfl ?_
            refine R_call4 (Or.inr (Or.inl ⟨rfl, rfl⟩)) rfl rfl ⟨Nat.le_of_ble_eq_true rfl, Nat.le_of_ble_eq_true rfl⟩ (Nat.le_of_ble_eq_true rfl) ⟨rfl, rfl⟩ (⟨⟨_, _, _, rfl, (Nat.le_of_ble_eq_true rfl), rfl⟩, hcs⟩) ?_
            rw [k4]
            refine R_ne 44 rfl rfl (fun h31 => ?_) (fun h => by exact absurd h (by decide))
            refine R1 (g' := (45, _, _, _, _, _)) rfl rfl ?_
            refine R_getf rfl rfl (Nat.le_of_ble_eq_true rfl) rfl rfl ?_
            refine R1 (g' := (49, _, _, _, _, _)) rfl rfl ?_
            refine R_getf rfl rfl (Nat.le_of_ble_eq_true rfl) rfl rfl ?_
            refine R_call2 (Or.inr (Or.inl ⟨rfl, rfl⟩)) rfl rfl ⟨Nat.le_of_ble_eq_true rfl, Nat.le_of_ble_eq_true rfl⟩ (Nat.le_of_ble_eq_true rfl) ⟨rfl, rfl⟩ (⟨⟨_, _, _, rfl, (Nat.le_of_ble_eq_true rfl), rfl⟩, hev⟩) ?_
            refine R1 (g' := (56, _, _, _, _, _)) rfl rfl ?_
            refine R_getf rfl rfl (Nat.le_of_ble_eq_true rfl) rfl rfl ?_
            refine R_getf rfl rfl (Nat.le_of_ble_eq_true rfl) rfl rfl ?_
            refine R1 (g' := (63, _, _, _, _, _)) rfl rfl ?_
            refine R1 (g' := (64, _, _, _, _, _)) rfl rfl ?_
            refine R1 (g' := (65, _, _, _, _, _)) rfl rfl ?_
            refine R_call4 (Or.inr (Or.inl ⟨rfl, rfl⟩)) rfl rfl ⟨Nat.le_of_ble_eq_true rfl, Nat.le_of_ble_eq_true rfl⟩ (Nat.le_of_ble_eq_true rfl) ⟨rfl, rfl⟩ (⟨⟨_, _, _, rfl, (Nat.le_of_ble_eq_true rfl), rfl⟩, hst⟩) ?_
            refine R1 (g' := (69, _, _, _, _, _)) rfl rfl ?_
            refine R_getf rfl rfl (Nat.le_of_ble_eq_true rfl) rfl rfl ?_
            refine R_getf rfl rfl (Nat.le_of_ble_eq_true rfl) rfl rfl ?_
            refine R1 (g' := (76, _, _, _, _, _)) rfl rfl ?_
            refine R_call2 (Or.inr (Or.inl ⟨rfl, rfl⟩)) rfl rfl ⟨Nat.le_of_ble_eq_true rfl, Nat.le_of_ble_eq_true rfl⟩ (Nat.le_of_ble_eq_true rfl) ⟨rfl, rfl⟩ (⟨⟨_, _, _, rfl, (Nat.le_of_ble_eq_true rfl), rfl⟩, c_lengthOf hb hq2 hk8⟩) ?_
            refine R_iret rfl ?_
            exact ⟨rfl, rfl⟩
          · refine ⟨Nat.le_of_ble_eq_true rfl, Nat.le_refl _, Or.inl rfl, ?_⟩
            refine R1 (g' := (1, _, _, _, _, _)) rfl rfl ?_
            refine R1 (g' := (2, _, _, _, _, _)) rfl rfl ?_
            refine R1 (g' := (3, _, _, _, _, _)) rfl rfl ?_
            refine R_call2 (Or.inr (Or.inl ⟨rfl, rfl⟩)) rfl rfl ⟨Nat.le_of_ble_eq_true rfl, Nat.le_of_ble_eq_true rfl⟩ (Nat.le_of_ble_eq_true rfl) ⟨rfl, rfl⟩ (⟨⟨_, _, _, rfl, (Nat.le_of_ble_eq_true rfl), rfl⟩, e9_isPart (by rw [e2]; exact i7) n1 (by omega)⟩) ?_
            rw [k1]
            refine R_ne 13 rfl rfl (fun h6 => ?_) (fun h => by exact absurd h (by decide))
            refine R1 (g' := (14, _, _, _, _, _)) rfl rfl ?_
            refine R1 (g' := (15, _, .int (nI 0) :: _, _, _, _)) rfl rfl ?_
            refine R1 (g' := (16, _, .int (nI 2) :: _, _, _, _)) rfl rfl ?_
            refine R_call3 (Or.inl ⟨rfl, rfl⟩) rfl rfl ⟨Nat.le_of_ble_eq_true rfl, Nat.le_of_ble_eq_true rfl⟩ (Nat.le_of_ble_eq_true rfl) ⟨rfl, rfl⟩ (e9_in) ?_
            rw [k2]
            refine R_eq 32 rfl rfl (fun h => by exact absurd h (by decide)) (fun h19 => ?_)
            refine R1 (g' := (23, _, _, _, _, _)) rfl rfl ?_
            refine R1 (g' := (24, _, .int (nI 1) :: _, _, _, _)) rfl rfl ?_
            refine R1 (g' := (26, _, .int (nI 60) :: _, _, _, _)) rfl rfl ?_
            refine R_call3 (Or.inl ⟨rfl, rfl⟩) rfl rfl ⟨Nat.le_of_ble_eq_true rfl, Nat.le_of_ble_eq_true rfl⟩ (Nat.le_of_ble_eq_true rfl) ⟨rfl, rfl⟩ (e9_in) ?_
            rw [k3]
            refine R_ne 36 rfl rfl (fun h29 => ?_) (fun h => by exact absurd h (by decide))
            refine R1 (g' := (37, _, _, _, _, _)) rfl rfl ?_
            refine R1 (g' := (38, _, _, _, _, _)) rfl rfl ?_
            refine R1 (g' := (39, _, _, _, _, _)) rfl rfl ?_
            refine R1 (g' := (40, _, _, _, _, _)) rfl rfl ?_
            refine R_call4 (Or.inr (Or.inl ⟨rfl, rfl⟩)) rfl rfl ⟨Nat.le_of_ble_eq_true rfl, Nat.le_of_ble_eq_true rfl⟩ (Nat.le_of_ble_eq_true rfl) ⟨rfl, rfl⟩ (⟨⟨_, _, _, rfl, (Nat.le_of_ble_eq_true rfl), rfl⟩, hcb⟩) ?_
            rw [k4']
            refine R_eq 50 rfl rfl (fun h => by exact absurd h (by decide)) (fun h43 => ?_)
            refine R1 (g' := (47, _, .int (nI 0) :: _, _, _, _)) rfl rfl ?_
            refine R1 (g' := (51, _, _, _, _, _)) rfl rfl ?_
            refine R_put rfl rfl (Nat.le_of_ble_eq_true rfl) rfl (Nat.le_of_ble_eq_true rfl) ⟨_, rfl, Or.inl rfl, _, rfl, rfl⟩ rfl ?_
            change xRun _ _ (54, _, _, wd (put (nxtI s2 x y) 142 6 (nI 0)), _, _)
            refine R1 (g' := (55, _, _, _, _, _)) rfl rfl ?_
            refine R_getf rfl rfl (Nat.le_of_ble_eq_true rfl) rfl rfl ?_
            rw [put6]
            refine R_eq 63 rfl rfl (fun h58 => ?_) (fun h => by exact absurd (by decide) h)
            refine R1 (g' := (64, _, _, _, _, _)) rfl rfl ?_
            refine R_call1 (Or.inr (Or.inl ⟨rfl, rfl⟩)) rfl rfl ⟨Nat.le_of_ble_eq_true rfl, Nat.le_of_ble_eq_true rfl⟩ (Nat.le_of_ble_eq_true rfl) ⟨rfl, rfl⟩ (⟨⟨_, _, _, rfl, (Nat.le_of_ble_eq_true rfl), rfl⟩, hk3⟩) ?_
            refine R1 (g' := (68, _, _, _, _, _)) rfl rfl ?_
            refine R1 (g' := (69, _, _, _, _, _)) rfl rfl ?_
            refine R1 (g' := (70, _, _, _, _, _)) rfl rfl ?_
            refine R1 (g' := (71, _, _, _, _, _)) rfl rfl ?_
            refine R_call4 (Or.inr (Or.inl ⟨rfl, rfl⟩)) rfl rfl ⟨Nat.le_of_ble_eq_true rfl, Nat.le_of_ble_eq_true rfl⟩ (Nat.le_of_ble_eq_true rfl) ⟨rfl, rfl⟩ (⟨⟨_, _, _, rfl, (Nat.le_of_ble_eq_true rfl), rfl⟩, hss⟩) ?_
            refine R_iret rfl ?_
            exact ⟨rfl, rfl⟩
theorem bOut_drop {s : xs} {n : Nat} : sOut 2 9 s (sDrop s 2 n) := sOut_put (sOut_put sOut_rf (by decide) (by decide)) (by decide) (by decide)
theorem qDrop_eq {Q : Nat → Int32} {n : Nat} : upd (upd Q 7 (nI (n - 1))) 5 (Q 5 + Q (7 + 4 * n)) = qDrop Q n := by
  funext i
  simp only [upd, qDrop]
  by_cases h1 : i = 7
  · (repeat (first | rw [if_pos (by omega)] | rw [if_neg (by omega)]))
  · by_cases h2 : i = 5
    · (repeat (first | rw [if_pos (by omega)] | rw [if_neg (by omega)]))
    · (repeat (first | rw [if_pos (by omega)] | rw [if_neg (by omega)]))
theorem pr_crop {s : xs} (hR : Rl s) : Pair Ev_X8_crop Ev_X9_crop [.ref 0] [.ref 142] ["java/lang/IllegalStateException"] s := by
  obtain ⟨i7, n1, n8⟩ := hR.2.1.1
  have hn : s.1 2 0 = nI (qn (s.1 143) 7) := hR.1.1.1.1.trans i7
  by_cases h2 : 2 ≤ qn (s.1 143) 7
  · obtain ⟨s1, c, hc4, hc, hev, hp1, hv⟩ := Rl_sv hR
    have hn1 : s1.1 2 0 = nI (qn (s.1 143) 7) := hp1.1.1.1.trans i7
    have ed : s1.1 8 (qn (s.1 143) 7 - 1) = s.1 143 (7 + 4 * qn (s.1 143) 7) := by
      have h := (hp1.1.2 (qn (s.1 143) 7 - 1) (by omega)).2.2.1
      rw [show 11 + 4 * (qn (s.1 143) 7 - 1) = 7 + 4 * qn (s.1 143) 7 by omega] at h
      exact h
    have wo : sOut 2 9 s1 (sDrop s1 2 (qn (s.1 143) 7)) := bOut_drop
    have hb : bRel (sDrop s1 2 (qn (s.1 143) 7)) 2 (qDrop (s.1 143) (qn (s.1 143) 7)) := r_drop hp1.1 n1 n8
    have hi2 : pInv (qDrop (s.1 143) (qn (s.1 143) 7)) := i_drop hR.2.1 h2
    have o2 : Sx 21 s1 (sDrop s1 2 (qn (s.1 143) 7)) := Sx_lo wo (by decide) (by decide)
    have e2 : (sDrop s1 2 (qn (s.1 143) 7)).1 143 = s.1 143 := sv_q hv o2
    obtain ⟨s3, hk3, K⟩ := r_keep6 (s := (sDrop s1 2 (qn (s.1 143) 7))) hc4 (sv_3 hv o2 hc)
    have e3 : s3.1 143 = s.1 143 := (K6_q K).trans e2
    refine Pair_t (s1 := (sDrop s1 2 (qn (s.1 143) 7))) (s2 := setP s3 143 (qDrop (s.1 143) (qn (s.1 143) 7))) (v := s.1 143 (7 + 4 * qn (s.1 143) 7)) ?_ ?_ (mutB hR hc4 hv hp1 wo hb (by simp only [qDrop]; (repeat (first | rw [if_pos (by omega)] | rw [if_neg (by omega)]))) (fun i a b => by simp only [qDrop]; (repeat (first | rw [if_pos (by omega)] | rw [if_neg (by omega)]))) hi2 Sx_rf K (gX_P gX_rf) (setP_at _ _ _))
    · refine ⟨Nat.le_of_ble_eq_true rfl, Nat.le_refl _, Or.inl rfl, ?_⟩
      refine R1 (g' := (1, _, _, _, _, _)) rfl rfl ?_
      refine R_getf rfl rfl (Nat.le_of_ble_eq_true rfl) rfl rfl ?_
      refine R_getf rfl rfl (Nat.le_of_ble_eq_true rfl) rfl rfl ?_
      refine R_getf rfl rfl (Nat.le_of_ble_eq_true rfl) rfl rfl ?_
      refine R1 (g' := (11, _, .int (nI 1) :: _, _, _, _)) rfl rfl ?_
      refine R_cgtN 24 ((qn (s.1 143) 7)) (1) rfl rfl (hn) (rfl) (by omega) (by omega) (fun h11 => ?_) (fun h => by omega)
      refine R1 (g' := (25, _, _, _, _, _)) rfl rfl ?_
      refine R_getf rfl rfl (Nat.le_of_ble_eq_true rfl) rfl rfl ?_
      refine R1 (g' := (29, _, _, _, _, _)) rfl rfl ?_
      refine R_getf rfl rfl (Nat.le_of_ble_eq_true rfl) rfl rfl ?_
      refine R_call2 (Or.inr (Or.inl ⟨rfl, rfl⟩)) rfl rfl ⟨Nat.le_of_ble_eq_true rfl, Nat.le_of_ble_eq_true rfl⟩ (Nat.le_of_ble_eq_true rfl) ⟨rfl, rfl⟩ (⟨⟨_, _, _, rfl, (Nat.le_of_ble_eq_true rfl), rfl⟩, hev⟩) ?_
      refine R1 (g' := (36, _, _, _, _, _)) rfl rfl ?_
      refine R_getf rfl rfl (Nat.le_of_ble_eq_true rfl) rfl rfl ?_
      refine R_getf rfl rfl (Nat.le_of_ble_eq_true rfl) rfl rfl ?_
      refine R_call1 (Or.inr (Or.inl ⟨rfl, rfl⟩)) rfl rfl ⟨Nat.le_of_ble_eq_true rfl, Nat.le_of_ble_eq_true rfl⟩ (Nat.le_of_ble_eq_true rfl) ⟨rfl, rfl⟩ (⟨⟨_, _, _, rfl, (Nat.le_of_ble_eq_true rfl), rfl⟩, e_dropLast xbar_2 hn1 n1 n8⟩) ?_
      refine R_iret rfl ?_
      exact ⟨o_i ed, rfl⟩
    · refine ⟨Nat.le_of_ble_eq_true rfl, Nat.le_refl _, Or.inl rfl, ?_⟩
      refine R1 (g' := (1, _, _, _, _, _)) rfl rfl ?_
      refine R1 (g' := (2, _, _, _, _, _)) rfl rfl ?_
      refine R_getf rfl rfl (Nat.le_of_ble_eq_true rfl) rfl rfl ?_
      refine R1 (g' := (7, _, .int (nI 7) :: _, _, _, _)) rfl rfl ?_
      refine R_iald 7 rfl (Nat.le_of_ble_eq_true rfl) rfl (by decide) (by decide) rfl ?_
      refine R1 (g' := (9, _, .int (nI 1) :: _, _, _, _)) rfl rfl ?_
      refine R_cleN 16 ((qn (s.1 143) 7)) (1) rfl rfl (by rw [e2]; exact i7) (rfl) (by omega) (by omega) (fun h => by omega) (fun h9 => ?_)
      refine R1 (g' := (13, _, .int (nI 0) :: _, _, _, _)) rfl rfl ?_
      refine R1 (g' := (17, _, _, _, _, _)) rfl rfl ?_
      refine R_put rfl rfl (Nat.le_of_ble_eq_true rfl) rfl (Nat.le_of_ble_eq_true rfl) ⟨_, rfl, Or.inl rfl, _, rfl, rfl⟩ rfl ?_
      change xRun _ _ (20, _, _, wd (put (sDrop s1 2 (qn (s.1 143) 7)) 142 6 (nI 0)), _, _)
      refine R1 (g' := (21, _, _, _, _, _)) rfl rfl ?_
      refine R_getf rfl rfl (Nat.le_of_ble_eq_true rfl) rfl rfl ?_
      rw [put6]
      refine R_eq 29 rfl rfl (fun h24 => ?_) (fun h => by exact absurd (by decide) h)
      refine R1 (g' := (30, _, _, _, _, _)) rfl rfl ?_
      refine R_call1 (Or.inr (Or.inl ⟨rfl, rfl⟩)) rfl rfl ⟨Nat.le_of_ble_eq_true rfl, Nat.le_of_ble_eq_true rfl⟩ (Nat.le_of_ble_eq_true rfl) ⟨rfl, rfl⟩ (⟨⟨_, _, _, rfl, (Nat.le_of_ble_eq_true rfl), rfl⟩, hk3⟩) ?_
      refine R1 (g' := (34, _, _, _, _, _)) rfl rfl ?_
      refine R_getf rfl rfl (Nat.le_of_ble_eq_true rfl) rfl rfl ?_
      refine R1 (g' := (39, _, .int (nI 7) :: _, _, _, _)) rfl rfl ?_
      refine R1 (g' := (40, _, _, _, _, _)) rfl rfl ?_
      refine R_iald 7 rfl (Nat.le_of_ble_eq_true rfl) rfl (by decide) (by decide) rfl ?_
      rw [e3, i7]
      refine R1 (g' := (42, _, .int (nI 1) :: _, _, _, _)) rfl rfl ?_
      refine R1 (g' := (43, _, _, _, _, _)) rfl rfl ?_
      rw [pk_sub n1]
      refine R_iast 7 rfl (Nat.le_of_ble_eq_true rfl) (fun _ => rfl) (by decide) (by decide) rfl ?_
      rw [e3]
      refine R1 (g' := (45, _, _, _, _, _)) rfl rfl ?_
      refine R1 (g' := (46, _, _, _, _, _)) rfl rfl ?_
      refine R_getf rfl rfl (Nat.le_of_ble_eq_true rfl) rfl rfl ?_
      refine R1 (g' := (51, _, .int (nI 7) :: _, _, _, _)) rfl rfl ?_
      refine R_iald 7 rfl (Nat.le_of_ble_eq_true rfl) rfl (by decide) (by decide) rfl ?_
      rw [setP_at, pk_us]
      refine R1 (g' := (53, _, .int (nI 2) :: _, _, _, _)) rfl rfl ?_
      refine R_call3 (Or.inr (Or.inl ⟨rfl, rfl⟩)) rfl rfl ⟨Nat.le_of_ble_eq_true rfl, Nat.le_of_ble_eq_true rfl⟩ (Nat.le_of_ble_eq_true rfl) ⟨rfl, rfl⟩ (⟨⟨_, _, _, rfl, (Nat.le_of_ble_eq_true rfl), rfl⟩, e9_of (p := qn (s.1 143) 7 - 1) (w := 2) (i := 7 + 4 * qn (s.1 143) 7) (by omega) (by omega)⟩) ?_
      rw [setP_at, pk_un (by omega)]
      refine R1 (g' := (57, _, _, _, _, _)) rfl rfl ?_
      refine R1 (g' := (58, _, _, _, _, _)) rfl rfl ?_
      refine R_getf rfl rfl (Nat.le_of_ble_eq_true rfl) rfl rfl ?_
      refine R1 (g' := (62, _, .int (nI 5) :: _, _, _, _)) rfl rfl ?_
      refine R1 (g' := (63, _, _, _, _, _)) rfl rfl ?_
      refine R_iald 5 rfl (Nat.le_of_ble_eq_true rfl) rfl (by decide) (by decide) rfl ?_
      rw [setP_at, pk_un (by decide)]
      refine R1 (g' := (65, _, _, _, _, _)) rfl rfl ?_
      refine R1 (g' := (66, _, _, _, _, _)) rfl rfl ?_
      refine R_iast 5 rfl (Nat.le_of_ble_eq_true rfl) (fun _ => rfl) (by decide) (by decide) rfl ?_
      rw [setP_at, setP_setP, qDrop_eq]
      refine R1 (g' := (68, _, _, _, _, _)) rfl rfl ?_
      refine R_iret rfl ?_
      exact ⟨rfl, rfl⟩
  · have em : s.1 143 7 = nI 1 := by rw [i7, show qn (s.1 143) 7 = 1 by omega]
    refine Pair_x (s1 := s) (s2 := s) 0 "java/lang/IllegalStateException" rfl ?_ ?_ hR
    · refine ⟨Nat.le_of_ble_eq_true rfl, Nat.le_refl _, trivial, ?_⟩
      refine R1 (g' := (1, _, _, _, _, _)) rfl rfl ?_
      refine R_getf rfl rfl (Nat.le_of_ble_eq_true rfl) rfl rfl ?_
      refine R_getf rfl rfl (Nat.le_of_ble_eq_true rfl) rfl rfl ?_
      refine R_getf rfl rfl (Nat.le_of_ble_eq_true rfl) rfl rfl ?_
      refine R1 (g' := (11, _, .int (nI 1) :: _, _, _, _)) rfl rfl ?_
      refine R_cgtN 24 ((qn (s.1 143) 7)) (1) rfl rfl (hn) (rfl) (by omega) (by omega) (fun h => by omega) (fun h11 => ?_)
      refine R_throw rfl rfl ⟨Nat.le_of_ble_eq_true rfl, Nat.le_of_ble_eq_true rfl⟩ (Nat.le_of_ble_eq_true rfl) ?_
      exact ⟨rfl, rfl⟩
    · refine ⟨Nat.le_of_ble_eq_true rfl, Nat.le_refl _, Or.inl rfl, ?_⟩
      refine R1 (g' := (1, _, _, _, _, _)) rfl rfl ?_
      refine R1 (g' := (2, _, _, _, _, _)) rfl rfl ?_
      refine R_getf rfl rfl (Nat.le_of_ble_eq_true rfl) rfl rfl ?_
      refine R1 (g' := (7, _, .int (nI 7) :: _, _, _, _)) rfl rfl ?_
      refine R_iald 7 rfl (Nat.le_of_ble_eq_true rfl) rfl (by decide) (by decide) rfl ?_
      refine R1 (g' := (9, _, .int (nI 1) :: _, _, _, _)) rfl rfl ?_
      refine R_cleN 16 ((qn (s.1 143) 7)) (1) rfl rfl (i7) (rfl) (by omega) (by omega) (fun h9 => ?_) (fun h => by omega)
      refine R1 (g' := (17, _, .int (nI 1) :: _, _, _, _)) rfl rfl ?_
      refine R_put rfl rfl (Nat.le_of_ble_eq_true rfl) rfl (Nat.le_of_ble_eq_true rfl) ⟨_, rfl, Or.inl rfl, _, rfl, rfl⟩ rfl ?_
      change xRun _ _ (20, _, _, wd (put s 142 6 (nI 1)), _, _)
      refine R1 (g' := (21, _, _, _, _, _)) rfl rfl ?_
      refine R_getf rfl rfl (Nat.le_of_ble_eq_true rfl) rfl rfl ?_
      rw [put6]
      refine R_eq 29 rfl rfl (fun h => by exact absurd h (by decide)) (fun h24 => ?_)
      refine R1 (g' := (28, _, .int (nI 0) :: _, _, _, _)) rfl rfl ?_
      refine R_iret rfl ?_
      exact ⟨rfl, rfl⟩
