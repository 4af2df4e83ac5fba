theorem bRel_put {s : xs} {p f i : Nat} {x : Int32} {Q : Nat → Int32} (h : bRel s p Q) (hf : (f = 1 ∧ i = 0) ∨ (f = 2 ∧ i = 1)) : bRel (put s p f x) p (upd Q i x) := by
  obtain ⟨⟨b0, b1, b2, b3, b4, b5, b6, b7⟩, br⟩ := h
  rcases hf with ⟨rfl, rfl⟩ | ⟨rfl, rfl⟩ <;>
  · refine ⟨⟨?_, ?_, ?_, ?_, ?_, ?_, ?_, ?_⟩, fun j hj => ?_⟩
    all_goals first
      | (simp [put_val, upd] <;> first | exact b0 | exact b1 | exact b2 | exact b3 | exact b4 | exact b5 | exact b6 | exact b7)
      | (obtain ⟨r1, r2, r3, r4⟩ := br j hj
         refine ⟨?_, ?_, ?_, ?_⟩ <;> (rw [put_ne _ _ (by omega), pk_un (by omega)]; assumption))
theorem pr_setScale {s : xs} {x : Int32} (h : Rl s) : Pair Ev_X8_setScale Ev_X9_setScale [.ref 0, .int x] [.ref 142, .int x] ["java/lang/IllegalArgumentException"] s := by
  cases k : inI x (nI 0) (nI 50) with
  | false =>
    refine ⟨.inr "java/lang/IllegalArgumentException", s, nI 0, _, ?_, e9_setScaleX k, Rl_code h, Or.inr ⟨0, _, rfl, rfl, put6⟩⟩
    refine ⟨Nat.le_of_ble_eq_true rfl, Nat.le_refl _, trivial, ?_⟩
    refine R1 (g' := (1, _, _, _, _, _)) rfl rfl ?_
    refine R1 (g' := (2, _, .int (nI 0) :: _, _, _, _)) rfl rfl ?_
    refine R1 (g' := (4, _, .int (nI 50) :: _, _, _, _)) rfl rfl ?_
    refine R_call3X (Or.inl ⟨rfl, rfl⟩) rfl rfl ⟨Nat.le_of_ble_eq_true rfl, Nat.le_of_ble_eq_true rfl⟩ (Nat.le_of_ble_eq_true rfl) ⟨rfl, rfl⟩ (e8_rangeX k) rfl ?_
    exact ⟨rfl, rfl⟩
  | true =>
    have h0 := h
    obtain ⟨hp, hi, ⟨π, c, k1, k2, k3, k4, k5⟩, hT⟩ := h
    obtain ⟨s1, π', hev, g1, g2, g3, g4, g5⟩ := c_save k1 k2 k3 k5 hp hi
    obtain ⟨n, rfl, n1, n2⟩ := inI_of (by decide) k (by decide)
    have hp1 : pRel s1 1 (s.1 143) := pRel_fr (fun i a b => g4 i (Or.inl (by omega))) hp
    obtain ⟨s3, f1, f2, f3, hev2⟩ := e9_setScaleT (s := put s1 2 2 (nI n)) k k2 ((by rw [put_ne _ _ (by decide), g4 142 (by decide)]; exact k4))
    have e143 : (put s1 2 2 (nI n)).1 143 = s.1 143 := by rw [put_ne _ _ (by decide), g4 143 (by decide)]
    have ev : s1.1 2 2 = s.1 143 1 := hp1.1.1.2.2.1
    have epg : pg (put s1 2 2 (nI n)) = pg s := by
      funext j q
      unfold pg
      rw [put_ne _ _ (by decide), g4 145 (by decide)]
    rw [e143] at hev2 f3
    rw [epg] at f3
    have fr : ∀ i, i ≠ 142 → i ≠ 143 → i ≠ 145 → (setP s3 143 (upd (s.1 143) 1 (nI n))).1 i = (put s1 2 2 (nI n)).1 i := fun i a b d => by
      rw [setP_ne _ _ b, f1.1 i a d, put6n a]
    have e42 : ∀ j, j ≠ 3 → j ≠ 6 → (setP s3 143 (upd (s.1 143) 1 (nI n))).1 142 j = s.1 142 j := fun j a b => by
      rw [setP_ne _ _ (by decide), f1.2.1 j a, put6o b, put_ne _ _ (by decide), g4 142 (by decide)]
    refine ⟨_, put s1 2 2 (nI n), _, _, ?_, hev2, ?_, Or.inl ⟨rfl, ?_⟩⟩
    · refine ⟨Nat.le_of_ble_eq_true rfl, Nat.le_refl _, Or.inl rfl, ?_⟩
      refine R1 (g' := (1, _, _, _, _, _)) rfl rfl ?_
      refine R1 (g' := (2, _, .int (nI 0) :: _, _, _, _)) rfl rfl ?_
      refine R1 (g' := (4, _, .int (nI 50) :: _, _, _, _)) rfl rfl ?_
      refine R_call3 (Or.inl ⟨rfl, rfl⟩) rfl rfl ⟨Nat.le_of_ble_eq_true rfl, Nat.le_of_ble_eq_true rfl⟩ (Nat.le_of_ble_eq_true rfl) ⟨rfl, rfl⟩ (e8_range k) ?_
      refine R1 (g' := (8, _, _, _, _, _)) rfl rfl ?_
      refine R_getf rfl rfl (Nat.le_of_ble_eq_true rfl) rfl rfl ?_
      refine R1 (g' := (12, _, _, _, _, _)) rfl rfl ?_
      refine R_getf rfl rfl (Nat.le_of_ble_eq_true rfl) rfl rfl ?_
      refine R_call2 (Or.inr (Or.inl ⟨rfl, rfl⟩)) rfl rfl ⟨Nat.le_of_ble_eq_true rfl, Nat.le_of_ble_eq_true rfl⟩ (Nat.le_of_ble_eq_true rfl) ⟨rfl, rfl⟩ (⟨⟨_, _, _, rfl, (Nat.le_of_ble_eq_true rfl), rfl⟩, hev⟩) ?_
      refine R1 (g' := (19, _, _, _, _, _)) rfl rfl ?_
      refine R_getf rfl rfl (Nat.le_of_ble_eq_true rfl) rfl rfl ?_
      refine R_getf rfl rfl (Nat.le_of_ble_eq_true rfl) rfl rfl ?_
      refine R_getf rfl rfl (Nat.le_of_ble_eq_true rfl) rfl rfl ?_
      refine R1 (g' := (29, _, _, _, _, _)) rfl rfl ?_
      refine R1 (g' := (30, _, _, _, _, _)) rfl rfl ?_
      refine R_getf rfl rfl (Nat.le_of_ble_eq_true rfl) rfl rfl ?_
      refine R_getf rfl rfl (Nat.le_of_ble_eq_true rfl) rfl rfl ?_
      refine R1 (g' := (37, _, _, _, _, _)) rfl rfl ?_
      refine R_put rfl rfl (Nat.le_of_ble_eq_true rfl) rfl (Nat.le_of_ble_eq_true rfl) ⟨_, rfl, Or.inl rfl, _, rfl, rfl⟩ rfl ?_
      refine R1 (g' := (41, _, _, _, _, _)) rfl rfl ?_
      refine R_iret rfl ?_
      exact ⟨o_i ev, rfl⟩
    · refine Rl_step (s := s) (s1 := s1) (s2 := put s1 2 2 (nI n)) (Q := upd (s.1 143) 1 (nI n)) hT k2 g1 g2 g3 g4 (fun i a => put_ne _ _ (by omega)) rfl ⟨bRel_put hp1.1 (Or.inr ⟨rfl, rfl⟩), ?_⟩ (i_upd1 hi n2) (setP_at _ _ _) ?_ (fun j hj q hq => ?_) (fun i a => fr i (by omega) (by omega) (by omega)) ?_ (e42 5 (by decide) (by decide)) ?_
      · exact tRel_cg hp1.2 (by rw [put_ne _ _ (by decide)]) (put_ne _ _ (by decide)) (put_ne _ _ (by decide)) (put_ne _ _ (by decide)) (put_ne _ _ (by decide)) (pk_un (by decide)) (fun i a b => pk_un (by omega))
      · rw [setP_ne _ _ (by decide)]
        exact f2
      · rw [← f3 j hj q hq]
        unfold pg
        rw [setP_ne _ _ (by decide)]
      · show s3.2.1 42 = _
        rw [f1.2.2]
        rfl
      · rw [fr 146 (by decide) (by decide) (by decide), put_ne _ _ (by decide), g4 146 (by decide)]
    · rw [setP_ne _ _ (by decide), f1.2.1 6 (by decide)]
      exact put6
