theorem Rl_txt {s s5 : xs} (h : Rl s) (e : ∀ i, i ≠ 133 → i ≠ 141 → i ≠ 142 → i ≠ 146 → s5.1 i = s.1 i) (e3 : s5.1 142 3 = s.1 142 3) (e2 : s5.2.1 = s.2.1) (hT : RlT s5) : Rl s5 := by
  obtain ⟨h1, h2, ⟨π, c, k1, k2, k3, k4, k5⟩, _⟩ := h
  have e143 := e 143 (by decide) (by decide) (by decide) (by decide)
  refine ⟨?_, by rw [e143]; exact h2, ⟨π, c, xhi_fr (by rw [e2]) k1, k2, ?_, e3.trans k4, ?_⟩, hT⟩
  · rw [e143]
    exact pRel_fr (fun i a b => e i (by omega) (by omega) (by omega) (by omega)) h1
  · rw [e 41 (by decide) (by decide) (by decide) (by decide)]
    exact k3
  · have ep : pg s5 = pg s := by
      funext j q
      unfold pg
      rw [e 145 (by decide) (by decide) (by decide) (by decide)]
    rw [ep]
    exact HS_fr k1 k2 (fun i a b => e i (by omega) (by omega) (by omega) (by omega)) k5
theorem e2_add {s : xs} {L : Nat} {x : Int32} (h0 : s.1 133 0 = nI L) (hL : L < 90) : Ev_X2_add [.ref 133, .int x] (wd s) (.inl (some (.int (nI (L + 1))))) (wd (put (setP s 141 (upd (s.1 141) L x)) 133 0 (nI (L + 1)))) := by
  refine ⟨Nat.le_of_ble_eq_true rfl, Nat.le_refl _, Or.inl rfl, ?_⟩
  refine R1 (g' := (1, _, _, _, _, _)) rfl rfl ?_
  refine R_getf rfl rfl (Nat.le_of_ble_eq_true rfl) rfl rfl ?_
  refine R1 (g' := (5, _, _, _, _, _)) rfl rfl ?_
  refine R_getf rfl rfl (Nat.le_of_ble_eq_true rfl) rfl rfl ?_
  rw [h0]
  refine R1 (g' := (9, _, _, _, _, _)) rfl rfl ?_
  refine R_call3 (Or.inr (Or.inl ⟨rfl, rfl⟩)) rfl rfl ⟨Nat.le_of_ble_eq_true rfl, Nat.le_of_ble_eq_true rfl⟩ (Nat.le_of_ble_eq_true rfl) ⟨rfl, rfl⟩ (⟨⟨_, _, _, rfl, (Nat.le_of_ble_eq_true rfl), rfl⟩, e_Row_set xrw_140 (by decide) hL⟩) ?_
  refine R1 (g' := (13, _, _, _, _, _)) rfl rfl ?_
  refine R1 (g' := (14, _, _, _, _, _)) rfl rfl ?_
  refine R_getf rfl rfl (Nat.le_of_ble_eq_true rfl) rfl rfl ?_
  rw [setP_ne _ _ (by decide), h0]
  refine R1 (g' := (18, _, .int (nI 1) :: _, _, _, _)) rfl rfl ?_
  refine R1 (g' := (19, _, _, _, _, _)) rfl rfl ?_
  rw [nI_add]
  refine R_put rfl rfl (Nat.le_of_ble_eq_true rfl) rfl (Nat.le_of_ble_eq_true rfl) ⟨_, rfl, Or.inl rfl, _, rfl, rfl⟩ rfl ?_
  refine R1 (g' := (23, _, _, _, _, _)) rfl rfl ?_
  refine R_getf rfl rfl (Nat.le_of_ble_eq_true rfl) rfl rfl ?_
  refine R_iret rfl ?_
  exact ⟨o_i (by rw [setP_at]; exact pk_us), rfl⟩
theorem pr_append {s : xs} {x : Int32} (hR : Rl s) : Pair Ev_X8_append Ev_X9_append [.ref 0, .int x] [.ref 142, .int x] ["java/lang/IllegalArgumentException", "java/lang/IllegalStateException"] s := by
  obtain ⟨L, L90, c0, r5, heq⟩ := id hR.2.2.2
  cases k1 : inI x (nI 0) (nI 127) with
  | false =>
    refine Pair_x (s1 := s) (s2 := s) 0 "java/lang/IllegalArgumentException" rfl ?_ ?_ hR
    · refine ⟨Nat.le_of_ble_eq_true rfl, Nat.le_refl _, trivial, ?_⟩
      refine R1 (g' := (1, _, _, _, _, _)) rfl rfl ?_
      refine R1 (g' := (2, _, .int (nI 0) :: _, _, _, _)) rfl rfl ?_
      refine R1 (g' := (4, _, .int (nI 127) :: _, _, _, _)) rfl rfl ?_
      refine R_call3X (Or.inl ⟨rfl, rfl⟩) rfl rfl ⟨Nat.le_of_ble_eq_true rfl, Nat.le_of_ble_eq_true rfl⟩ (Nat.le_of_ble_eq_true rfl) ⟨rfl, rfl⟩ (e8_rangeX k1) rfl ?_
      exact ⟨rfl, rfl⟩
    · refine ⟨Nat.le_of_ble_eq_true rfl, Nat.le_refl _, Or.inl rfl, ?_⟩
      refine R1 (g' := (1, _, _, _, _, _)) rfl rfl ?_
      refine R1 (g' := (2, _, _, _, _, _)) rfl rfl ?_
      refine R1 (g' := (3, _, .int (nI 0) :: _, _, _, _)) rfl rfl ?_
      refine R1 (g' := (5, _, .int (nI 127) :: _, _, _, _)) rfl rfl ?_
      refine R_call3 (Or.inl ⟨rfl, rfl⟩) rfl rfl ⟨Nat.le_of_ble_eq_true rfl, Nat.le_of_ble_eq_true rfl⟩ (Nat.le_of_ble_eq_true rfl) ⟨rfl, rfl⟩ (e9_in) ?_
      rw [k1]
      refine R_ne 15 rfl rfl (fun h => by exact absurd rfl h) (fun h8 => ?_)
      refine R1 (g' := (12, _, .int (nI 1) :: _, _, _, _)) rfl rfl ?_
      refine R1 (g' := (29, _, _, _, _, _)) rfl rfl ?_
      refine R_put rfl rfl (Nat.le_of_ble_eq_true rfl) rfl (Nat.le_of_ble_eq_true rfl) ⟨_, rfl, Or.inl rfl, _, rfl, rfl⟩ rfl ?_
      change xRun _ _ (32, _, _, wd (put s 142 6 (nI 1)), _, _)
      refine R1 (g' := (33, _, _, _, _, _)) rfl rfl ?_
      refine R_getf rfl rfl (Nat.le_of_ble_eq_true rfl) rfl rfl ?_
      rw [put6]
      refine R_eq 41 rfl rfl (fun h => by exact absurd h (by decide)) (fun h36 => ?_)
      refine R1 (g' := (40, _, .int (nI 0) :: _, _, _, _)) rfl rfl ?_
      refine R_iret rfl ?_
      exact ⟨rfl, rfl⟩
  | true =>
    by_cases hL : L < 90
    · have e5 : (put (setP s 141 (upd (s.1 141) L x)) 133 0 (nI (L + 1))).1 142 5 = nI L := by
        rw [put_ne _ _ (by decide), setP_ne _ _ (by decide)]
        exact r5
      have e146 : (put (put (setP s 141 (upd (s.1 141) L x)) 133 0 (nI (L + 1))) 142 6 (nI 0)).1 146 = s.1 146 := by rw [put_ne _ _ (by decide), put_ne _ _ (by decide), setP_ne _ _ (by decide)]
      refine Pair_t (s1 := (put (setP s 141 (upd (s.1 141) L x)) 133 0 (nI (L + 1)))) (s2 := put (setP (put (put (setP s 141 (upd (s.1 141) L x)) 133 0 (nI (L + 1))) 142 6 (nI 0)) 146 (upd (s.1 146) L x)) 142 5 (nI (L + 1))) (v := nI (L + 1)) ?_ ?_ ⟨Rl_txt hR (fun i a b c d => ?_) ?_ rfl ⟨L + 1, by omega, ?_, putv, fun j hj => ?_⟩, ?_⟩
      · refine ⟨Nat.le_of_ble_eq_true rfl, Nat.le_refl _, Or.inl rfl, ?_⟩
        refine R1 (g' := (1, _, _, _, _, _)) rfl rfl ?_
        refine R1 (g' := (2, _, .int (nI 0) :: _, _, _, _)) rfl rfl ?_
        refine R1 (g' := (4, _, .int (nI 127) :: _, _, _, _)) rfl rfl ?_
        refine R_call3 (Or.inl ⟨rfl, rfl⟩) rfl rfl ⟨Nat.le_of_ble_eq_true rfl, Nat.le_of_ble_eq_true rfl⟩ (Nat.le_of_ble_eq_true rfl) ⟨rfl, rfl⟩ (e8_range k1) ?_
        refine R1 (g' := (8, _, _, _, _, _)) rfl rfl ?_
        refine R_getf rfl rfl (Nat.le_of_ble_eq_true rfl) rfl rfl ?_
        refine R_getf rfl rfl (Nat.le_of_ble_eq_true rfl) rfl rfl ?_
        refine R1 (g' := (16, _, .int (nI 90) :: _, _, _, _)) rfl rfl ?_
        refine R_cltN 29 (L) (90) rfl rfl (c0) (rfl) (by omega) (by omega) (fun h16 => ?_) (fun h => by omega)
        refine R1 (g' := (30, _, _, _, _, _)) rfl rfl ?_
        refine R_getf rfl rfl (Nat.le_of_ble_eq_true rfl) rfl rfl ?_
        refine R1 (g' := (34, _, _, _, _, _)) rfl rfl ?_
        refine R_call2 (Or.inr (Or.inl ⟨rfl, rfl⟩)) rfl rfl ⟨Nat.le_of_ble_eq_true rfl, Nat.le_of_ble_eq_true rfl⟩ (Nat.le_of_ble_eq_true rfl) ⟨rfl, rfl⟩ (⟨⟨_, _, _, rfl, (Nat.le_of_ble_eq_true rfl), rfl⟩, e2_add c0 hL⟩) ?_
        refine R_iret rfl ?_
        exact ⟨rfl, rfl⟩
      · refine ⟨Nat.le_of_ble_eq_true rfl, Nat.le_refl _, Or.inl rfl, ?_⟩
        refine R1 (g' := (1, _, _, _, _, _)) rfl rfl ?_
        refine R1 (g' := (2, _, _, _, _, _)) rfl rfl ?_
        refine R1 (g' := (3, _, .int (nI 0) :: _, _, _, _)) rfl rfl ?_
        refine R1 (g' := (5, _, .int (nI 127) :: _, _, _, _)) rfl rfl ?_
        refine R_call3 (Or.inl ⟨rfl, rfl⟩) rfl rfl ⟨Nat.le_of_ble_eq_true rfl, Nat.le_of_ble_eq_true rfl⟩ (Nat.le_of_ble_eq_true rfl) ⟨rfl, rfl⟩ (e9_in) ?_
        rw [k1]
        refine R_ne 15 rfl rfl (fun h8 => ?_) (fun h => by exact absurd h (by decide))
        refine R1 (g' := (16, _, _, _, _, _)) rfl rfl ?_
        refine R_getf rfl rfl (Nat.le_of_ble_eq_true rfl) rfl rfl ?_
        refine R1 (g' := (21, _, .int (nI 90) :: _, _, _, _)) rfl rfl ?_
        refine R_cneN 28 (L) (90) rfl rfl (e5) (rfl) (by omega) (by omega) (fun h21 => ?_) (fun h => by omega)
        refine R1 (g' := (29, _, .int (nI 0) :: _, _, _, _)) rfl rfl ?_
        refine R_put rfl rfl (Nat.le_of_ble_eq_true rfl) rfl (Nat.le_of_ble_eq_true rfl) ⟨_, rfl, Or.inl rfl, _, rfl, rfl⟩ rfl ?_
        change xRun _ _ (32, _, _, wd (put (put (setP s 141 (upd (s.1 141) L x)) 133 0 (nI (L + 1))) 142 6 (nI 0)), _, _)
        refine R1 (g' := (33, _, _, _, _, _)) rfl rfl ?_
        refine R_getf rfl rfl (Nat.le_of_ble_eq_true rfl) rfl rfl ?_
        rw [put6]
        refine R_eq 41 rfl rfl (fun h36 => ?_) (fun h => by exact absurd (by decide) h)
        refine R1 (g' := (42, _, _, _, _, _)) rfl rfl ?_
        refine R_getf rfl rfl (Nat.le_of_ble_eq_true rfl) rfl rfl ?_
        refine R1 (g' := (46, _, _, _, _, _)) rfl rfl ?_
        refine R_getf rfl rfl (Nat.le_of_ble_eq_true rfl) rfl rfl ?_
        rw [put6o (by decide), e5]
        refine R1 (g' := (50, _, _, _, _, _)) rfl rfl ?_
        refine R_iast L rfl (Nat.le_of_ble_eq_true rfl) (fun _ => rfl) (by omega) (by decide) rfl ?_
        rw [e146]
        refine R1 (g' := (52, _, _, _, _, _)) rfl rfl ?_
        refine R1 (g' := (53, _, _, _, _, _)) rfl rfl ?_
        refine R_getf rfl rfl (Nat.le_of_ble_eq_true rfl) rfl rfl ?_
        rw [setP_ne _ _ (by decide), put6o (by decide), e5]
        refine R1 (g' := (57, _, .int (nI 1) :: _, _, _, _)) rfl rfl ?_
        refine R1 (g' := (58, _, _, _, _, _)) rfl rfl ?_
        rw [nI_add]
        refine R_put rfl rfl (Nat.le_of_ble_eq_true rfl) rfl (Nat.le_of_ble_eq_true rfl) ⟨_, rfl, Or.inl rfl, _, rfl, rfl⟩ rfl ?_
        refine R1 (g' := (62, _, _, _, _, _)) rfl rfl ?_
        refine R_getf rfl rfl (Nat.le_of_ble_eq_true rfl) rfl rfl ?_
        refine R_iret rfl ?_
        exact ⟨o_i (by rw [setP_at]; exact pk_us), rfl⟩
      · rw [put_ne _ _ c, setP_ne _ _ d, put_ne _ _ c, put_ne _ _ a, setP_ne _ _ b]
      · rw [putn (by decide), setP_ne _ _ (by decide), putn (by decide), put_ne _ _ (by decide), setP_ne _ _ (by decide)]
      · rw [put_ne _ _ (by decide), setP_ne _ _ (by decide), put_ne _ _ (by decide), putc]
      · rw [put_ne _ _ (by decide), setP_ne _ _ (by decide), put_ne _ _ (by decide), put_ne _ _ (by decide), setP_at, put_ne _ _ (by decide), setP_at]
        by_cases e : j = L
        · rw [e, pk_us, pk_us]
        · rw [pk_un e, pk_un e]
          exact heq j (by omega)
      · rw [putn (by decide), setP_ne _ _ (by decide)]
        exact put6
    · have em : L = 90 := by omega
      subst em
      refine Pair_x (s1 := s) (s2 := s) 1 "java/lang/IllegalStateException" rfl ?_ ?_ hR
      · refine ⟨Nat.le_of_ble_eq_true rfl, Nat.le_refl _, trivial, ?_⟩
        refine R1 (g' := (1, _, _, _, _, _)) rfl rfl ?_
        refine R1 (g' := (2, _, .int (nI 0) :: _, _, _, _)) rfl rfl ?_
        refine R1 (g' := (4, _, .int (nI 127) :: _, _, _, _)) rfl rfl ?_
        refine R_call3 (Or.inl ⟨rfl, rfl⟩) rfl rfl ⟨Nat.le_of_ble_eq_true rfl, Nat.le_of_ble_eq_true rfl⟩ (Nat.le_of_ble_eq_true rfl) ⟨rfl, rfl⟩ (e8_range k1) ?_
        refine R1 (g' := (8, _, _, _, _, _)) rfl rfl ?_
        refine R_getf rfl rfl (Nat.le_of_ble_eq_true rfl) rfl rfl ?_
        refine R_getf rfl rfl (Nat.le_of_ble_eq_true rfl) rfl rfl ?_
        refine R1 (g' := (16, _, .int (nI 90) :: _, _, _, _)) rfl rfl ?_
        refine R_cltN 29 (90) (90) rfl rfl (c0) (rfl) (by omega) (by omega) (fun h => by omega) (fun h16 => ?_)
        refine R_throw rfl rfl ⟨Nat.le_of_ble_eq_true rfl, Nat.le_of_ble_eq_true rfl⟩ (Nat.le_of_ble_eq_true rfl) ?_
        exact ⟨rfl, rfl⟩
      · refine ⟨Nat.le_of_ble_eq_true rfl, Nat.le_refl _, Or.inl rfl, ?_⟩
        refine R1 (g' := (1, _, _, _, _, _)) rfl rfl ?_
        refine R1 (g' := (2, _, _, _, _, _)) rfl rfl ?_
        refine R1 (g' := (3, _, .int (nI 0) :: _, _, _, _)) rfl rfl ?_
        refine R1 (g' := (5, _, .int (nI 127) :: _, _, _, _)) rfl rfl ?_
        refine R_call3 (Or.inl ⟨rfl, rfl⟩) rfl rfl ⟨Nat.le_of_ble_eq_true rfl, Nat.le_of_ble_eq_true rfl⟩ (Nat.le_of_ble_eq_true rfl) ⟨rfl, rfl⟩ (e9_in) ?_
        rw [k1]
        refine R_ne 15 rfl rfl (fun h8 => ?_) (fun h => by exact absurd h (by decide))
        refine R1 (g' := (16, _, _, _, _, _)) rfl rfl ?_
        refine R_getf rfl rfl (Nat.le_of_ble_eq_true rfl) rfl rfl ?_
        refine R1 (g' := (21, _, .int (nI 90) :: _, _, _, _)) rfl rfl ?_
        refine R_cneN 28 (90) (90) rfl rfl (r5) (rfl) (by omega) (by omega) (fun h => by omega) (fun h21 => ?_)
        refine R1 (g' := (25, _, .int (nI 2) :: _, _, _, _)) rfl rfl ?_
        refine R1 (g' := (29, _, _, _, _, _)) rfl rfl ?_
        refine R_put rfl rfl (Nat.le_of_ble_eq_true rfl) rfl (Nat.le_of_ble_eq_true rfl) ⟨_, rfl, Or.inl rfl, _, rfl, rfl⟩ rfl ?_
        change xRun _ _ (32, _, _, wd (put s 142 6 (nI 2)), _, _)
        refine R1 (g' := (33, _, _, _, _, _)) rfl rfl ?_
        refine R_getf rfl rfl (Nat.le_of_ble_eq_true rfl) rfl rfl ?_
        rw [put6]
        refine R_eq 41 rfl rfl (fun h => by exact absurd h (by decide)) (fun h36 => ?_)
        refine R1 (g' := (40, _, .int (nI 0) :: _, _, _, _)) rfl rfl ?_
        refine R_iret rfl ?_
        exact ⟨rfl, rfl⟩
theorem pr_clearText {s : xs} (hR : Rl s) : Pair Ev_X8_clearText Ev_X9_clearText [.ref 0] [.ref 142] [] s := by
  obtain ⟨L, L90, c0, r5, heq⟩ := id hR.2.2.2
  have e5 : (put (put s 133 0 (nI 0)) 142 6 (nI 0)).1 142 5 = nI L := by
    rw [putn (by decide), put_ne _ _ (by decide)]
    exact r5
  refine Pair_t (s1 := (put s 133 0 (nI 0))) (s2 := put (put (put s 133 0 (nI 0)) 142 6 (nI 0)) 142 5 (nI 0)) (v := nI L) ?_ ?_ ⟨Rl_txt hR (fun i a b c d => ?_) ?_ rfl ⟨0, by omega, ?_, putv, fun j hj => absurd hj (Nat.not_lt_zero _)⟩, ?_⟩
  · refine ⟨Nat.le_of_ble_eq_true rfl, Nat.le_refl _, Or.inl rfl, ?_⟩
    refine R1 (g' := (1, _, _, _, _, _)) rfl rfl ?_
    refine R_getf rfl rfl (Nat.le_of_ble_eq_true rfl) rfl rfl ?_
    refine R_getf rfl rfl (Nat.le_of_ble_eq_true rfl) rfl rfl ?_
    rw [c0]
    refine R1 (g' := (8, _, _, _, _, _)) rfl rfl ?_
    refine R1 (g' := (9, _, _, _, _, _)) rfl rfl ?_
    refine R_getf rfl rfl (Nat.le_of_ble_eq_true rfl) rfl rfl ?_
    refine R1 (g' := (13, _, .int (nI 0) :: _, _, _, _)) rfl rfl ?_
    refine R_put rfl rfl (Nat.le_of_ble_eq_true rfl) rfl (Nat.le_of_ble_eq_true rfl) ⟨_, rfl, Or.inl rfl, _, rfl, rfl⟩ rfl ?_
    refine R1 (g' := (17, _, _, _, _, _)) rfl rfl ?_
    refine R_iret rfl ?_
    exact ⟨rfl, rfl⟩
  · refine ⟨Nat.le_of_ble_eq_true rfl, Nat.le_refl _, Or.inl rfl, ?_⟩
    refine R1 (g' := (1, _, _, _, _, _)) rfl rfl ?_
    refine R1 (g' := (2, _, .int (nI 0) :: _, _, _, _)) rfl rfl ?_
    refine R_put rfl rfl (Nat.le_of_ble_eq_true rfl) rfl (Nat.le_of_ble_eq_true rfl) ⟨_, rfl, Or.inl rfl, _, rfl, rfl⟩ rfl ?_
    change xRun _ _ (5, _, _, wd (put (put s 133 0 (nI 0)) 142 6 (nI 0)), _, _)
    refine R1 (g' := (6, _, _, _, _, _)) rfl rfl ?_
    refine R_getf rfl rfl (Nat.le_of_ble_eq_true rfl) rfl rfl ?_
    rw [e5]
    refine R1 (g' := (10, _, _, _, _, _)) rfl rfl ?_
    refine R1 (g' := (11, _, _, _, _, _)) rfl rfl ?_
    refine R1 (g' := (12, _, .int (nI 0) :: _, _, _, _)) rfl rfl ?_
    refine R_put rfl rfl (Nat.le_of_ble_eq_true rfl) rfl (Nat.le_of_ble_eq_true rfl) ⟨_, rfl, Or.inl rfl, _, rfl, rfl⟩ rfl ?_
    refine R1 (g' := (16, _, _, _, _, _)) rfl rfl ?_
    refine R_iret rfl ?_
    exact ⟨rfl, rfl⟩
  · rw [put_ne _ _ c, put_ne _ _ c, put_ne _ _ a]
  · rw [putn (by decide), putn (by decide), put_ne _ _ (by decide)]
  · rw [put_ne _ _ (by decide), put_ne _ _ (by decide), putc]
  · rw [putn (by decide)]
    exact put6
theorem pr_undo {s : xs} (hR : Rl s) : Pair Ev_X8_undo Ev_X9_undo [.ref 0] [.ref 142] ["java/lang/IllegalStateException"] s := by
  obtain ⟨hp, hi, ⟨π, c, k1, k2, k3, k4, k5⟩, hT⟩ := id hR
  cases c with
  | zero =>
    refine Pair_x (s1 := s) (s2 := s) 0 "java/lang/IllegalStateException" rfl ?_ ?_ hR
    · refine ⟨Nat.le_of_ble_eq_true rfl, Nat.le_refl _, trivial, ?_⟩
      refine R1 (g' := (1, _, _, _, _, _)) rfl rfl ?_
      refine R_getf rfl rfl (Nat.le_of_ble_eq_true rfl) rfl rfl ?_
      refine R_getf rfl rfl (Nat.le_of_ble_eq_true rfl) rfl rfl ?_
      refine R_gtN 20 (0) rfl rfl (k3) (by omega) (fun h => by omega) (fun h7 => ?_)
      refine R_throw rfl rfl ⟨Nat.le_of_ble_eq_true rfl, Nat.le_of_ble_eq_true rfl⟩ (Nat.le_of_ble_eq_true rfl) ?_
      exact ⟨rfl, rfl⟩
    · refine ⟨Nat.le_of_ble_eq_true rfl, Nat.le_refl _, Or.inl rfl, ?_⟩
      refine R1 (g' := (1, _, _, _, _, _)) rfl rfl ?_
      refine R1 (g' := (2, _, _, _, _, _)) rfl rfl ?_
      refine R_getf rfl rfl (Nat.le_of_ble_eq_true rfl) rfl rfl ?_
      refine R_neN 12 (0) rfl rfl (k4) (by omega) (fun h => by omega) (fun h5 => ?_)
      refine R1 (g' := (9, _, .int (nI 1) :: _, _, _, _)) rfl rfl ?_
      refine R1 (g' := (13, _, _, _, _, _)) rfl rfl ?_
      refine R_put rfl rfl (Nat.le_of_ble_eq_true rfl) rfl (Nat.le_of_ble_eq_true rfl) ⟨_, rfl, Or.inl rfl, _, rfl, rfl⟩ rfl ?_
      change xRun _ _ (16, _, _, wd (put s 142 6 (nI 1)), _, _)
      refine R1 (g' := (17, _, _, _, _, _)) rfl rfl ?_
      refine R_getf rfl rfl (Nat.le_of_ble_eq_true rfl) rfl rfl ?_
      rw [put6]
      refine R_eq 25 rfl rfl (fun h => by exact absurd h (by decide)) (fun h20 => ?_)
      refine R1 (g' := (24, _, .int (nI 0) :: _, _, _, _)) rfl rfl ?_
      refine R_iret rfl ?_
      exact ⟨rfl, rfl⟩
  | succ d =>
    obtain ⟨s1, hev, g1, g2, g3, g4, g5, g6, g7⟩ := c_restore k1 (by omega) k3 k5
    have e4 : s1.1 142 3 = nI (d + 1) := by
      rw [g6 142 (by decide) (by decide)]
      exact k4
    have hbr := e9_bring (s := (put (put s1 142 6 (nI 0)) 142 3 (nI d))) (a := 73 * d) (b := 0) xpg_s xpg_m (by decide) (by omega) (by decide)
    have e145 : ∀ i, i ≠ 142 → i ≠ 143 → (setP (put (put s1 142 6 (nI 0)) 142 3 (nI d)) 143 (va_cpy ((put (put s1 142 6 (nI 0)) 142 3 (nI d)).1 145) ((put (put s1 142 6 (nI 0)) 142 3 (nI d)).1 143) (73 * d) 0 73)).1 i = s1.1 i := fun i a b => by rw [setP_ne _ _ b, put_ne _ _ a, put_ne _ _ a]
    have eq : ∀ q, q < 73 → (setP (put (put s1 142 6 (nI 0)) 142 3 (nI d)) 143 (va_cpy ((put (put s1 142 6 (nI 0)) 142 3 (nI d)).1 145) ((put (put s1 142 6 (nI 0)) 142 3 (nI d)).1 143) (73 * d) 0 73)).1 143 q = pg s d q := fun q hq => by
      rw [setP_at, pk_cpy_in (Nat.zero_le _) (by omega), Nat.sub_zero, put_ne _ _ (by decide), put_ne _ _ (by decide), g6 145 (by decide) (by decide)]
      rfl
    have ep : pg (setP (put (put s1 142 6 (nI 0)) 142 3 (nI d)) 143 (va_cpy ((put (put s1 142 6 (nI 0)) 142 3 (nI d)).1 145) ((put (put s1 142 6 (nI 0)) 142 3 (nI d)).1 143) (73 * d) 0 73)) = pg s := by
      funext j q
      unfold pg
      rw [e145 145 (by decide) (by decide), g6 145 (by decide) (by decide)]
    refine Pair_t (s1 := s1) (s2 := setP (put (put s1 142 6 (nI 0)) 142 3 (nI d)) 143 (va_cpy ((put (put s1 142 6 (nI 0)) 142 3 (nI d)).1 145) ((put (put s1 142 6 (nI 0)) 142 3 (nI d)).1 143) (73 * d) 0 73)) (v := nI d) ?_ ?_ ⟨⟨pRel_cg eq (pRel_fr (fun i a b => e145 i (by omega) (by omega)) g4), pInv_cg eq g5, ⟨π, d, xhi_fr rfl g1, by omega, ?_, ?_, ?_⟩, RlT_c hT ?_ ?_ ?_ ?_⟩, ?_⟩
    · refine ⟨Nat.le_of_ble_eq_true rfl, Nat.le_refl _, Or.inl rfl, ?_⟩
      refine R1 (g' := (1, _, _, _, _, _)) rfl rfl ?_
      refine R_getf rfl rfl (Nat.le_of_ble_eq_true rfl) rfl rfl ?_
      refine R_getf rfl rfl (Nat.le_of_ble_eq_true rfl) rfl rfl ?_
      refine R_gtN 20 (d + 1) rfl rfl (k3) (by omega) (fun h7 => ?_) (fun h => by omega)
      refine R1 (g' := (21, _, _, _, _, _)) rfl rfl ?_
      refine R_getf rfl rfl (Nat.le_of_ble_eq_true rfl) rfl rfl ?_
      refine R1 (g' := (25, _, _, _, _, _)) rfl rfl ?_
      refine R_getf rfl rfl (Nat.le_of_ble_eq_true rfl) rfl rfl ?_
      refine R_call2 (Or.inr (Or.inl ⟨rfl, rfl⟩)) rfl rfl ⟨Nat.le_of_ble_eq_true rfl, Nat.le_of_ble_eq_true rfl⟩ (Nat.le_of_ble_eq_true rfl) ⟨rfl, rfl⟩ (⟨⟨_, _, _, rfl, (Nat.le_of_ble_eq_true rfl), rfl⟩, hev⟩) ?_
      refine R1 (g' := (32, _, _, _, _, _)) rfl rfl ?_
      refine R_getf rfl rfl (Nat.le_of_ble_eq_true rfl) rfl rfl ?_
      refine R_getf rfl rfl (Nat.le_of_ble_eq_true rfl) rfl rfl ?_
      refine R_iret rfl ?_
      exact ⟨o_i g2, rfl⟩
    · refine ⟨Nat.le_of_ble_eq_true rfl, Nat.le_refl _, Or.inl rfl, ?_⟩
      refine R1 (g' := (1, _, _, _, _, _)) rfl rfl ?_
      refine R1 (g' := (2, _, _, _, _, _)) rfl rfl ?_
      refine R_getf rfl rfl (Nat.le_of_ble_eq_true rfl) rfl rfl ?_
      refine R_neN 12 (d + 1) rfl rfl (e4) (by omega) (fun h5 => ?_) (fun h => by omega)
      refine R1 (g' := (13, _, .int (nI 0) :: _, _, _, _)) rfl rfl ?_
      refine R_put rfl rfl (Nat.le_of_ble_eq_true rfl) rfl (Nat.le_of_ble_eq_true rfl) ⟨_, rfl, Or.inl rfl, _, rfl, rfl⟩ rfl ?_
      change xRun _ _ (16, _, _, wd (put s1 142 6 (nI 0)), _, _)
      refine R1 (g' := (17, _, _, _, _, _)) rfl rfl ?_
      refine R_getf rfl rfl (Nat.le_of_ble_eq_true rfl) rfl rfl ?_
      rw [put6]
      refine R_eq 25 rfl rfl (fun h20 => ?_) (fun h => by exact absurd (by decide) h)
      refine R1 (g' := (26, _, _, _, _, _)) rfl rfl ?_
      refine R1 (g' := (27, _, _, _, _, _)) rfl rfl ?_
      refine R_getf rfl rfl (Nat.le_of_ble_eq_true rfl) rfl rfl ?_
      rw [put6o (by decide), e4]
      refine R1 (g' := (31, _, .int (nI 1) :: _, _, _, _)) rfl rfl ?_
      refine R1 (g' := (32, _, _, _, _, _)) rfl rfl ?_
      rw [nI_sub_1]
      refine R_put rfl rfl (Nat.le_of_ble_eq_true rfl) rfl (Nat.le_of_ble_eq_true rfl) ⟨_, rfl, Or.inl rfl, _, rfl, rfl⟩ rfl ?_
      change xRun _ _ (35, _, _, wd (put (put s1 142 6 (nI 0)) 142 3 (nI d)), _, _)
      refine R1 (g' := (36, _, _, _, _, _)) rfl rfl ?_
      refine R_getf rfl rfl (Nat.le_of_ble_eq_true rfl) rfl rfl ?_
      refine R1 (g' := (41, _, .int (nI 73) :: _, _, _, _)) rfl rfl ?_
      refine R1 (g' := (42, _, _, _, _, _)) rfl rfl ?_
      refine R_getf rfl rfl (Nat.le_of_ble_eq_true rfl) rfl rfl ?_
      rw [putv]
      refine R1 (g' := (46, _, _, _, _, _)) rfl rfl ?_
      rw [pk_mul]
      refine R1 (g' := (47, _, _, _, _, _)) rfl rfl ?_
      refine R_getf rfl rfl (Nat.le_of_ble_eq_true rfl) rfl rfl ?_
      refine R1 (g' := (51, _, .int (nI 0) :: _, _, _, _)) rfl rfl ?_
      refine R_call4 (Or.inl ⟨rfl, rfl⟩) rfl rfl ⟨Nat.le_of_ble_eq_true rfl, Nat.le_of_ble_eq_true rfl⟩ (Nat.le_of_ble_eq_true rfl) ⟨rfl, rfl⟩ (hbr) ?_
      refine R1 (g' := (55, _, _, _, _, _)) rfl rfl ?_
      refine R_getf rfl rfl (Nat.le_of_ble_eq_true rfl) rfl rfl ?_
      refine R_iret rfl ?_
      exact ⟨o_i (by rw [setP_ne _ _ (by decide), putv]), rfl⟩
    · rw [e145 41 (by decide) (by decide)]
      exact g2
    · rw [setP_ne _ _ (by decide), putv]
    · rw [ep]
      exact HS_fr g1 (by omega) (fun i a b => e145 i (by omega) (by omega)) g3
    · rw [e145 133 (by decide) (by decide), g6 133 (by decide) (by decide)]
    · rw [e145 141 (by decide) (by decide), g6 141 (by decide) (by decide)]
    · rw [setP_ne _ _ (by decide), putn (by decide), putn (by decide), g6 142 (by decide) (by decide)]
    · rw [e145 146 (by decide) (by decide), g6 146 (by decide) (by decide)]
    · rw [setP_ne _ _ (by decide), putn (by decide)]
      exact put6
