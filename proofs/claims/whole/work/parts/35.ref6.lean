theorem isRight9_loop {s : xs} (hi : pInv (s.1 143)) (r : Bool) : ∀ (d k : Nat), k + d = qn (s.1 143) 7 → xRun M_X9_isRight (fun o1 w1 => o1 = .inl (some (.int (bI (r && qAll (qFit (s.1 143)) (qn (s.1 143) 7))))) ∧ w1 = wd s) (35, [(2, .int (nI k)), (1, .int (bI (r && qAll (qFit (s.1 143)) k))), (0, .ref 142)], [], wd s, 0, 0) := by
  have hi0 := hi
  obtain ⟨⟨i7, i7a, i7b⟩, ⟨i8, i8a⟩, ⟨i0, i0a, i0b⟩, ⟨i1, i1a⟩, iP, iS, i6⟩ := hi
  intro d
  induction d with
  | zero =>
    intro k hk
    have hk : k = qn (s.1 143) 7 := by omega
    refine R1 (g' := (36, _, _, _, _, _)) rfl rfl ?_
    refine R1 (g' := (37, _, _, _, _, _)) rfl rfl ?_
    refine R_getf rfl rfl (Nat.le_of_ble_eq_true rfl) rfl rfl ?_
    refine R1 (g' := (42, _, .int (nI 7) :: _, _, _, _)) rfl rfl ?_
    refine R_iald 7 rfl (Nat.le_of_ble_eq_true rfl) rfl (by decide) (by decide) rfl ?_
    refine R_cgeN 70 (k) (qn (s.1 143) 7) rfl rfl (rfl) (i7) (by omega) (by omega) (fun h43 => ?_) (fun h => by omega)
    refine R1 (g' := (71, _, _, _, _, _)) rfl rfl ?_
    refine R_iret rfl ?_
    exact ⟨o_i (by rw [hk]), rfl⟩
  | succ d ih =>
    intro k hk
    have hA : (r && qAll (qFit (s.1 143)) (k + 1)) = ((r && qAll (qFit (s.1 143)) k) && qFit (s.1 143) k) := by rw [qAll, Bool.and_assoc]
    refine R1 (g' := (36, _, _, _, _, _)) rfl rfl ?_
    refine R1 (g' := (37, _, _, _, _, _)) rfl rfl ?_
    refine R_getf rfl rfl (Nat.le_of_ble_eq_true rfl) rfl rfl ?_
    refine R1 (g' := (42, _, .int (nI 7) :: _, _, _, _)) rfl rfl ?_
    refine R_iald 7 rfl (Nat.le_of_ble_eq_true rfl) rfl (by decide) (by decide) rfl ?_
    refine R_cgeN 70 (k) (qn (s.1 143) 7) rfl rfl (rfl) (i7) (by omega) (by omega) (fun h => by omega) (fun h43 => ?_)
    refine R1 (g' := (47, _, _, _, _, _)) rfl rfl ?_
    refine R_eq 62 rfl rfl (fun h47 => ?_) (fun h47 => ?_)
    · refine R1 (g' := (63, _, .int (nI 0) :: _, _, _, _)) rfl rfl ?_
      refine R1 (g' := (64, _, _, _, _, _)) rfl rfl ?_
      refine R1 (g' := (67, _, _, _, _, _)) rfl rfl ?_
      refine R1 (g' := (35, _, _, _, _, _)) rfl rfl ?_
      refine R_lv [(2, .int (nI (k + 1))), (1, .int (bI (r && qAll (qFit (s.1 143)) (k + 1)))), (0, .ref 142)] rfl (List.forall_mem_cons.mpr ⟨by rw [nI_succ k]; rfl, List.forall_mem_cons.mpr ⟨by first | (rw [hA, bI_e h47, Bool.false_and]; rfl) | (rw [hA, bI_n h47, bI_n h55]; rfl) | (rw [hA, bI_n h47, bI_e h55]; rfl), List.forall_mem_cons.mpr ⟨rfl, fun _ h => absurd h List.not_mem_nil⟩⟩⟩) ⟨rfl, rfl⟩ ?_
      exact ih (k + 1) (by omega)
    · refine R1 (g' := (51, _, _, _, _, _)) rfl rfl ?_
      refine R1 (g' := (52, _, _, _, _, _)) rfl rfl ?_
      refine R_call2 (Or.inr (Or.inl ⟨rfl, rfl⟩)) rfl rfl ⟨Nat.le_of_ble_eq_true rfl, Nat.le_of_ble_eq_true rfl⟩ (Nat.le_of_ble_eq_true rfl) ⟨rfl, rfl⟩ (⟨⟨_, _, _, rfl, (Nat.le_of_ble_eq_true rfl), rfl⟩, e9_fitsStep hi0 (by omega)⟩) ?_
      refine R_eq 62 rfl rfl (fun h55 => ?_) (fun h55 => ?_)
      · refine R1 (g' := (63, _, .int (nI 0) :: _, _, _, _)) rfl rfl ?_
        refine R1 (g' := (64, _, _, _, _, _)) rfl rfl ?_
        refine R1 (g' := (67, _, _, _, _, _)) rfl rfl ?_
        refine R1 (g' := (35, _, _, _, _, _)) rfl rfl ?_
        refine R_lv [(2, .int (nI (k + 1))), (1, .int (bI (r && qAll (qFit (s.1 143)) (k + 1)))), (0, .ref 142)] rfl (List.forall_mem_cons.mpr ⟨by rw [nI_succ k]; rfl, List.forall_mem_cons.mpr ⟨by first | (rw [hA, bI_e h47, Bool.false_and]; rfl) | (rw [hA, bI_n h47, bI_n h55]; rfl) | (rw [hA, bI_n h47, bI_e h55]; rfl), List.forall_mem_cons.mpr ⟨rfl, fun _ h => absurd h List.not_mem_nil⟩⟩⟩) ⟨rfl, rfl⟩ ?_
        exact ih (k + 1) (by omega)
      · refine R1 (g' := (59, _, .int (nI 1) :: _, _, _, _)) rfl rfl ?_
        refine R1 (g' := (63, _, _, _, _, _)) rfl rfl ?_
        refine R1 (g' := (64, _, _, _, _, _)) rfl rfl ?_
        refine R1 (g' := (67, _, _, _, _, _)) rfl rfl ?_
        refine R1 (g' := (35, _, _, _, _, _)) rfl rfl ?_
        refine R_lv [(2, .int (nI (k + 1))), (1, .int (bI (r && qAll (qFit (s.1 143)) (k + 1)))), (0, .ref 142)] rfl (List.forall_mem_cons.mpr ⟨by rw [nI_succ k]; rfl, List.forall_mem_cons.mpr ⟨by first | (rw [hA, bI_e h47, Bool.false_and]; rfl) | (rw [hA, bI_n h47, bI_n h55]; rfl) | (rw [hA, bI_n h47, bI_e h55]; rfl), List.forall_mem_cons.mpr ⟨rfl, fun _ h => absurd h List.not_mem_nil⟩⟩⟩) ⟨rfl, rfl⟩ ?_
        exact ih (k + 1) (by omega)
theorem e9_isRight {s : xs} (hi : pInv (s.1 143)) : Ev_X9_isRight [.ref 142] (wd s) (.inl (some (.int (bI (qRight (s.1 143)))))) (wd s) := by
  have hi0 := hi
  obtain ⟨⟨i7, i7a, i7b⟩, ⟨i8, i8a⟩, ⟨i0, i0a, i0b⟩, ⟨i1, i1a⟩, iP, iS, i6⟩ := hi
  have hR : (decide (0 < qn (s.1 143) 8) && decide (qn (s.1 143) 7 = qn (s.1 143) 8) && qAll (qFit (s.1 143)) (qn (s.1 143) 7)) = qRight (s.1 143) := by
    unfold qRight
    by_cases e : qn (s.1 143) 7 = qn (s.1 143) 8
    · rw [e, Bool.and_assoc]
    · rw [decide_eq_false e, Bool.and_false, Bool.false_and, Bool.false_and, Bool.and_false]
  have hr := isRight9_loop hi0 (decide (0 < qn (s.1 143) 8) && decide (qn (s.1 143) 7 = qn (s.1 143) 8)) (qn (s.1 143) 7) 0 (Nat.zero_add _)
  rw [hR] at hr
  refine ⟨Nat.le_of_ble_eq_true rfl, Nat.le_refl _, Or.inr ⟨rfl, bI_01 _⟩, ?_⟩
  refine R1 (g' := (1, _, _, _, _, _)) rfl rfl ?_
  refine R_getf rfl rfl (Nat.le_of_ble_eq_true rfl) rfl rfl ?_
  refine R1 (g' := (6, _, .int (nI 8) :: _, _, _, _)) rfl rfl ?_
  refine R_iald 8 rfl (Nat.le_of_ble_eq_true rfl) rfl (by decide) (by decide) rfl ?_
  refine R_leN 31 (qn (s.1 143) 8) rfl rfl (i8) (by omega) (fun h7 => ?_) (fun h7 => ?_)
  · refine R1 (g' := (32, _, .int (nI 0) :: _, _, _, _)) rfl rfl ?_
    refine R1 (g' := (33, _, _, _, _, _)) rfl rfl ?_
    refine R1 (g' := (34, _, .int (nI 0) :: _, _, _, _)) rfl rfl ?_
    refine R1 (g' := (35, _, _, _, _, _)) rfl rfl ?_
    exact R_lv [(2, .int (nI 0)), (1, .int (bI (decide (0 < qn (s.1 143) 8) && decide (qn (s.1 143) 7 = qn (s.1 143) 8) && qAll (qFit (s.1 143)) 0))), (0, .ref 142)] rfl (List.forall_mem_cons.mpr ⟨rfl, List.forall_mem_cons.mpr ⟨by first | (rw [show (decide (0 < qn (s.1 143) 8) && decide (qn (s.1 143) 7 = qn (s.1 143) 8) && qAll (qFit (s.1 143)) 0) = true from by simp only [qAll, Bool.and_true, Bool.and_eq_true, decide_eq_true_eq]; omega]; rfl) | (rw [show (decide (0 < qn (s.1 143) 8) && decide (qn (s.1 143) 7 = qn (s.1 143) 8) && qAll (qFit (s.1 143)) 0) = false from by simp only [qAll, Bool.and_true, Bool.and_eq_false_iff, decide_eq_false_iff_not]; omega]; rfl), List.forall_mem_cons.mpr ⟨rfl, fun _ h => absurd h List.not_mem_nil⟩⟩⟩) ⟨rfl, rfl⟩ hr
  · refine R1 (g' := (11, _, _, _, _, _)) rfl rfl ?_
    refine R_getf rfl rfl (Nat.le_of_ble_eq_true rfl) rfl rfl ?_
    refine R1 (g' := (16, _, .int (nI 7) :: _, _, _, _)) rfl rfl ?_
    refine R_iald 7 rfl (Nat.le_of_ble_eq_true rfl) rfl (by decide) (by decide) rfl ?_
    refine R1 (g' := (18, _, _, _, _, _)) rfl rfl ?_
    refine R_getf rfl rfl (Nat.le_of_ble_eq_true rfl) rfl rfl ?_
    refine R1 (g' := (23, _, .int (nI 8) :: _, _, _, _)) rfl rfl ?_
    refine R_iald 8 rfl (Nat.le_of_ble_eq_true rfl) rfl (by decide) (by decide) rfl ?_
    refine R_cneN 31 (qn (s.1 143) 7) (qn (s.1 143) 8) rfl rfl (i7) (i8) (by omega) (by omega) (fun h24 => ?_) (fun h24 => ?_)
    · refine R1 (g' := (32, _, .int (nI 0) :: _, _, _, _)) rfl rfl ?_
      refine R1 (g' := (33, _, _, _, _, _)) rfl rfl ?_
      refine R1 (g' := (34, _, .int (nI 0) :: _, _, _, _)) rfl rfl ?_
      refine R1 (g' := (35, _, _, _, _, _)) rfl rfl ?_
      exact R_lv [(2, .int (nI 0)), (1, .int (bI (decide (0 < qn (s.1 143) 8) && decide (qn (s.1 143) 7 = qn (s.1 143) 8) && qAll (qFit (s.1 143)) 0))), (0, .ref 142)] rfl (List.forall_mem_cons.mpr ⟨rfl, List.forall_mem_cons.mpr ⟨by first | (rw [show (decide (0 < qn (s.1 143) 8) && decide (qn (s.1 143) 7 = qn (s.1 143) 8) && qAll (qFit (s.1 143)) 0) = true from by simp only [qAll, Bool.and_true, Bool.and_eq_true, decide_eq_true_eq]; omega]; rfl) | (rw [show (decide (0 < qn (s.1 143) 8) && decide (qn (s.1 143) 7 = qn (s.1 143) 8) && qAll (qFit (s.1 143)) 0) = false from by simp only [qAll, Bool.and_true, Bool.and_eq_false_iff, decide_eq_false_iff_not]; omega]; rfl), List.forall_mem_cons.mpr ⟨rfl, fun _ h => absurd h List.not_mem_nil⟩⟩⟩) ⟨rfl, rfl⟩ hr
    · refine R1 (g' := (28, _, .int (nI 1) :: _, _, _, _)) rfl rfl ?_
      refine R1 (g' := (32, _, _, _, _, _)) rfl rfl ?_
      refine R1 (g' := (33, _, _, _, _, _)) rfl rfl ?_
      refine R1 (g' := (34, _, .int (nI 0) :: _, _, _, _)) rfl rfl ?_
      refine R1 (g' := (35, _, _, _, _, _)) rfl rfl ?_
      exact R_lv [(2, .int (nI 0)), (1, .int (bI (decide (0 < qn (s.1 143) 8) && decide (qn (s.1 143) 7 = qn (s.1 143) 8) && qAll (qFit (s.1 143)) 0))), (0, .ref 142)] rfl (List.forall_mem_cons.mpr ⟨rfl, List.forall_mem_cons.mpr ⟨by first | (rw [show (decide (0 < qn (s.1 143) 8) && decide (qn (s.1 143) 7 = qn (s.1 143) 8) && qAll (qFit (s.1 143)) 0) = true from by simp only [qAll, Bool.and_true, Bool.and_eq_true, decide_eq_true_eq]; omega]; rfl) | (rw [show (decide (0 < qn (s.1 143) 8) && decide (qn (s.1 143) 7 = qn (s.1 143) 8) && qAll (qFit (s.1 143)) 0) = false from by simp only [qAll, Bool.and_true, Bool.and_eq_false_iff, decide_eq_false_iff_not]; omega]; rfl), List.forall_mem_cons.mpr ⟨rfl, fun _ h => absurd h List.not_mem_nil⟩⟩⟩) ⟨rfl, rfl⟩ hr
theorem e9_valueOf {s : xs} {w : Nat} (hi : pInv (s.1 143)) (hw : w < 12) : Ev_X9_valueOf [.ref 142, .int (nI w)] (wd s) (.inl (some (.int (qOf (s.1 143) w)))) (wd s) := by
  have hi0 := hi
  obtain ⟨⟨i7, i7a, i7b⟩, ⟨i8, i8a⟩, ⟨i0, i0a, i0b⟩, ⟨i1, i1a⟩, iP, iS, i6⟩ := hi
  refine ⟨Nat.le_of_ble_eq_true rfl, Nat.le_refl _, Or.inl rfl, ?_⟩
  rcases (show w = 0 ∨ w = 1 ∨ w = 2 ∨ w = 3 ∨ w = 4 ∨ w = 5 ∨ w = 6 ∨ w = 7 ∨ w = 8 ∨ w = 9 ∨ w = 10 ∨ w = 11 by omega) with rfl | rfl | rfl | rfl | rfl | rfl | rfl | rfl | rfl | rfl | rfl | rfl
  · refine R1 (g' := (1, _, _, _, _, _)) rfl rfl ?_
    refine R_tsw 63 64 rfl (by decide) (by decide) rfl rfl ?_
    refine R1 (g' := (65, _, _, _, _, _)) rfl rfl ?_
    refine R_getf rfl rfl (Nat.le_of_ble_eq_true rfl) rfl rfl ?_
    refine R1 (g' := (70, _, .int (nI 7) :: _, _, _, _)) rfl rfl ?_
    refine R_iald 7 rfl (Nat.le_of_ble_eq_true rfl) rfl (by decide) (by decide) rfl ?_
    refine R_iret rfl ?_
    exact ⟨rfl, rfl⟩
  · refine R1 (g' := (1, _, _, _, _, _)) rfl rfl ?_
    refine R_tsw 119 120 rfl (by decide) (by decide) rfl rfl ?_
    refine R1 (g' := (121, _, _, _, _, _)) rfl rfl ?_
    refine R_getf rfl rfl (Nat.le_of_ble_eq_true rfl) rfl rfl ?_
    refine R1 (g' := (125, _, _, _, _, _)) rfl rfl ?_
    refine R1 (g' := (126, _, .int (nI 1) :: _, _, _, _)) rfl rfl ?_
    refine R1 (g' := (127, _, _, _, _, _)) rfl rfl ?_
    refine R_iald 0 rfl (Nat.le_of_ble_eq_true rfl) rfl (by decide) (by decide) (by decide) ?_
    refine R_iret rfl ?_
    exact ⟨rfl, rfl⟩
  · refine R1 (g' := (1, _, _, _, _, _)) rfl rfl ?_
    refine R_tsw 119 120 rfl (by decide) (by decide) rfl rfl ?_
    refine R1 (g' := (121, _, _, _, _, _)) rfl rfl ?_
    refine R_getf rfl rfl (Nat.le_of_ble_eq_true rfl) rfl rfl ?_
    refine R1 (g' := (125, _, _, _, _, _)) rfl rfl ?_
    refine R1 (g' := (126, _, .int (nI 1) :: _, _, _, _)) rfl rfl ?_
    refine R1 (g' := (127, _, _, _, _, _)) rfl rfl ?_
    refine R_iald 1 rfl (Nat.le_of_ble_eq_true rfl) rfl (by decide) (by decide) (by decide) ?_
    refine R_iret rfl ?_
    exact ⟨rfl, rfl⟩
  · refine R1 (g' := (1, _, _, _, _, _)) rfl rfl ?_
    refine R_tsw 119 120 rfl (by decide) (by decide) rfl rfl ?_
    refine R1 (g' := (121, _, _, _, _, _)) rfl rfl ?_
    refine R_getf rfl rfl (Nat.le_of_ble_eq_true rfl) rfl rfl ?_
    refine R1 (g' := (125, _, _, _, _, _)) rfl rfl ?_
    refine R1 (g' := (126, _, .int (nI 1) :: _, _, _, _)) rfl rfl ?_
    refine R1 (g' := (127, _, _, _, _, _)) rfl rfl ?_
    refine R_iald 2 rfl (Nat.le_of_ble_eq_true rfl) rfl (by decide) (by decide) (by decide) ?_
    refine R_iret rfl ?_
    exact ⟨rfl, rfl⟩
  · refine R1 (g' := (1, _, _, _, _, _)) rfl rfl ?_
    refine R_tsw 119 120 rfl (by decide) (by decide) rfl rfl ?_
    refine R1 (g' := (121, _, _, _, _, _)) rfl rfl ?_
    refine R_getf rfl rfl (Nat.le_of_ble_eq_true rfl) rfl rfl ?_
    refine R1 (g' := (125, _, _, _, _, _)) rfl rfl ?_
    refine R1 (g' := (126, _, .int (nI 1) :: _, _, _, _)) rfl rfl ?_
    refine R1 (g' := (127, _, _, _, _, _)) rfl rfl ?_
    refine R_iald 3 rfl (Nat.le_of_ble_eq_true rfl) rfl (by decide) (by decide) (by decide) ?_
    refine R_iret rfl ?_
    exact ⟨rfl, rfl⟩
  · refine R1 (g' := (1, _, _, _, _, _)) rfl rfl ?_
    refine R_tsw 71 72 rfl (by decide) (by decide) rfl rfl ?_
    refine R1 (g' := (73, _, _, _, _, _)) rfl rfl ?_
    refine R_call1 (Or.inr (Or.inl ⟨rfl, rfl⟩)) rfl rfl ⟨Nat.le_of_ble_eq_true rfl, Nat.le_of_ble_eq_true rfl⟩ (Nat.le_of_ble_eq_true rfl) ⟨rfl, rfl⟩ (⟨⟨_, _, _, rfl, (Nat.le_of_ble_eq_true rfl), rfl⟩, e9_volumes i7 i7b⟩) ?_
    refine R_iret rfl ?_
    exact ⟨rfl, rfl⟩
  · refine R1 (g' := (1, _, _, _, _, _)) rfl rfl ?_
    refine R_tsw 76 77 rfl (by decide) (by decide) rfl rfl ?_
    refine R1 (g' := (78, _, _, _, _, _)) rfl rfl ?_
    refine R_getf rfl rfl (Nat.le_of_ble_eq_true rfl) rfl rfl ?_
    refine R1 (g' := (82, _, .int (nI 4) :: _, _, _, _)) rfl rfl ?_
    refine R1 (g' := (83, _, _, _, _, _)) rfl rfl ?_
    refine R1 (g' := (84, _, _, _, _, _)) rfl rfl ?_
    refine R1 (g' := (86, _, .int (nI 6) :: _, _, _, _)) rfl rfl ?_
    refine R1 (g' := (87, _, _, _, _, _)) rfl rfl ?_
    refine R_iald 4 rfl (Nat.le_of_ble_eq_true rfl) rfl (by decide) (by decide) (by decide) ?_
    refine R_iret rfl ?_
    exact ⟨rfl, rfl⟩
  · refine R1 (g' := (1, _, _, _, _, _)) rfl rfl ?_
    refine R_tsw 76 77 rfl (by decide) (by decide) rfl rfl ?_
    refine R1 (g' := (78, _, _, _, _, _)) rfl rfl ?_
    refine R_getf rfl rfl (Nat.le_of_ble_eq_true rfl) rfl rfl ?_
    refine R1 (g' := (82, _, .int (nI 4) :: _, _, _, _)) rfl rfl ?_
    refine R1 (g' := (83, _, _, _, _, _)) rfl rfl ?_
    refine R1 (g' := (84, _, _, _, _, _)) rfl rfl ?_
    refine R1 (g' := (86, _, .int (nI 6) :: _, _, _, _)) rfl rfl ?_
    refine R1 (g' := (87, _, _, _, _, _)) rfl rfl ?_
    refine R_iald 5 rfl (Nat.le_of_ble_eq_true rfl) rfl (by decide) (by decide) (by decide) ?_
    refine R_iret rfl ?_
    exact ⟨rfl, rfl⟩
  · refine R1 (g' := (1, _, _, _, _, _)) rfl rfl ?_
    refine R_tsw 88 89 rfl (by decide) (by decide) rfl rfl ?_
    refine R1 (g' := (90, _, _, _, _, _)) rfl rfl ?_
    refine R_call1 (Or.inr (Or.inl ⟨rfl, rfl⟩)) rfl rfl ⟨Nat.le_of_ble_eq_true rfl, Nat.le_of_ble_eq_true rfl⟩ (Nat.le_of_ble_eq_true rfl) ⟨rfl, rfl⟩ (⟨⟨_, _, _, rfl, (Nat.le_of_ble_eq_true rfl), rfl⟩, e9_lengths i7 i7b (fun k hk => iP k hk)⟩) ?_
    refine R_iret rfl ?_
    exact ⟨rfl, rfl⟩
  · refine R1 (g' := (1, _, _, _, _, _)) rfl rfl ?_
    refine R_tsw 93 94 rfl (by decide) (by decide) rfl rfl ?_
    refine R1 (g' := (95, _, _, _, _, _)) rfl rfl ?_
    refine R_getf rfl rfl (Nat.le_of_ble_eq_true rfl) rfl rfl ?_
    refine R1 (g' := (100, _, .int (nI 8) :: _, _, _, _)) rfl rfl ?_
    refine R_iald 8 rfl (Nat.le_of_ble_eq_true rfl) rfl (by decide) (by decide) rfl ?_
    refine R_iret rfl ?_
    exact ⟨rfl, rfl⟩
  · refine R1 (g' := (1, _, _, _, _, _)) rfl rfl ?_
    refine R_tsw 101 102 rfl (by decide) (by decide) rfl rfl ?_
    refine R1 (g' := (103, _, _, _, _, _)) rfl rfl ?_
    refine R_call1 (Or.inr (Or.inl ⟨rfl, rfl⟩)) rfl rfl ⟨Nat.le_of_ble_eq_true rfl, Nat.le_of_ble_eq_true rfl⟩ (Nat.le_of_ble_eq_true rfl) ⟨rfl, rfl⟩ (⟨⟨_, _, _, rfl, (Nat.le_of_ble_eq_true rfl), rfl⟩, e9_isRight hi0⟩) ?_
    refine R_eq 113 rfl rfl (fun h106 => ?_) (fun h106 => ?_)
    · refine R1 (g' := (114, _, .int (nI 0) :: _, _, _, _)) rfl rfl ?_
      refine R_iret rfl ?_
      exact ⟨o_i (by first | exact (bI_t (bI_n h106)).symm | exact (bI_f (bI_e h106)).symm), rfl⟩
    · refine R1 (g' := (110, _, .int (nI 1) :: _, _, _, _)) rfl rfl ?_
      refine R1 (g' := (114, _, _, _, _, _)) rfl rfl ?_
      refine R_iret rfl ?_
      exact ⟨o_i (by first | exact (bI_t (bI_n h106)).symm | exact (bI_f (bI_e h106)).symm), rfl⟩
  · refine R1 (g' := (1, _, _, _, _, _)) rfl rfl ?_
    refine R_tsw 114 115 rfl (by decide) (by decide) rfl rfl ?_
    refine R1 (g' := (116, _, _, _, _, _)) rfl rfl ?_
    refine R_call1 (Or.inr (Or.inl ⟨rfl, rfl⟩)) rfl rfl ⟨Nat.le_of_ble_eq_true rfl, Nat.le_of_ble_eq_true rfl⟩ (Nat.le_of_ble_eq_true rfl) ⟨rfl, rfl⟩ (⟨⟨_, _, _, rfl, (Nat.le_of_ble_eq_true rfl), rfl⟩, e9_blowsLeft i0 (by omega)⟩) ?_
    refine R_iret rfl ?_
    exact ⟨rfl, rfl⟩
def rfu (hp wi : Bool) : Int32 := bif hp then (bif wi then 0 else 2) else 1
theorem e9_refusal {s : xs} {x w h t : Int32} {n : Nat} (hn : s.1 143 7 = nI n) (h1 : 1 ≤ n) (h2 : n < 2 ^ 31) : Ev_X9_refusal [.ref 142, .int x, .int w, .int h, .int t] (wd s) (.inl (some (.int (rfu (xhas x n) (okW w h t))))) (wd s) := by
  refine ⟨Nat.le_of_ble_eq_true rfl, Nat.le_refl _, Or.inl rfl, ?_⟩
  refine R1 (g' := (1, _, _, _, _, _)) rfl rfl ?_
  refine R1 (g' := (2, _, _, _, _, _)) rfl rfl ?_
  refine R_call2 (Or.inr (Or.inl ⟨rfl, rfl⟩)) rfl rfl ⟨Nat.le_of_ble_eq_true rfl, Nat.le_of_ble_eq_true rfl⟩ (Nat.le_of_ble_eq_true rfl) ⟨rfl, rfl⟩ (⟨⟨_, _, _, rfl, (Nat.le_of_ble_eq_true rfl), rfl⟩, e9_isPart hn h1 h2⟩) ?_
  refine R_ne 12 rfl rfl (fun h5 => ?_) (fun h5 => ?_)
  · refine R1 (g' := (13, _, _, _, _, _)) rfl rfl ?_
    refine R1 (g' := (14, _, _, _, _, _)) rfl rfl ?_
    refine R1 (g' := (16, _, _, _, _, _)) rfl rfl ?_
    refine R_call3 (Or.inl ⟨rfl, rfl⟩) rfl rfl ⟨Nat.le_of_ble_eq_true rfl, Nat.le_of_ble_eq_true rfl⟩ (Nat.le_of_ble_eq_true rfl) ⟨rfl, rfl⟩ (e9_isWish) ?_
    refine R_eq 26 rfl rfl (fun h19 => ?_) (fun h19 => ?_)
    · refine R1 (g' := (27, _, .int (nI 2) :: _, _, _, _)) rfl rfl ?_
      refine R_iret rfl ?_
      first
        | (have e := bI_e h5; exact ⟨o_i (by rw [e]; rfl), rfl⟩)
        | (have e := bI_n h5; have e2 := bI_n h19; exact ⟨o_i (by rw [e, e2]; rfl), rfl⟩)
        | (have e := bI_n h5; have e2 := bI_e h19; exact ⟨o_i (by rw [e, e2]; rfl), rfl⟩)
    · refine R1 (g' := (23, _, .int (nI 0) :: _, _, _, _)) rfl rfl ?_
      refine R1 (g' := (27, _, _, _, _, _)) rfl rfl ?_
      refine R_iret rfl ?_
      first
        | (have e := bI_e h5; exact ⟨o_i (by rw [e]; rfl), rfl⟩)
        | (have e := bI_n h5; have e2 := bI_n h19; exact ⟨o_i (by rw [e, e2]; rfl), rfl⟩)
        | (have e := bI_n h5; have e2 := bI_e h19; exact ⟨o_i (by rw [e, e2]; rfl), rfl⟩)
  · refine R1 (g' := (9, _, .int (nI 1) :: _, _, _, _)) rfl rfl ?_
    refine R1 (g' := (27, _, _, _, _, _)) rfl rfl ?_
    refine R_iret rfl ?_
    first
      | (have e := bI_e h5; exact ⟨o_i (by rw [e]; rfl), rfl⟩)
      | (have e := bI_n h5; have e2 := bI_n h19; exact ⟨o_i (by rw [e, e2]; rfl), rfl⟩)
      | (have e := bI_n h5; have e2 := bI_e h19; exact ⟨o_i (by rw [e, e2]; rfl), rfl⟩)
