theorem pNum_lt {g : Nat → Int32} {D M p v q : Nat} (h : pNum g D M p = .inr (v, q)) : q ≤ p + D := by
  unfold pNum at h
  have hl := nd_le g p D
  cases e1 : (Nat.beq (nd g p D) 0 || isd (g (p + nd g p D))) with
  | true => rw [e1, cond_true] at h; cases h
  | false =>
    rw [e1, cond_false] at h
    cases e2 : (decide (1 ≤ nv g p (nd g p D)) && decide (nv g p (nd g p D) ≤ M)) with
    | true =>
      rw [e2, cond_true] at h
      cases h
      omega
    | false => rw [e2, cond_false] at h; cases h
theorem cutT_lt {g : Nat → Int32} {r v q : Nat} (h : cutT g r = .inr (v, q)) : q ≤ r + 5 := by
  unfold cutT at h
  by_cases e : g r = nI 44
  · rw [if_pos e] at h
    have := pNum_lt h
    omega
  · rw [if_neg e] at h
    cases h
theorem blT_lt {g : Nat → Int32} {r v q : Nat} (h : blT g r = .inr (v, q)) : q ≤ r + 5 := by
  unfold blT at h
  by_cases e : g r = nI 120
  · rw [if_pos e] at h
    have := pNum_lt h
    omega
  · rw [if_neg e] at h
    cases h
    omega
theorem e9_readOrder {s : xs} {g : Nat → Int32} {L p : Nat} (h : rT s g L p) (hp : p + 40 < 1000) : ∃ o1 w1, roPo s (pOrd g p) o1 w1 ∧ Ev_X9_readOrder [.ref 142] (wd s) o1 w1 := by
  have h6 := h.2.1
  have cA : rX s (put s 142 14 (g p)) := rX_put rX_rf (by decide) (by decide)
  have pA : ((put s 142 14 (g p))).1 142 13 = nI p := (putn (by decide)).trans h6
  have oA : ((put s 142 14 (g p))).1 142 14 = g p := putv
  have cB : rX s (put (put s 142 14 (g p)) 142 13 (nI (p + 1))) := rX_put cA (by decide) (by decide)
  have hB : rT (put (put s 142 14 (g p)) 142 13 (nI (p + 1))) g L (p + 1) := rT_X h cB putv (by omega)
  have oB : ((put (put s 142 14 (g p)) 142 13 (nI (p + 1)))).1 142 14 = g p := (putn (by decide)).trans oA
  refine xEv_ex (Nat.le_of_ble_eq_true rfl) (fun o1 w1 k => roPo_ro k) ?_
  by_cases x1 : g p = nI 104
  · have xv := x1
    have hr : pOrd g p = if g (p + 1) = nI 59 then .inr (3, 0, 0, p + 1 + 1) else .inl (p + 1) := by unfold pOrd pRd; rw [if_pos x1]
    rw [hr]
    refine R1 (g' := (1, _, _, _, _, _)) rfl rfl ?_
    refine R1 (g' := (2, _, _, _, _, _)) rfl rfl ?_
    refine R_call1 (Or.inr (Or.inl ⟨rfl, rfl⟩)) rfl rfl ⟨Nat.le_of_ble_eq_true rfl, Nat.le_of_ble_eq_true rfl⟩ (Nat.le_of_ble_eq_true rfl) ⟨rfl, rfl⟩ (⟨⟨_, _, _, rfl, (Nat.le_of_ble_eq_true rfl), rfl⟩, e9_here h⟩) ?_
    refine R_put rfl rfl (Nat.le_of_ble_eq_true rfl) rfl (Nat.le_of_ble_eq_true rfl) ⟨_, rfl, Or.inl rfl, _, rfl, rfl⟩ rfl ?_
    change xRun _ _ (8, _, _, wd (put s 142 14 (g p)), _, _)
    refine R1 (g' := (9, _, _, _, _, _)) rfl rfl ?_
    refine R_getf rfl rfl (Nat.le_of_ble_eq_true rfl) rfl rfl ?_
    refine R1 (g' := (14, _, .int (nI 104) :: _, _, _, _)) rfl rfl ?_
    refine R_ceqN 53 (104) (104) rfl rfl (oA.trans xv) (rfl) (by omega) (by omega) (fun h14 => ?_) (fun h => by omega)
    refine R1 (g' := (54, _, .int (nI 1) :: _, _, _, _)) rfl rfl ?_
    refine R1 (g' := (58, _, _, _, _, _)) rfl rfl ?_
    refine R1 (g' := (59, _, _, _, _, _)) rfl rfl ?_
    skip
    refine R1 (g' := (60, _, _, _, _, _)) rfl rfl ?_
    refine R1 (g' := (61, _, _, _, _, _)) rfl rfl ?_
    refine R_getf rfl rfl (Nat.le_of_ble_eq_true rfl) rfl rfl ?_
    skip
    refine R1 (g' := (65, _, _, _, _, _)) rfl rfl ?_
    skip
    refine R_eq 72 rfl rfl (fun h => by exact absurd h (by decide)) (fun h65 => ?_)
    refine R1 (g' := (69, _, .int (nI 1) :: _, _, _, _)) rfl rfl ?_
    refine R1 (g' := (73, _, _, _, _, _)) rfl rfl ?_
    rw [pA]
    refine R1 (g' := (74, _, _, _, _, _)) rfl rfl ?_
    rw [nI_add]
    refine R_put rfl rfl (Nat.le_of_ble_eq_true rfl) rfl (Nat.le_of_ble_eq_true rfl) ⟨_, rfl, Or.inl rfl, _, rfl, rfl⟩ rfl ?_
    change xRun _ _ (77, _, _, wd (put (put s 142 14 (g p)) 142 13 (nI (p + 1))), _, _)
    refine R1 (g' := (78, _, _, _, _, _)) rfl rfl ?_
    refine R_eq 129 rfl rfl (fun h => by exact absurd h (by decide)) (fun h78 => ?_)
    refine R1 (g' := (82, _, _, _, _, _)) rfl rfl ?_
    refine R_getf rfl rfl (Nat.le_of_ble_eq_true rfl) rfl rfl ?_
    refine R1 (g' := (87, _, .int (nI 104) :: _, _, _, _)) rfl rfl ?_
    refine R_ceqN 129 (104) (104) rfl rfl (oB.trans xv) (rfl) (by omega) (by omega) (fun h87 => ?_) (fun h => by omega)
    exact R_lv [(1, .int (nI 1)), (0, .ref 142)] rfl (List.forall_mem_cons.mpr ⟨rfl, List.forall_mem_cons.mpr ⟨rfl, fun _ h => absurd h List.not_mem_nil⟩⟩) ⟨rfl, rfl⟩ (ro_T cB hB (oB.trans (x1.trans (show nI 104 = nI (och 3) from rfl))) (fun z => absurd rfl z) (by omega))
  · by_cases x2 : g p = nI 99
    · have xv := x2
      have hrd : pRd g p = pCu g p := by unfold pRd; rw [if_neg x1, if_pos x2]
      cases hP : isP (g (p + 1)) with
      | false =>
        have hr : pOrd g p = .inl (p + 1) := by unfold pOrd; rw [hrd, pCu_eq, hP, cond_false]
        rw [hr]
        refine R1 (g' := (1, _, _, _, _, _)) rfl rfl ?_
        refine R1 (g' := (2, _, _, _, _, _)) rfl rfl ?_
        refine R_call1 (Or.inr (Or.inl ⟨rfl, rfl⟩)) rfl rfl ⟨Nat.le_of_ble_eq_true rfl, Nat.le_of_ble_eq_true rfl⟩ (Nat.le_of_ble_eq_true rfl) ⟨rfl, rfl⟩ (⟨⟨_, _, _, rfl, (Nat.le_of_ble_eq_true rfl), rfl⟩, e9_here h⟩) ?_
        refine R_put rfl rfl (Nat.le_of_ble_eq_true rfl) rfl (Nat.le_of_ble_eq_true rfl) ⟨_, rfl, Or.inl rfl, _, rfl, rfl⟩ rfl ?_
        change xRun _ _ (8, _, _, wd (put s 142 14 (g p)), _, _)
        refine R1 (g' := (9, _, _, _, _, _)) rfl rfl ?_
        refine R_getf rfl rfl (Nat.le_of_ble_eq_true rfl) rfl rfl ?_
        refine R1 (g' := (14, _, .int (nI 104) :: _, _, _, _)) rfl rfl ?_
        refine R_ceqN 53 (99) (104) rfl rfl (oA.trans xv) (rfl) (by omega) (by omega) (fun h => by omega) (fun h14 => ?_)
        refine R1 (g' := (18, _, _, _, _, _)) rfl rfl ?_
        refine R_getf rfl rfl (Nat.le_of_ble_eq_true rfl) rfl rfl ?_
        refine R1 (g' := (23, _, .int (nI 99) :: _, _, _, _)) rfl rfl ?_
        refine R_ceqN 53 (99) (99) rfl rfl (oA.trans xv) (rfl) (by omega) (by omega) (fun h23 => ?_) (fun h => by omega)
        refine R1 (g' := (54, _, .int (nI 1) :: _, _, _, _)) rfl rfl ?_
        refine R1 (g' := (58, _, _, _, _, _)) rfl rfl ?_
        refine R1 (g' := (59, _, _, _, _, _)) rfl rfl ?_
        skip
        refine R1 (g' := (60, _, _, _, _, _)) rfl rfl ?_
        refine R1 (g' := (61, _, _, _, _, _)) rfl rfl ?_
        refine R_getf rfl rfl (Nat.le_of_ble_eq_true rfl) rfl rfl ?_
        skip
        refine R1 (g' := (65, _, _, _, _, _)) rfl rfl ?_
        skip
        refine R_eq 72 rfl rfl (fun h => by exact absurd h (by decide)) (fun h65 => ?_)
        refine R1 (g' := (69, _, .int (nI 1) :: _, _, _, _)) rfl rfl ?_
        refine R1 (g' := (73, _, _, _, _, _)) rfl rfl ?_
        rw [pA]
        refine R1 (g' := (74, _, _, _, _, _)) rfl rfl ?_
        rw [nI_add]
        refine R_put rfl rfl (Nat.le_of_ble_eq_true rfl) rfl (Nat.le_of_ble_eq_true rfl) ⟨_, rfl, Or.inl rfl, _, rfl, rfl⟩ rfl ?_
        change xRun _ _ (77, _, _, wd (put (put s 142 14 (g p)) 142 13 (nI (p + 1))), _, _)
        refine R1 (g' := (78, _, _, _, _, _)) rfl rfl ?_
        refine R_eq 129 rfl rfl (fun h => by exact absurd h (by decide)) (fun h78 => ?_)
        refine R1 (g' := (82, _, _, _, _, _)) rfl rfl ?_
        refine R_getf rfl rfl (Nat.le_of_ble_eq_true rfl) rfl rfl ?_
        refine R1 (g' := (87, _, .int (nI 104) :: _, _, _, _)) rfl rfl ?_
        refine R_ceqN 129 (99) (104) rfl rfl (oB.trans xv) (rfl) (by omega) (by omega) (fun h => by omega) (fun h87 => ?_)
        refine R1 (g' := (91, _, _, _, _, _)) rfl rfl ?_
        refine R_call1 (Or.inr (Or.inl ⟨rfl, rfl⟩)) rfl rfl ⟨Nat.le_of_ble_eq_true rfl, Nat.le_of_ble_eq_true rfl⟩ (Nat.le_of_ble_eq_true rfl) ⟨rfl, rfl⟩ (⟨⟨_, _, _, rfl, (Nat.le_of_ble_eq_true rfl), rfl⟩, e9_readPartF hB hP⟩) ?_
        refine R_eq 127 rfl rfl (fun h94 => ?_) (fun h => by exact absurd rfl h)
        refine R1 (g' := (128, _, .int (nI 0) :: _, _, _, _)) rfl rfl ?_
        refine R1 (g' := (129, _, _, _, _, _)) rfl rfl ?_
        exact R_lv [(1, .int (nI 0)), (0, .ref 142)] rfl (List.forall_mem_cons.mpr ⟨rfl, List.forall_mem_cons.mpr ⟨rfl, fun _ h => absurd h List.not_mem_nil⟩⟩) ⟨rfl, rfl⟩ (ro_F cB putv)
      | true =>
        obtain ⟨k', e1, e2, e3⟩ := isP_of hP
        obtain ⟨k, rfl⟩ : ∃ k, k' = 48 + k := ⟨k' - 48, by omega⟩
        have hq : qn g (p + 1) - 48 = k := by rw [nq e1 (by omega)]; omega
        have c4 : rX s (put (put (put (put s 142 14 (g p)) 142 13 (nI (p + 1))) 142 15 (nI k)) 142 13 (nI (p + 2))) := rX_put (rX_put cB (by decide) (by decide)) (by decide) (by decide)
        have h4 : rT (put (put (put (put s 142 14 (g p)) 142 13 (nI (p + 1))) 142 15 (nI k)) 142 13 (nI (p + 2))) g L (p + 2) := rT_X h c4 putv (by omega)
        have o4 : ((put (put (put (put s 142 14 (g p)) 142 13 (nI (p + 1))) 142 15 (nI k)) 142 13 (nI (p + 2)))).1 142 14 = g p := (putn (by decide)).trans ((putn (by decide)).trans oB)
        have d4 : ((put (put (put (put s 142 14 (g p)) 142 13 (nI (p + 1))) 142 15 (nI k)) 142 13 (nI (p + 2)))).1 142 15 = nI k := (putn (by decide)).trans putv
        obtain ⟨o1, w1, ⟨s', rfl, c5, f14, f15, hk⟩, hev⟩ := e9_readCut h4 (by omega)
        have c6 := rX_tr c4 c5
        cases hc : cutT g (p + 2) with
        | inl e =>
          rw [hc] at hk
          obtain ⟨rfl, z13⟩ := hk
          have hr : pOrd g p = .inl e := by unfold pOrd; rw [hrd, pCu_eq, hP, cond_true, hc]
          rw [hr]
          refine R1 (g' := (1, _, _, _, _, _)) rfl rfl ?_
          refine R1 (g' := (2, _, _, _, _, _)) rfl rfl ?_
          refine R_call1 (Or.inr (Or.inl ⟨rfl, rfl⟩)) rfl rfl ⟨Nat.le_of_ble_eq_true rfl, Nat.le_of_ble_eq_true rfl⟩ (Nat.le_of_ble_eq_true rfl) ⟨rfl, rfl⟩ (⟨⟨_, _, _, rfl, (Nat.le_of_ble_eq_true rfl), rfl⟩, e9_here h⟩) ?_
          refine R_put rfl rfl (Nat.le_of_ble_eq_true rfl) rfl (Nat.le_of_ble_eq_true rfl) ⟨_, rfl, Or.inl rfl, _, rfl, rfl⟩ rfl ?_
          change xRun _ _ (8, _, _, wd (put s 142 14 (g p)), _, _)
          refine R1 (g' := (9, _, _, _, _, _)) rfl rfl ?_
          refine R_getf rfl rfl (Nat.le_of_ble_eq_true rfl) rfl rfl ?_
          refine R1 (g' := (14, _, .int (nI 104) :: _, _, _, _)) rfl rfl ?_
          refine R_ceqN 53 (99) (104) rfl rfl (oA.trans xv) (rfl) (by omega) (by omega) (fun h => by omega) (fun h14 => ?_)
          refine R1 (g' := (18, _, _, _, _, _)) rfl rfl ?_
          refine R_getf rfl rfl (Nat.le_of_ble_eq_true rfl) rfl rfl ?_
          refine R1 (g' := (23, _, .int (nI 99) :: _, _, _, _)) rfl rfl ?_
          refine R_ceqN 53 (99) (99) rfl rfl (oA.trans xv) (rfl) (by omega) (by omega) (fun h23 => ?_) (fun h => by omega)
          refine R1 (g' := (54, _, .int (nI 1) :: _, _, _, _)) rfl rfl ?_
          refine R1 (g' := (58, _, _, _, _, _)) rfl rfl ?_
          refine R1 (g' := (59, _, _, _, _, _)) rfl rfl ?_
          skip
          refine R1 (g' := (60, _, _, _, _, _)) rfl rfl ?_
          refine R1 (g' := (61, _, _, _, _, _)) rfl rfl ?_
          refine R_getf rfl rfl (Nat.le_of_ble_eq_true rfl) rfl rfl ?_
          skip
          refine R1 (g' := (65, _, _, _, _, _)) rfl rfl ?_
          skip
          refine R_eq 72 rfl rfl (fun h => by exact absurd h (by decide)) (fun h65 => ?_)
          refine R1 (g' := (69, _, .int (nI 1) :: _, _, _, _)) rfl rfl ?_
          refine R1 (g' := (73, _, _, _, _, _)) rfl rfl ?_
          rw [pA]
          refine R1 (g' := (74, _, _, _, _, _)) rfl rfl ?_
          rw [nI_add]
          refine R_put rfl rfl (Nat.le_of_ble_eq_true rfl) rfl (Nat.le_of_ble_eq_true rfl) ⟨_, rfl, Or.inl rfl, _, rfl, rfl⟩ rfl ?_
          change xRun _ _ (77, _, _, wd (put (put s 142 14 (g p)) 142 13 (nI (p + 1))), _, _)
          refine R1 (g' := (78, _, _, _, _, _)) rfl rfl ?_
          refine R_eq 129 rfl rfl (fun h => by exact absurd h (by decide)) (fun h78 => ?_)
          refine R1 (g' := (82, _, _, _, _, _)) rfl rfl ?_
          refine R_getf rfl rfl (Nat.le_of_ble_eq_true rfl) rfl rfl ?_
          refine R1 (g' := (87, _, .int (nI 104) :: _, _, _, _)) rfl rfl ?_
          refine R_ceqN 129 (99) (104) rfl rfl (oB.trans xv) (rfl) (by omega) (by omega) (fun h => by omega) (fun h87 => ?_)
          refine R1 (g' := (91, _, _, _, _, _)) rfl rfl ?_
          refine R_call1 (Or.inr (Or.inl ⟨rfl, rfl⟩)) rfl rfl ⟨Nat.le_of_ble_eq_true rfl, Nat.le_of_ble_eq_true rfl⟩ (Nat.le_of_ble_eq_true rfl) ⟨rfl, rfl⟩ (⟨⟨_, _, _, rfl, (Nat.le_of_ble_eq_true rfl), rfl⟩, e9_readPartT hB e1 (by omega)⟩) ?_
          refine R_eq 127 rfl rfl (fun h => by exact absurd h (by decide)) (fun h94 => ?_)
          refine R1 (g' := (98, _, _, _, _, _)) rfl rfl ?_
          refine R_getf rfl rfl (Nat.le_of_ble_eq_true rfl) rfl rfl ?_
          refine R1 (g' := (103, _, .int (nI 99) :: _, _, _, _)) rfl rfl ?_
          refine R_cneN 116 (99) (99) rfl rfl (o4.trans xv) (rfl) (by omega) (by omega) (fun h => by omega) (fun h103 => ?_)
          refine R1 (g' := (107, _, _, _, _, _)) rfl rfl ?_
          refine R_call1 (Or.inr (Or.inl ⟨rfl, rfl⟩)) rfl rfl ⟨Nat.le_of_ble_eq_true rfl, Nat.le_of_ble_eq_true rfl⟩ (Nat.le_of_ble_eq_true rfl) ⟨rfl, rfl⟩ (⟨⟨_, _, _, rfl, (Nat.le_of_ble_eq_true rfl), rfl⟩, hev⟩) ?_
          refine R_eq 127 rfl rfl (fun h110 => ?_) (fun h => by exact absurd rfl h)
          refine R1 (g' := (128, _, .int (nI 0) :: _, _, _, _)) rfl rfl ?_
          refine R1 (g' := (129, _, _, _, _, _)) rfl rfl ?_
          exact R_lv [(1, .int (nI 0)), (0, .ref 142)] rfl (List.forall_mem_cons.mpr ⟨rfl, List.forall_mem_cons.mpr ⟨rfl, fun _ h => absurd h List.not_mem_nil⟩⟩) ⟨rfl, rfl⟩ (ro_F c6 z13)
        | inr z =>
          rw [hc] at hk
          obtain ⟨v, q2⟩ := z
          obtain ⟨rfl, z13, z16⟩ := hk
          have hr : pOrd g p = if g q2 = nI 59 then .inr (4, k, v, q2 + 1) else .inl q2 := by unfold pOrd; rw [hrd, pCu_eq, hP, cond_true, hc, hq]
          rw [hr]
          have hq2 : q2 + 1 < 1000 := by have := cutT_lt hc; omega
          refine R1 (g' := (1, _, _, _, _, _)) rfl rfl ?_
          refine R1 (g' := (2, _, _, _, _, _)) rfl rfl ?_
          refine R_call1 (Or.inr (Or.inl ⟨rfl, rfl⟩)) rfl rfl ⟨Nat.le_of_ble_eq_true rfl, Nat.le_of_ble_eq_true rfl⟩ (Nat.le_of_ble_eq_true rfl) ⟨rfl, rfl⟩ (⟨⟨_, _, _, rfl, (Nat.le_of_ble_eq_true rfl), rfl⟩, e9_here h⟩) ?_
          refine R_put rfl rfl (Nat.le_of_ble_eq_true rfl) rfl (Nat.le_of_ble_eq_true rfl) ⟨_, rfl, Or.inl rfl, _, rfl, rfl⟩ rfl ?_
          change xRun _ _ (8, _, _, wd (put s 142 14 (g p)), _, _)
          refine R1 (g' := (9, _, _, _, _, _)) rfl rfl ?_
          refine R_getf rfl rfl (Nat.le_of_ble_eq_true rfl) rfl rfl ?_
          refine R1 (g' := (14, _, .int (nI 104) :: _, _, _, _)) rfl rfl ?_
          refine R_ceqN 53 (99) (104) rfl rfl (oA.trans xv) (rfl) (by omega) (by omega) (fun h => by omega) (fun h14 => ?_)
          refine R1 (g' := (18, _, _, _, _, _)) rfl rfl ?_
          refine R_getf rfl rfl (Nat.le_of_ble_eq_true rfl) rfl rfl ?_
          refine R1 (g' := (23, _, .int (nI 99) :: _, _, _, _)) rfl rfl ?_
          refine R_ceqN 53 (99) (99) rfl rfl (oA.trans xv) (rfl) (by omega) (by omega) (fun h23 => ?_) (fun h => by omega)
          refine R1 (g' := (54, _, .int (nI 1) :: _, _, _, _)) rfl rfl ?_
          refine R1 (g' := (58, _, _, _, _, _)) rfl rfl ?_
          refine R1 (g' := (59, _, _, _, _, _)) rfl rfl ?_
          skip
          refine R1 (g' := (60, _, _, _, _, _)) rfl rfl ?_
          refine R1 (g' := (61, _, _, _, _, _)) rfl rfl ?_
          refine R_getf rfl rfl (Nat.le_of_ble_eq_true rfl) rfl rfl ?_
          skip
          refine R1 (g' := (65, _, _, _, _, _)) rfl rfl ?_
          skip
          refine R_eq 72 rfl rfl (fun h => by exact absurd h (by decide)) (fun h65 => ?_)
          refine R1 (g' := (69, _, .int (nI 1) :: _, _, _, _)) rfl rfl ?_
          refine R1 (g' := (73, _, _, _, _, _)) rfl rfl ?_
          rw [pA]
          refine R1 (g' := (74, _, _, _, _, _)) rfl rfl ?_
          rw [nI_add]
          refine R_put rfl rfl (Nat.le_of_ble_eq_true rfl) rfl (Nat.le_of_ble_eq_true rfl) ⟨_, rfl, Or.inl rfl, _, rfl, rfl⟩ rfl ?_
          change xRun _ _ (77, _, _, wd (put (put s 142 14 (g p)) 142 13 (nI (p + 1))), _, _)
          refine R1 (g' := (78, _, _, _, _, _)) rfl rfl ?_
          refine R_eq 129 rfl rfl (fun h => by exact absurd h (by decide)) (fun h78 => ?_)
          refine R1 (g' := (82, _, _, _, _, _)) rfl rfl ?_
          refine R_getf rfl rfl (Nat.le_of_ble_eq_true rfl) rfl rfl ?_
          refine R1 (g' := (87, _, .int (nI 104) :: _, _, _, _)) rfl rfl ?_
          refine R_ceqN 129 (99) (104) rfl rfl (oB.trans xv) (rfl) (by omega) (by omega) (fun h => by omega) (fun h87 => ?_)
          refine R1 (g' := (91, _, _, _, _, _)) rfl rfl ?_
          refine R_call1 (Or.inr (Or.inl ⟨rfl, rfl⟩)) rfl rfl ⟨Nat.le_of_ble_eq_true rfl, Nat.le_of_ble_eq_true rfl⟩ (Nat.le_of_ble_eq_true rfl) ⟨rfl, rfl⟩ (⟨⟨_, _, _, rfl, (Nat.le_of_ble_eq_true rfl), rfl⟩, e9_readPartT hB e1 (by omega)⟩) ?_
          refine R_eq 127 rfl rfl (fun h => by exact absurd h (by decide)) (fun h94 => ?_)
          refine R1 (g' := (98, _, _, _, _, _)) rfl rfl ?_
          refine R_getf rfl rfl (Nat.le_of_ble_eq_true rfl) rfl rfl ?_
          refine R1 (g' := (103, _, .int (nI 99) :: _, _, _, _)) rfl rfl ?_
          refine R_cneN 116 (99) (99) rfl rfl (o4.trans xv) (rfl) (by omega) (by omega) (fun h => by omega) (fun h103 => ?_)
          refine R1 (g' := (107, _, _, _, _, _)) rfl rfl ?_
          refine R_call1 (Or.inr (Or.inl ⟨rfl, rfl⟩)) rfl rfl ⟨Nat.le_of_ble_eq_true rfl, Nat.le_of_ble_eq_true rfl⟩ (Nat.le_of_ble_eq_true rfl) ⟨rfl, rfl⟩ (⟨⟨_, _, _, rfl, (Nat.le_of_ble_eq_true rfl), rfl⟩, hev⟩) ?_
          refine R_eq 127 rfl rfl (fun h => by exact absurd h (by decide)) (fun h110 => ?_)
          refine R1 (g' := (123, _, _, _, _, _)) rfl rfl ?_
          refine R1 (g' := (124, _, .int (nI 1) :: _, _, _, _)) rfl rfl ?_
          refine R1 (g' := (128, _, _, _, _, _)) rfl rfl ?_
          refine R1 (g' := (129, _, _, _, _, _)) rfl rfl ?_
          exact R_lv [(1, .int (nI 1)), (0, .ref 142)] rfl (List.forall_mem_cons.mpr ⟨rfl, List.forall_mem_cons.mpr ⟨rfl, fun _ h => absurd h List.not_mem_nil⟩⟩) ⟨rfl, rfl⟩ (ro_T c6 (rT_X h c6 z13 (by omega)) (f14.trans (o4.trans xv)) (fun _ => ⟨f15.trans d4, z16⟩) hq2)
    · by_cases x3 : g p = nI 100
      · have xv := x3
        have hrd : pRd g p = pBl g p 0 := by unfold pRd; rw [if_neg x1, if_neg x2, if_pos x3]
        cases hP : isP (g (p + 1)) with
        | false =>
          have hr : pOrd g p = .inl (p + 1) := by unfold pOrd; rw [hrd, pBl_eq, hP, cond_false]
          rw [hr]
          refine R1 (g' := (1, _, _, _, _, _)) rfl rfl ?_
          refine R1 (g' := (2, _, _, _, _, _)) rfl rfl ?_
          refine R_call1 (Or.inr (Or.inl ⟨rfl, rfl⟩)) rfl rfl ⟨Nat.le_of_ble_eq_true rfl, Nat.le_of_ble_eq_true rfl⟩ (Nat.le_of_ble_eq_true rfl) ⟨rfl, rfl⟩ (⟨⟨_, _, _, rfl, (Nat.le_of_ble_eq_true rfl), rfl⟩, e9_here h⟩) ?_
          refine R_put rfl rfl (Nat.le_of_ble_eq_true rfl) rfl (Nat.le_of_ble_eq_true rfl) ⟨_, rfl, Or.inl rfl, _, rfl, rfl⟩ rfl ?_
          change xRun _ _ (8, _, _, wd (put s 142 14 (g p)), _, _)
          refine R1 (g' := (9, _, _, _, _, _)) rfl rfl ?_
          refine R_getf rfl rfl (Nat.le_of_ble_eq_true rfl) rfl rfl ?_
          refine R1 (g' := (14, _, .int (nI 104) :: _, _, _, _)) rfl rfl ?_
          refine R_ceqN 53 (100) (104) rfl rfl (oA.trans xv) (rfl) (by omega) (by omega) (fun h => by omega) (fun h14 => ?_)
          refine R1 (g' := (18, _, _, _, _, _)) rfl rfl ?_
          refine R_getf rfl rfl (Nat.le_of_ble_eq_true rfl) rfl rfl ?_
          refine R1 (g' := (23, _, .int (nI 99) :: _, _, _, _)) rfl rfl ?_
          refine R_ceqN 53 (100) (99) rfl rfl (oA.trans xv) (rfl) (by omega) (by omega) (fun h => by omega) (fun h23 => ?_)
          refine R1 (g' := (27, _, _, _, _, _)) rfl rfl ?_
          refine R_getf rfl rfl (Nat.le_of_ble_eq_true rfl) rfl rfl ?_
          refine R1 (g' := (32, _, .int (nI 100) :: _, _, _, _)) rfl rfl ?_
          refine R_ceqN 53 (100) (100) rfl rfl (oA.trans xv) (rfl) (by omega) (by omega) (fun h32 => ?_) (fun h => by omega)
          refine R1 (g' := (54, _, .int (nI 1) :: _, _, _, _)) rfl rfl ?_
          refine R1 (g' := (58, _, _, _, _, _)) rfl rfl ?_
          refine R1 (g' := (59, _, _, _, _, _)) rfl rfl ?_
          skip
          refine R1 (g' := (60, _, _, _, _, _)) rfl rfl ?_
          refine R1 (g' := (61, _, _, _, _, _)) rfl rfl ?_
          refine R_getf rfl rfl (Nat.le_of_ble_eq_true rfl) rfl rfl ?_
          skip
          refine R1 (g' := (65, _, _, _, _, _)) rfl rfl ?_
          skip
          refine R_eq 72 rfl rfl (fun h => by exact absurd h (by decide)) (fun h65 => ?_)
          refine R1 (g' := (69, _, .int (nI 1) :: _, _, _, _)) rfl rfl ?_
          refine R1 (g' := (73, _, _, _, _, _)) rfl rfl ?_
          rw [pA]
          refine R1 (g' := (74, _, _, _, _, _)) rfl rfl ?_
          rw [nI_add]
          refine R_put rfl rfl (Nat.le_of_ble_eq_true rfl) rfl (Nat.le_of_ble_eq_true rfl) ⟨_, rfl, Or.inl rfl, _, rfl, rfl⟩ rfl ?_
          change xRun _ _ (77, _, _, wd (put (put s 142 14 (g p)) 142 13 (nI (p + 1))), _, _)
          refine R1 (g' := (78, _, _, _, _, _)) rfl rfl ?_
          refine R_eq 129 rfl rfl (fun h => by exact absurd h (by decide)) (fun h78 => ?_)
          refine R1 (g' := (82, _, _, _, _, _)) rfl rfl ?_
          refine R_getf rfl rfl (Nat.le_of_ble_eq_true rfl) rfl rfl ?_
          refine R1 (g' := (87, _, .int (nI 104) :: _, _, _, _)) rfl rfl ?_
          refine R_ceqN 129 (100) (104) rfl rfl (oB.trans xv) (rfl) (by omega) (by omega) (fun h => by omega) (fun h87 => ?_)
          refine R1 (g' := (91, _, _, _, _, _)) rfl rfl ?_
          refine R_call1 (Or.inr (Or.inl ⟨rfl, rfl⟩)) rfl rfl ⟨Nat.le_of_ble_eq_true rfl, Nat.le_of_ble_eq_true rfl⟩ (Nat.le_of_ble_eq_true rfl) ⟨rfl, rfl⟩ (⟨⟨_, _, _, rfl, (Nat.le_of_ble_eq_true rfl), rfl⟩, e9_readPartF hB hP⟩) ?_
          refine R_eq 127 rfl rfl (fun h94 => ?_) (fun h => by exact absurd rfl h)
          refine R1 (g' := (128, _, .int (nI 0) :: _, _, _, _)) rfl rfl ?_
          refine R1 (g' := (129, _, _, _, _, _)) rfl rfl ?_
          exact R_lv [(1, .int (nI 0)), (0, .ref 142)] rfl (List.forall_mem_cons.mpr ⟨rfl, List.forall_mem_cons.mpr ⟨rfl, fun _ h => absurd h List.not_mem_nil⟩⟩) ⟨rfl, rfl⟩ (ro_F cB putv)
        | true =>
          obtain ⟨k', e1, e2, e3⟩ := isP_of hP
          obtain ⟨k, rfl⟩ : ∃ k, k' = 48 + k := ⟨k' - 48, by omega⟩
          have hq : qn g (p + 1) - 48 = k := by rw [nq e1 (by omega)]; omega
          have c4 : rX s (put (put (put (put s 142 14 (g p)) 142 13 (nI (p + 1))) 142 15 (nI k)) 142 13 (nI (p + 2))) := rX_put (rX_put cB (by decide) (by decide)) (by decide) (by decide)
          have h4 : rT (put (put (put (put s 142 14 (g p)) 142 13 (nI (p + 1))) 142 15 (nI k)) 142 13 (nI (p + 2))) g L (p + 2) := rT_X h c4 putv (by omega)
          have o4 : ((put (put (put (put s 142 14 (g p)) 142 13 (nI (p + 1))) 142 15 (nI k)) 142 13 (nI (p + 2)))).1 142 14 = g p := (putn (by decide)).trans ((putn (by decide)).trans oB)
          have d4 : ((put (put (put (put s 142 14 (g p)) 142 13 (nI (p + 1))) 142 15 (nI k)) 142 13 (nI (p + 2)))).1 142 15 = nI k := (putn (by decide)).trans putv
          obtain ⟨o1, w1, ⟨s', rfl, c5, f14, f15, hk⟩, hev⟩ := e9_readBlows h4 (by omega)
          have c6 := rX_tr c4 c5
          cases hc : blT g (p + 2) with
          | inl e =>
            rw [hc] at hk
            obtain ⟨rfl, z13⟩ := hk
            have hr : pOrd g p = .inl e := by unfold pOrd; rw [hrd, pBl_eq, hP, cond_true, hc]
            rw [hr]
            refine R1 (g' := (1, _, _, _, _, _)) rfl rfl ?_
            refine R1 (g' := (2, _, _, _, _, _)) rfl rfl ?_
            refine R_call1 (Or.inr (Or.inl ⟨rfl, rfl⟩)) rfl rfl ⟨Nat.le_of_ble_eq_true rfl, Nat.le_of_ble_eq_true rfl⟩ (Nat.le_of_ble_eq_true rfl) ⟨rfl, rfl⟩ (⟨⟨_, _, _, rfl, (Nat.le_of_ble_eq_true rfl), rfl⟩, e9_here h⟩) ?_
            refine R_put rfl rfl (Nat.le_of_ble_eq_true rfl) rfl (Nat.le_of_ble_eq_true rfl) ⟨_, rfl, Or.inl rfl, _, rfl, rfl⟩ rfl ?_
            change xRun _ _ (8, _, _, wd (put s 142 14 (g p)), _, _)
            refine R1 (g' := (9, _, _, _, _, _)) rfl rfl ?_
            refine R_getf rfl rfl (Nat.le_of_ble_eq_true rfl) rfl rfl ?_
            refine R1 (g' := (14, _, .int (nI 104) :: _, _, _, _)) rfl rfl ?_
            refine R_ceqN 53 (100) (104) rfl rfl (oA.trans xv) (rfl) (by omega) (by omega) (fun h => by omega) (fun h14 => ?_)
            refine R1 (g' := (18, _, _, _, _, _)) rfl rfl ?_
            refine R_getf rfl rfl (Nat.le_of_ble_eq_true rfl) rfl rfl ?_
            refine R1 (g' := (23, _, .int (nI 99) :: _, _, _, _)) rfl rfl ?_
            refine R_ceqN 53 (100) (99) rfl rfl (oA.trans xv) (rfl) (by omega) (by omega) (fun h => by omega) (fun h23 => ?_)
            refine R1 (g' := (27, _, _, _, _, _)) rfl rfl ?_
            refine R_getf rfl rfl (Nat.le_of_ble_eq_true rfl) rfl rfl ?_
            refine R1 (g' := (32, _, .int (nI 100) :: _, _, _, _)) rfl rfl ?_
            refine R_ceqN 53 (100) (100) rfl rfl (oA.trans xv) (rfl) (by omega) (by omega) (fun h32 => ?_) (fun h => by omega)
            refine R1 (g' := (54, _, .int (nI 1) :: _, _, _, _)) rfl rfl ?_
            refine R1 (g' := (58, _, _, _, _, _)) rfl rfl ?_
            refine R1 (g' := (59, _, _, _, _, _)) rfl rfl ?_
            skip
            refine R1 (g' := (60, _, _, _, _, _)) rfl rfl ?_
            refine R1 (g' := (61, _, _, _, _, _)) rfl rfl ?_
            refine R_getf rfl rfl (Nat.le_of_ble_eq_true rfl) rfl rfl ?_
            skip
            refine R1 (g' := (65, _, _, _, _, _)) rfl rfl ?_
            skip
            refine R_eq 72 rfl rfl (fun h => by exact absurd h (by decide)) (fun h65 => ?_)
            refine R1 (g' := (69, _, .int (nI 1) :: _, _, _, _)) rfl rfl ?_
            refine R1 (g' := (73, _, _, _, _, _)) rfl rfl ?_
            rw [pA]
            refine R1 (g' := (74, _, _, _, _, _)) rfl rfl ?_
            rw [nI_add]
            refine R_put rfl rfl (Nat.le_of_ble_eq_true rfl) rfl (Nat.le_of_ble_eq_true rfl) ⟨_, rfl, Or.inl rfl, _, rfl, rfl⟩ rfl ?_
            change xRun _ _ (77, _, _, wd (put (put s 142 14 (g p)) 142 13 (nI (p + 1))), _, _)
            refine R1 (g' := (78, _, _, _, _, _)) rfl rfl ?_
            refine R_eq 129 rfl rfl (fun h => by exact absurd h (by decide)) (fun h78 => ?_)
            refine R1 (g' := (82, _, _, _, _, _)) rfl rfl ?_
            refine R_getf rfl rfl (Nat.le_of_ble_eq_true rfl) rfl rfl ?_
            refine R1 (g' := (87, _, .int (nI 104) :: _, _, _, _)) rfl rfl ?_
            refine R_ceqN 129 (100) (104) rfl rfl (oB.trans xv) (rfl) (by omega) (by omega) (fun h => by omega) (fun h87 => ?_)
            refine R1 (g' := (91, _, _, _, _, _)) rfl rfl ?_
            refine R_call1 (Or.inr (Or.inl ⟨rfl, rfl⟩)) rfl rfl ⟨Nat.le_of_ble_eq_true rfl, Nat.le_of_ble_eq_true rfl⟩ (Nat.le_of_ble_eq_true rfl) ⟨rfl, rfl⟩ (⟨⟨_, _, _, rfl, (Nat.le_of_ble_eq_true rfl), rfl⟩, e9_readPartT hB e1 (by omega)⟩) ?_
            refine R_eq 127 rfl rfl (fun h => by exact absurd h (by decide)) (fun h94 => ?_)
            refine R1 (g' := (98, _, _, _, _, _)) rfl rfl ?_
            refine R_getf rfl rfl (Nat.le_of_ble_eq_true rfl) rfl rfl ?_
            refine R1 (g' := (103, _, .int (nI 99) :: _, _, _, _)) rfl rfl ?_
            refine R_cneN 116 (100) (99) rfl rfl (o4.trans xv) (rfl) (by omega) (by omega) (fun h103 => ?_) (fun h => by omega)
            refine R1 (g' := (117, _, _, _, _, _)) rfl rfl ?_
            refine R_call1 (Or.inr (Or.inl ⟨rfl, rfl⟩)) rfl rfl ⟨Nat.le_of_ble_eq_true rfl, Nat.le_of_ble_eq_true rfl⟩ (Nat.le_of_ble_eq_true rfl) ⟨rfl, rfl⟩ (⟨⟨_, _, _, rfl, (Nat.le_of_ble_eq_true rfl), rfl⟩, hev⟩) ?_
            refine R_eq 127 rfl rfl (fun h120 => ?_) (fun h => by exact absurd rfl h)
            refine R1 (g' := (128, _, .int (nI 0) :: _, _, _, _)) rfl rfl ?_
            refine R1 (g' := (129, _, _, _, _, _)) rfl rfl ?_
            exact R_lv [(1, .int (nI 0)), (0, .ref 142)] rfl (List.forall_mem_cons.mpr ⟨rfl, List.forall_mem_cons.mpr ⟨rfl, fun _ h => absurd h List.not_mem_nil⟩⟩) ⟨rfl, rfl⟩ (ro_F c6 z13)
          | inr z =>
            rw [hc] at hk
            obtain ⟨v, q2⟩ := z
            obtain ⟨rfl, z13, z16⟩ := hk
            have hr : pOrd g p = if g q2 = nI 59 then .inr (0, k, v, q2 + 1) else .inl q2 := by unfold pOrd; rw [hrd, pBl_eq, hP, cond_true, hc, hq]
            rw [hr]
            have hq2 : q2 + 1 < 1000 := by have := blT_lt hc; omega
            refine R1 (g' := (1, _, _, _, _, _)) rfl rfl ?_
            refine R1 (g' := (2, _, _, _, _, _)) rfl rfl ?_
            refine R_call1 (Or.inr (Or.inl ⟨rfl, rfl⟩)) rfl rfl ⟨Nat.le_of_ble_eq_true rfl, Nat.le_of_ble_eq_true rfl⟩ (Nat.le_of_ble_eq_true rfl) ⟨rfl, rfl⟩ (⟨⟨_, _, _, rfl, (Nat.le_of_ble_eq_true rfl), rfl⟩, e9_here h⟩) ?_
            refine R_put rfl rfl (Nat.le_of_ble_eq_true rfl) rfl (Nat.le_of_ble_eq_true rfl) ⟨_, rfl, Or.inl rfl, _, rfl, rfl⟩ rfl ?_
            change xRun _ _ (8, _, _, wd (put s 142 14 (g p)), _, _)
            refine R1 (g' := (9, _, _, _, _, _)) rfl rfl ?_
            refine R_getf rfl rfl (Nat.le_of_ble_eq_true rfl) rfl rfl ?_
            refine R1 (g' := (14, _, .int (nI 104) :: _, _, _, _)) rfl rfl ?_
            refine R_ceqN 53 (100) (104) rfl rfl (oA.trans xv) (rfl) (by omega) (by omega) (fun h => by omega) (fun h14 => ?_)
            refine R1 (g' := (18, _, _, _, _, _)) rfl rfl ?_
            refine R_getf rfl rfl (Nat.le_of_ble_eq_true rfl) rfl rfl ?_
            refine R1 (g' := (23, _, .int (nI 99) :: _, _, _, _)) rfl rfl ?_
            refine R_ceqN 53 (100) (99) rfl rfl (oA.trans xv) (rfl) (by omega) (by omega) (fun h => by omega) (fun h23 => ?_)
            refine R1 (g' := (27, _, _, _, _, _)) rfl rfl ?_
            refine R_getf rfl rfl (Nat.le_of_ble_eq_true rfl) rfl rfl ?_
            refine R1 (g' := (32, _, .int (nI 100) :: _, _, _, _)) rfl rfl ?_
            refine R_ceqN 53 (100) (100) rfl rfl (oA.trans xv) (rfl) (by omega) (by omega) (fun h32 => ?_) (fun h => by omega)
            refine R1 (g' := (54, _, .int (nI 1) :: _, _, _, _)) rfl rfl ?_
            refine R1 (g' := (58, _, _, _, _, _)) rfl rfl ?_
            refine R1 (g' := (59, _, _, _, _, _)) rfl rfl ?_
            skip
            refine R1 (g' := (60, _, _, _, _, _)) rfl rfl ?_
            refine R1 (g' := (61, _, _, _, _, _)) rfl rfl ?_
            refine R_getf rfl rfl (Nat.le_of_ble_eq_true rfl) rfl rfl ?_
            skip
            refine R1 (g' := (65, _, _, _, _, _)) rfl rfl ?_
            skip
            refine R_eq 72 rfl rfl (fun h => by exact absurd h (by decide)) (fun h65 => ?_)
            refine R1 (g' := (69, _, .int (nI 1) :: _, _, _, _)) rfl rfl ?_
            refine R1 (g' := (73, _, _, _, _, _)) rfl rfl ?_
            rw [pA]
            refine R1 (g' := (74, _, _, _, _, _)) rfl rfl ?_
            rw [nI_add]
            refine R_put rfl rfl (Nat.le_of_ble_eq_true rfl) rfl (Nat.le_of_ble_eq_true rfl) ⟨_, rfl, Or.inl rfl, _, rfl, rfl⟩ rfl ?_
            change xRun _ _ (77, _, _, wd (put (put s 142 14 (g p)) 142 13 (nI (p + 1))), _, _)
            refine R1 (g' := (78, _, _, _, _, _)) rfl rfl ?_
            refine R_eq 129 rfl rfl (fun h => by exact absurd h (by decide)) (fun h78 => ?_)
            refine R1 (g' := (82, _, _, _, _, _)) rfl rfl ?_
            refine R_getf rfl rfl (Nat.le_of_ble_eq_true rfl) rfl rfl ?_
            refine R1 (g' := (87, _, .int (nI 104) :: _, _, _, _)) rfl rfl ?_
            refine R_ceqN 129 (100) (104) rfl rfl (oB.trans xv) (rfl) (by omega) (by omega) (fun h => by omega) (fun h87 => ?_)
            refine R1 (g' := (91, _, _, _, _, _)) rfl rfl ?_
            refine R_call1 (Or.inr (Or.inl ⟨rfl, rfl⟩)) rfl rfl ⟨Nat.le_of_ble_eq_true rfl, Nat.le_of_ble_eq_true rfl⟩ (Nat.le_of_ble_eq_true rfl) ⟨rfl, rfl⟩ (⟨⟨_, _, _, rfl, (Nat.le_of_ble_eq_true rfl), rfl⟩, e9_readPartT hB e1 (by omega)⟩) ?_
            refine R_eq 127 rfl rfl (fun h => by exact absurd h (by decide)) (fun h94 => ?_)
            refine R1 (g' := (98, _, _, _, _, _)) rfl rfl ?_
            refine R_getf rfl rfl (Nat.le_of_ble_eq_true rfl) rfl rfl ?_
            refine R1 (g' := (103, _, .int (nI 99) :: _, _, _, _)) rfl rfl ?_
            refine R_cneN 116 (100) (99) rfl rfl (o4.trans xv) (rfl) (by omega) (by omega) (fun h103 => ?_) (fun h => by omega)
            refine R1 (g' := (117, _, _, _, _, _)) rfl rfl ?_
            refine R_call1 (Or.inr (Or.inl ⟨rfl, rfl⟩)) rfl rfl ⟨Nat.le_of_ble_eq_true rfl, Nat.le_of_ble_eq_true rfl⟩ (Nat.le_of_ble_eq_true rfl) ⟨rfl, rfl⟩ (⟨⟨_, _, _, rfl, (Nat.le_of_ble_eq_true rfl), rfl⟩, hev⟩) ?_
            refine R_eq 127 rfl rfl (fun h => by exact absurd h (by decide)) (fun h120 => ?_)
            refine R1 (g' := (124, _, .int (nI 1) :: _, _, _, _)) rfl rfl ?_
            refine R1 (g' := (128, _, _, _, _, _)) rfl rfl ?_
            refine R1 (g' := (129, _, _, _, _, _)) rfl rfl ?_
            exact R_lv [(1, .int (nI 1)), (0, .ref 142)] rfl (List.forall_mem_cons.mpr ⟨rfl, List.forall_mem_cons.mpr ⟨rfl, fun _ h => absurd h List.not_mem_nil⟩⟩) ⟨rfl, rfl⟩ (ro_T c6 (rT_X h c6 z13 (by omega)) (f14.trans (o4.trans xv)) (fun _ => ⟨f15.trans d4, z16⟩) hq2)
      · by_cases x4 : g p = nI 116
        · have xv := x4
          have hrd : pRd g p = pBl g p 1 := by unfold pRd; rw [if_neg x1, if_neg x2, if_neg x3, if_pos x4]
          cases hP : isP (g (p + 1)) with
          | false =>
            have hr : pOrd g p = .inl (p + 1) := by unfold pOrd; rw [hrd, pBl_eq, hP, cond_false]
            rw [hr]
            refine R1 (g' := (1, _, _, _, _, _)) rfl rfl ?_
            refine R1 (g' := (2, _, _, _, _, _)) rfl rfl ?_
            refine R_call1 (Or.inr (Or.inl ⟨rfl, rfl⟩)) rfl rfl ⟨Nat.le_of_ble_eq_true rfl, Nat.le_of_ble_eq_true rfl⟩ (Nat.le_of_ble_eq_true rfl) ⟨rfl, rfl⟩ (⟨⟨_, _, _, rfl, (Nat.le_of_ble_eq_true rfl), rfl⟩, e9_here h⟩) ?_
            refine R_put rfl rfl (Nat.le_of_ble_eq_true rfl) rfl (Nat.le_of_ble_eq_true rfl) ⟨_, rfl, Or.inl rfl, _, rfl, rfl⟩ rfl ?_
            change xRun _ _ (8, _, _, wd (put s 142 14 (g p)), _, _)
            refine R1 (g' := (9, _, _, _, _, _)) rfl rfl ?_
            refine R_getf rfl rfl (Nat.le_of_ble_eq_true rfl) rfl rfl ?_
            refine R1 (g' := (14, _, .int (nI 104) :: _, _, _, _)) rfl rfl ?_
            refine R_ceqN 53 (116) (104) rfl rfl (oA.trans xv) (rfl) (by omega) (by omega) (fun h => by omega) (fun h14 => ?_)
            refine R1 (g' := (18, _, _, _, _, _)) rfl rfl ?_
            refine R_getf rfl rfl (Nat.le_of_ble_eq_true rfl) rfl rfl ?_
            refine R1 (g' := (23, _, .int (nI 99) :: _, _, _, _)) rfl rfl ?_
            refine R_ceqN 53 (116) (99) rfl rfl (oA.trans xv) (rfl) (by omega) (by omega) (fun h => by omega) (fun h23 => ?_)
            refine R1 (g' := (27, _, _, _, _, _)) rfl rfl ?_
            refine R_getf rfl rfl (Nat.le_of_ble_eq_true rfl) rfl rfl ?_
            refine R1 (g' := (32, _, .int (nI 100) :: _, _, _, _)) rfl rfl ?_
            refine R_ceqN 53 (116) (100) rfl rfl (oA.trans xv) (rfl) (by omega) (by omega) (fun h => by omega) (fun h32 => ?_)
            refine R1 (g' := (36, _, _, _, _, _)) rfl rfl ?_
            refine R_getf rfl rfl (Nat.le_of_ble_eq_true rfl) rfl rfl ?_
            refine R1 (g' := (41, _, .int (nI 116) :: _, _, _, _)) rfl rfl ?_
            refine R_ceqN 53 (116) (116) rfl rfl (oA.trans xv) (rfl) (by omega) (by omega) (fun h41 => ?_) (fun h => by omega)
            refine R1 (g' := (54, _, .int (nI 1) :: _, _, _, _)) rfl rfl ?_
            refine R1 (g' := (58, _, _, _, _, _)) rfl rfl ?_
            refine R1 (g' := (59, _, _, _, _, _)) rfl rfl ?_
            skip
            refine R1 (g' := (60, _, _, _, _, _)) rfl rfl ?_
            refine R1 (g' := (61, _, _, _, _, _)) rfl rfl ?_
            refine R_getf rfl rfl (Nat.le_of_ble_eq_true rfl) rfl rfl ?_
            skip
            refine R1 (g' := (65, _, _, _, _, _)) rfl rfl ?_
            skip
            refine R_eq 72 rfl rfl (fun h => by exact absurd h (by decide)) (fun h65 => ?_)
            refine R1 (g' := (69, _, .int (nI 1) :: _, _, _, _)) rfl rfl ?_
            refine R1 (g' := (73, _, _, _, _, _)) rfl rfl ?_
            rw [pA]
            refine R1 (g' := (74, _, _, _, _, _)) rfl rfl ?_
            rw [nI_add]
            refine R_put rfl rfl (Nat.le_of_ble_eq_true rfl) rfl (Nat.le_of_ble_eq_true rfl) ⟨_, rfl, Or.inl rfl, _, rfl, rfl⟩ rfl ?_
            change xRun _ _ (77, _, _, wd (put (put s 142 14 (g p)) 142 13 (nI (p + 1))), _, _)
            refine R1 (g' := (78, _, _, _, _, _)) rfl rfl ?_
            refine R_eq 129 rfl rfl (fun h => by exact absurd h (by decide)) (fun h78 => ?_)
            refine R1 (g' := (82, _, _, _, _, _)) rfl rfl ?_
            refine R_getf rfl rfl (Nat.le_of_ble_eq_true rfl) rfl rfl ?_
            refine R1 (g' := (87, _, .int (nI 104) :: _, _, _, _)) rfl rfl ?_
            refine R_ceqN 129 (116) (104) rfl rfl (oB.trans xv) (rfl) (by omega) (by omega) (fun h => by omega) (fun h87 => ?_)
            refine R1 (g' := (91, _, _, _, _, _)) rfl rfl ?_
            refine R_call1 (Or.inr (Or.inl ⟨rfl, rfl⟩)) rfl rfl ⟨Nat.le_of_ble_eq_true rfl, Nat.le_of_ble_eq_true rfl⟩ (Nat.le_of_ble_eq_true rfl) ⟨rfl, rfl⟩ (⟨⟨_, _, _, rfl, (Nat.le_of_ble_eq_true rfl), rfl⟩, e9_readPartF hB hP⟩) ?_
            refine R_eq 127 rfl rfl (fun h94 => ?_) (fun h => by exact absurd rfl h)
            refine R1 (g' := (128, _, .int (nI 0) :: _, _, _, _)) rfl rfl ?_
            refine R1 (g' := (129, _, _, _, _, _)) rfl rfl ?_
            exact R_lv [(1, .int (nI 0)), (0, .ref 142)] rfl (List.forall_mem_cons.mpr ⟨rfl, List.forall_mem_cons.mpr ⟨rfl, fun _ h => absurd h List.not_mem_nil⟩⟩) ⟨rfl, rfl⟩ (ro_F cB putv)
          | true =>
            obtain ⟨k', e1, e2, e3⟩ := isP_of hP
            obtain ⟨k, rfl⟩ : ∃ k, k' = 48 + k := ⟨k' - 48, by omega⟩
            have hq : qn g (p + 1) - 48 = k := by rw [nq e1 (by omega)]; omega
            have c4 : rX s (put (put (put (put s 142 14 (g p)) 142 13 (nI (p + 1))) 142 15 (nI k)) 142 13 (nI (p + 2))) := rX_put (rX_put cB (by decide) (by decide)) (by decide) (by decide)
            have h4 : rT (put (put (put (put s 142 14 (g p)) 142 13 (nI (p + 1))) 142 15 (nI k)) 142 13 (nI (p + 2))) g L (p + 2) := rT_X h c4 putv (by omega)
            have o4 : ((put (put (put (put s 142 14 (g p)) 142 13 (nI (p + 1))) 142 15 (nI k)) 142 13 (nI (p + 2)))).1 142 14 = g p := (putn (by decide)).trans ((putn (by decide)).trans oB)
            have d4 : ((put (put (put (put s 142 14 (g p)) 142 13 (nI (p + 1))) 142 15 (nI k)) 142 13 (nI (p + 2)))).1 142 15 = nI k := (putn (by decide)).trans putv
            obtain ⟨o1, w1, ⟨s', rfl, c5, f14, f15, hk⟩, hev⟩ := e9_readBlows h4 (by omega)
            have c6 := rX_tr c4 c5
            cases hc : blT g (p + 2) with
            | inl e =>
              rw [hc] at hk
              obtain ⟨rfl, z13⟩ := hk
              have hr : pOrd g p = .inl e := by unfold pOrd; rw [hrd, pBl_eq, hP, cond_true, hc]
              rw [hr]
              refine R1 (g' := (1, _, _, _, _, _)) rfl rfl ?_
              refine R1 (g' := (2, _, _, _, _, _)) rfl rfl ?_
              refine R_call1 (Or.inr (Or.inl ⟨rfl, rfl⟩)) rfl rfl ⟨Nat.le_of_ble_eq_true rfl, Nat.le_of_ble_eq_true rfl⟩ (Nat.le_of_ble_eq_true rfl) ⟨rfl, rfl⟩ (⟨⟨_, _, _, rfl, (Nat.le_of_ble_eq_true rfl), rfl⟩, e9_here h⟩) ?_
              refine R_put rfl rfl (Nat.le_of_ble_eq_true rfl) rfl (Nat.le_of_ble_eq_true rfl) ⟨_, rfl, Or.inl rfl, _, rfl, rfl⟩ rfl ?_
              change xRun _ _ (8, _, _, wd (put s 142 14 (g p)), _, _)
              refine R1 (g' := (9, _, _, _, _, _)) rfl rfl ?_
              refine R_getf rfl rfl (Nat.le_of_ble_eq_true rfl) rfl rfl ?_
              refine R1 (g' := (14, _, .int (nI 104) :: _, _, _, _)) rfl rfl ?_
              refine R_ceqN 53 (116) (104) rfl rfl (oA.trans xv) (rfl) (by omega) (by omega) (fun h => by omega) (fun h14 => ?_)
              refine R1 (g' := (18, _, _, _, _, _)) rfl rfl ?_
              refine R_getf rfl rfl (Nat.le_of_ble_eq_true rfl) rfl rfl ?_
              refine R1 (g' := (23, _, .int (nI 99) :: _, _, _, _)) rfl rfl ?_
              refine R_ceqN 53 (116) (99) rfl rfl (oA.trans xv) (rfl) (by omega) (by omega) (fun h => by omega) (fun h23 => ?_)
              refine R1 (g' := (27, _, _, _, _, _)) rfl rfl ?_
              refine R_getf rfl rfl (Nat.le_of_ble_eq_true rfl) rfl rfl ?_
              refine R1 (g' := (32, _, .int (nI 100) :: _, _, _, _)) rfl rfl ?_
              refine R_ceqN 53 (116) (100) rfl rfl (oA.trans xv) (rfl) (by omega) (by omega) (fun h => by omega) (fun h32 => ?_)
              refine R1 (g' := (36, _, _, _, _, _)) rfl rfl ?_
              refine R_getf rfl rfl (Nat.le_of_ble_eq_true rfl) rfl rfl ?_
              refine R1 (g' := (41, _, .int (nI 116) :: _, _, _, _)) rfl rfl ?_
              refine R_ceqN 53 (116) (116) rfl rfl (oA.trans xv) (rfl) (by omega) (by omega) (fun h41 => ?_) (fun h => by omega)
              refine R1 (g' := (54, _, .int (nI 1) :: _, _, _, _)) rfl rfl ?_
              refine R1 (g' := (58, _, _, _, _, _)) rfl rfl ?_
              refine R1 (g' := (59, _, _, _, _, _)) rfl rfl ?_
              skip
              refine R1 (g' := (60, _, _, _, _, _)) rfl rfl ?_
              refine R1 (g' := (61, _, _, _, _, _)) rfl rfl ?_
              refine R_getf rfl rfl (Nat.le_of_ble_eq_true rfl) rfl rfl ?_
              skip
              refine R1 (g' := (65, _, _, _, _, _)) rfl rfl ?_
              skip
              refine R_eq 72 rfl rfl (fun h => by exact absurd h (by decide)) (fun h65 => ?_)
              refine R1 (g' := (69, _, .int (nI 1) :: _, _, _, _)) rfl rfl ?_
              refine R1 (g' := (73, _, _, _, _, _)) rfl rfl ?_
              rw [pA]
              refine R1 (g' := (74, _, _, _, _, _)) rfl rfl ?_
              rw [nI_add]
              refine R_put rfl rfl (Nat.le_of_ble_eq_true rfl) rfl (Nat.le_of_ble_eq_true rfl) ⟨_, rfl, Or.inl rfl, _, rfl, rfl⟩ rfl ?_
              change xRun _ _ (77, _, _, wd (put (put s 142 14 (g p)) 142 13 (nI (p + 1))), _, _)
              refine R1 (g' := (78, _, _, _, _, _)) rfl rfl ?_
              refine R_eq 129 rfl rfl (fun h => by exact absurd h (by decide)) (fun h78 => ?_)
              refine R1 (g' := (82, _, _, _, _, _)) rfl rfl ?_
              refine R_getf rfl rfl (Nat.le_of_ble_eq_true rfl) rfl rfl ?_
              refine R1 (g' := (87, _, .int (nI 104) :: _, _, _, _)) rfl rfl ?_
              refine R_ceqN 129 (116) (104) rfl rfl (oB.trans xv) (rfl) (by omega) (by omega) (fun h => by omega) (fun h87 => ?_)
              refine R1 (g' := (91, _, _, _, _, _)) rfl rfl ?_
              refine R_call1 (Or.inr (Or.inl ⟨rfl, rfl⟩)) rfl rfl ⟨Nat.le_of_ble_eq_true rfl, Nat.le_of_ble_eq_true rfl⟩ (Nat.le_of_ble_eq_true rfl) ⟨rfl, rfl⟩ (⟨⟨_, _, _, rfl, (Nat.le_of_ble_eq_true rfl), rfl⟩, e9_readPartT hB e1 (by omega)⟩) ?_
              refine R_eq 127 rfl rfl (fun h => by exact absurd h (by decide)) (fun h94 => ?_)
              refine R1 (g' := (98, _, _, _, _, _)) rfl rfl ?_
              refine R_getf rfl rfl (Nat.le_of_ble_eq_true rfl) rfl rfl ?_
              refine R1 (g' := (103, _, .int (nI 99) :: _, _, _, _)) rfl rfl ?_
              refine R_cneN 116 (116) (99) rfl rfl (o4.trans xv) (rfl) (by omega) (by omega) (fun h103 => ?_) (fun h => by omega)
              refine R1 (g' := (117, _, _, _, _, _)) rfl rfl ?_
              refine R_call1 (Or.inr (Or.inl ⟨rfl, rfl⟩)) rfl rfl ⟨Nat.le_of_ble_eq_true rfl, Nat.le_of_ble_eq_true rfl⟩ (Nat.le_of_ble_eq_true rfl) ⟨rfl, rfl⟩ (⟨⟨_, _, _, rfl, (Nat.le_of_ble_eq_true rfl), rfl⟩, hev⟩) ?_
              refine R_eq 127 rfl rfl (fun h120 => ?_) (fun h => by exact absurd rfl h)
              refine R1 (g' := (128, _, .int (nI 0) :: _, _, _, _)) rfl rfl ?_
              refine R1 (g' := (129, _, _, _, _, _)) rfl rfl ?_
              exact R_lv [(1, .int (nI 0)), (0, .ref 142)] rfl (List.forall_mem_cons.mpr ⟨rfl, List.forall_mem_cons.mpr ⟨rfl, fun _ h => absurd h List.not_mem_nil⟩⟩) ⟨rfl, rfl⟩ (ro_F c6 z13)
            | inr z =>
              rw [hc] at hk
              obtain ⟨v, q2⟩ := z
              obtain ⟨rfl, z13, z16⟩ := hk
              have hr : pOrd g p = if g q2 = nI 59 then .inr (1, k, v, q2 + 1) else .inl q2 := by unfold pOrd; rw [hrd, pBl_eq, hP, cond_true, hc, hq]
              rw [hr]
              have hq2 : q2 + 1 < 1000 := by have := blT_lt hc; omega
              refine R1 (g' := (1, _, _, _, _, _)) rfl rfl ?_
              refine R1 (g' := (2, _, _, _, _, _)) rfl rfl ?_
              refine R_call1 (Or.inr (Or.inl ⟨rfl, rfl⟩)) rfl rfl ⟨Nat.le_of_ble_eq_true rfl, Nat.le_of_ble_eq_true rfl⟩ (Nat.le_of_ble_eq_true rfl) ⟨rfl, rfl⟩ (⟨⟨_, _, _, rfl, (Nat.le_of_ble_eq_true rfl), rfl⟩, e9_here h⟩) ?_
              refine R_put rfl rfl (Nat.le_of_ble_eq_true rfl) rfl (Nat.le_of_ble_eq_true rfl) ⟨_, rfl, Or.inl rfl, _, rfl, rfl⟩ rfl ?_
              change xRun _ _ (8, _, _, wd (put s 142 14 (g p)), _, _)
              refine R1 (g' := (9, _, _, _, _, _)) rfl rfl ?_
              refine R_getf rfl rfl (Nat.le_of_ble_eq_true rfl) rfl rfl ?_
              refine R1 (g' := (14, _, .int (nI 104) :: _, _, _, _)) rfl rfl ?_
              refine R_ceqN 53 (116) (104) rfl rfl (oA.trans xv) (rfl) (by omega) (by omega) (fun h => by omega) (fun h14 => ?_)
              refine R1 (g' := (18, _, _, _, _, _)) rfl rfl ?_
              refine R_getf rfl rfl (Nat.le_of_ble_eq_true rfl) rfl rfl ?_
              refine R1 (g' := (23, _, .int (nI 99) :: _, _, _, _)) rfl rfl ?_
              refine R_ceqN 53 (116) (99) rfl rfl (oA.trans xv) (rfl) (by omega) (by omega) (fun h => by omega) (fun h23 => ?_)
              refine R1 (g' := (27, _, _, _, _, _)) rfl rfl ?_
              refine R_getf rfl rfl (Nat.le_of_ble_eq_true rfl) rfl rfl ?_
              refine R1 (g' := (32, _, .int (nI 100) :: _, _, _, _)) rfl rfl ?_
              refine R_ceqN 53 (116) (100) rfl rfl (oA.trans xv) (rfl) (by omega) (by omega) (fun h => by omega) (fun h32 => ?_)
              refine R1 (g' := (36, _, _, _, _, _)) rfl rfl ?_
              refine R_getf rfl rfl (Nat.le_of_ble_eq_true rfl) rfl rfl ?_
              refine R1 (g' := (41, _, .int (nI 116) :: _, _, _, _)) rfl rfl ?_
              refine R_ceqN 53 (116) (116) rfl rfl (oA.trans xv) (rfl) (by omega) (by omega) (fun h41 => ?_) (fun h => by omega)
              refine R1 (g' := (54, _, .int (nI 1) :: _, _, _, _)) rfl rfl ?_
              refine R1 (g' := (58, _, _, _, _, _)) rfl rfl ?_
              refine R1 (g' := (59, _, _, _, _, _)) rfl rfl ?_
              skip
              refine R1 (g' := (60, _, _, _, _, _)) rfl rfl ?_
              refine R1 (g' := (61, _, _, _, _, _)) rfl rfl ?_
              refine R_getf rfl rfl (Nat.le_of_ble_eq_true rfl) rfl rfl ?_
              skip
              refine R1 (g' := (65, _, _, _, _, _)) rfl rfl ?_
              skip
              refine R_eq 72 rfl rfl (fun h => by exact absurd h (by decide)) (fun h65 => ?_)
              refine R1 (g' := (69, _, .int (nI 1) :: _, _, _, _)) rfl rfl ?_
              refine R1 (g' := (73, _, _, _, _, _)) rfl rfl ?_
              rw [pA]
              refine R1 (g' := (74, _, _, _, _, _)) rfl rfl ?_
              rw [nI_add]
              refine R_put rfl rfl (Nat.le_of_ble_eq_true rfl) rfl (Nat.le_of_ble_eq_true rfl) ⟨_, rfl, Or.inl rfl, _, rfl, rfl⟩ rfl ?_
              change xRun _ _ (77, _, _, wd (put (put s 142 14 (g p)) 142 13 (nI (p + 1))), _, _)
              refine R1 (g' := (78, _, _, _, _, _)) rfl rfl ?_
              refine R_eq 129 rfl rfl (fun h => by exact absurd h (by decide)) (fun h78 => ?_)
              refine R1 (g' := (82, _, _, _, _, _)) rfl rfl ?_
              refine R_getf rfl rfl (Nat.le_of_ble_eq_true rfl) rfl rfl ?_
              refine R1 (g' := (87, _, .int (nI 104) :: _, _, _, _)) rfl rfl ?_
              refine R_ceqN 129 (116) (104) rfl rfl (oB.trans xv) (rfl) (by omega) (by omega) (fun h => by omega) (fun h87 => ?_)
              refine R1 (g' := (91, _, _, _, _, _)) rfl rfl ?_
              refine R_call1 (Or.inr (Or.inl ⟨rfl, rfl⟩)) rfl rfl ⟨Nat.le_of_ble_eq_true rfl, Nat.le_of_ble_eq_true rfl⟩ (Nat.le_of_ble_eq_true rfl) ⟨rfl, rfl⟩ (⟨⟨_, _, _, rfl, (Nat.le_of_ble_eq_true rfl), rfl⟩, e9_readPartT hB e1 (by omega)⟩) ?_
              refine R_eq 127 rfl rfl (fun h => by exact absurd h (by decide)) (fun h94 => ?_)
              refine R1 (g' := (98, _, _, _, _, _)) rfl rfl ?_
              refine R_getf rfl rfl (Nat.le_of_ble_eq_true rfl) rfl rfl ?_
              refine R1 (g' := (103, _, .int (nI 99) :: _, _, _, _)) rfl rfl ?_
              refine R_cneN 116 (116) (99) rfl rfl (o4.trans xv) (rfl) (by omega) (by omega) (fun h103 => ?_) (fun h => by omega)
              refine R1 (g' := (117, _, _, _, _, _)) rfl rfl ?_
              refine R_call1 (Or.inr (Or.inl ⟨rfl, rfl⟩)) rfl rfl ⟨Nat.le_of_ble_eq_true rfl, Nat.le_of_ble_eq_true rfl⟩ (Nat.le_of_ble_eq_true rfl) ⟨rfl, rfl⟩ (⟨⟨_, _, _, rfl, (Nat.le_of_ble_eq_true rfl), rfl⟩, hev⟩) ?_
              refine R_eq 127 rfl rfl (fun h => by exact absurd h (by decide)) (fun h120 => ?_)
              refine R1 (g' := (124, _, .int (nI 1) :: _, _, _, _)) rfl rfl ?_
              refine R1 (g' := (128, _, _, _, _, _)) rfl rfl ?_
              refine R1 (g' := (129, _, _, _, _, _)) rfl rfl ?_
              exact R_lv [(1, .int (nI 1)), (0, .ref 142)] rfl (List.forall_mem_cons.mpr ⟨rfl, List.forall_mem_cons.mpr ⟨rfl, fun _ h => absurd h List.not_mem_nil⟩⟩) ⟨rfl, rfl⟩ (ro_T c6 (rT_X h c6 z13 (by omega)) (f14.trans (o4.trans xv)) (fun _ => ⟨f15.trans d4, z16⟩) hq2)
        · by_cases x5 : g p = nI 117
          · have xv := x5
            have hrd : pRd g p = pBl g p 2 := by unfold pRd; rw [if_neg x1, if_neg x2, if_neg x3, if_neg x4, if_pos x5]
            cases hP : isP (g (p + 1)) with
            | false =>
              have hr : pOrd g p = .inl (p + 1) := by unfold pOrd; rw [hrd, pBl_eq, hP, cond_false]
              rw [hr]
              refine R1 (g' := (1, _, _, _, _, _)) rfl rfl ?_
              refine R1 (g' := (2, _, _, _, _, _)) rfl rfl ?_
              refine R_call1 (Or.inr (Or.inl ⟨rfl, rfl⟩)) rfl rfl ⟨Nat.le_of_ble_eq_true rfl, Nat.le_of_ble_eq_true rfl⟩ (Nat.le_of_ble_eq_true rfl) ⟨rfl, rfl⟩ (⟨⟨_, _, _, rfl, (Nat.le_of_ble_eq_true rfl), rfl⟩, e9_here h⟩) ?_
              refine R_put rfl rfl (Nat.le_of_ble_eq_true rfl) rfl (Nat.le_of_ble_eq_true rfl) ⟨_, rfl, Or.inl rfl, _, rfl, rfl⟩ rfl ?_
              change xRun _ _ (8, _, _, wd (put s 142 14 (g p)), _, _)
              refine R1 (g' := (9, _, _, _, _, _)) rfl rfl ?_
              refine R_getf rfl rfl (Nat.le_of_ble_eq_true rfl) rfl rfl ?_
              refine R1 (g' := (14, _, .int (nI 104) :: _, _, _, _)) rfl rfl ?_
              refine R_ceqN 53 (117) (104) rfl rfl (oA.trans xv) (rfl) (by omega) (by omega) (fun h => by omega) (fun h14 => ?_)
              refine R1 (g' := (18, _, _, _, _, _)) rfl rfl ?_
              refine R_getf rfl rfl (Nat.le_of_ble_eq_true rfl) rfl rfl ?_
              refine R1 (g' := (23, _, .int (nI 99) :: _, _, _, _)) rfl rfl ?_
              refine R_ceqN 53 (117) (99) rfl rfl (oA.trans xv) (rfl) (by omega) (by omega) (fun h => by omega) (fun h23 => ?_)
              refine R1 (g' := (27, _, _, _, _, _)) rfl rfl ?_
              refine R_getf rfl rfl (Nat.le_of_ble_eq_true rfl) rfl rfl ?_
              refine R1 (g' := (32, _, .int (nI 100) :: _, _, _, _)) rfl rfl ?_
              refine R_ceqN 53 (117) (100) rfl rfl (oA.trans xv) (rfl) (by omega) (by omega) (fun h => by omega) (fun h32 => ?_)
              refine R1 (g' := (36, _, _, _, _, _)) rfl rfl ?_
              refine R_getf rfl rfl (Nat.le_of_ble_eq_true rfl) rfl rfl ?_
              refine R1 (g' := (41, _, .int (nI 116) :: _, _, _, _)) rfl rfl ?_
              refine R_ceqN 53 (117) (116) rfl rfl (oA.trans xv) (rfl) (by omega) (by omega) (fun h => by omega) (fun h41 => ?_)
              refine R1 (g' := (45, _, _, _, _, _)) rfl rfl ?_
              refine R_getf rfl rfl (Nat.le_of_ble_eq_true rfl) rfl rfl ?_
              refine R1 (g' := (50, _, .int (nI 117) :: _, _, _, _)) rfl rfl ?_
              refine R_cneN 57 (117) (117) rfl rfl (oA.trans xv) (rfl) (by omega) (by omega) (fun h => by omega) (fun h50 => ?_)
              refine R1 (g' := (54, _, .int (nI 1) :: _, _, _, _)) rfl rfl ?_
              refine R1 (g' := (58, _, _, _, _, _)) rfl rfl ?_
              refine R1 (g' := (59, _, _, _, _, _)) rfl rfl ?_
              skip
              refine R1 (g' := (60, _, _, _, _, _)) rfl rfl ?_
              refine R1 (g' := (61, _, _, _, _, _)) rfl rfl ?_
              refine R_getf rfl rfl (Nat.le_of_ble_eq_true rfl) rfl rfl ?_
              skip
              refine R1 (g' := (65, _, _, _, _, _)) rfl rfl ?_
              skip
              refine R_eq 72 rfl rfl (fun h => by exact absurd h (by decide)) (fun h65 => ?_)
              refine R1 (g' := (69, _, .int (nI 1) :: _, _, _, _)) rfl rfl ?_
              refine R1 (g' := (73, _, _, _, _, _)) rfl rfl ?_
              rw [pA]
              refine R1 (g' := (74, _, _, _, _, _)) rfl rfl ?_
              rw [nI_add]
              refine R_put rfl rfl (Nat.le_of_ble_eq_true rfl) rfl (Nat.le_of_ble_eq_true rfl) ⟨_, rfl, Or.inl rfl, _, rfl, rfl⟩ rfl ?_
              change xRun _ _ (77, _, _, wd (put (put s 142 14 (g p)) 142 13 (nI (p + 1))), _, _)
              refine R1 (g' := (78, _, _, _, _, _)) rfl rfl ?_
              refine R_eq 129 rfl rfl (fun h => by exact absurd h (by decide)) (fun h78 => ?_)
              refine R1 (g' := (82, _, _, _, _, _)) rfl rfl ?_
              refine R_getf rfl rfl (Nat.le_of_ble_eq_true rfl) rfl rfl ?_
              refine R1 (g' := (87, _, .int (nI 104) :: _, _, _, _)) rfl rfl ?_
              refine R_ceqN 129 (117) (104) rfl rfl (oB.trans xv) (rfl) (by omega) (by omega) (fun h => by omega) (fun h87 => ?_)
              refine R1 (g' := (91, _, _, _, _, _)) rfl rfl ?_
              refine R_call1 (Or.inr (Or.inl ⟨rfl, rfl⟩)) rfl rfl ⟨Nat.le_of_ble_eq_true rfl, Nat.le_of_ble_eq_true rfl⟩ (Nat.le_of_ble_eq_true rfl) ⟨rfl, rfl⟩ (⟨⟨_, _, _, rfl, (Nat.le_of_ble_eq_true rfl), rfl⟩, e9_readPartF hB hP⟩) ?_
              refine R_eq 127 rfl rfl (fun h94 => ?_) (fun h => by exact absurd rfl h)
              refine R1 (g' := (128, _, .int (nI 0) :: _, _, _, _)) rfl rfl ?_
              refine R1 (g' := (129, _, _, _, _, _)) rfl rfl ?_
              exact R_lv [(1, .int (nI 0)), (0, .ref 142)] rfl (List.forall_mem_cons.mpr ⟨rfl, List.forall_mem_cons.mpr ⟨rfl, fun _ h => absurd h List.not_mem_nil⟩⟩) ⟨rfl, rfl⟩ (ro_F cB putv)
            | true =>
              obtain ⟨k', e1, e2, e3⟩ := isP_of hP
              obtain ⟨k, rfl⟩ : ∃ k, k' = 48 + k := ⟨k' - 48, by omega⟩
              have hq : qn g (p + 1) - 48 = k := by rw [nq e1 (by omega)]; omega
              have c4 : rX s (put (put (put (put s 142 14 (g p)) 142 13 (nI (p + 1))) 142 15 (nI k)) 142 13 (nI (p + 2))) := rX_put (rX_put cB (by decide) (by decide)) (by decide) (by decide)
              have h4 : rT (put (put (put (put s 142 14 (g p)) 142 13 (nI (p + 1))) 142 15 (nI k)) 142 13 (nI (p + 2))) g L (p + 2) := rT_X h c4 putv (by omega)
              have o4 : ((put (put (put (put s 142 14 (g p)) 142 13 (nI (p + 1))) 142 15 (nI k)) 142 13 (nI (p + 2)))).1 142 14 = g p := (putn (by decide)).trans ((putn (by decide)).trans oB)
              have d4 : ((put (put (put (put s 142 14 (g p)) 142 13 (nI (p + 1))) 142 15 (nI k)) 142 13 (nI (p + 2)))).1 142 15 = nI k := (putn (by decide)).trans putv
              obtain ⟨o1, w1, ⟨s', rfl, c5, f14, f15, hk⟩, hev⟩ := e9_readBlows h4 (by omega)
              have c6 := rX_tr c4 c5
              cases hc : blT g (p + 2) with
              | inl e =>
                rw [hc] at hk
                obtain ⟨rfl, z13⟩ := hk
                have hr : pOrd g p = .inl e := by unfold pOrd; rw [hrd, pBl_eq, hP, cond_true, hc]
                rw [hr]
                refine R1 (g' := (1, _, _, _, _, _)) rfl rfl ?_
                refine R1 (g' := (2, _, _, _, _, _)) rfl rfl ?_
                refine R_call1 (Or.inr (Or.inl ⟨rfl, rfl⟩)) rfl rfl ⟨Nat.le_of_ble_eq_true rfl, Nat.le_of_ble_eq_true rfl⟩ (Nat.le_of_ble_eq_true rfl) ⟨rfl, rfl⟩ (⟨⟨_, _, _, rfl, (Nat.le_of_ble_eq_true rfl), rfl⟩, e9_here h⟩) ?_
                refine R_put rfl rfl (Nat.le_of_ble_eq_true rfl) rfl (Nat.le_of_ble_eq_true rfl) ⟨_, rfl, Or.inl rfl, _, rfl, rfl⟩ rfl ?_
                change xRun _ _ (8, _, _, wd (put s 142 14 (g p)), _, _)
                refine R1 (g' := (9, _, _, _, _, _)) rfl rfl ?_
                refine R_getf rfl rfl (Nat.le_of_ble_eq_true rfl) rfl rfl ?_
                refine R1 (g' := (14, _, .int (nI 104) :: _, _, _, _)) rfl rfl ?_
                refine R_ceqN 53 (117) (104) rfl rfl (oA.trans xv) (rfl) (by omega) (by omega) (fun h => by omega) (fun h14 => ?_)
                refine R1 (g' := (18, _, _, _, _, _)) rfl rfl ?_
                refine R_getf rfl rfl (Nat.le_of_ble_eq_true rfl) rfl rfl ?_
                refine R1 (g' := (23, _, .int (nI 99) :: _, _, _, _)) rfl rfl ?_
                refine R_ceqN 53 (117) (99) rfl rfl (oA.trans xv) (rfl) (by omega) (by omega) (fun h => by omega) (fun h23 => ?_)
                refine R1 (g' := (27, _, _, _, _, _)) rfl rfl ?_
                refine R_getf rfl rfl (Nat.le_of_ble_eq_true rfl) rfl rfl ?_
                refine R1 (g' := (32, _, .int (nI 100) :: _, _, _, _)) rfl rfl ?_
                refine R_ceqN 53 (117) (100) rfl rfl (oA.trans xv) (rfl) (by omega) (by omega) (fun h => by omega) (fun h32 => ?_)
                refine R1 (g' := (36, _, _, _, _, _)) rfl rfl ?_
                refine R_getf rfl rfl (Nat.le_of_ble_eq_true rfl) rfl rfl ?_
                refine R1 (g' := (41, _, .int (nI 116) :: _, _, _, _)) rfl rfl ?_
                refine R_ceqN 53 (117) (116) rfl rfl (oA.trans xv) (rfl) (by omega) (by omega) (fun h => by omega) (fun h41 => ?_)
                refine R1 (g' := (45, _, _, _, _, _)) rfl rfl ?_
                refine R_getf rfl rfl (Nat.le_of_ble_eq_true rfl) rfl rfl ?_
                refine R1 (g' := (50, _, .int (nI 117) :: _, _, _, _)) rfl rfl ?_
                refine R_cneN 57 (117) (117) rfl rfl (oA.trans xv) (rfl) (by omega) (by omega) (fun h => by omega) (fun h50 => ?_)
                refine R1 (g' := (54, _, .int (nI 1) :: _, _, _, _)) rfl rfl ?_
                refine R1 (g' := (58, _, _, _, _, _)) rfl rfl ?_
                refine R1 (g' := (59, _, _, _, _, _)) rfl rfl ?_
                skip
                refine R1 (g' := (60, _, _, _, _, _)) rfl rfl ?_
                refine R1 (g' := (61, _, _, _, _, _)) rfl rfl ?_
                refine R_getf rfl rfl (Nat.le_of_ble_eq_true rfl) rfl rfl ?_
                skip
                refine R1 (g' := (65, _, _, _, _, _)) rfl rfl ?_
                skip
                refine R_eq 72 rfl rfl (fun h => by exact absurd h (by decide)) (fun h65 => ?_)
                refine R1 (g' := (69, _, .int (nI 1) :: _, _, _, _)) rfl rfl ?_
                refine R1 (g' := (73, _, _, _, _, _)) rfl rfl ?_
                rw [pA]
                refine R1 (g' := (74, _, _, _, _, _)) rfl rfl ?_
                rw [nI_add]
                refine R_put rfl rfl (Nat.le_of_ble_eq_true rfl) rfl (Nat.le_of_ble_eq_true rfl) ⟨_, rfl, Or.inl rfl, _, rfl, rfl⟩ rfl ?_
                change xRun _ _ (77, _, _, wd (put (put s 142 14 (g p)) 142 13 (nI (p + 1))), _, _)
                refine R1 (g' := (78, _, _, _, _, _)) rfl rfl ?_
                refine R_eq 129 rfl rfl (fun h => by exact absurd h (by decide)) (fun h78 => ?_)
                refine R1 (g' := (82, _, _, _, _, _)) rfl rfl ?_
                refine R_getf rfl rfl (Nat.le_of_ble_eq_true rfl) rfl rfl ?_
                refine R1 (g' := (87, _, .int (nI 104) :: _, _, _, _)) rfl rfl ?_
                refine R_ceqN 129 (117) (104) rfl rfl (oB.trans xv) (rfl) (by omega) (by omega) (fun h => by omega) (fun h87 => ?_)
                refine R1 (g' := (91, _, _, _, _, _)) rfl rfl ?_
                refine R_call1 (Or.inr (Or.inl ⟨rfl, rfl⟩)) rfl rfl ⟨Nat.le_of_ble_eq_true rfl, Nat.le_of_ble_eq_true rfl⟩ (Nat.le_of_ble_eq_true rfl) ⟨rfl, rfl⟩ (⟨⟨_, _, _, rfl, (Nat.le_of_ble_eq_true rfl), rfl⟩, e9_readPartT hB e1 (by omega)⟩) ?_
                refine R_eq 127 rfl rfl (fun h => by exact absurd h (by decide)) (fun h94 => ?_)
                refine R1 (g' := (98, _, _, _, _, _)) rfl rfl ?_
                refine R_getf rfl rfl (Nat.le_of_ble_eq_true rfl) rfl rfl ?_
                refine R1 (g' := (103, _, .int (nI 99) :: _, _, _, _)) rfl rfl ?_
                refine R_cneN 116 (117) (99) rfl rfl (o4.trans xv) (rfl) (by omega) (by omega) (fun h103 => ?_) (fun h => by omega)
                refine R1 (g' := (117, _, _, _, _, _)) rfl rfl ?_
                refine R_call1 (Or.inr (Or.inl ⟨rfl, rfl⟩)) rfl rfl ⟨Nat.le_of_ble_eq_true rfl, Nat.le_of_ble_eq_true rfl⟩ (Nat.le_of_ble_eq_true rfl) ⟨rfl, rfl⟩ (⟨⟨_, _, _, rfl, (Nat.le_of_ble_eq_true rfl), rfl⟩, hev⟩) ?_
                refine R_eq 127 rfl rfl (fun h120 => ?_) (fun h => by exact absurd rfl h)
                refine R1 (g' := (128, _, .int (nI 0) :: _, _, _, _)) rfl rfl ?_
                refine R1 (g' := (129, _, _, _, _, _)) rfl rfl ?_
                exact R_lv [(1, .int (nI 0)), (0, .ref 142)] rfl (List.forall_mem_cons.mpr ⟨rfl, List.forall_mem_cons.mpr ⟨rfl, fun _ h => absurd h List.not_mem_nil⟩⟩) ⟨rfl, rfl⟩ (ro_F c6 z13)
              | inr z =>
                rw [hc] at hk
                obtain ⟨v, q2⟩ := z
                obtain ⟨rfl, z13, z16⟩ := hk
                have hr : pOrd g p = if g q2 = nI 59 then .inr (2, k, v, q2 + 1) else .inl q2 := by unfold pOrd; rw [hrd, pBl_eq, hP, cond_true, hc, hq]
                rw [hr]
                have hq2 : q2 + 1 < 1000 := by have := blT_lt hc; omega
                refine R1 (g' := (1, _, _, _, _, _)) rfl rfl ?_
                refine R1 (g' := (2, _, _, _, _, _)) rfl rfl ?_
                refine R_call1 (Or.inr (Or.inl ⟨rfl, rfl⟩)) rfl rfl ⟨Nat.le_of_ble_eq_true rfl, Nat.le_of_ble_eq_true rfl⟩ (Nat.le_of_ble_eq_true rfl) ⟨rfl, rfl⟩ (⟨⟨_, _, _, rfl, (Nat.le_of_ble_eq_true rfl), rfl⟩, e9_here h⟩) ?_
                refine R_put rfl rfl (Nat.le_of_ble_eq_true rfl) rfl (Nat.le_of_ble_eq_true rfl) ⟨_, rfl, Or.inl rfl, _, rfl, rfl⟩ rfl ?_
                change xRun _ _ (8, _, _, wd (put s 142 14 (g p)), _, _)
                refine R1 (g' := (9, _, _, _, _, _)) rfl rfl ?_
                refine R_getf rfl rfl (Nat.le_of_ble_eq_true rfl) rfl rfl ?_
                refine R1 (g' := (14, _, .int (nI 104) :: _, _, _, _)) rfl rfl ?_
                refine R_ceqN 53 (117) (104) rfl rfl (oA.trans xv) (rfl) (by omega) (by omega) (fun h => by omega) (fun h14 => ?_)
                refine R1 (g' := (18, _, _, _, _, _)) rfl rfl ?_
                refine R_getf rfl rfl (Nat.le_of_ble_eq_true rfl) rfl rfl ?_
                refine R1 (g' := (23, _, .int (nI 99) :: _, _, _, _)) rfl rfl ?_
                refine R_ceqN 53 (117) (99) rfl rfl (oA.trans xv) (rfl) (by omega) (by omega) (fun h => by omega) (fun h23 => ?_)
                refine R1 (g' := (27, _, _, _, _, _)) rfl rfl ?_
                refine R_getf rfl rfl (Nat.le_of_ble_eq_true rfl) rfl rfl ?_
                refine R1 (g' := (32, _, .int (nI 100) :: _, _, _, _)) rfl rfl ?_
                refine R_ceqN 53 (117) (100) rfl rfl (oA.trans xv) (rfl) (by omega) (by omega) (fun h => by omega) (fun h32 => ?_)
                refine R1 (g' := (36, _, _, _, _, _)) rfl rfl ?_
                refine R_getf rfl rfl (Nat.le_of_ble_eq_true rfl) rfl rfl ?_
                refine R1 (g' := (41, _, .int (nI 116) :: _, _, _, _)) rfl rfl ?_
                refine R_ceqN 53 (117) (116) rfl rfl (oA.trans xv) (rfl) (by omega) (by omega) (fun h => by omega) (fun h41 => ?_)
                refine R1 (g' := (45, _, _, _, _, _)) rfl rfl ?_
                refine R_getf rfl rfl (Nat.le_of_ble_eq_true rfl) rfl rfl ?_
                refine R1 (g' := (50, _, .int (nI 117) :: _, _, _, _)) rfl rfl ?_
                refine R_cneN 57 (117) (117) rfl rfl (oA.trans xv) (rfl) (by omega) (by omega) (fun h => by omega) (fun h50 => ?_)
                refine R1 (g' := (54, _, .int (nI 1) :: _, _, _, _)) rfl rfl ?_
                refine R1 (g' := (58, _, _, _, _, _)) rfl rfl ?_
                refine R1 (g' := (59, _, _, _, _, _)) rfl rfl ?_
                skip
                refine R1 (g' := (60, _, _, _, _, _)) rfl rfl ?_
                refine R1 (g' := (61, _, _, _, _, _)) rfl rfl ?_
                refine R_getf rfl rfl (Nat.le_of_ble_eq_true rfl) rfl rfl ?_
                skip
                refine R1 (g' := (65, _, _, _, _, _)) rfl rfl ?_
                skip
                refine R_eq 72 rfl rfl (fun h => by exact absurd h (by decide)) (fun h65 => ?_)
                refine R1 (g' := (69, _, .int (nI 1) :: _, _, _, _)) rfl rfl ?_
                refine R1 (g' := (73, _, _, _, _, _)) rfl rfl ?_
                rw [pA]
                refine R1 (g' := (74, _, _, _, _, _)) rfl rfl ?_
                rw [nI_add]
                refine R_put rfl rfl (Nat.le_of_ble_eq_true rfl) rfl (Nat.le_of_ble_eq_true rfl) ⟨_, rfl, Or.inl rfl, _, rfl, rfl⟩ rfl ?_
                change xRun _ _ (77, _, _, wd (put (put s 142 14 (g p)) 142 13 (nI (p + 1))), _, _)
                refine R1 (g' := (78, _, _, _, _, _)) rfl rfl ?_
                refine R_eq 129 rfl rfl (fun h => by exact absurd h (by decide)) (fun h78 => ?_)
                refine R1 (g' := (82, _, _, _, _, _)) rfl rfl ?_
                refine R_getf rfl rfl (Nat.le_of_ble_eq_true rfl) rfl rfl ?_
                refine R1 (g' := (87, _, .int (nI 104) :: _, _, _, _)) rfl rfl ?_
                refine R_ceqN 129 (117) (104) rfl rfl (oB.trans xv) (rfl) (by omega) (by omega) (fun h => by omega) (fun h87 => ?_)
                refine R1 (g' := (91, _, _, _, _, _)) rfl rfl ?_
                refine R_call1 (Or.inr (Or.inl ⟨rfl, rfl⟩)) rfl rfl ⟨Nat.le_of_ble_eq_true rfl, Nat.le_of_ble_eq_true rfl⟩ (Nat.le_of_ble_eq_true rfl) ⟨rfl, rfl⟩ (⟨⟨_, _, _, rfl, (Nat.le_of_ble_eq_true rfl), rfl⟩, e9_readPartT hB e1 (by omega)⟩) ?_
                refine R_eq 127 rfl rfl (fun h => by exact absurd h (by decide)) (fun h94 => ?_)
                refine R1 (g' := (98, _, _, _, _, _)) rfl rfl ?_
                refine R_getf rfl rfl (Nat.le_of_ble_eq_true rfl) rfl rfl ?_
                refine R1 (g' := (103, _, .int (nI 99) :: _, _, _, _)) rfl rfl ?_
                refine R_cneN 116 (117) (99) rfl rfl (o4.trans xv) (rfl) (by omega) (by omega) (fun h103 => ?_) (fun h => by omega)
                refine R1 (g' := (117, _, _, _, _, _)) rfl rfl ?_
                refine R_call1 (Or.inr (Or.inl ⟨rfl, rfl⟩)) rfl rfl ⟨Nat.le_of_ble_eq_true rfl, Nat.le_of_ble_eq_true rfl⟩ (Nat.le_of_ble_eq_true rfl) ⟨rfl, rfl⟩ (⟨⟨_, _, _, rfl, (Nat.le_of_ble_eq_true rfl), rfl⟩, hev⟩) ?_
                refine R_eq 127 rfl rfl (fun h => by exact absurd h (by decide)) (fun h120 => ?_)
                refine R1 (g' := (124, _, .int (nI 1) :: _, _, _, _)) rfl rfl ?_
                refine R1 (g' := (128, _, _, _, _, _)) rfl rfl ?_
                refine R1 (g' := (129, _, _, _, _, _)) rfl rfl ?_
                exact R_lv [(1, .int (nI 1)), (0, .ref 142)] rfl (List.forall_mem_cons.mpr ⟨rfl, List.forall_mem_cons.mpr ⟨rfl, fun _ h => absurd h List.not_mem_nil⟩⟩) ⟨rfl, rfl⟩ (ro_T c6 (rT_X h c6 z13 (by omega)) (f14.trans (o4.trans xv)) (fun _ => ⟨f15.trans d4, z16⟩) hq2)
          · have hr : pOrd g p = .inl p := by unfold pOrd pRd; rw [if_neg x1, if_neg x2, if_neg x3, if_neg x4, if_neg x5]
            rw [hr]
            refine R1 (g' := (1, _, _, _, _, _)) rfl rfl ?_
            refine R1 (g' := (2, _, _, _, _, _)) rfl rfl ?_
            refine R_call1 (Or.inr (Or.inl ⟨rfl, rfl⟩)) rfl rfl ⟨Nat.le_of_ble_eq_true rfl, Nat.le_of_ble_eq_true rfl⟩ (Nat.le_of_ble_eq_true rfl) ⟨rfl, rfl⟩ (⟨⟨_, _, _, rfl, (Nat.le_of_ble_eq_true rfl), rfl⟩, e9_here h⟩) ?_
            refine R_put rfl rfl (Nat.le_of_ble_eq_true rfl) rfl (Nat.le_of_ble_eq_true rfl) ⟨_, rfl, Or.inl rfl, _, rfl, rfl⟩ rfl ?_
            change xRun _ _ (8, _, _, wd (put s 142 14 (g p)), _, _)
            refine R1 (g' := (9, _, _, _, _, _)) rfl rfl ?_
            refine R_getf rfl rfl (Nat.le_of_ble_eq_true rfl) rfl rfl ?_
            refine R1 (g' := (14, _, .int (nI 104) :: _, _, _, _)) rfl rfl ?_
            refine R_ceq 53 rfl rfl (fun h => by exact absurd (oA.symm.trans h) x1) (fun h14 => ?_)
            refine R1 (g' := (18, _, _, _, _, _)) rfl rfl ?_
            refine R_getf rfl rfl (Nat.le_of_ble_eq_true rfl) rfl rfl ?_
            refine R1 (g' := (23, _, .int (nI 99) :: _, _, _, _)) rfl rfl ?_
            refine R_ceq 53 rfl rfl (fun h => by exact absurd (oA.symm.trans h) x2) (fun h23 => ?_)
            refine R1 (g' := (27, _, _, _, _, _)) rfl rfl ?_
            refine R_getf rfl rfl (Nat.le_of_ble_eq_true rfl) rfl rfl ?_
            refine R1 (g' := (32, _, .int (nI 100) :: _, _, _, _)) rfl rfl ?_
            refine R_ceq 53 rfl rfl (fun h => by exact absurd (oA.symm.trans h) x3) (fun h32 => ?_)
            refine R1 (g' := (36, _, _, _, _, _)) rfl rfl ?_
            refine R_getf rfl rfl (Nat.le_of_ble_eq_true rfl) rfl rfl ?_
            refine R1 (g' := (41, _, .int (nI 116) :: _, _, _, _)) rfl rfl ?_
            refine R_ceq 53 rfl rfl (fun h => by exact absurd (oA.symm.trans h) x4) (fun h41 => ?_)
            refine R1 (g' := (45, _, _, _, _, _)) rfl rfl ?_
            refine R_getf rfl rfl (Nat.le_of_ble_eq_true rfl) rfl rfl ?_
            refine R1 (g' := (50, _, .int (nI 117) :: _, _, _, _)) rfl rfl ?_
            refine R_cne 57 rfl rfl (fun h50 => ?_) (fun h => by exact absurd (oA.symm.trans h) x5)
            refine R1 (g' := (58, _, .int (nI 0) :: _, _, _, _)) rfl rfl ?_
            refine R1 (g' := (59, _, _, _, _, _)) rfl rfl ?_
            refine R1 (g' := (60, _, _, _, _, _)) rfl rfl ?_
            refine R1 (g' := (61, _, _, _, _, _)) rfl rfl ?_
            refine R_getf rfl rfl (Nat.le_of_ble_eq_true rfl) rfl rfl ?_
            refine R1 (g' := (65, _, _, _, _, _)) rfl rfl ?_
            refine R_eq 72 rfl rfl (fun h65 => ?_) (fun h => by exact absurd (by decide) h)
            refine R1 (g' := (73, _, .int (nI 0) :: _, _, _, _)) rfl rfl ?_
            rw [pA]
            refine R1 (g' := (74, _, _, _, _, _)) rfl rfl ?_
            rw [nI_add, Nat.add_zero]
            refine R_put rfl rfl (Nat.le_of_ble_eq_true rfl) rfl (Nat.le_of_ble_eq_true rfl) ⟨_, rfl, Or.inl rfl, _, rfl, rfl⟩ rfl ?_
            change xRun _ _ (77, _, _, wd (put (put s 142 14 (g p)) 142 13 (nI p)), _, _)
            refine R1 (g' := (78, _, _, _, _, _)) rfl rfl ?_
            refine R_eq 129 rfl rfl (fun h78 => ?_) (fun h => by exact absurd (by decide) h)
            exact R_lv [(1, .int (nI 0)), (0, .ref 142)] rfl (List.forall_mem_cons.mpr ⟨rfl, List.forall_mem_cons.mpr ⟨rfl, fun _ h => absurd h List.not_mem_nil⟩⟩) ⟨rfl, rfl⟩ (ro_F (rX_put cA (by decide) (by decide)) putv)
