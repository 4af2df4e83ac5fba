def gPo (s : xs) (v c0 x y o : Nat) (o1 : xO) (w1 : xw) : Prop := ∃ s', w1 = wd s' ∧ rOut s s' ∧ ((∃ n p, wRes v c0 x y o n p ∧ o1 = .inl (some (.int (nI n))) ∧ ∀ k, k < n → s'.1 150 k = nI (p k)) ∨ (wNo v c0 x y o ∧ o1 = .inl (some (.int (-1)))))
theorem gPo_tr {s s' : xs} {v c0 x y o : Nat} {o1 : xO} {w1 : xw} (h : rOut s s') (k : gPo s' v c0 x y o o1 w1) : gPo s v c0 x y o o1 w1 := by
  obtain ⟨s2, e, h2, k⟩ := k
  exact ⟨s2, e, rOut_tr h h2, k⟩
theorem bR_end {v c0 n : Nat} (h : (bR v c0 (3 * n)).1 ≤ n) : ∀ d, bR v c0 (3 * n + d) = bR v c0 (3 * n)
  | 0 => rfl
  | d + 1 => by
    rw [show 3 * n + (d + 1) = 3 * n + d + 1 from rfl, bR, bR_end h d, bS]
    have e : bP (bR v c0 (3 * n)) ((3 * n + d) / 3) ((3 * n + d) % 3) v = false := by
      unfold bP
      rw [decide_eq_false (show ¬ (3 * n + d) / 3 < (bR v c0 (3 * n)).1 by omega), Bool.false_and]
    rw [e, cond_false]
theorem bR_far {v c0 n : Nat} (h : ¬ (bR v c0 (3 * n)).2.2.2.2 ((bR v c0 (3 * n)).2.1 n) < 60) : bR v c0 (3 * n + 3) = bR v c0 (3 * n) := by
  have e : ∀ q, bP (bR v c0 (3 * n)) n q v = false := fun q => by
    unfold bP
    rw [decide_eq_false h, Bool.false_and, Bool.and_false]
  have e1 : bR v c0 (3 * n + 1) = bR v c0 (3 * n) := by rw [bR_s (t := 3 * n) (i := n) (q := 0) rfl (by decide), bS, e, cond_false]
  have e2 : bR v c0 (3 * n + 2) = bR v c0 (3 * n) := by rw [bR_s (i := n) (q := 1) rfl (by decide), e1, bS, e, cond_false]
  rw [bR_s (i := n) (q := 2) rfl (by decide), e2, bS, e, cond_false]
theorem fill9_loop {s : xs} {k x y o : Nat} {Po : xO → xw → Prop} (kk : xRun M_X9_findWay Po (25, [(5, .int (nI 9216)), (0, .ref 142), (1, .int (nI k)), (2, .int (nI x)), (3, .int (nI y)), (4, .int (nI o))], [], wd (setP s 147 (pFill (s.1 147) (-1) 9216)), 0, 0)) : ∀ (d j : Nat), j + d = 9216 → xRun M_X9_findWay Po (3, [(5, .int (nI j)), (0, .ref 142), (1, .int (nI k)), (2, .int (nI x)), (3, .int (nI y)), (4, .int (nI o))], [], wd (setP s 147 (pFill (s.1 147) (-1) j)), 0, 0) := by
  intro d
  induction d with
  | zero =>
    intro j hj
    have hj : j = 9216 := by omega
    subst hj
    refine R1 (g' := (5, _, _, _, _, _)) rfl rfl ?_
    refine R1 (g' := (8, _, .int (nI 9216) :: _, _, _, _)) rfl rfl ?_
    refine R_cgeN 25 (9216) (9216) rfl rfl (rfl) (rfl) (by omega) (by omega) (fun h8 => ?_) (fun h => by omega)
    exact kk
  | succ d ih =>
    intro j hj
    refine R1 (g' := (5, _, _, _, _, _)) rfl rfl ?_
    refine R1 (g' := (8, _, .int (nI 9216) :: _, _, _, _)) rfl rfl ?_
    refine R_cgeN 25 (j) (9216) rfl rfl (rfl) (rfl) (by omega) (by omega) (fun h => by omega) (fun h8 => ?_)
    refine R1 (g' := (12, _, _, _, _, _)) rfl rfl ?_
    refine R_getf rfl rfl (Nat.le_of_ble_eq_true rfl) rfl rfl ?_
    refine R1 (g' := (17, _, _, _, _, _)) rfl rfl ?_
    refine R1 (g' := (18, _, .int (-1) :: _, _, _, _)) rfl rfl ?_
    refine R_iast j rfl (Nat.le_of_ble_eq_true rfl) (fun _ => rfl) (by omega) (by decide) rfl ?_
    rw [setP_setP, setP_at, pFill_s]
    refine R1 (g' := (22, _, _, _, _, _)) rfl rfl ?_
    refine R1 (g' := (3, _, _, _, _, _)) rfl rfl ?_
    refine R_lv [(5, .int (nI (j + 1))), (0, .ref 142), (1, .int (nI k)), (2, .int (nI x)), (3, .int (nI y)), (4, .int (nI o))] rfl (List.forall_mem_cons.mpr ⟨by rw [nI_succ j]; rfl, List.forall_mem_cons.mpr ⟨rfl, List.forall_mem_cons.mpr ⟨rfl, List.forall_mem_cons.mpr ⟨rfl, List.forall_mem_cons.mpr ⟨rfl, List.forall_mem_cons.mpr ⟨rfl, fun _ h => absurd h List.not_mem_nil⟩⟩⟩⟩⟩⟩) ⟨rfl, rfl⟩ ?_
    exact ih (j + 1) (by omega)
theorem main9_loop {k v c0 x y o : Nat} {z : Int32} (hk8 : k < 8) (hc0 : c0 < 9216) (hv : v < 2 ^ 31) (hx : x < 2 ^ 20) (hy : y < 2 ^ 20) (ho : o < 2 ^ 20) : ∀ (d n : Nat) (s : xs), n + d = 9217 → gRel s (bR v c0 (3 * n)) c0 → s.1 143 (11 + 4 * k) = nI v → (∀ j, j < n → j < (bR v c0 (3 * n)).1 → wFit x y o ((bR v c0 (3 * n)).2.1 j) = false) → n ≤ (bR v c0 (3 * n)).1 → xRun M_X9_findWay (gPo s v c0 x y o) (64, [(7, .int (nI n)), (6, .int (nI (bR v c0 (3 * n)).1)), (5, .int z), (0, .ref 142), (1, .int (nI k)), (2, .int (nI x)), (3, .int (nI y)), (4, .int (nI o))], [], wd s, 0, 0) := by
  intro d
  induction d with
  | zero =>
    intro n s hd hs hV hf hn
    have := (bR_ok (v := v) hc0 (3 * n)).2.1
    omega
  | succ d ih =>
    intro n s hd hs hV hf hn
    have hb := bR_ok (v := v) hc0 (3 * n)
    have hbn : (bR v c0 (3 * n)).1 ≤ 9216 := by have := hb.2.1; omega
    by_cases hlt : n < (bR v c0 (3 * n)).1
    · obtain ⟨hc1, hc2⟩ := hb.1 n hlt
      have hfar : s.1 147 ((bR v c0 (3 * n)).2.1 n) = nI ((bR v c0 (3 * n)).2.2.2.2 ((bR v c0 (3 * n)).2.1 n)) := by rw [hs.1 _ hc1, if_neg hc2]
      have h60 := (hb.2.2.2.2 _ hc2).1
      have hwf : (nNear (cw ((bR v c0 (3 * n)).2.1 n)) x o && nNear (ch ((bR v c0 (3 * n)).2.1 n)) y o) = wFit x y o ((bR v c0 (3 * n)).2.1 n) := rfl
      have hcw : cw ((bR v c0 (3 * n)).2.1 n) < 2 ^ 20 ∧ ch ((bR v c0 (3 * n)).2.1 n) < 2 ^ 20 := by
        have h1 := nRg_iff.mp (cw_rg hc1).1
        have h2 := nRg_iff.mp (cw_rg hc1).2
        omega
      cases hfit : wFit x y o ((bR v c0 (3 * n)).2.1 n) with
      | true =>
        obtain ⟨f, hf1, hf2⟩ := e9_walks hs hb hc2
        refine R1 (g' := (66, _, _, _, _, _)) rfl rfl ?_
        refine R1 (g' := (68, _, _, _, _, _)) rfl rfl ?_
        refine R_cgeN 150 (n) ((bR v c0 (3 * n)).1) rfl rfl (rfl) (rfl) (by omega) (by omega) (fun h => by omega) (fun h68 => ?_)
        refine R1 (g' := (72, _, _, _, _, _)) rfl rfl ?_
        refine R_getf rfl rfl (Nat.le_of_ble_eq_true rfl) rfl rfl ?_
        refine R1 (g' := (77, _, _, _, _, _)) rfl rfl ?_
        refine R_iald n rfl (Nat.le_of_ble_eq_true rfl) rfl (by omega) (by decide) rfl ?_
        rw [hs.2.2 n hlt]
        refine R1 (g' := (80, _, _, _, _, _)) rfl rfl ?_
        refine R1 (g' := (82, _, _, _, _, _)) rfl rfl ?_
        refine R1 (g' := (84, _, .int (nI 96) :: _, _, _, _)) rfl rfl ?_
        refine R_idiv rfl (by decide) ?_
        refine R1 (g' := (86, _, .int (nI 5) :: _, _, _, _)) rfl rfl ?_
        refine R1 (g' := (87, _, _, _, _, _)) rfl rfl ?_
        refine R1 (g' := (89, _, _, _, _, _)) rfl rfl ?_
        refine R1 (g' := (91, _, .int (nI 96) :: _, _, _, _)) rfl rfl ?_
        refine R_irem rfl (by decide) ?_
        refine R1 (g' := (93, _, .int (nI 5) :: _, _, _, _)) rfl rfl ?_
        refine R1 (g' := (94, _, _, _, _, _)) rfl rfl ?_
        refine R1 (g' := (95, _, _, _, _, _)) rfl rfl ?_
        refine R1 (g' := (96, _, _, _, _, _)) rfl rfl ?_
        refine R1 (g' := (98, _, _, _, _, _)) rfl rfl ?_
        rw [cw_nI hc1, ch_nI hc1]
        refine R_call5 (Or.inl ⟨rfl, rfl⟩) rfl rfl ⟨Nat.le_of_ble_eq_true rfl, Nat.le_of_ble_eq_true rfl⟩ (Nat.le_of_ble_eq_true rfl) ⟨rfl, rfl⟩ (e9_fits hcw.1 hcw.2 hx hy ho) ?_
        rw [hwf, hfit]
        refine R_eq 111 rfl rfl (fun h => by exact absurd h (by decide)) (fun h101 => ?_)
        refine R1 (g' := (105, _, _, _, _, _)) rfl rfl ?_
        refine R1 (g' := (107, _, _, _, _, _)) rfl rfl ?_
        refine R_call2 (Or.inr (Or.inl ⟨rfl, rfl⟩)) rfl rfl ⟨Nat.le_of_ble_eq_true rfl, Nat.le_of_ble_eq_true rfl⟩ (Nat.le_of_ble_eq_true rfl) ⟨rfl, rfl⟩ (⟨⟨_, _, _, rfl, (Nat.le_of_ble_eq_true rfl), rfl⟩, hf2⟩) ?_
        refine R_iret rfl ?_
        exact ⟨_, rfl, rOut_set rOut_rf (by decide) (by decide), Or.inl ⟨_, bWy (bR v c0 (3 * n)) ((bR v c0 (3 * n)).2.1 n), ⟨3 * n, n, ⟨hlt, hfit, fun i hi => hf i hi (by omega)⟩, rfl, fun _ _ => rfl⟩, rfl, fun k hk => by rw [setP_at]; exact hf1 k hk⟩⟩
      | false =>
        by_cases hr : (bR v c0 (3 * n)).2.2.2.2 ((bR v c0 (3 * n)).2.1 n) < 60
        · obtain ⟨o1, w1, ⟨s', rfl, hso, hs', rfl⟩, hev⟩ := e9_spreads hc0 hv hlt rfl hr hs
          have hle : bLe (bR v c0 (3 * n)) (bR v c0 (3 * n + 3)) := bR_le2 (by omega)
          refine xRun_imp (Po := gPo s' v c0 x y o) ?_ (fun _ _ k => gPo_tr hso k)
          refine R1 (g' := (66, _, _, _, _, _)) rfl rfl ?_
          refine R1 (g' := (68, _, _, _, _, _)) rfl rfl ?_
          refine R_cgeN 150 (n) ((bR v c0 (3 * n)).1) rfl rfl (rfl) (rfl) (by omega) (by omega) (fun h => by omega) (fun h68 => ?_)
          refine R1 (g' := (72, _, _, _, _, _)) rfl rfl ?_
          refine R_getf rfl rfl (Nat.le_of_ble_eq_true rfl) rfl rfl ?_
          refine R1 (g' := (77, _, _, _, _, _)) rfl rfl ?_
          refine R_iald n rfl (Nat.le_of_ble_eq_true rfl) rfl (by omega) (by decide) rfl ?_
          rw [hs.2.2 n hlt]
          refine R1 (g' := (80, _, _, _, _, _)) rfl rfl ?_
          refine R1 (g' := (82, _, _, _, _, _)) rfl rfl ?_
          refine R1 (g' := (84, _, .int (nI 96) :: _, _, _, _)) rfl rfl ?_
          refine R_idiv rfl (by decide) ?_
          refine R1 (g' := (86, _, .int (nI 5) :: _, _, _, _)) rfl rfl ?_
          refine R1 (g' := (87, _, _, _, _, _)) rfl rfl ?_
          refine R1 (g' := (89, _, _, _, _, _)) rfl rfl ?_
          refine R1 (g' := (91, _, .int (nI 96) :: _, _, _, _)) rfl rfl ?_
          refine R_irem rfl (by decide) ?_
          refine R1 (g' := (93, _, .int (nI 5) :: _, _, _, _)) rfl rfl ?_
          refine R1 (g' := (94, _, _, _, _, _)) rfl rfl ?_
          refine R1 (g' := (95, _, _, _, _, _)) rfl rfl ?_
          refine R1 (g' := (96, _, _, _, _, _)) rfl rfl ?_
          refine R1 (g' := (98, _, _, _, _, _)) rfl rfl ?_
          rw [cw_nI hc1, ch_nI hc1]
          refine R_call5 (Or.inl ⟨rfl, rfl⟩) rfl rfl ⟨Nat.le_of_ble_eq_true rfl, Nat.le_of_ble_eq_true rfl⟩ (Nat.le_of_ble_eq_true rfl) ⟨rfl, rfl⟩ (e9_fits hcw.1 hcw.2 hx hy ho) ?_
          rw [hwf, hfit]
          refine R_eq 111 rfl rfl (fun h101 => ?_) (fun h => by exact absurd rfl h)
          refine R1 (g' := (112, _, _, _, _, _)) rfl rfl ?_
          refine R_getf rfl rfl (Nat.le_of_ble_eq_true rfl) rfl rfl ?_
          refine R1 (g' := (117, _, _, _, _, _)) rfl rfl ?_
          refine R_iald ((bR v c0 (3 * n)).2.1 n) rfl (Nat.le_of_ble_eq_true rfl) rfl hc1 (by decide) rfl ?_
          rw [hfar]
          refine R1 (g' := (120, _, .int (nI 60) :: _, _, _, _)) rfl rfl ?_
          refine R_cgeN 140 ((bR v c0 (3 * n)).2.2.2.2 ((bR v c0 (3 * n)).2.1 n)) (60) rfl rfl (rfl) (rfl) (by omega) (by omega) (fun h => by omega) (fun h120 => ?_)
          refine R1 (g' := (124, _, _, _, _, _)) rfl rfl ?_
          refine R1 (g' := (126, _, _, _, _, _)) rfl rfl ?_
          refine R1 (g' := (128, _, _, _, _, _)) rfl rfl ?_
          refine R1 (g' := (129, _, _, _, _, _)) rfl rfl ?_
          refine R1 (g' := (130, _, _, _, _, _)) rfl rfl ?_
          refine R1 (g' := (131, _, .int (nI 2) :: _, _, _, _)) rfl rfl ?_
          refine R_call3 (Or.inr (Or.inl ⟨rfl, rfl⟩)) rfl rfl ⟨Nat.le_of_ble_eq_true rfl, Nat.le_of_ble_eq_true rfl⟩ (Nat.le_of_ble_eq_true rfl) ⟨rfl, rfl⟩ (⟨⟨_, _, _, rfl, (Nat.le_of_ble_eq_true rfl), rfl⟩, e9_of (i := 11 + 4 * k) (by omega) (by omega)⟩) ?_
          rw [hV]
          refine R_call4 (Or.inr (Or.inl ⟨rfl, rfl⟩)) rfl rfl ⟨Nat.le_of_ble_eq_true rfl, Nat.le_of_ble_eq_true rfl⟩ (Nat.le_of_ble_eq_true rfl) ⟨rfl, rfl⟩ (⟨⟨_, _, _, rfl, (Nat.le_of_ble_eq_true rfl), rfl⟩, hev⟩) ?_
          refine R1 (g' := (142, _, _, _, _, _)) rfl rfl ?_
          refine R1 (g' := (144, _, _, _, _, _)) rfl rfl ?_
          refine R1 (g' := (147, _, _, _, _, _)) rfl rfl ?_
          refine R1 (g' := (64, _, _, _, _, _)) rfl rfl ?_
          refine R_lv [(7, .int (nI (n + 1))), (6, .int (nI (bR v c0 (3 * (n + 1))).1)), (5, .int z), (0, .ref 142), (1, .int (nI k)), (2, .int (nI x)), (3, .int (nI y)), (4, .int (nI o))] rfl (List.forall_mem_cons.mpr ⟨by rw [nI_succ n]; rfl, List.forall_mem_cons.mpr ⟨rfl, List.forall_mem_cons.mpr ⟨rfl, List.forall_mem_cons.mpr ⟨rfl, List.forall_mem_cons.mpr ⟨rfl, List.forall_mem_cons.mpr ⟨rfl, List.forall_mem_cons.mpr ⟨rfl, List.forall_mem_cons.mpr ⟨rfl, fun _ h => absurd h List.not_mem_nil⟩⟩⟩⟩⟩⟩⟩⟩) ⟨rfl, rfl⟩ ?_
          refine ih (n + 1) s' (by omega) hs' (by rw [hso.1 143 (by decide) (Or.inl (by decide))]; exact hV) (fun j a b => ?_) (Nat.le_trans hlt hle.1)
          show wFit x y o ((bR v c0 (3 * n + 3)).2.1 j) = false
          rw [hle.2.1 j (by omega)]
          rcases Nat.lt_or_ge j n with g | g
          · exact hf j g (by omega)
          · rw [show j = n by omega]
            exact hfit
        · have h3 := bR_far hr
          have h3' : bR v c0 (3 * (n + 1)) = bR v c0 (3 * n) := h3
          refine R1 (g' := (66, _, _, _, _, _)) rfl rfl ?_
          refine R1 (g' := (68, _, _, _, _, _)) rfl rfl ?_
          refine R_cgeN 150 (n) ((bR v c0 (3 * n)).1) rfl rfl (rfl) (rfl) (by omega) (by omega) (fun h => by omega) (fun h68 => ?_)
          refine R1 (g' := (72, _, _, _, _, _)) rfl rfl ?_
          refine R_getf rfl rfl (Nat.le_of_ble_eq_true rfl) rfl rfl ?_
          refine R1 (g' := (77, _, _, _, _, _)) rfl rfl ?_
          refine R_iald n rfl (Nat.le_of_ble_eq_true rfl) rfl (by omega) (by decide) rfl ?_
          rw [hs.2.2 n hlt]
          refine R1 (g' := (80, _, _, _, _, _)) rfl rfl ?_
          refine R1 (g' := (82, _, _, _, _, _)) rfl rfl ?_
          refine R1 (g' := (84, _, .int (nI 96) :: _, _, _, _)) rfl rfl ?_
          refine R_idiv rfl (by decide) ?_
          refine R1 (g' := (86, _, .int (nI 5) :: _, _, _, _)) rfl rfl ?_
          refine R1 (g' := (87, _, _, _, _, _)) rfl rfl ?_
          refine R1 (g' := (89, _, _, _, _, _)) rfl rfl ?_
          refine R1 (g' := (91, _, .int (nI 96) :: _, _, _, _)) rfl rfl ?_
          refine R_irem rfl (by decide) ?_
          refine R1 (g' := (93, _, .int (nI 5) :: _, _, _, _)) rfl rfl ?_
          refine R1 (g' := (94, _, _, _, _, _)) rfl rfl ?_
          refine R1 (g' := (95, _, _, _, _, _)) rfl rfl ?_
          refine R1 (g' := (96, _, _, _, _, _)) rfl rfl ?_
          refine R1 (g' := (98, _, _, _, _, _)) rfl rfl ?_
          rw [cw_nI hc1, ch_nI hc1]
          refine R_call5 (Or.inl ⟨rfl, rfl⟩) rfl rfl ⟨Nat.le_of_ble_eq_true rfl, Nat.le_of_ble_eq_true rfl⟩ (Nat.le_of_ble_eq_true rfl) ⟨rfl, rfl⟩ (e9_fits hcw.1 hcw.2 hx hy ho) ?_
          rw [hwf, hfit]
          refine R_eq 111 rfl rfl (fun h101 => ?_) (fun h => by exact absurd rfl h)
          refine R1 (g' := (112, _, _, _, _, _)) rfl rfl ?_
          refine R_getf rfl rfl (Nat.le_of_ble_eq_true rfl) rfl rfl ?_
          refine R1 (g' := (117, _, _, _, _, _)) rfl rfl ?_
          refine R_iald ((bR v c0 (3 * n)).2.1 n) rfl (Nat.le_of_ble_eq_true rfl) rfl hc1 (by decide) rfl ?_
          rw [hfar]
          refine R1 (g' := (120, _, .int (nI 60) :: _, _, _, _)) rfl rfl ?_
          refine R_cgeN 140 ((bR v c0 (3 * n)).2.2.2.2 ((bR v c0 (3 * n)).2.1 n)) (60) rfl rfl (rfl) (rfl) (by omega) (by omega) (fun h120 => ?_) (fun h => by omega)
          refine R1 (g' := (142, _, _, _, _, _)) rfl rfl ?_
          refine R1 (g' := (144, _, _, _, _, _)) rfl rfl ?_
          refine R1 (g' := (147, _, _, _, _, _)) rfl rfl ?_
          refine R1 (g' := (64, _, _, _, _, _)) rfl rfl ?_
          refine R_lv [(7, .int (nI (n + 1))), (6, .int (nI (bR v c0 (3 * (n + 1))).1)), (5, .int z), (0, .ref 142), (1, .int (nI k)), (2, .int (nI x)), (3, .int (nI y)), (4, .int (nI o))] rfl (List.forall_mem_cons.mpr ⟨by rw [nI_succ n]; rfl, List.forall_mem_cons.mpr ⟨by rw [h3']; rfl, List.forall_mem_cons.mpr ⟨rfl, List.forall_mem_cons.mpr ⟨rfl, List.forall_mem_cons.mpr ⟨rfl, List.forall_mem_cons.mpr ⟨rfl, List.forall_mem_cons.mpr ⟨rfl, List.forall_mem_cons.mpr ⟨rfl, fun _ h => absurd h List.not_mem_nil⟩⟩⟩⟩⟩⟩⟩⟩) ⟨rfl, rfl⟩ ?_
          refine ih (n + 1) s (by omega) (by rw [h3']; exact hs) hV (fun j a b => ?_) (by rw [h3']; exact hlt)
          rw [h3']
          rcases Nat.lt_or_ge j n with g | g
          · exact hf j g (by omega)
          · rw [show j = n by omega]
            exact hfit
    · have he : (bR v c0 (3 * n)).1 = n := by omega
      have hno : wNo v c0 x y o := ⟨3 * n, fun t2 ht2 => by
        obtain ⟨d, rfl⟩ := Nat.exists_eq_add_of_le ht2
        exact bR_end (by omega) d, fun i hi => hf i (by omega) hi⟩
      refine R1 (g' := (66, _, _, _, _, _)) rfl rfl ?_
      refine R1 (g' := (68, _, _, _, _, _)) rfl rfl ?_
      refine R_cgeN 150 (n) ((bR v c0 (3 * n)).1) rfl rfl (rfl) (rfl) (by omega) (by omega) (fun h68 => ?_) (fun h => by omega)
      refine R1 (g' := (151, _, .int (-1) :: _, _, _, _)) rfl rfl ?_
      refine R_iret rfl ?_
      exact ⟨s, rfl, rOut_rf, Or.inr ⟨hno, rfl⟩⟩
theorem e9_findWay {s : xs} {k x y o : Nat} (hk8 : k < 8) (h : qPart (s.1 143) k) (hx : x < 2 ^ 20) (hy : y < 2 ^ 20) (ho : o < 2 ^ 20) : ∃ o1 w1, gPo s (qn (s.1 143) (11 + 4 * k)) (cl (qn (s.1 143) (9 + 4 * k)) (qn (s.1 143) (10 + 4 * k))) x y o o1 w1 ∧ Ev_X9_findWay [.ref 142, .int (nI k), .int (nI x), .int (nI y), .int (nI o)] (wd s) o1 w1 := by
  obtain ⟨p1, p2, p3, p4, p5, p6, p7⟩ := id h
  have hc0 := cl_lt p4 p5
  generalize hv : qn (s.1 143) (11 + 4 * k) = v at *
  generalize hA : qn (s.1 143) (9 + 4 * k) = a at *
  generalize hB : qn (s.1 143) (10 + 4 * k) = b at *
  refine xEv_ex (Nat.le_of_ble_eq_true rfl) (fun o1 w1 k => ?_) ?_
  · obtain ⟨s2, rfl, _, ⟨n, p, _, rfl, _⟩ | ⟨_, rfl⟩⟩ := k <;> exact ⟨Nat.le_refl _, Or.inl rfl⟩
  have hr : xRun M_X9_findWay (gPo s v (cl a b) x y o) (25, [(5, .int (nI 9216)), (0, .ref 142), (1, .int (nI k)), (2, .int (nI x)), (3, .int (nI y)), (4, .int (nI o))], [], wd (setP s 147 (pFill (s.1 147) (-1) 9216)), 0, 0) := by
    refine R1 (g' := (26, _, _, _, _, _)) rfl rfl ?_
    refine R1 (g' := (27, _, _, _, _, _)) rfl rfl ?_
    refine R1 (g' := (28, _, .int (nI 0) :: _, _, _, _)) rfl rfl ?_
    refine R_call3 (Or.inr (Or.inl ⟨rfl, rfl⟩)) rfl rfl ⟨Nat.le_of_ble_eq_true rfl, Nat.le_of_ble_eq_true rfl⟩ (Nat.le_of_ble_eq_true rfl) ⟨rfl, rfl⟩ (⟨⟨_, _, _, rfl, (Nat.le_of_ble_eq_true rfl), rfl⟩, e9_of (i := 9 + 4 * k) (by omega) (by omega)⟩) ?_
    refine R1 (g' := (32, _, _, _, _, _)) rfl rfl ?_
    refine R1 (g' := (33, _, _, _, _, _)) rfl rfl ?_
    refine R1 (g' := (34, _, .int (nI 1) :: _, _, _, _)) rfl rfl ?_
    refine R_call3 (Or.inr (Or.inl ⟨rfl, rfl⟩)) rfl rfl ⟨Nat.le_of_ble_eq_true rfl, Nat.le_of_ble_eq_true rfl⟩ (Nat.le_of_ble_eq_true rfl) ⟨rfl, rfl⟩ (⟨⟨_, _, _, rfl, (Nat.le_of_ble_eq_true rfl), rfl⟩, e9_of (i := 10 + 4 * k) (by omega) (by omega)⟩) ?_
    rw [setP_ne _ _ (by decide), p1, p2]
    refine R_call2 (Or.inl ⟨rfl, rfl⟩) rfl rfl ⟨Nat.le_of_ble_eq_true rfl, Nat.le_of_ble_eq_true rfl⟩ (Nat.le_of_ble_eq_true rfl) ⟨rfl, rfl⟩ (e9_sectionOf (nRg_iff.mp p4).1 (nRg_iff.mp p4).2 (nRg_iff.mp p5).1 (nRg_iff.mp p5).2) ?_
    change xRun _ _ (40, _, [.int (nI (cl a b))], _, _, _)
    refine R1 (g' := (42, _, _, _, _, _)) rfl rfl ?_
    refine R1 (g' := (43, _, _, _, _, _)) rfl rfl ?_
    refine R_getf rfl rfl (Nat.le_of_ble_eq_true rfl) rfl rfl ?_
    refine R1 (g' := (48, _, _, _, _, _)) rfl rfl ?_
    refine R1 (g' := (49, _, .int (nI 0) :: _, _, _, _)) rfl rfl ?_
    refine R_iast (cl a b) rfl (Nat.le_of_ble_eq_true rfl) (fun _ => rfl) hc0 (by decide) rfl ?_
    rw [setP_at]
    refine R1 (g' := (51, _, _, _, _, _)) rfl rfl ?_
    refine R_getf rfl rfl (Nat.le_of_ble_eq_true rfl) rfl rfl ?_
    refine R1 (g' := (55, _, .int (nI 0) :: _, _, _, _)) rfl rfl ?_
    refine R1 (g' := (57, _, _, _, _, _)) rfl rfl ?_
    refine R_iast 0 rfl (Nat.le_of_ble_eq_true rfl) (fun _ => rfl) (by decide) (by decide) rfl ?_
    rw [setP_ne _ _ (by decide), setP_ne _ _ (by decide)]
    refine R1 (g' := (59, _, .int (nI 1) :: _, _, _, _)) rfl rfl ?_
    refine R1 (g' := (61, _, _, _, _, _)) rfl rfl ?_
    refine R1 (g' := (62, _, .int (nI 0) :: _, _, _, _)) rfl rfl ?_
    refine R1 (g' := (64, _, _, _, _, _)) rfl rfl ?_
    refine R_lv [(7, .int (nI 0)), (6, .int (nI 1)), (5, .int (nI (cl a b))), (0, .ref 142), (1, .int (nI k)), (2, .int (nI x)), (3, .int (nI y)), (4, .int (nI o))] rfl (List.forall_mem_cons.mpr ⟨rfl, List.forall_mem_cons.mpr ⟨rfl, List.forall_mem_cons.mpr ⟨rfl, List.forall_mem_cons.mpr ⟨rfl, List.forall_mem_cons.mpr ⟨rfl, List.forall_mem_cons.mpr ⟨rfl, List.forall_mem_cons.mpr ⟨rfl, List.forall_mem_cons.mpr ⟨rfl, fun _ h => absurd h List.not_mem_nil⟩⟩⟩⟩⟩⟩⟩⟩) ⟨rfl, rfl⟩ ?_
    refine xRun_imp (Po := gPo (setP (setP (setP s 147 (pFill (s.1 147) (-1) 9216)) 147 (upd (pFill (s.1 147) (-1) 9216) (cl a b) (nI 0))) 149 (upd (s.1 149) 0 (nI (cl a b)))) v (cl a b) x y o) ?_ (fun _ _ k => gPo_tr (rOut_set (rOut_set (rOut_set rOut_rf (by decide) (by decide)) (by decide) (by decide)) (by decide) (by decide)) k)
    refine main9_loop hk8 hc0 (by omega) hx hy ho 9217 0 _ rfl ?_ (by rw [setP_ne _ _ (by decide), setP_ne _ _ (by decide), setP_ne _ _ (by decide)]; exact p3) (fun j g _ => absurd g (Nat.not_lt_zero _)) (Nat.zero_le _)
    refine ⟨fun c hc => ?_, fun c hc hc2 => ?_, fun j hj => ?_⟩
    · rw [setP_ne _ _ (by decide), setP_at]
      by_cases e : c = cl a b
      · subst e
        rw [pk_us]
        exact (if_neg (show ¬ va_up (fun _ => 0) (cl a b) 9 (cl a b) = 0 from by rw [va_up_self]; decide)).symm
      · rw [pk_un e]
        exact (show pFill (s.1 147) (-1) 9216 c = -1 from if_pos hc).trans (if_pos (show va_up (fun _ => 0) (cl a b) 9 c = 0 from va_up_ne _ _ e)).symm
    · exact absurd (show va_up (fun _ => 0) (cl a b) 9 c = 0 from va_up_ne _ _ hc2) hc
    · have e : j = 0 := by
        have : j < 1 := hj
        omega
      subst e
      rw [setP_at]
      exact pk_us
  have h3 := fill9_loop hr 9216 0 rfl
  rw [pFill_0, setP_self] at h3
  refine R1 (g' := (1, _, .int (nI 0) :: _, _, _, _)) rfl rfl ?_
  refine R1 (g' := (3, _, _, _, _, _)) rfl rfl ?_
  exact R_lv [(5, .int (nI 0)), (0, .ref 142), (1, .int (nI k)), (2, .int (nI x)), (3, .int (nI y)), (4, .int (nI o))] rfl (List.forall_mem_cons.mpr ⟨rfl, List.forall_mem_cons.mpr ⟨rfl, List.forall_mem_cons.mpr ⟨rfl, List.forall_mem_cons.mpr ⟨rfl, List.forall_mem_cons.mpr ⟨rfl, List.forall_mem_cons.mpr ⟨rfl, fun _ h => absurd h List.not_mem_nil⟩⟩⟩⟩⟩⟩) ⟨rfl, rfl⟩ h3
