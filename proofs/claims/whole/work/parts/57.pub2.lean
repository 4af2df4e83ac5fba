theorem put6 {s : xs} {v : Int32} : (put s 142 6 v).1 142 6 = v := putv
theorem put6o {s : xs} {j : Nat} {v : Int32} (h : j ≠ 6) : (put s 142 6 v).1 142 j = s.1 142 j := putn h
theorem put6n {s : xs} {i : Nat} {v : Int32} (h : i ≠ 142) : (put s 142 6 v).1 i = s.1 i := put_ne _ _ h
theorem Rl_code {s : xs} {v : Int32} (h : Rl s) : Rl (put s 142 6 v) := Rl_same h (fun i hi => put6n (by omega)) (by rw [put6n (by decide)]) (put6n (by decide)) rfl (put6n (by decide)) (put6o (by decide)) (put6n (by decide)) (put6o (by decide)) (put6n (by decide))
theorem e9_setScaleX {s : xs} {x : Int32} (k : inI x (nI 0) (nI 50) = false) : Ev_X9_setScale [.ref 142, .int x] (wd s) (.inl (some (.int (nI 0)))) (wd (put s 142 6 (nI 1))) := by
  refine ⟨Nat.le_of_ble_eq_true rfl, Nat.le_refl _, Or.inl rfl, ?_⟩
  refine R1 (g' := (1, _, _, _, _, _)) rfl rfl ?_
  refine R1 (g' := (2, _, _, _, _, _)) rfl rfl ?_
  refine R1 (g' := (3, _, .int (nI 0) :: _, _, _, _)) rfl rfl ?_
  refine R1 (g' := (5, _, .int (nI 50) :: _, _, _, _)) rfl rfl ?_
  refine R_call3 (Or.inl ⟨rfl, rfl⟩) rfl rfl ⟨Nat.le_of_ble_eq_true rfl, Nat.le_of_ble_eq_true rfl⟩ (Nat.le_of_ble_eq_true rfl) ⟨rfl, rfl⟩ (e9_in) ?_
  rw [k]
  refine R_eq 15 rfl rfl (fun h8 => ?_) (fun h => by exact absurd rfl h)
  refine R1 (g' := (16, _, .int (nI 1) :: _, _, _, _)) rfl rfl ?_
  refine R_put rfl rfl (Nat.le_of_ble_eq_true rfl) rfl (Nat.le_of_ble_eq_true rfl) ⟨_, rfl, Or.inl rfl, _, rfl, rfl⟩ rfl ?_
  change xRun _ _ (19, _, _, wd (put s 142 6 (nI 1)), _, _)
  refine R1 (g' := (20, _, _, _, _, _)) rfl rfl ?_
  refine R_getf rfl rfl (Nat.le_of_ble_eq_true rfl) rfl rfl ?_
  rw [put6]
  refine R_eq 28 rfl rfl (fun h => by exact absurd h (by decide)) (fun h23 => ?_)
  refine R1 (g' := (27, _, .int (nI 0) :: _, _, _, _)) rfl rfl ?_
  refine R_iret rfl ?_
  exact ⟨rfl, rfl⟩
theorem e9_setScaleT {s : xs} {x : Int32} {c : Nat} (k : inI x (nI 0) (nI 50) = true) (hc4 : c ≤ 4) (hc : s.1 142 3 = nI c) : ∃ s', kX (put s 142 6 (nI 0)) s' ∧ s'.1 142 3 = nI (cN4 c) ∧ (∀ j, j < cN4 c → ∀ q, q < 73 → pg s' j q = wN (pg s) c (s.1 143) j q) ∧ Ev_X9_setScale [.ref 142, .int x] (wd s) (.inl (some (.int (s.1 143 1)))) (wd (setP s' 143 (upd (s.1 143) 1 x))) := by
  obtain ⟨s', hev, h1, h2, h3⟩ := r_keep (s := put s 142 6 (nI 0)) hc4 ((put6o (by decide)).trans hc)
  have e143 : s'.1 143 = s.1 143 := (h3.1 143 (by decide) (by decide)).trans (put6n (by decide))
  refine ⟨s', h3, h1, fun j hj q hq => (h2 j hj q hq).trans ?_, ?_⟩
  · rw [put6n (by decide)]
    have ep : pg (put s 142 6 (nI 0)) = pg s := by
      funext j q
      unfold pg
      rw [put6n (by decide)]
    rw [ep]
  refine ⟨Nat.le_of_ble_eq_true rfl, Nat.le_refl _, Or.inl rfl, ?_⟩
  refine R1 (g' := (1, _, _, _, _, _)) rfl rfl ?_
  refine R1 (g' := (2, _, _, _, _, _)) rfl rfl ?_
  refine R1 (g' := (3, _, .int (nI 0) :: _, _, _, _)) rfl rfl ?_
  refine R1 (g' := (5, _, .int (nI 50) :: _, _, _, _)) rfl rfl ?_
  refine R_call3 (Or.inl ⟨rfl, rfl⟩) rfl rfl ⟨Nat.le_of_ble_eq_true rfl, Nat.le_of_ble_eq_true rfl⟩ (Nat.le_of_ble_eq_true rfl) ⟨rfl, rfl⟩ (e9_in) ?_
  rw [k]
  refine R_eq 15 rfl rfl (fun h => by exact absurd h (by decide)) (fun h8 => ?_)
  refine R1 (g' := (12, _, .int (nI 0) :: _, _, _, _)) rfl rfl ?_
  refine R1 (g' := (16, _, _, _, _, _)) rfl rfl ?_
  refine R_put rfl rfl (Nat.le_of_ble_eq_true rfl) rfl (Nat.le_of_ble_eq_true rfl) ⟨_, rfl, Or.inl rfl, _, rfl, rfl⟩ rfl ?_
  change xRun _ _ (19, _, _, wd (put s 142 6 (nI 0)), _, _)
  refine R1 (g' := (20, _, _, _, _, _)) rfl rfl ?_
  refine R_getf rfl rfl (Nat.le_of_ble_eq_true rfl) rfl rfl ?_
  rw [put6]
  refine R_eq 28 rfl rfl (fun h23 => ?_) (fun h => by exact absurd (by decide) h)
  refine R1 (g' := (29, _, _, _, _, _)) rfl rfl ?_
  refine R_call1 (Or.inr (Or.inl ⟨rfl, rfl⟩)) rfl rfl ⟨Nat.le_of_ble_eq_true rfl, Nat.le_of_ble_eq_true rfl⟩ (Nat.le_of_ble_eq_true rfl) ⟨rfl, rfl⟩ (⟨⟨_, _, _, rfl, (Nat.le_of_ble_eq_true rfl), rfl⟩, hev⟩) ?_
  refine R1 (g' := (33, _, _, _, _, _)) rfl rfl ?_
  refine R_getf rfl rfl (Nat.le_of_ble_eq_true rfl) rfl rfl ?_
  refine R1 (g' := (37, _, .int (nI 1) :: _, _, _, _)) rfl rfl ?_
  refine R_iald 1 rfl (Nat.le_of_ble_eq_true rfl) rfl (by decide) (by decide) rfl ?_
  rw [e143]
  refine R1 (g' := (39, _, _, _, _, _)) rfl rfl ?_
  refine R1 (g' := (40, _, _, _, _, _)) rfl rfl ?_
  refine R_getf rfl rfl (Nat.le_of_ble_eq_true rfl) rfl rfl ?_
  refine R1 (g' := (44, _, .int (nI 1) :: _, _, _, _)) rfl rfl ?_
  refine R1 (g' := (45, _, _, _, _, _)) rfl rfl ?_
  refine R_iast 1 rfl (Nat.le_of_ble_eq_true rfl) (fun _ => rfl) (by decide) (by decide) rfl ?_
  rw [e143]
  refine R1 (g' := (47, _, _, _, _, _)) rfl rfl ?_
  refine R_iret rfl ?_
  exact ⟨rfl, rfl⟩
