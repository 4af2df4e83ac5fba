theorem inI_t {x a b : Int32} (h : inI x a b = true) : a ≤ x ∧ x ≤ b := by
  simp only [inI, Bool.and_eq_true, decide_eq_true_eq] at h
  exact h
theorem inI_f {x a b : Int32} (h : inI x a b = false) (h1 : a ≤ x) : ¬ x ≤ b := fun h2 => by
  simp only [inI, decide_eq_true h1, decide_eq_true h2, Bool.and_self] at h
  cases h
theorem e8_range {s : xs} {x a b : Int32} (h : inI x a b = true) : Ev_X8_requireRange [.int x, .int a, .int b] (wd s) (.inl none) (wd s) := by
  refine ⟨Nat.le_of_ble_eq_true rfl, Nat.le_refl _, rfl, ?_⟩
  refine R1 (g' := (1, _, _, _, _, _)) rfl rfl ?_
  refine R1 (g' := (2, _, _, _, _, _)) rfl rfl ?_
  refine R_clt 10 rfl rfl (fun h => by exact absurd h (Int32.not_lt.mpr (inI_t ‹_›).1)) (fun h2 => ?_)
  refine R1 (g' := (6, _, _, _, _, _)) rfl rfl ?_
  refine R1 (g' := (7, _, _, _, _, _)) rfl rfl ?_
  refine R_cle 21 rfl rfl (fun h7 => ?_) (fun h => by exact absurd (inI_t ‹_›).2 h)
  refine R_vret rfl ?_
  exact ⟨rfl, rfl⟩
theorem e8_rangeX {s : xs} {x a b : Int32} (h : inI x a b = false) : Ev_X8_requireRange [.int x, .int a, .int b] (wd s) (.inr "java/lang/IllegalArgumentException") (wd s) := by
  refine ⟨Nat.le_of_ble_eq_true rfl, Nat.le_refl _, trivial, ?_⟩
  refine R1 (g' := (1, _, _, _, _, _)) rfl rfl ?_
  refine R1 (g' := (2, _, _, _, _, _)) rfl rfl ?_
  refine R_clt 10 rfl rfl (fun h2 => ?_) (fun h2 => ?_)
  · refine R_throw rfl rfl ⟨Nat.le_of_ble_eq_true rfl, Nat.le_of_ble_eq_true rfl⟩ (Nat.le_of_ble_eq_true rfl) ?_
    exact ⟨rfl, rfl⟩
  · refine R1 (g' := (6, _, _, _, _, _)) rfl rfl ?_
    refine R1 (g' := (7, _, _, _, _, _)) rfl rfl ?_
    refine R_cle 21 rfl rfl (fun h => by exact absurd h (inI_f (by assumption) (Int32.not_lt.mp (by assumption)))) (fun h7 => ?_)
    refine R_throw rfl rfl ⟨Nat.le_of_ble_eq_true rfl, Nat.le_of_ble_eq_true rfl⟩ (Nat.le_of_ble_eq_true rfl) ?_
    exact ⟨rfl, rfl⟩
theorem e8_sides {s : xs} {w h : Int32} (k : okS2 w h = true) : Ev_X8_requireSides [.int w, .int h] (wd s) (.inl none) (wd s) := by
  unfold okS2 at k
  rw [Bool.and_eq_true] at k
  refine ⟨Nat.le_of_ble_eq_true rfl, Nat.le_refl _, rfl, ?_⟩
  refine R1 (g' := (1, _, _, _, _, _)) rfl rfl ?_
  refine R1 (g' := (2, _, .int (nI 5) :: _, _, _, _)) rfl rfl ?_
  refine R1 (g' := (4, _, .int (nI 100) :: _, _, _, _)) rfl rfl ?_
  refine R_call3 (Or.inl ⟨rfl, rfl⟩) rfl rfl ⟨Nat.le_of_ble_eq_true rfl, Nat.le_of_ble_eq_true rfl⟩ (Nat.le_of_ble_eq_true rfl) ⟨rfl, rfl⟩ (e8_range k.1) ?_
  refine R1 (g' := (8, _, _, _, _, _)) rfl rfl ?_
  refine R1 (g' := (9, _, .int (nI 5) :: _, _, _, _)) rfl rfl ?_
  refine R1 (g' := (11, _, .int (nI 100) :: _, _, _, _)) rfl rfl ?_
  refine R_call3 (Or.inl ⟨rfl, rfl⟩) rfl rfl ⟨Nat.le_of_ble_eq_true rfl, Nat.le_of_ble_eq_true rfl⟩ (Nat.le_of_ble_eq_true rfl) ⟨rfl, rfl⟩ (e8_range k.2) ?_
  refine R_vret rfl ?_
  exact ⟨rfl, rfl⟩
theorem e8_sidesX {s : xs} {w h : Int32} (k : okS2 w h = false) : Ev_X8_requireSides [.int w, .int h] (wd s) (.inr "java/lang/IllegalArgumentException") (wd s) := by
  unfold okS2 at k
  refine ⟨Nat.le_of_ble_eq_true rfl, Nat.le_refl _, trivial, ?_⟩
  cases k1 : inI w (nI 5) (nI 100) with
  | false =>
    refine R1 (g' := (1, _, _, _, _, _)) rfl rfl ?_
    refine R1 (g' := (2, _, .int (nI 5) :: _, _, _, _)) rfl rfl ?_
    refine R1 (g' := (4, _, .int (nI 100) :: _, _, _, _)) rfl rfl ?_
    refine R_call3X (Or.inl ⟨rfl, rfl⟩) rfl rfl ⟨Nat.le_of_ble_eq_true rfl, Nat.le_of_ble_eq_true rfl⟩ (Nat.le_of_ble_eq_true rfl) ⟨rfl, rfl⟩ (e8_rangeX k1) rfl ?_
    exact ⟨rfl, rfl⟩
  | true =>
    rw [k1, Bool.true_and] at k
    refine R1 (g' := (1, _, _, _, _, _)) rfl rfl ?_
    refine R1 (g' := (2, _, .int (nI 5) :: _, _, _, _)) rfl rfl ?_
    refine R1 (g' := (4, _, .int (nI 100) :: _, _, _, _)) rfl rfl ?_
    refine R_call3 (Or.inl ⟨rfl, rfl⟩) rfl rfl ⟨Nat.le_of_ble_eq_true rfl, Nat.le_of_ble_eq_true rfl⟩ (Nat.le_of_ble_eq_true rfl) ⟨rfl, rfl⟩ (e8_range k1) ?_
    refine R1 (g' := (8, _, _, _, _, _)) rfl rfl ?_
    refine R1 (g' := (9, _, .int (nI 5) :: _, _, _, _)) rfl rfl ?_
    refine R1 (g' := (11, _, .int (nI 100) :: _, _, _, _)) rfl rfl ?_
    refine R_call3X (Or.inl ⟨rfl, rfl⟩) rfl rfl ⟨Nat.le_of_ble_eq_true rfl, Nat.le_of_ble_eq_true rfl⟩ (Nat.le_of_ble_eq_true rfl) ⟨rfl, rfl⟩ (e8_rangeX k) rfl ?_
    exact ⟨rfl, rfl⟩
theorem okW_eq (w h t : Int32) : okW w h t = (okS2 w h && inI t (nI 0) (nI 9)) := by
  unfold okW okS2
  rw [Bool.and_assoc]
theorem e8_wish {s : xs} {w h t : Int32} (k : okW w h t = true) : Ev_X8_requireWish [.int w, .int h, .int t] (wd s) (.inl none) (wd s) := by
  rw [okW_eq, Bool.and_eq_true] at k
  refine ⟨Nat.le_of_ble_eq_true rfl, Nat.le_refl _, rfl, ?_⟩
  refine R1 (g' := (1, _, _, _, _, _)) rfl rfl ?_
  refine R1 (g' := (2, _, _, _, _, _)) rfl rfl ?_
  refine R_call2 (Or.inl ⟨rfl, rfl⟩) rfl rfl ⟨Nat.le_of_ble_eq_true rfl, Nat.le_of_ble_eq_true rfl⟩ (Nat.le_of_ble_eq_true rfl) ⟨rfl, rfl⟩ (e8_sides k.1) ?_
  refine R1 (g' := (6, _, _, _, _, _)) rfl rfl ?_
  refine R1 (g' := (7, _, .int (nI 0) :: _, _, _, _)) rfl rfl ?_
  refine R1 (g' := (9, _, .int (nI 9) :: _, _, _, _)) rfl rfl ?_
  refine R_call3 (Or.inl ⟨rfl, rfl⟩) rfl rfl ⟨Nat.le_of_ble_eq_true rfl, Nat.le_of_ble_eq_true rfl⟩ (Nat.le_of_ble_eq_true rfl) ⟨rfl, rfl⟩ (e8_range k.2) ?_
  refine R_vret rfl ?_
  exact ⟨rfl, rfl⟩
theorem e8_wishX {s : xs} {w h t : Int32} (k : okW w h t = false) : Ev_X8_requireWish [.int w, .int h, .int t] (wd s) (.inr "java/lang/IllegalArgumentException") (wd s) := by
  rw [okW_eq] at k
  refine ⟨Nat.le_of_ble_eq_true rfl, Nat.le_refl _, trivial, ?_⟩
  cases k1 : okS2 w h with
  | false =>
    refine R1 (g' := (1, _, _, _, _, _)) rfl rfl ?_
    refine R1 (g' := (2, _, _, _, _, _)) rfl rfl ?_
    refine R_call2X (Or.inl ⟨rfl, rfl⟩) rfl rfl ⟨Nat.le_of_ble_eq_true rfl, Nat.le_of_ble_eq_true rfl⟩ (Nat.le_of_ble_eq_true rfl) ⟨rfl, rfl⟩ (e8_sidesX k1) rfl ?_
    exact ⟨rfl, rfl⟩
  | true =>
    rw [k1, Bool.true_and] at k
    refine R1 (g' := (1, _, _, _, _, _)) rfl rfl ?_
    refine R1 (g' := (2, _, _, _, _, _)) rfl rfl ?_
    refine R_call2 (Or.inl ⟨rfl, rfl⟩) rfl rfl ⟨Nat.le_of_ble_eq_true rfl, Nat.le_of_ble_eq_true rfl⟩ (Nat.le_of_ble_eq_true rfl) ⟨rfl, rfl⟩ (e8_sides k1) ?_
    refine R1 (g' := (6, _, _, _, _, _)) rfl rfl ?_
    refine R1 (g' := (7, _, .int (nI 0) :: _, _, _, _)) rfl rfl ?_
    refine R1 (g' := (9, _, .int (nI 9) :: _, _, _, _)) rfl rfl ?_
    refine R_call3X (Or.inl ⟨rfl, rfl⟩) rfl rfl ⟨Nat.le_of_ble_eq_true rfl, Nat.le_of_ble_eq_true rfl⟩ (Nat.le_of_ble_eq_true rfl) ⟨rfl, rfl⟩ (e8_rangeX k) rfl ?_
    exact ⟨rfl, rfl⟩
theorem e8_part {s : xs} {n : Nat} {x : Int32} (hn : s.1 2 0 = nI n) (h : xhas x n = true) : Ev_X8_requirePart [.ref 0, .int x] (wd s) (.inl none) (wd s) := by
  refine ⟨Nat.le_of_ble_eq_true rfl, Nat.le_refl _, rfl, ?_⟩
  refine R1 (g' := (1, _, _, _, _, _)) rfl rfl ?_
  refine R_getf rfl rfl (Nat.le_of_ble_eq_true rfl) rfl rfl ?_
  refine R_getf rfl rfl (Nat.le_of_ble_eq_true rfl) rfl rfl ?_
  refine R1 (g' := (8, _, _, _, _, _)) rfl rfl ?_
  refine R_call2 (Or.inr (Or.inl ⟨rfl, rfl⟩)) rfl rfl ⟨Nat.le_of_ble_eq_true rfl, Nat.le_of_ble_eq_true rfl⟩ (Nat.le_of_ble_eq_true rfl) ⟨rfl, rfl⟩ (⟨⟨_, _, _, rfl, (Nat.le_of_ble_eq_true rfl), rfl⟩, e_has xbar_2 hn⟩) ?_
  refine R_ne 24 rfl rfl (fun h11 => ?_) (fun h => by exact absurd (show bI (xhas x n) = 0 from h) (by rw [‹xhas x n = true›]; decide))
  refine R_vret rfl ?_
  exact ⟨rfl, rfl⟩
theorem e8_partX {s : xs} {n : Nat} {x : Int32} (hn : s.1 2 0 = nI n) (h : xhas x n = false) : Ev_X8_requirePart [.ref 0, .int x] (wd s) (.inr "java/lang/IndexOutOfBoundsException") (wd s) := by
  refine ⟨Nat.le_of_ble_eq_true rfl, Nat.le_refl _, trivial, ?_⟩
  refine R1 (g' := (1, _, _, _, _, _)) rfl rfl ?_
  refine R_getf rfl rfl (Nat.le_of_ble_eq_true rfl) rfl rfl ?_
  refine R_getf rfl rfl (Nat.le_of_ble_eq_true rfl) rfl rfl ?_
  refine R1 (g' := (8, _, _, _, _, _)) rfl rfl ?_
  refine R_call2 (Or.inr (Or.inl ⟨rfl, rfl⟩)) rfl rfl ⟨Nat.le_of_ble_eq_true rfl, Nat.le_of_ble_eq_true rfl⟩ (Nat.le_of_ble_eq_true rfl) ⟨rfl, rfl⟩ (⟨⟨_, _, _, rfl, (Nat.le_of_ble_eq_true rfl), rfl⟩, e_has xbar_2 hn⟩) ?_
  refine R_ne 24 rfl rfl (fun h => by exact absurd (bI_f ‹xhas x n = false›) h) (fun h11 => ?_)
  refine R_throw rfl rfl ⟨Nat.le_of_ble_eq_true rfl, Nat.le_of_ble_eq_true rfl⟩ (Nat.le_of_ble_eq_true rfl) ?_
  exact ⟨rfl, rfl⟩
