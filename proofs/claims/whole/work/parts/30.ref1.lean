def inI (x a b : Int32) : Bool := decide (a ≤ x) && decide (x ≤ b)
theorem e9_in {s : xs} {x a b : Int32} : Ev_X9_in [.int x, .int a, .int b] (wd s) (.inl (some (.int (bI (inI x a b))))) (wd s) := by
  refine ⟨Nat.le_of_ble_eq_true rfl, Nat.le_refl _, Or.inr ⟨rfl, bI_01 _⟩, ?_⟩
  refine R1 (g' := (1, _, _, _, _, _)) rfl rfl ?_
  refine R1 (g' := (2, _, _, _, _, _)) rfl rfl ?_
  refine R_clt 14 rfl rfl (fun h2 => ?_) (fun h2 => ?_)
  · refine R1 (g' := (15, _, .int (nI 0) :: _, _, _, _)) rfl rfl ?_
    refine R_iret rfl ?_
    exact ⟨o_i (by first | exact (bI_t (by simp only [inI, Bool.and_eq_true, decide_eq_true_eq]; exact ⟨Int32.not_lt.mp h2, Int32.not_lt.mp h7⟩)).symm | exact (bI_f (by simp only [inI, Bool.and_eq_false_iff, decide_eq_false_iff_not]; first | exact Or.inl (Int32.not_le.mpr h2) | exact Or.inr (Int32.not_le.mpr h7))).symm), rfl⟩
  · refine R1 (g' := (6, _, _, _, _, _)) rfl rfl ?_
    refine R1 (g' := (7, _, _, _, _, _)) rfl rfl ?_
    refine R_cgt 14 rfl rfl (fun h7 => ?_) (fun h7 => ?_)
    · refine R1 (g' := (15, _, .int (nI 0) :: _, _, _, _)) rfl rfl ?_
      refine R_iret rfl ?_
      exact ⟨o_i (by first | exact (bI_t (by simp only [inI, Bool.and_eq_true, decide_eq_true_eq]; exact ⟨Int32.not_lt.mp h2, Int32.not_lt.mp h7⟩)).symm | exact (bI_f (by simp only [inI, Bool.and_eq_false_iff, decide_eq_false_iff_not]; first | exact Or.inl (Int32.not_le.mpr h2) | exact Or.inr (Int32.not_le.mpr h7))).symm), rfl⟩
    · refine R1 (g' := (11, _, .int (nI 1) :: _, _, _, _)) rfl rfl ?_
      refine R1 (g' := (15, _, _, _, _, _)) rfl rfl ?_
      refine R_iret rfl ?_
      exact ⟨o_i (by first | exact (bI_t (by simp only [inI, Bool.and_eq_true, decide_eq_true_eq]; exact ⟨Int32.not_lt.mp h2, Int32.not_lt.mp h7⟩)).symm | exact (bI_f (by simp only [inI, Bool.and_eq_false_iff, decide_eq_false_iff_not]; first | exact Or.inl (Int32.not_le.mpr h2) | exact Or.inr (Int32.not_le.mpr h7))).symm), rfl⟩
theorem inI_nI {k a b : Nat} (hk : k < 2 ^ 31) (ha : a < 2 ^ 31) (hb : b < 2 ^ 31) : inI (nI k) (nI a) (nI b) = (decide (a ≤ k) && decide (k ≤ b)) := by
  simp only [inI, nI_leI hk hb, nI_leI ha hk]
theorem inI_of {x : Int32} {a b : Nat} (hb : b < 2 ^ 31) (h : inI x (nI a) (nI b) = true) (ha : a < 2 ^ 31) : ∃ k, x = nI k ∧ a ≤ k ∧ k ≤ b := by
  simp only [inI, Bool.and_eq_true, decide_eq_true_eq] at h
  have h0 : ¬ x < 0 := fun z => Int32.lt_irrefl (Int32.lt_of_lt_of_le z (Int32.le_trans (nI_pos' ha) h.1))
  obtain ⟨k, hk, rfl⟩ := nI_of h0
  exact ⟨k, rfl, (nI_leI ha hk).mp h.1, (nI_leI hk hb).mp h.2⟩
theorem e9_lesser {s : xs} {a b : Nat} (ha : a < 2 ^ 31) (hb : b < 2 ^ 31) : Ev_X9_lesser [.int (nI a), .int (nI b)] (wd s) (.inl (some (.int (nI (min a b))))) (wd s) := by
  refine ⟨Nat.le_of_ble_eq_true rfl, Nat.le_refl _, Or.inl rfl, ?_⟩
  refine R1 (g' := (1, _, _, _, _, _)) rfl rfl ?_
  refine R1 (g' := (2, _, _, _, _, _)) rfl rfl ?_
  refine R_cgeN 9 (a) (b) rfl rfl (rfl) (rfl) (by omega) (by omega) (fun h2 => ?_) (fun h2 => ?_)
  · refine R1 (g' := (10, _, _, _, _, _)) rfl rfl ?_
    refine R_iret rfl ?_
    exact ⟨o_i (congrArg nI (by omega)), rfl⟩
  · refine R1 (g' := (6, _, _, _, _, _)) rfl rfl ?_
    refine R1 (g' := (10, _, _, _, _, _)) rfl rfl ?_
    refine R_iret rfl ?_
    exact ⟨o_i (congrArg nI (by omega)), rfl⟩
theorem e9_isSize {s : xs} {x : Int32} : Ev_X9_isSize [.int x] (wd s) (.inl (some (.int (bI (inI x (nI 5) (nI 100)))))) (wd s) := by
  refine ⟨Nat.le_of_ble_eq_true rfl, Nat.le_refl _, Or.inr ⟨rfl, bI_01 _⟩, ?_⟩
  refine R1 (g' := (1, _, _, _, _, _)) rfl rfl ?_
  refine R1 (g' := (2, _, .int (nI 5) :: _, _, _, _)) rfl rfl ?_
  refine R1 (g' := (4, _, .int (nI 100) :: _, _, _, _)) rfl rfl ?_
  refine R_call3 (Or.inl ⟨rfl, rfl⟩) rfl rfl ⟨Nat.le_of_ble_eq_true rfl, Nat.le_of_ble_eq_true rfl⟩ (Nat.le_of_ble_eq_true rfl) ⟨rfl, rfl⟩ (e9_in) ?_
  refine R_iret rfl ?_
  exact ⟨rfl, rfl⟩
theorem isPart_has {x : Int32} {n : Nat} (h1 : 1 ≤ n) (hn : n < 2 ^ 31) : inI x (nI 0) (nI (n - 1)) = xhas x n := by
  by_cases h : x < 0
  · simp only [inI, xhas, decide_eq_false (Int32.not_le.mpr h), decide_eq_false (show ¬ nI 0 ≤ x from Int32.not_le.mpr h), Bool.false_and]
  · obtain ⟨k, hk, rfl⟩ := nI_of h
    rw [inI_nI hk (by decide) (by omega), xhas_nI hk hn]
    by_cases z : k < n
    · rw [decide_eq_true z, decide_eq_true (Nat.zero_le _), decide_eq_true (show k ≤ n - 1 by omega)]; rfl
    · rw [decide_eq_false z, decide_eq_false (show ¬ k ≤ n - 1 by omega), Bool.and_false]
theorem e9_isPart {s : xs} {x : Int32} {n : Nat} (hn : s.1 143 7 = nI n) (h1 : 1 ≤ n) (h2 : n < 2 ^ 31) : Ev_X9_isPart [.ref 142, .int x] (wd s) (.inl (some (.int (bI (xhas x n))))) (wd s) := by
  refine ⟨Nat.le_of_ble_eq_true rfl, Nat.le_refl _, Or.inr ⟨rfl, bI_01 _⟩, ?_⟩
  refine R1 (g' := (1, _, _, _, _, _)) rfl rfl ?_
  refine R1 (g' := (2, _, .int (nI 0) :: _, _, _, _)) rfl rfl ?_
  refine R1 (g' := (3, _, _, _, _, _)) rfl rfl ?_
  refine R_getf rfl rfl (Nat.le_of_ble_eq_true rfl) rfl rfl ?_
  refine R1 (g' := (8, _, .int (nI 7) :: _, _, _, _)) rfl rfl ?_
  refine R_iald 7 rfl (Nat.le_of_ble_eq_true rfl) rfl (by decide) (by decide) rfl ?_
  refine R1 (g' := (10, _, .int (nI 1) :: _, _, _, _)) rfl rfl ?_
  refine R1 (g' := (11, _, _, _, _, _)) rfl rfl ?_
  refine R_call3 (Or.inl ⟨rfl, rfl⟩) rfl rfl ⟨Nat.le_of_ble_eq_true rfl, Nat.le_of_ble_eq_true rfl⟩ (Nat.le_of_ble_eq_true rfl) ⟨rfl, rfl⟩ (e9_in) ?_
  refine R_iret rfl ?_
  exact ⟨o_i (by rw [hn, pk_sub h1, isPart_has h1 h2]), rfl⟩
theorem e9_of {s : xs} {p w i : Nat} (hi : 9 + 4 * p + w = i) (h : i < 73) : Ev_X9_of [.ref 142, .int (nI p), .int (nI w)] (wd s) (.inl (some (.int (s.1 143 i)))) (wd s) := by
  refine ⟨Nat.le_of_ble_eq_true rfl, Nat.le_refl _, Or.inl rfl, ?_⟩
  refine R1 (g' := (1, _, _, _, _, _)) rfl rfl ?_
  refine R_getf rfl rfl (Nat.le_of_ble_eq_true rfl) rfl rfl ?_
  refine R1 (g' := (6, _, .int (nI 9) :: _, _, _, _)) rfl rfl ?_
  refine R1 (g' := (7, _, .int (nI 4) :: _, _, _, _)) rfl rfl ?_
  refine R1 (g' := (8, _, _, _, _, _)) rfl rfl ?_
  refine R1 (g' := (9, _, _, _, _, _)) rfl rfl ?_
  refine R1 (g' := (10, _, _, _, _, _)) rfl rfl ?_
  refine R1 (g' := (11, _, _, _, _, _)) rfl rfl ?_
  refine R1 (g' := (12, _, _, _, _, _)) rfl rfl ?_
  refine R_iald i rfl (Nat.le_of_ble_eq_true rfl) rfl h (by decide) (by rw [pk_mul, nI_add, nI_add, hi]) ?_
  refine R_iret rfl ?_
  exact ⟨rfl, rfl⟩
theorem e9_put {s : xs} {p w i : Nat} {x : Int32} (hi : 9 + 4 * p + w = i) (h : i < 73) : Ev_X9_put [.ref 142, .int (nI p), .int (nI w), .int x] (wd s) (.inl none) (wd (setP s 143 (upd (s.1 143) i x))) := by
  refine ⟨Nat.le_of_ble_eq_true rfl, Nat.le_refl _, rfl, ?_⟩
  refine R1 (g' := (1, _, _, _, _, _)) rfl rfl ?_
  refine R_getf rfl rfl (Nat.le_of_ble_eq_true rfl) rfl rfl ?_
  refine R1 (g' := (6, _, .int (nI 9) :: _, _, _, _)) rfl rfl ?_
  refine R1 (g' := (7, _, .int (nI 4) :: _, _, _, _)) rfl rfl ?_
  refine R1 (g' := (8, _, _, _, _, _)) rfl rfl ?_
  refine R1 (g' := (9, _, _, _, _, _)) rfl rfl ?_
  refine R1 (g' := (10, _, _, _, _, _)) rfl rfl ?_
  refine R1 (g' := (11, _, _, _, _, _)) rfl rfl ?_
  refine R1 (g' := (12, _, _, _, _, _)) rfl rfl ?_
  refine R1 (g' := (13, _, _, _, _, _)) rfl rfl ?_
  refine R_iast i rfl (Nat.le_of_ble_eq_true rfl) (fun _ => rfl) h (by decide) (by rw [pk_mul, nI_add, nI_add, hi]) ?_
  refine R_vret rfl ?_
  exact ⟨rfl, rfl⟩
theorem e9_lengthOf {s : xs} {k : Nat} (hk : k < 8) (h : qPart (s.1 143) k) : Ev_X9_lengthOf [.ref 142, .int (nI k)] (wd s) (.inl (some (.int (nI (qLen (s.1 143) k))))) (wd s) := by
  obtain ⟨p1, p2, p3, p4, p5, p6, p7⟩ := h
  have ha := nRg_iff.mp p4
  have hb := nRg_iff.mp p5
  have hm := Nat.mul_le_mul ha.2 hb.2
  have h0 : 0 < qn (s.1 143) (9 + 4 * k) * qn (s.1 143) (10 + 4 * k) := Nat.mul_pos (by omega) (by omega)
  refine ⟨Nat.le_of_ble_eq_true rfl, Nat.le_refl _, Or.inl rfl, ?_⟩
  refine R1 (g' := (1, _, _, _, _, _)) rfl rfl ?_
  refine R1 (g' := (2, _, _, _, _, _)) rfl rfl ?_
  refine R1 (g' := (3, _, .int (nI 2) :: _, _, _, _)) rfl rfl ?_
  refine R_call3 (Or.inr (Or.inl ⟨rfl, rfl⟩)) rfl rfl ⟨Nat.le_of_ble_eq_true rfl, Nat.le_of_ble_eq_true rfl⟩ (Nat.le_of_ble_eq_true rfl) ⟨rfl, rfl⟩ (⟨⟨_, _, _, rfl, (Nat.le_of_ble_eq_true rfl), rfl⟩, e9_of (i := 11 + 4 * k) (by omega) (by omega)⟩) ?_
  refine R1 (g' := (7, _, _, _, _, _)) rfl rfl ?_
  refine R1 (g' := (8, _, _, _, _, _)) rfl rfl ?_
  refine R1 (g' := (9, _, .int (nI 0) :: _, _, _, _)) rfl rfl ?_
  refine R_call3 (Or.inr (Or.inl ⟨rfl, rfl⟩)) rfl rfl ⟨Nat.le_of_ble_eq_true rfl, Nat.le_of_ble_eq_true rfl⟩ (Nat.le_of_ble_eq_true rfl) ⟨rfl, rfl⟩ (⟨⟨_, _, _, rfl, (Nat.le_of_ble_eq_true rfl), rfl⟩, e9_of (i := 9 + 4 * k) (by omega) (by omega)⟩) ?_
  refine R1 (g' := (13, _, _, _, _, _)) rfl rfl ?_
  refine R1 (g' := (14, _, _, _, _, _)) rfl rfl ?_
  refine R1 (g' := (15, _, .int (nI 1) :: _, _, _, _)) rfl rfl ?_
  refine R_call3 (Or.inr (Or.inl ⟨rfl, rfl⟩)) rfl rfl ⟨Nat.le_of_ble_eq_true rfl, Nat.le_of_ble_eq_true rfl⟩ (Nat.le_of_ble_eq_true rfl) ⟨rfl, rfl⟩ (⟨⟨_, _, _, rfl, (Nat.le_of_ble_eq_true rfl), rfl⟩, e9_of (i := 10 + 4 * k) (by omega) (by omega)⟩) ?_
  rw [p1, p2, p3]
  refine R1 (g' := (19, _, _, _, _, _)) rfl rfl ?_
  rw [pk_mul]
  refine R_idiv rfl (nI_ne0 h0 (by omega)) ?_
  refine R_iret rfl ?_
  exact ⟨o_i (by rw [pk_div (by omega) h0 (by omega)]; rfl), rfl⟩
theorem e9_volumes_loop {s : xs} {n : Nat} (hn : s.1 143 7 = nI n) (hn8 : n ≤ 8) : ∀ (d k : Nat), k + d = n → xRun M_X9_volumes (fun o1 w1 => o1 = .inl (some (.int (csum (fun k => s.1 143 (11 + 4 * k)) n))) ∧ w1 = wd s) (4, [(2, .int (nI k)), (1, .int (csum (fun k => s.1 143 (11 + 4 * k)) k)), (0, .ref 142)], [], wd s, 0, 0) := by
  intro d
  induction d with
  | zero =>
    intro k hk
    have hk : k = n := by omega
    subst hk
    refine R1 (g' := (5, _, _, _, _, _)) rfl rfl ?_
    refine R1 (g' := (6, _, _, _, _, _)) rfl rfl ?_
    refine R_getf rfl rfl (Nat.le_of_ble_eq_true rfl) rfl rfl ?_
    refine R1 (g' := (11, _, .int (nI 7) :: _, _, _, _)) rfl rfl ?_
    refine R_iald 7 rfl (Nat.le_of_ble_eq_true rfl) rfl (by decide) (by decide) rfl ?_
    refine R_cgeN 30 (k) (k) rfl rfl (rfl) (hn) (by omega) (by omega) (fun h12 => ?_) (fun h => by omega)
    refine R1 (g' := (31, _, _, _, _, _)) rfl rfl ?_
    refine R_iret rfl ?_
    exact ⟨rfl, rfl⟩
  | succ d ih =>
    intro k hk
    refine R1 (g' := (5, _, _, _, _, _)) rfl rfl ?_
    refine R1 (g' := (6, _, _, _, _, _)) rfl rfl ?_
    refine R_getf rfl rfl (Nat.le_of_ble_eq_true rfl) rfl rfl ?_
    refine R1 (g' := (11, _, .int (nI 7) :: _, _, _, _)) rfl rfl ?_
    refine R_iald 7 rfl (Nat.le_of_ble_eq_true rfl) rfl (by decide) (by decide) rfl ?_
    refine R_cgeN 30 (k) (n) rfl rfl (rfl) (hn) (by omega) (by omega) (fun h => by omega) (fun h12 => ?_)
    refine R1 (g' := (16, _, _, _, _, _)) rfl rfl ?_
    refine R1 (g' := (17, _, _, _, _, _)) rfl rfl ?_
    refine R1 (g' := (18, _, _, _, _, _)) rfl rfl ?_
    refine R1 (g' := (19, _, .int (nI 2) :: _, _, _, _)) rfl rfl ?_
    refine R_call3 (Or.inr (Or.inl ⟨rfl, rfl⟩)) rfl rfl ⟨Nat.le_of_ble_eq_true rfl, Nat.le_of_ble_eq_true rfl⟩ (Nat.le_of_ble_eq_true rfl) ⟨rfl, rfl⟩ (⟨⟨_, _, _, rfl, (Nat.le_of_ble_eq_true rfl), rfl⟩, e9_of (i := 11 + 4 * k) (by omega) (by omega)⟩) ?_
    refine R1 (g' := (23, _, _, _, _, _)) rfl rfl ?_
    refine R1 (g' := (24, _, _, _, _, _)) rfl rfl ?_
    refine R1 (g' := (27, _, _, _, _, _)) rfl rfl ?_
    refine R1 (g' := (4, _, _, _, _, _)) rfl rfl ?_
    refine R_lv [(2, .int (nI (k + 1))), (1, .int (csum (fun k => s.1 143 (11 + 4 * k)) (k + 1))), (0, .ref 142)] rfl (List.forall_mem_cons.mpr ⟨by rw [nI_succ k]; rfl, List.forall_mem_cons.mpr ⟨rfl, List.forall_mem_cons.mpr ⟨rfl, fun _ h => absurd h List.not_mem_nil⟩⟩⟩) ⟨rfl, rfl⟩ ?_
    exact ih (k + 1) (by omega)
theorem e9_volumes {s : xs} {n : Nat} (hn : s.1 143 7 = nI n) (hn8 : n ≤ 8) : Ev_X9_volumes [.ref 142] (wd s) (.inl (some (.int (csum (fun k => s.1 143 (11 + 4 * k)) n)))) (wd s) := by
  refine ⟨Nat.le_of_ble_eq_true rfl, Nat.le_refl _, Or.inl rfl, ?_⟩
  refine R1 (g' := (1, _, .int (nI 0) :: _, _, _, _)) rfl rfl ?_
  refine R1 (g' := (2, _, _, _, _, _)) rfl rfl ?_
  refine R1 (g' := (3, _, .int (nI 0) :: _, _, _, _)) rfl rfl ?_
  refine R1 (g' := (4, _, _, _, _, _)) rfl rfl ?_
  exact R_lv [(2, .int (nI 0)), (1, .int (csum (fun k => s.1 143 (11 + 4 * k)) 0)), (0, .ref 142)] rfl (List.forall_mem_cons.mpr ⟨rfl, List.forall_mem_cons.mpr ⟨rfl, List.forall_mem_cons.mpr ⟨rfl, fun _ h => absurd h List.not_mem_nil⟩⟩⟩) ⟨rfl, rfl⟩ (e9_volumes_loop hn hn8  n 0 (Nat.zero_add _))
theorem e9_lengths_loop {s : xs} {n : Nat} (hn : s.1 143 7 = nI n) (hn8 : n ≤ 8) (hp : ∀ k, k < n → qPart (s.1 143) k) : ∀ (d k : Nat), k + d = n → xRun M_X9_lengths (fun o1 w1 => o1 = .inl (some (.int (csum (fun k => nI (qLen (s.1 143) k)) n))) ∧ w1 = wd s) (4, [(2, .int (nI k)), (1, .int (csum (fun k => nI (qLen (s.1 143) k)) k)), (0, .ref 142)], [], wd s, 0, 0) := by
  intro d
  induction d with
  | zero =>
    intro k hk
    have hk : k = n := by omega
    subst hk
    refine R1 (g' := (5, _, _, _, _, _)) rfl rfl ?_
    refine R1 (g' := (6, _, _, _, _, _)) rfl rfl ?_
    refine R_getf rfl rfl (Nat.le_of_ble_eq_true rfl) rfl rfl ?_
    refine R1 (g' := (11, _, .int (nI 7) :: _, _, _, _)) rfl rfl ?_
    refine R_iald 7 rfl (Nat.le_of_ble_eq_true rfl) rfl (by decide) (by decide) rfl ?_
    refine R_cgeN 29 (k) (k) rfl rfl (rfl) (hn) (by omega) (by omega) (fun h12 => ?_) (fun h => by omega)
    refine R1 (g' := (30, _, _, _, _, _)) rfl rfl ?_
    refine R_iret rfl ?_
    exact ⟨rfl, rfl⟩
  | succ d ih =>
    intro k hk
    refine R1 (g' := (5, _, _, _, _, _)) rfl rfl ?_
    refine R1 (g' := (6, _, _, _, _, _)) rfl rfl ?_
    refine R_getf rfl rfl (Nat.le_of_ble_eq_true rfl) rfl rfl ?_
    refine R1 (g' := (11, _, .int (nI 7) :: _, _, _, _)) rfl rfl ?_
    refine R_iald 7 rfl (Nat.le_of_ble_eq_true rfl) rfl (by decide) (by decide) rfl ?_
    refine R_cgeN 29 (k) (n) rfl rfl (rfl) (hn) (by omega) (by omega) (fun h => by omega) (fun h12 => ?_)
    refine R1 (g' := (16, _, _, _, _, _)) rfl rfl ?_
    refine R1 (g' := (17, _, _, _, _, _)) rfl rfl ?_
    refine R1 (g' := (18, _, _, _, _, _)) rfl rfl ?_
    refine R_call2 (Or.inr (Or.inl ⟨rfl, rfl⟩)) rfl rfl ⟨Nat.le_of_ble_eq_true rfl, Nat.le_of_ble_eq_true rfl⟩ (Nat.le_of_ble_eq_true rfl) ⟨rfl, rfl⟩ (⟨⟨_, _, _, rfl, (Nat.le_of_ble_eq_true rfl), rfl⟩, e9_lengthOf (by omega) (hp k (by omega))⟩) ?_
    refine R1 (g' := (22, _, _, _, _, _)) rfl rfl ?_
    refine R1 (g' := (23, _, _, _, _, _)) rfl rfl ?_
    refine R1 (g' := (26, _, _, _, _, _)) rfl rfl ?_
    refine R1 (g' := (4, _, _, _, _, _)) rfl rfl ?_
    refine R_lv [(2, .int (nI (k + 1))), (1, .int (csum (fun k => nI (qLen (s.1 143) k)) (k + 1))), (0, .ref 142)] rfl (List.forall_mem_cons.mpr ⟨by rw [nI_succ k]; rfl, List.forall_mem_cons.mpr ⟨rfl, List.forall_mem_cons.mpr ⟨rfl, fun _ h => absurd h List.not_mem_nil⟩⟩⟩) ⟨rfl, rfl⟩ ?_
    exact ih (k + 1) (by omega)
theorem e9_lengths {s : xs} {n : Nat} (hn : s.1 143 7 = nI n) (hn8 : n ≤ 8) (hp : ∀ k, k < n → qPart (s.1 143) k) : Ev_X9_lengths [.ref 142] (wd s) (.inl (some (.int (csum (fun k => nI (qLen (s.1 143) k)) n)))) (wd s) := by
  refine ⟨Nat.le_of_ble_eq_true rfl, Nat.le_refl _, Or.inl rfl, ?_⟩
  refine R1 (g' := (1, _, .int (nI 0) :: _, _, _, _)) rfl rfl ?_
  refine R1 (g' := (2, _, _, _, _, _)) rfl rfl ?_
  refine R1 (g' := (3, _, .int (nI 0) :: _, _, _, _)) rfl rfl ?_
  refine R1 (g' := (4, _, _, _, _, _)) rfl rfl ?_
  exact R_lv [(2, .int (nI 0)), (1, .int (csum (fun k => nI (qLen (s.1 143) k)) 0)), (0, .ref 142)] rfl (List.forall_mem_cons.mpr ⟨rfl, List.forall_mem_cons.mpr ⟨rfl, List.forall_mem_cons.mpr ⟨rfl, fun _ h => absurd h List.not_mem_nil⟩⟩⟩) ⟨rfl, rfl⟩ (e9_lengths_loop hn hn8 hp n 0 (Nat.zero_add _))
theorem setP_S (s : xs) {f g h : Nat → Int32} {i : Nat} (e : g = h) : setP (setP s i f) i g = setP s i h := by rw [setP_setP, e]
theorem e9_begins {s : xs} {w h v : Int32} : Ev_X9_begins [.ref 142, .int w, .int h, .int v] (wd s) (.inl none) (wd (setP s 143 (qBegin (s.1 143) w h v))) := by
  refine ⟨Nat.le_of_ble_eq_true rfl, Nat.le_refl _, rfl, ?_⟩
  refine R1 (g' := (1, _, _, _, _, _)) rfl rfl ?_
  refine R_getf rfl rfl (Nat.le_of_ble_eq_true rfl) rfl rfl ?_
  refine R1 (g' := (5, _, .int (nI 0) :: _, _, _, _)) rfl rfl ?_
  refine R1 (g' := (8, _, .int (nI 1250) :: _, _, _, _)) rfl rfl ?_
  refine R_iast 0 rfl (Nat.le_of_ble_eq_true rfl) (fun _ => rfl) (by decide) (by decide) rfl ?_
  refine R1 (g' := (10, _, _, _, _, _)) rfl rfl ?_
  refine R_getf rfl rfl (Nat.le_of_ble_eq_true rfl) rfl rfl ?_
  refine R1 (g' := (14, _, .int (nI 2) :: _, _, _, _)) rfl rfl ?_
  refine R1 (g' := (15, _, .int (nI 0) :: _, _, _, _)) rfl rfl ?_
  refine R_iast 2 rfl (Nat.le_of_ble_eq_true rfl) (fun _ => rfl) (by decide) (by decide) rfl ?_
  refine R1 (g' := (17, _, _, _, _, _)) rfl rfl ?_
  refine R_getf rfl rfl (Nat.le_of_ble_eq_true rfl) rfl rfl ?_
  refine R1 (g' := (21, _, .int (nI 3) :: _, _, _, _)) rfl rfl ?_
  refine R1 (g' := (22, _, .int (nI 0) :: _, _, _, _)) rfl rfl ?_
  refine R_iast 3 rfl (Nat.le_of_ble_eq_true rfl) (fun _ => rfl) (by decide) (by decide) rfl ?_
  refine R1 (g' := (24, _, _, _, _, _)) rfl rfl ?_
  refine R_getf rfl rfl (Nat.le_of_ble_eq_true rfl) rfl rfl ?_
  refine R1 (g' := (28, _, .int (nI 4) :: _, _, _, _)) rfl rfl ?_
  refine R1 (g' := (29, _, .int (nI 0) :: _, _, _, _)) rfl rfl ?_
  refine R_iast 4 rfl (Nat.le_of_ble_eq_true rfl) (fun _ => rfl) (by decide) (by decide) rfl ?_
  refine R1 (g' := (31, _, _, _, _, _)) rfl rfl ?_
  refine R_getf rfl rfl (Nat.le_of_ble_eq_true rfl) rfl rfl ?_
  refine R1 (g' := (35, _, .int (nI 5) :: _, _, _, _)) rfl rfl ?_
  refine R1 (g' := (36, _, .int (nI 0) :: _, _, _, _)) rfl rfl ?_
  refine R_iast 5 rfl (Nat.le_of_ble_eq_true rfl) (fun _ => rfl) (by decide) (by decide) rfl ?_
  refine R1 (g' := (38, _, _, _, _, _)) rfl rfl ?_
  refine R_getf rfl rfl (Nat.le_of_ble_eq_true rfl) rfl rfl ?_
  refine R1 (g' := (43, _, .int (nI 6) :: _, _, _, _)) rfl rfl ?_
  refine R1 (g' := (44, _, _, _, _, _)) rfl rfl ?_
  refine R_iast 6 rfl (Nat.le_of_ble_eq_true rfl) (fun _ => rfl) (by decide) (by decide) rfl ?_
  refine R1 (g' := (46, _, _, _, _, _)) rfl rfl ?_
  refine R_getf rfl rfl (Nat.le_of_ble_eq_true rfl) rfl rfl ?_
  refine R1 (g' := (51, _, .int (nI 7) :: _, _, _, _)) rfl rfl ?_
  refine R1 (g' := (52, _, .int (nI 1) :: _, _, _, _)) rfl rfl ?_
  refine R_iast 7 rfl (Nat.le_of_ble_eq_true rfl) (fun _ => rfl) (by decide) (by decide) rfl ?_
  refine R1 (g' := (54, _, _, _, _, _)) rfl rfl ?_
  refine R1 (g' := (55, _, .int (nI 0) :: _, _, _, _)) rfl rfl ?_
  refine R1 (g' := (56, _, .int (nI 0) :: _, _, _, _)) rfl rfl ?_
  refine R1 (g' := (57, _, _, _, _, _)) rfl rfl ?_
  refine R_call4 (Or.inr (Or.inl ⟨rfl, rfl⟩)) rfl rfl ⟨Nat.le_of_ble_eq_true rfl, Nat.le_of_ble_eq_true rfl⟩ (Nat.le_of_ble_eq_true rfl) ⟨rfl, rfl⟩ (⟨⟨_, _, _, rfl, (Nat.le_of_ble_eq_true rfl), rfl⟩, e9_put (i := 9) (by omega) (by decide)⟩) ?_
  refine R1 (g' := (61, _, _, _, _, _)) rfl rfl ?_
  refine R1 (g' := (62, _, .int (nI 0) :: _, _, _, _)) rfl rfl ?_
  refine R1 (g' := (63, _, .int (nI 1) :: _, _, _, _)) rfl rfl ?_
  refine R1 (g' := (64, _, _, _, _, _)) rfl rfl ?_
  refine R_call4 (Or.inr (Or.inl ⟨rfl, rfl⟩)) rfl rfl ⟨Nat.le_of_ble_eq_true rfl, Nat.le_of_ble_eq_true rfl⟩ (Nat.le_of_ble_eq_true rfl) ⟨rfl, rfl⟩ (⟨⟨_, _, _, rfl, (Nat.le_of_ble_eq_true rfl), rfl⟩, e9_put (i := 10) (by omega) (by decide)⟩) ?_
  refine R1 (g' := (68, _, _, _, _, _)) rfl rfl ?_
  refine R1 (g' := (69, _, .int (nI 0) :: _, _, _, _)) rfl rfl ?_
  refine R1 (g' := (70, _, .int (nI 2) :: _, _, _, _)) rfl rfl ?_
  refine R1 (g' := (71, _, _, _, _, _)) rfl rfl ?_
  refine R_call4 (Or.inr (Or.inl ⟨rfl, rfl⟩)) rfl rfl ⟨Nat.le_of_ble_eq_true rfl, Nat.le_of_ble_eq_true rfl⟩ (Nat.le_of_ble_eq_true rfl) ⟨rfl, rfl⟩ (⟨⟨_, _, _, rfl, (Nat.le_of_ble_eq_true rfl), rfl⟩, e9_put (i := 11) (by omega) (by decide)⟩) ?_
  refine R1 (g' := (75, _, _, _, _, _)) rfl rfl ?_
  refine R1 (g' := (76, _, .int (nI 0) :: _, _, _, _)) rfl rfl ?_
  refine R1 (g' := (77, _, .int (nI 3) :: _, _, _, _)) rfl rfl ?_
  refine R1 (g' := (78, _, .int (nI 0) :: _, _, _, _)) rfl rfl ?_
  refine R_call4 (Or.inr (Or.inl ⟨rfl, rfl⟩)) rfl rfl ⟨Nat.le_of_ble_eq_true rfl, Nat.le_of_ble_eq_true rfl⟩ (Nat.le_of_ble_eq_true rfl) ⟨rfl, rfl⟩ (⟨⟨_, _, _, rfl, (Nat.le_of_ble_eq_true rfl), rfl⟩, e9_put (i := 12) (by omega) (by decide)⟩) ?_
  refine R_vret rfl ?_
  refine ⟨rfl, congrArg wd ?_⟩
  simp only [setP_setP, setP_at]
  congr 1
  funext i
  simp only [upd, qBegin]
  by_cases h0 : i ≤ 12
  · rcases (show i = 0 ∨ i = 1 ∨ i = 2 ∨ i = 3 ∨ i = 4 ∨ i = 5 ∨ i = 6 ∨ i = 7 ∨ i = 8 ∨ i = 9 ∨ i = 10 ∨ i = 11 ∨ i = 12 by omega) with rfl | rfl | rfl | rfl | rfl | rfl | rfl | rfl | rfl | rfl | rfl | rfl | rfl <;> rfl
  · repeat (first | rw [if_pos (by omega)] | rw [if_neg (by omega)])
def nxt (s : xs) (a b : Nat) : xs := put (put s 142 7 (nI a)) 142 8 (nI b)
theorem nxt_ne {s : xs} {a b i : Nat} (h : i ≠ 142) : (nxt s a b).1 i = s.1 i := by rw [nxt, put_ne _ _ h, put_ne _ _ h]
theorem nxt_7 {s : xs} {a b : Nat} : (nxt s a b).1 142 7 = nI a := by simp [nxt, put_val]
theorem nxt_8 {s : xs} {a b : Nat} : (nxt s a b).1 142 8 = nI b := by simp [nxt, put_val]
theorem nxt_nxt {s : xs} {a b c d : Nat} : nxt (nxt s a b) c d = nxt s c d := by
  simp only [nxt, put, setP_setP, setP_at]
  congr 1
  funext i
  simp only [upd]
  by_cases h : i = 8
  · rw [if_pos h, if_pos h]
  · rw [if_neg h, if_neg h]
    by_cases h7 : i = 7
    · rw [if_pos h7, if_neg h, if_pos h7]
    · rw [if_neg h7, if_neg h7, if_neg h, if_neg h7]
theorem nCan_f1 {a b q v : Nat} (h : (decide (5 ≤ nNW a b q) && decide (nNW a b q ≤ 100)) = false) : bI (nCan a b q v) = 0 := by
  have e : nRg (nNW a b q) = false := h
  simp only [nCan, e, Bool.false_and, Bool.and_false]
  rfl
theorem nCan_f2 {a b q v : Nat} (h : (decide (5 ≤ nNH a b q) && decide (nNH a b q ≤ 100)) = false) : bI (nCan a b q v) = 0 := by
  have e : nRg (nNH a b q) = false := h
  simp only [nCan, e, Bool.and_false]
  rfl
theorem nCan_f3 {a b q v : Nat} (h : (decide (q < 2) || nUp a b v) = false) : bI (nCan a b q v) = 0 := by
  simp only [nCan, h, Bool.false_and]
  rfl
theorem nCan_t {a b q v : Nat} (h1 : (decide (5 ≤ nNW a b q) && decide (nNW a b q ≤ 100)) = true) (h2 : (decide (5 ≤ nNH a b q) && decide (nNH a b q ≤ 100)) = true) (h : (decide (q < 2) || nUp a b v) = true) : bI (nCan a b q v) = 1 := by
  have e1 : nRg (nNW a b q) = true := h1
  have e2 : nRg (nNH a b q) = true := h2
  simp only [nCan, h, e1, e2, Bool.and_self]
  rfl
theorem nUp_t {a b v : Nat} (h1 : 1 ≤ v / (a * b)) (h2 : v / (a * b) ≤ 3 * min a b) : (decide (2 < 2) || nUp a b v) = true := by
  show (decide (2 < 2) || (decide (1 ≤ v / (a * b)) && decide (v / (a * b) ≤ 3 * min a b))) = true
  rw [decide_eq_true h1, decide_eq_true h2]
  rfl
theorem nUp_lo {a b v : Nat} (h1 : v / (a * b) < 1) : (decide (2 < 2) || nUp a b v) = false := by
  show (decide (2 < 2) || (decide (1 ≤ v / (a * b)) && decide (v / (a * b) ≤ 3 * min a b))) = false
  rw [decide_eq_false (Nat.not_le.mpr h1)]
  rfl
theorem nUp_hi {a b v : Nat} (h1 : 3 * min a b < v / (a * b)) : (decide (2 < 2) || nUp a b v) = false := by
  show (decide (2 < 2) || (decide (1 ≤ v / (a * b)) && decide (v / (a * b) ≤ 3 * min a b))) = false
  rw [decide_eq_false (Nat.not_le.mpr h1), Bool.and_false]
  rfl
theorem e9_would {s : xs} {a b q v : Nat} (ha : nRg a = true) (hb : nRg b = true) (hq : q ≤ 2) (hv : v < 2 ^ 31) : Ev_X9_would [.ref 142, .int (nI a), .int (nI b), .int (nI q), .int (nI v)] (wd s) (.inl (some (.int (bI (nCan a b q v))))) (wd (nxt s (nNW a b q) (nNH a b q))) := by
  rw [nRg_iff] at ha hb
  have hm := Nat.mul_le_mul ha.2 hb.2
  have hab : 0 < a * b := Nat.mul_pos (by omega) (by omega)
  have hdb := nD_b b (by omega)
  have hda := nD_b a (by omega)
  have hla := nD_le a
  have hlb := nD_le b
  have hl : v / (a * b) ≤ v := Nat.div_le_self _ _
  refine ⟨Nat.le_of_ble_eq_true rfl, Nat.le_refl _, Or.inr ⟨rfl, bI_01 _⟩, ?_⟩
  rcases (show q = 0 ∨ q = 1 ∨ q = 2 by omega) with rfl | rfl | rfl
  · have key : xRun M_X9_would (fun o1 w1 => o1 = .inl (some (.int (bI (nCan a b 0 v)))) ∧ w1 = wd (nxt s (nNW a b 0) (nNH a b 0))) (27, [(5, .int (nI b)), (0, .ref 142), (1, .int (nI a)), (2, .int (nI b)), (3, .int (nI 0)), (4, .int (nI v))], [.int (nI (nD b))], wd s, 0, 0) := by
      refine R1 (g' := (29, _, _, _, _, _)) rfl rfl ?_
      refine R1 (g' := (30, _, _, _, _, _)) rfl rfl ?_
      refine R1 (g' := (31, _, .int (nI 0) :: _, _, _, _)) rfl rfl ?_
      refine R_ne 43 rfl rfl (fun h => by exact absurd h (by decide)) (fun h31 => ?_)
      refine R1 (g' := (35, _, _, _, _, _)) rfl rfl ?_
      refine R1 (g' := (37, _, _, _, _, _)) rfl rfl ?_
      refine R1 (g' := (38, _, .int (nI 3) :: _, _, _, _)) rfl rfl ?_
      refine R_idiv rfl (by decide) ?_
      rw [pk_div (by omega) (by decide) (by decide)]
      refine R1 (g' := (40, _, _, _, _, _)) rfl rfl ?_
      refine R1 (g' := (58, _, _, _, _, _)) rfl rfl ?_
      rw [nI_add]
      refine R_put rfl rfl (Nat.le_of_ble_eq_true rfl) rfl (Nat.le_of_ble_eq_true rfl) ⟨_, rfl, Or.inl rfl, _, rfl, rfl⟩ rfl ?_
      refine R1 (g' := (62, _, _, _, _, _)) rfl rfl ?_
      refine R1 (g' := (63, _, .int (nI 0) :: _, _, _, _)) rfl rfl ?_
      refine R_ne 73 rfl rfl (fun h => by exact absurd h (by decide)) (fun h63 => ?_)
      refine R1 (g' := (67, _, _, _, _, _)) rfl rfl ?_
      refine R1 (g' := (69, _, _, _, _, _)) rfl rfl ?_
      refine R1 (g' := (70, _, _, _, _, _)) rfl rfl ?_
      rw [pk_sub (by omega)]
      refine R1 (g' := (90, _, _, _, _, _)) rfl rfl ?_
      refine R_put rfl rfl (Nat.le_of_ble_eq_true rfl) rfl (Nat.le_of_ble_eq_true rfl) ⟨_, rfl, Or.inl rfl, _, rfl, rfl⟩ rfl ?_
      change xRun _ _ (93, _, _, wd (nxt s (nNW a b 0) (nNH a b 0)), _, _)
      refine R1 (g' := (95, _, _, _, _, _)) rfl rfl ?_
      refine R1 (g' := (96, _, _, _, _, _)) rfl rfl ?_
      refine R1 (g' := (97, _, _, _, _, _)) rfl rfl ?_
      refine R1 (g' := (98, _, _, _, _, _)) rfl rfl ?_
      rw [pk_mul]
      refine R_idiv rfl (nI_ne0 hab (by omega)) ?_
      rw [pk_div (by omega) hab (by omega)]
      refine R1 (g' := (101, _, _, _, _, _)) rfl rfl ?_
      refine R1 (g' := (102, _, .int (nI 0) :: _, _, _, _)) rfl rfl ?_
      refine R1 (g' := (103, _, .int (nI 2) :: _, _, _, _)) rfl rfl ?_
      refine R_cne 124 rfl rfl (fun h103 => ?_) (fun h => by exact absurd h (by decide))
      refine R1 (g' := (125, _, .int (nI 1) :: _, _, _, _)) rfl rfl ?_
      refine R1 (g' := (129, _, _, _, _, _)) rfl rfl ?_
      refine R1 (g' := (131, _, _, _, _, _)) rfl rfl ?_
      refine R1 (g' := (133, _, _, _, _, _)) rfl rfl ?_
      refine R_eq 160 rfl rfl (fun h => by exact absurd h (by decide)) (fun h133 => ?_)
      refine R1 (g' := (137, _, _, _, _, _)) rfl rfl ?_
      refine R_getf rfl rfl (Nat.le_of_ble_eq_true rfl) rfl rfl ?_
      refine R_call1 (Or.inl ⟨rfl, rfl⟩) rfl rfl ⟨Nat.le_of_ble_eq_true rfl, Nat.le_of_ble_eq_true rfl⟩ (Nat.le_of_ble_eq_true rfl) ⟨rfl, rfl⟩ (e9_isSize) ?_
      rw [nxt_7, inI_nI (by simp [nNW]; omega) (by decide) (by decide)]
      refine R_eq 160 rfl rfl (fun h143 => ?_) (fun h143 => ?_)
      · refine R1 (g' := (161, _, .int (nI 0) :: _, _, _, _)) rfl rfl ?_
        refine R_iret rfl ?_
        first
          | exact absurd h133 (by decide)
          | exact ⟨o_i (nCan_f1 (bI_e h143)).symm, rfl⟩
          | exact ⟨o_i (nCan_f2 (bI_e h153)).symm, rfl⟩
          | exact ⟨o_i (nCan_t (bI_n h143) (bI_n h153) rfl).symm, rfl⟩
          | exact ⟨o_i (nCan_t (bI_n h143) (bI_n h153) (nUp_t (Nat.not_lt.mp h109) (Nat.not_lt.mp h121))).symm, rfl⟩
          | exact ⟨o_i (nCan_f3 (nUp_lo h109)).symm, rfl⟩
          | exact ⟨o_i (nCan_f3 (nUp_hi h121)).symm, rfl⟩
      · refine R1 (g' := (147, _, _, _, _, _)) rfl rfl ?_
        refine R_getf rfl rfl (Nat.le_of_ble_eq_true rfl) rfl rfl ?_
        refine R_call1 (Or.inl ⟨rfl, rfl⟩) rfl rfl ⟨Nat.le_of_ble_eq_true rfl, Nat.le_of_ble_eq_true rfl⟩ (Nat.le_of_ble_eq_true rfl) ⟨rfl, rfl⟩ (e9_isSize) ?_
        rw [nxt_8, inI_nI (by simp [nNH]; omega) (by decide) (by decide)]
        refine R_eq 160 rfl rfl (fun h153 => ?_) (fun h153 => ?_)
        · refine R1 (g' := (161, _, .int (nI 0) :: _, _, _, _)) rfl rfl ?_
          refine R_iret rfl ?_
          first
            | exact absurd h133 (by decide)
            | exact ⟨o_i (nCan_f1 (bI_e h143)).symm, rfl⟩
            | exact ⟨o_i (nCan_f2 (bI_e h153)).symm, rfl⟩
            | exact ⟨o_i (nCan_t (bI_n h143) (bI_n h153) rfl).symm, rfl⟩
            | exact ⟨o_i (nCan_t (bI_n h143) (bI_n h153) (nUp_t (Nat.not_lt.mp h109) (Nat.not_lt.mp h121))).symm, rfl⟩
            | exact ⟨o_i (nCan_f3 (nUp_lo h109)).symm, rfl⟩
            | exact ⟨o_i (nCan_f3 (nUp_hi h121)).symm, rfl⟩
        · refine R1 (g' := (157, _, .int (nI 1) :: _, _, _, _)) rfl rfl ?_
          refine R1 (g' := (161, _, _, _, _, _)) rfl rfl ?_
          refine R_iret rfl ?_
          first
            | exact absurd h133 (by decide)
            | exact ⟨o_i (nCan_f1 (bI_e h143)).symm, rfl⟩
            | exact ⟨o_i (nCan_f2 (bI_e h153)).symm, rfl⟩
            | exact ⟨o_i (nCan_t (bI_n h143) (bI_n h153) rfl).symm, rfl⟩
            | exact ⟨o_i (nCan_t (bI_n h143) (bI_n h153) (nUp_t (Nat.not_lt.mp h109) (Nat.not_lt.mp h121))).symm, rfl⟩
            | exact ⟨o_i (nCan_f3 (nUp_lo h109)).symm, rfl⟩
            | exact ⟨o_i (nCan_f3 (nUp_hi h121)).symm, rfl⟩
    refine R1 (g' := (1, _, .int (nI 0) :: _, _, _, _)) rfl rfl ?_
    refine R_ne 8 rfl rfl (fun h => by exact absurd h (by decide)) (fun h1 => ?_)
    refine R1 (g' := (5, _, _, _, _, _)) rfl rfl ?_
    refine R1 (g' := (9, _, _, _, _, _)) rfl rfl ?_
    refine R1 (g' := (11, _, _, _, _, _)) rfl rfl ?_
    refine R1 (g' := (13, _, _, _, _, _)) rfl rfl ?_
    refine R1 (g' := (15, _, .int (nI 10) :: _, _, _, _)) rfl rfl ?_
    refine R_cgeN 22 (b) (10) rfl rfl (rfl) (rfl) (by omega) (by omega) (fun h15 => ?_) (fun h15 => ?_)
    · refine R1 (g' := (24, _, _, _, _, _)) rfl rfl ?_
      refine R1 (g' := (26, _, .int (nI 10) :: _, _, _, _)) rfl rfl ?_
      refine R_idiv rfl (by decide) ?_
      first
        | (rw [show nI (nD b) = nI 1 from congrArg nI (by unfold nD; rw [if_pos (by omega)])] at key; exact key)
        | (rw [show nI (nD b) = nI b / nI 10 from by rw [pk_div (by omega) (by decide) (by decide)]; exact congrArg nI (by unfold nD; rw [if_neg (by omega)])] at key; exact key)
    · refine R1 (g' := (19, _, .int (nI 1) :: _, _, _, _)) rfl rfl ?_
      refine R1 (g' := (27, _, _, _, _, _)) rfl rfl ?_
      first
        | (rw [show nI (nD b) = nI 1 from congrArg nI (by unfold nD; rw [if_pos (by omega)])] at key; exact key)
        | (rw [show nI (nD b) = nI b / nI 10 from by rw [pk_div (by omega) (by decide) (by decide)]; exact congrArg nI (by unfold nD; rw [if_neg (by omega)])] at key; exact key)
  · have key : xRun M_X9_would (fun o1 w1 => o1 = .inl (some (.int (bI (nCan a b 1 v)))) ∧ w1 = wd (nxt s (nNW a b 1) (nNH a b 1))) (27, [(5, .int (nI a)), (0, .ref 142), (1, .int (nI a)), (2, .int (nI b)), (3, .int (nI 1)), (4, .int (nI v))], [.int (nI (nD a))], wd s, 0, 0) := by
      refine R1 (g' := (29, _, _, _, _, _)) rfl rfl ?_
      refine R1 (g' := (30, _, _, _, _, _)) rfl rfl ?_
      refine R1 (g' := (31, _, .int (nI 1) :: _, _, _, _)) rfl rfl ?_
      refine R_ne 43 rfl rfl (fun h31 => ?_) (fun h => by exact absurd h (by decide))
      refine R1 (g' := (44, _, .int (nI 1) :: _, _, _, _)) rfl rfl ?_
      refine R1 (g' := (45, _, .int (nI 1) :: _, _, _, _)) rfl rfl ?_
      refine R_cne 55 rfl rfl (fun h => by exact absurd h (by decide)) (fun h45 => ?_)
      refine R1 (g' := (49, _, _, _, _, _)) rfl rfl ?_
      refine R1 (g' := (51, _, _, _, _, _)) rfl rfl ?_
      refine R1 (g' := (52, _, _, _, _, _)) rfl rfl ?_
      rw [pk_sub (by omega)]
      refine R1 (g' := (58, _, _, _, _, _)) rfl rfl ?_
      refine R_put rfl rfl (Nat.le_of_ble_eq_true rfl) rfl (Nat.le_of_ble_eq_true rfl) ⟨_, rfl, Or.inl rfl, _, rfl, rfl⟩ rfl ?_
      refine R1 (g' := (62, _, _, _, _, _)) rfl rfl ?_
      refine R1 (g' := (63, _, .int (nI 1) :: _, _, _, _)) rfl rfl ?_
      refine R_ne 73 rfl rfl (fun h63 => ?_) (fun h => by exact absurd h (by decide))
      refine R1 (g' := (74, _, .int (nI 1) :: _, _, _, _)) rfl rfl ?_
      refine R1 (g' := (75, _, .int (nI 1) :: _, _, _, _)) rfl rfl ?_
      refine R_cne 87 rfl rfl (fun h => by exact absurd h (by decide)) (fun h75 => ?_)
      refine R1 (g' := (79, _, _, _, _, _)) rfl rfl ?_
      refine R1 (g' := (81, _, _, _, _, _)) rfl rfl ?_
      refine R1 (g' := (82, _, .int (nI 3) :: _, _, _, _)) rfl rfl ?_
      refine R_idiv rfl (by decide) ?_
      rw [pk_div (by omega) (by decide) (by decide)]
      refine R1 (g' := (84, _, _, _, _, _)) rfl rfl ?_
      refine R1 (g' := (90, _, _, _, _, _)) rfl rfl ?_
      rw [nI_add]
      refine R_put rfl rfl (Nat.le_of_ble_eq_true rfl) rfl (Nat.le_of_ble_eq_true rfl) ⟨_, rfl, Or.inl rfl, _, rfl, rfl⟩ rfl ?_
      change xRun _ _ (93, _, _, wd (nxt s (nNW a b 1) (nNH a b 1)), _, _)
      refine R1 (g' := (95, _, _, _, _, _)) rfl rfl ?_
      refine R1 (g' := (96, _, _, _, _, _)) rfl rfl ?_
      refine R1 (g' := (97, _, _, _, _, _)) rfl rfl ?_
      refine R1 (g' := (98, _, _, _, _, _)) rfl rfl ?_
      rw [pk_mul]
      refine R_idiv rfl (nI_ne0 hab (by omega)) ?_
      rw [pk_div (by omega) hab (by omega)]
      refine R1 (g' := (101, _, _, _, _, _)) rfl rfl ?_
      refine R1 (g' := (102, _, .int (nI 1) :: _, _, _, _)) rfl rfl ?_
      refine R1 (g' := (103, _, .int (nI 2) :: _, _, _, _)) rfl rfl ?_
      refine R_cne 124 rfl rfl (fun h103 => ?_) (fun h => by exact absurd h (by decide))
      refine R1 (g' := (125, _, .int (nI 1) :: _, _, _, _)) rfl rfl ?_
      refine R1 (g' := (129, _, _, _, _, _)) rfl rfl ?_
      refine R1 (g' := (131, _, _, _, _, _)) rfl rfl ?_
      refine R1 (g' := (133, _, _, _, _, _)) rfl rfl ?_
      refine R_eq 160 rfl rfl (fun h => by exact absurd h (by decide)) (fun h133 => ?_)
      refine R1 (g' := (137, _, _, _, _, _)) rfl rfl ?_
      refine R_getf rfl rfl (Nat.le_of_ble_eq_true rfl) rfl rfl ?_
      refine R_call1 (Or.inl ⟨rfl, rfl⟩) rfl rfl ⟨Nat.le_of_ble_eq_true rfl, Nat.le_of_ble_eq_true rfl⟩ (Nat.le_of_ble_eq_true rfl) ⟨rfl, rfl⟩ (e9_isSize) ?_
      rw [nxt_7, inI_nI (by simp [nNW]; omega) (by decide) (by decide)]
      refine R_eq 160 rfl rfl (fun h143 => ?_) (fun h143 => ?_)
      · refine R1 (g' := (161, _, .int (nI 0) :: _, _, _, _)) rfl rfl ?_
        refine R_iret rfl ?_
        first
          | exact absurd h133 (by decide)
          | exact ⟨o_i (nCan_f1 (bI_e h143)).symm, rfl⟩
          | exact ⟨o_i (nCan_f2 (bI_e h153)).symm, rfl⟩
          | exact ⟨o_i (nCan_t (bI_n h143) (bI_n h153) rfl).symm, rfl⟩
          | exact ⟨o_i (nCan_t (bI_n h143) (bI_n h153) (nUp_t (Nat.not_lt.mp h109) (Nat.not_lt.mp h121))).symm, rfl⟩
          | exact ⟨o_i (nCan_f3 (nUp_lo h109)).symm, rfl⟩
          | exact ⟨o_i (nCan_f3 (nUp_hi h121)).symm, rfl⟩
      · refine R1 (g' := (147, _, _, _, _, _)) rfl rfl ?_
        refine R_getf rfl rfl (Nat.le_of_ble_eq_true rfl) rfl rfl ?_
        refine R_call1 (Or.inl ⟨rfl, rfl⟩) rfl rfl ⟨Nat.le_of_ble_eq_true rfl, Nat.le_of_ble_eq_true rfl⟩ (Nat.le_of_ble_eq_true rfl) ⟨rfl, rfl⟩ (e9_isSize) ?_
        rw [nxt_8, inI_nI (by simp [nNH]; omega) (by decide) (by decide)]
        refine R_eq 160 rfl rfl (fun h153 => ?_) (fun h153 => ?_)
        · refine R1 (g' := (161, _, .int (nI 0) :: _, _, _, _)) rfl rfl ?_
          refine R_iret rfl ?_
          first
            | exact absurd h133 (by decide)
            | exact ⟨o_i (nCan_f1 (bI_e h143)).symm, rfl⟩
            | exact ⟨o_i (nCan_f2 (bI_e h153)).symm, rfl⟩
            | exact ⟨o_i (nCan_t (bI_n h143) (bI_n h153) rfl).symm, rfl⟩
            | exact ⟨o_i (nCan_t (bI_n h143) (bI_n h153) (nUp_t (Nat.not_lt.mp h109) (Nat.not_lt.mp h121))).symm, rfl⟩
            | exact ⟨o_i (nCan_f3 (nUp_lo h109)).symm, rfl⟩
            | exact ⟨o_i (nCan_f3 (nUp_hi h121)).symm, rfl⟩
        · refine R1 (g' := (157, _, .int (nI 1) :: _, _, _, _)) rfl rfl ?_
          refine R1 (g' := (161, _, _, _, _, _)) rfl rfl ?_
          refine R_iret rfl ?_
          first
            | exact absurd h133 (by decide)
            | exact ⟨o_i (nCan_f1 (bI_e h143)).symm, rfl⟩
            | exact ⟨o_i (nCan_f2 (bI_e h153)).symm, rfl⟩
            | exact ⟨o_i (nCan_t (bI_n h143) (bI_n h153) rfl).symm, rfl⟩
            | exact ⟨o_i (nCan_t (bI_n h143) (bI_n h153) (nUp_t (Nat.not_lt.mp h109) (Nat.not_lt.mp h121))).symm, rfl⟩
            | exact ⟨o_i (nCan_f3 (nUp_lo h109)).symm, rfl⟩
            | exact ⟨o_i (nCan_f3 (nUp_hi h121)).symm, rfl⟩
    refine R1 (g' := (1, _, .int (nI 1) :: _, _, _, _)) rfl rfl ?_
    refine R_ne 8 rfl rfl (fun h1 => ?_) (fun h => by exact absurd h (by decide))
    refine R1 (g' := (9, _, _, _, _, _)) rfl rfl ?_
    refine R1 (g' := (11, _, _, _, _, _)) rfl rfl ?_
    refine R1 (g' := (13, _, _, _, _, _)) rfl rfl ?_
    refine R1 (g' := (15, _, .int (nI 10) :: _, _, _, _)) rfl rfl ?_
    refine R_cgeN 22 (a) (10) rfl rfl (rfl) (rfl) (by omega) (by omega) (fun h15 => ?_) (fun h15 => ?_)
    · refine R1 (g' := (24, _, _, _, _, _)) rfl rfl ?_
      refine R1 (g' := (26, _, .int (nI 10) :: _, _, _, _)) rfl rfl ?_
      refine R_idiv rfl (by decide) ?_
      first
        | (rw [show nI (nD a) = nI 1 from congrArg nI (by unfold nD; rw [if_pos (by omega)])] at key; exact key)
        | (rw [show nI (nD a) = nI a / nI 10 from by rw [pk_div (by omega) (by decide) (by decide)]; exact congrArg nI (by unfold nD; rw [if_neg (by omega)])] at key; exact key)
    · refine R1 (g' := (19, _, .int (nI 1) :: _, _, _, _)) rfl rfl ?_
      refine R1 (g' := (27, _, _, _, _, _)) rfl rfl ?_
      first
        | (rw [show nI (nD a) = nI 1 from congrArg nI (by unfold nD; rw [if_pos (by omega)])] at key; exact key)
        | (rw [show nI (nD a) = nI a / nI 10 from by rw [pk_div (by omega) (by decide) (by decide)]; exact congrArg nI (by unfold nD; rw [if_neg (by omega)])] at key; exact key)
  · have key : xRun M_X9_would (fun o1 w1 => o1 = .inl (some (.int (bI (nCan a b 2 v)))) ∧ w1 = wd (nxt s (nNW a b 2) (nNH a b 2))) (27, [(5, .int (nI a)), (0, .ref 142), (1, .int (nI a)), (2, .int (nI b)), (3, .int (nI 2)), (4, .int (nI v))], [.int (nI (nD a))], wd s, 0, 0) := by
      refine R1 (g' := (29, _, _, _, _, _)) rfl rfl ?_
      refine R1 (g' := (30, _, _, _, _, _)) rfl rfl ?_
      refine R1 (g' := (31, _, .int (nI 2) :: _, _, _, _)) rfl rfl ?_
      refine R_ne 43 rfl rfl (fun h31 => ?_) (fun h => by exact absurd h (by decide))
      refine R1 (g' := (44, _, .int (nI 2) :: _, _, _, _)) rfl rfl ?_
      refine R1 (g' := (45, _, .int (nI 1) :: _, _, _, _)) rfl rfl ?_
      refine R_cne 55 rfl rfl (fun h45 => ?_) (fun h => by exact absurd h (by decide))
      refine R1 (g' := (56, _, _, _, _, _)) rfl rfl ?_
      refine R1 (g' := (57, _, .int (nI 1) :: _, _, _, _)) rfl rfl ?_
      refine R1 (g' := (58, _, _, _, _, _)) rfl rfl ?_
      rw [nI_add]
      refine R_put rfl rfl (Nat.le_of_ble_eq_true rfl) rfl (Nat.le_of_ble_eq_true rfl) ⟨_, rfl, Or.inl rfl, _, rfl, rfl⟩ rfl ?_
      refine R1 (g' := (62, _, _, _, _, _)) rfl rfl ?_
      refine R1 (g' := (63, _, .int (nI 2) :: _, _, _, _)) rfl rfl ?_
      refine R_ne 73 rfl rfl (fun h63 => ?_) (fun h => by exact absurd h (by decide))
      refine R1 (g' := (74, _, .int (nI 2) :: _, _, _, _)) rfl rfl ?_
      refine R1 (g' := (75, _, .int (nI 1) :: _, _, _, _)) rfl rfl ?_
      refine R_cne 87 rfl rfl (fun h75 => ?_) (fun h => by exact absurd h (by decide))
      refine R1 (g' := (88, _, _, _, _, _)) rfl rfl ?_
      refine R1 (g' := (89, _, .int (nI 1) :: _, _, _, _)) rfl rfl ?_
      refine R1 (g' := (90, _, _, _, _, _)) rfl rfl ?_
      rw [nI_add]
      refine R_put rfl rfl (Nat.le_of_ble_eq_true rfl) rfl (Nat.le_of_ble_eq_true rfl) ⟨_, rfl, Or.inl rfl, _, rfl, rfl⟩ rfl ?_
      change xRun _ _ (93, _, _, wd (nxt s (nNW a b 2) (nNH a b 2)), _, _)
      refine R1 (g' := (95, _, _, _, _, _)) rfl rfl ?_
      refine R1 (g' := (96, _, _, _, _, _)) rfl rfl ?_
      refine R1 (g' := (97, _, _, _, _, _)) rfl rfl ?_
      refine R1 (g' := (98, _, _, _, _, _)) rfl rfl ?_
      rw [pk_mul]
      refine R_idiv rfl (nI_ne0 hab (by omega)) ?_
      rw [pk_div (by omega) hab (by omega)]
      refine R1 (g' := (101, _, _, _, _, _)) rfl rfl ?_
      refine R1 (g' := (102, _, .int (nI 2) :: _, _, _, _)) rfl rfl ?_
      refine R1 (g' := (103, _, .int (nI 2) :: _, _, _, _)) rfl rfl ?_
      refine R_cne 124 rfl rfl (fun h => by exact absurd h (by decide)) (fun h103 => ?_)
      refine R1 (g' := (108, _, _, _, _, _)) rfl rfl ?_
      refine R1 (g' := (109, _, .int (nI 1) :: _, _, _, _)) rfl rfl ?_
      refine R_cltN 128 (v / (a * b)) (1) rfl rfl (rfl) (rfl) (by omega) (by omega) (fun h109 => ?_) (fun h109 => ?_)
      · refine R1 (g' := (129, _, .int (nI 0) :: _, _, _, _)) rfl rfl ?_
        refine R1 (g' := (131, _, _, _, _, _)) rfl rfl ?_
        refine R1 (g' := (133, _, _, _, _, _)) rfl rfl ?_
        refine R_eq 160 rfl rfl (fun h133 => ?_) (fun h133 => ?_)
        · refine R1 (g' := (161, _, .int (nI 0) :: _, _, _, _)) rfl rfl ?_
          refine R_iret rfl ?_
          first
            | exact absurd h133 (by decide)
            | exact ⟨o_i (nCan_f1 (bI_e h143)).symm, rfl⟩
            | exact ⟨o_i (nCan_f2 (bI_e h153)).symm, rfl⟩
            | exact ⟨o_i (nCan_t (bI_n h143) (bI_n h153) rfl).symm, rfl⟩
            | exact ⟨o_i (nCan_t (bI_n h143) (bI_n h153) (nUp_t (Nat.not_lt.mp h109) (Nat.not_lt.mp h121))).symm, rfl⟩
            | exact ⟨o_i (nCan_f3 (nUp_lo h109)).symm, rfl⟩
            | exact ⟨o_i (nCan_f3 (nUp_hi h121)).symm, rfl⟩
        · refine R1 (g' := (137, _, _, _, _, _)) rfl rfl ?_
          refine R_getf rfl rfl (Nat.le_of_ble_eq_true rfl) rfl rfl ?_
          refine R_call1 (Or.inl ⟨rfl, rfl⟩) rfl rfl ⟨Nat.le_of_ble_eq_true rfl, Nat.le_of_ble_eq_true rfl⟩ (Nat.le_of_ble_eq_true rfl) ⟨rfl, rfl⟩ (e9_isSize) ?_
          rw [nxt_7, inI_nI (by simp [nNW]; omega) (by decide) (by decide)]
          refine R_eq 160 rfl rfl (fun h143 => ?_) (fun h143 => ?_)
          · refine R1 (g' := (161, _, .int (nI 0) :: _, _, _, _)) rfl rfl ?_
            refine R_iret rfl ?_
            first
              | exact absurd h133 (by decide)
              | exact ⟨o_i (nCan_f1 (bI_e h143)).symm, rfl⟩
              | exact ⟨o_i (nCan_f2 (bI_e h153)).symm, rfl⟩
              | exact ⟨o_i (nCan_t (bI_n h143) (bI_n h153) rfl).symm, rfl⟩
              | exact ⟨o_i (nCan_t (bI_n h143) (bI_n h153) (nUp_t (Nat.not_lt.mp h109) (Nat.not_lt.mp h121))).symm, rfl⟩
              | exact ⟨o_i (nCan_f3 (nUp_lo h109)).symm, rfl⟩
              | exact ⟨o_i (nCan_f3 (nUp_hi h121)).symm, rfl⟩
          · refine R1 (g' := (147, _, _, _, _, _)) rfl rfl ?_
            refine R_getf rfl rfl (Nat.le_of_ble_eq_true rfl) rfl rfl ?_
            refine R_call1 (Or.inl ⟨rfl, rfl⟩) rfl rfl ⟨Nat.le_of_ble_eq_true rfl, Nat.le_of_ble_eq_true rfl⟩ (Nat.le_of_ble_eq_true rfl) ⟨rfl, rfl⟩ (e9_isSize) ?_
            rw [nxt_8, inI_nI (by simp [nNH]; omega) (by decide) (by decide)]
            refine R_eq 160 rfl rfl (fun h153 => ?_) (fun h153 => ?_)
            · refine R1 (g' := (161, _, .int (nI 0) :: _, _, _, _)) rfl rfl ?_
              refine R_iret rfl ?_
              first
                | exact absurd h133 (by decide)
                | exact ⟨o_i (nCan_f1 (bI_e h143)).symm, rfl⟩
                | exact ⟨o_i (nCan_f2 (bI_e h153)).symm, rfl⟩
                | exact ⟨o_i (nCan_t (bI_n h143) (bI_n h153) rfl).symm, rfl⟩
                | exact ⟨o_i (nCan_t (bI_n h143) (bI_n h153) (nUp_t (Nat.not_lt.mp h109) (Nat.not_lt.mp h121))).symm, rfl⟩
                | exact ⟨o_i (nCan_f3 (nUp_lo h109)).symm, rfl⟩
                | exact ⟨o_i (nCan_f3 (nUp_hi h121)).symm, rfl⟩
            · refine R1 (g' := (157, _, .int (nI 1) :: _, _, _, _)) rfl rfl ?_
              refine R1 (g' := (161, _, _, _, _, _)) rfl rfl ?_
              refine R_iret rfl ?_
              first
                | exact absurd h133 (by decide)
                | exact ⟨o_i (nCan_f1 (bI_e h143)).symm, rfl⟩
                | exact ⟨o_i (nCan_f2 (bI_e h153)).symm, rfl⟩
                | exact ⟨o_i (nCan_t (bI_n h143) (bI_n h153) rfl).symm, rfl⟩
                | exact ⟨o_i (nCan_t (bI_n h143) (bI_n h153) (nUp_t (Nat.not_lt.mp h109) (Nat.not_lt.mp h121))).symm, rfl⟩
                | exact ⟨o_i (nCan_f3 (nUp_lo h109)).symm, rfl⟩
                | exact ⟨o_i (nCan_f3 (nUp_hi h121)).symm, rfl⟩
      · refine R1 (g' := (114, _, _, _, _, _)) rfl rfl ?_
        refine R1 (g' := (115, _, .int (nI 3) :: _, _, _, _)) rfl rfl ?_
        refine R1 (g' := (116, _, _, _, _, _)) rfl rfl ?_
        refine R1 (g' := (117, _, _, _, _, _)) rfl rfl ?_
        refine R_call2 (Or.inl ⟨rfl, rfl⟩) rfl rfl ⟨Nat.le_of_ble_eq_true rfl, Nat.le_of_ble_eq_true rfl⟩ (Nat.le_of_ble_eq_true rfl) ⟨rfl, rfl⟩ (e9_lesser (by omega) (by omega)) ?_
        refine R1 (g' := (121, _, _, _, _, _)) rfl rfl ?_
        rw [pk_mul]
        refine R_cgtN 128 (v / (a * b)) (3 * min a b) rfl rfl (rfl) (rfl) (by omega) (by omega) (fun h121 => ?_) (fun h121 => ?_)
        · refine R1 (g' := (129, _, .int (nI 0) :: _, _, _, _)) rfl rfl ?_
          refine R1 (g' := (131, _, _, _, _, _)) rfl rfl ?_
          refine R1 (g' := (133, _, _, _, _, _)) rfl rfl ?_
          refine R_eq 160 rfl rfl (fun h133 => ?_) (fun h133 => ?_)
          · refine R1 (g' := (161, _, .int (nI 0) :: _, _, _, _)) rfl rfl ?_
            refine R_iret rfl ?_
            first
              | exact absurd h133 (by decide)
              | exact ⟨o_i (nCan_f1 (bI_e h143)).symm, rfl⟩
              | exact ⟨o_i (nCan_f2 (bI_e h153)).symm, rfl⟩
              | exact ⟨o_i (nCan_t (bI_n h143) (bI_n h153) rfl).symm, rfl⟩
              | exact ⟨o_i (nCan_t (bI_n h143) (bI_n h153) (nUp_t (Nat.not_lt.mp h109) (Nat.not_lt.mp h121))).symm, rfl⟩
              | exact ⟨o_i (nCan_f3 (nUp_lo h109)).symm, rfl⟩
              | exact ⟨o_i (nCan_f3 (nUp_hi h121)).symm, rfl⟩
          · refine R1 (g' := (137, _, _, _, _, _)) rfl rfl ?_
            refine R_getf rfl rfl (Nat.le_of_ble_eq_true rfl) rfl rfl ?_
            refine R_call1 (Or.inl ⟨rfl, rfl⟩) rfl rfl ⟨Nat.le_of_ble_eq_true rfl, Nat.le_of_ble_eq_true rfl⟩ (Nat.le_of_ble_eq_true rfl) ⟨rfl, rfl⟩ (e9_isSize) ?_
            rw [nxt_7, inI_nI (by simp [nNW]; omega) (by decide) (by decide)]
            refine R_eq 160 rfl rfl (fun h143 => ?_) (fun h143 => ?_)
            · refine R1 (g' := (161, _, .int (nI 0) :: _, _, _, _)) rfl rfl ?_
              refine R_iret rfl ?_
              first
                | exact absurd h133 (by decide)
                | exact ⟨o_i (nCan_f1 (bI_e h143)).symm, rfl⟩
                | exact ⟨o_i (nCan_f2 (bI_e h153)).symm, rfl⟩
                | exact ⟨o_i (nCan_t (bI_n h143) (bI_n h153) rfl).symm, rfl⟩
                | exact ⟨o_i (nCan_t (bI_n h143) (bI_n h153) (nUp_t (Nat.not_lt.mp h109) (Nat.not_lt.mp h121))).symm, rfl⟩
                | exact ⟨o_i (nCan_f3 (nUp_lo h109)).symm, rfl⟩
                | exact ⟨o_i (nCan_f3 (nUp_hi h121)).symm, rfl⟩
            · refine R1 (g' := (147, _, _, _, _, _)) rfl rfl ?_
              refine R_getf rfl rfl (Nat.le_of_ble_eq_true rfl) rfl rfl ?_
              refine R_call1 (Or.inl ⟨rfl, rfl⟩) rfl rfl ⟨Nat.le_of_ble_eq_true rfl, Nat.le_of_ble_eq_true rfl⟩ (Nat.le_of_ble_eq_true rfl) ⟨rfl, rfl⟩ (e9_isSize) ?_
              rw [nxt_8, inI_nI (by simp [nNH]; omega) (by decide) (by decide)]
              refine R_eq 160 rfl rfl (fun h153 => ?_) (fun h153 => ?_)
              · refine R1 (g' := (161, _, .int (nI 0) :: _, _, _, _)) rfl rfl ?_
                refine R_iret rfl ?_
                first
                  | exact absurd h133 (by decide)
                  | exact ⟨o_i (nCan_f1 (bI_e h143)).symm, rfl⟩
                  | exact ⟨o_i (nCan_f2 (bI_e h153)).symm, rfl⟩
                  | exact ⟨o_i (nCan_t (bI_n h143) (bI_n h153) rfl).symm, rfl⟩
                  | exact ⟨o_i (nCan_t (bI_n h143) (bI_n h153) (nUp_t (Nat.not_lt.mp h109) (Nat.not_lt.mp h121))).symm, rfl⟩
                  | exact ⟨o_i (nCan_f3 (nUp_lo h109)).symm, rfl⟩
                  | exact ⟨o_i (nCan_f3 (nUp_hi h121)).symm, rfl⟩
              · refine R1 (g' := (157, _, .int (nI 1) :: _, _, _, _)) rfl rfl ?_
                refine R1 (g' := (161, _, _, _, _, _)) rfl rfl ?_
                refine R_iret rfl ?_
                first
                  | exact absurd h133 (by decide)
                  | exact ⟨o_i (nCan_f1 (bI_e h143)).symm, rfl⟩
                  | exact ⟨o_i (nCan_f2 (bI_e h153)).symm, rfl⟩
                  | exact ⟨o_i (nCan_t (bI_n h143) (bI_n h153) rfl).symm, rfl⟩
                  | exact ⟨o_i (nCan_t (bI_n h143) (bI_n h153) (nUp_t (Nat.not_lt.mp h109) (Nat.not_lt.mp h121))).symm, rfl⟩
                  | exact ⟨o_i (nCan_f3 (nUp_lo h109)).symm, rfl⟩
                  | exact ⟨o_i (nCan_f3 (nUp_hi h121)).symm, rfl⟩
        · refine R1 (g' := (125, _, .int (nI 1) :: _, _, _, _)) rfl rfl ?_
          refine R1 (g' := (129, _, _, _, _, _)) rfl rfl ?_
          refine R1 (g' := (131, _, _, _, _, _)) rfl rfl ?_
          refine R1 (g' := (133, _, _, _, _, _)) rfl rfl ?_
          refine R_eq 160 rfl rfl (fun h133 => ?_) (fun h133 => ?_)
          · refine R1 (g' := (161, _, .int (nI 0) :: _, _, _, _)) rfl rfl ?_
            refine R_iret rfl ?_
            first
              | exact absurd h133 (by decide)
              | exact ⟨o_i (nCan_f1 (bI_e h143)).symm, rfl⟩
              | exact ⟨o_i (nCan_f2 (bI_e h153)).symm, rfl⟩
              | exact ⟨o_i (nCan_t (bI_n h143) (bI_n h153) rfl).symm, rfl⟩
              | exact ⟨o_i (nCan_t (bI_n h143) (bI_n h153) (nUp_t (Nat.not_lt.mp h109) (Nat.not_lt.mp h121))).symm, rfl⟩
              | exact ⟨o_i (nCan_f3 (nUp_lo h109)).symm, rfl⟩
              | exact ⟨o_i (nCan_f3 (nUp_hi h121)).symm, rfl⟩
          · refine R1 (g' := (137, _, _, _, _, _)) rfl rfl ?_
            refine R_getf rfl rfl (Nat.le_of_ble_eq_true rfl) rfl rfl ?_
            refine R_call1 (Or.inl ⟨rfl, rfl⟩) rfl rfl ⟨Nat.le_of_ble_eq_true rfl, Nat.le_of_ble_eq_true rfl⟩ (Nat.le_of_ble_eq_true rfl) ⟨rfl, rfl⟩ (e9_isSize) ?_
            rw [nxt_7, inI_nI (by simp [nNW]; omega) (by decide) (by decide)]
            refine R_eq 160 rfl rfl (fun h143 => ?_) (fun h143 => ?_)
            · refine R1 (g' := (161, _, .int (nI 0) :: _, _, _, _)) rfl rfl ?_
              refine R_iret rfl ?_
              first
                | exact absurd h133 (by decide)
                | exact ⟨o_i (nCan_f1 (bI_e h143)).symm, rfl⟩
                | exact ⟨o_i (nCan_f2 (bI_e h153)).symm, rfl⟩
                | exact ⟨o_i (nCan_t (bI_n h143) (bI_n h153) rfl).symm, rfl⟩
                | exact ⟨o_i (nCan_t (bI_n h143) (bI_n h153) (nUp_t (Nat.not_lt.mp h109) (Nat.not_lt.mp h121))).symm, rfl⟩
                | exact ⟨o_i (nCan_f3 (nUp_lo h109)).symm, rfl⟩
                | exact ⟨o_i (nCan_f3 (nUp_hi h121)).symm, rfl⟩
            · refine R1 (g' := (147, _, _, _, _, _)) rfl rfl ?_
              refine R_getf rfl rfl (Nat.le_of_ble_eq_true rfl) rfl rfl ?_
              refine R_call1 (Or.inl ⟨rfl, rfl⟩) rfl rfl ⟨Nat.le_of_ble_eq_true rfl, Nat.le_of_ble_eq_true rfl⟩ (Nat.le_of_ble_eq_true rfl) ⟨rfl, rfl⟩ (e9_isSize) ?_
              rw [nxt_8, inI_nI (by simp [nNH]; omega) (by decide) (by decide)]
              refine R_eq 160 rfl rfl (fun h153 => ?_) (fun h153 => ?_)
              · refine R1 (g' := (161, _, .int (nI 0) :: _, _, _, _)) rfl rfl ?_
                refine R_iret rfl ?_
                first
                  | exact absurd h133 (by decide)
                  | exact ⟨o_i (nCan_f1 (bI_e h143)).symm, rfl⟩
                  | exact ⟨o_i (nCan_f2 (bI_e h153)).symm, rfl⟩
                  | exact ⟨o_i (nCan_t (bI_n h143) (bI_n h153) rfl).symm, rfl⟩
                  | exact ⟨o_i (nCan_t (bI_n h143) (bI_n h153) (nUp_t (Nat.not_lt.mp h109) (Nat.not_lt.mp h121))).symm, rfl⟩
                  | exact ⟨o_i (nCan_f3 (nUp_lo h109)).symm, rfl⟩
                  | exact ⟨o_i (nCan_f3 (nUp_hi h121)).symm, rfl⟩
              · refine R1 (g' := (157, _, .int (nI 1) :: _, _, _, _)) rfl rfl ?_
                refine R1 (g' := (161, _, _, _, _, _)) rfl rfl ?_
                refine R_iret rfl ?_
                first
                  | exact absurd h133 (by decide)
                  | exact ⟨o_i (nCan_f1 (bI_e h143)).symm, rfl⟩
                  | exact ⟨o_i (nCan_f2 (bI_e h153)).symm, rfl⟩
                  | exact ⟨o_i (nCan_t (bI_n h143) (bI_n h153) rfl).symm, rfl⟩
                  | exact ⟨o_i (nCan_t (bI_n h143) (bI_n h153) (nUp_t (Nat.not_lt.mp h109) (Nat.not_lt.mp h121))).symm, rfl⟩
                  | exact ⟨o_i (nCan_f3 (nUp_lo h109)).symm, rfl⟩
                  | exact ⟨o_i (nCan_f3 (nUp_hi h121)).symm, rfl⟩
    refine R1 (g' := (1, _, .int (nI 2) :: _, _, _, _)) rfl rfl ?_
    refine R_ne 8 rfl rfl (fun h1 => ?_) (fun h => by exact absurd h (by decide))
    refine R1 (g' := (9, _, _, _, _, _)) rfl rfl ?_
    refine R1 (g' := (11, _, _, _, _, _)) rfl rfl ?_
    refine R1 (g' := (13, _, _, _, _, _)) rfl rfl ?_
    refine R1 (g' := (15, _, .int (nI 10) :: _, _, _, _)) rfl rfl ?_
    refine R_cgeN 22 (a) (10) rfl rfl (rfl) (rfl) (by omega) (by omega) (fun h15 => ?_) (fun h15 => ?_)
    · refine R1 (g' := (24, _, _, _, _, _)) rfl rfl ?_
      refine R1 (g' := (26, _, .int (nI 10) :: _, _, _, _)) rfl rfl ?_
      refine R_idiv rfl (by decide) ?_
      first
        | (rw [show nI (nD a) = nI 1 from congrArg nI (by unfold nD; rw [if_pos (by omega)])] at key; exact key)
        | (rw [show nI (nD a) = nI a / nI 10 from by rw [pk_div (by omega) (by decide) (by decide)]; exact congrArg nI (by unfold nD; rw [if_neg (by omega)])] at key; exact key)
    · refine R1 (g' := (19, _, .int (nI 1) :: _, _, _, _)) rfl rfl ?_
      refine R1 (g' := (27, _, _, _, _, _)) rfl rfl ?_
      first
        | (rw [show nI (nD a) = nI 1 from congrArg nI (by unfold nD; rw [if_pos (by omega)])] at key; exact key)
        | (rw [show nI (nD a) = nI a / nI 10 from by rw [pk_div (by omega) (by decide) (by decide)]; exact congrArg nI (by unfold nD; rw [if_neg (by omega)])] at key; exact key)
