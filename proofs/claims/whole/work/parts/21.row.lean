theorem e_Row_get {s : xs} {i n k : Nat} (hr : xrw i n) (hn : n < 2 ^ 31) (hk : k < n) : Ev_X3_get [.ref i, .int (nI k)] (wd s) (.inl (some (.int (s.1 (i + 1) k)))) (wd s) := by
  refine ⟨Nat.le_of_ble_eq_true rfl, Nat.le_refl _, Or.inl rfl, ?_⟩
  refine R1 (g' := (1, _, _, _, _, _)) rfl rfl ?_
  refine R_lt 22 rfl rfl (fun h => by exact absurd h (nI_pos (by omega))) (fun h1 => ?_)
  refine R1 (g' := (5, _, _, _, _, _)) rfl rfl ?_
  refine R1 (g' := (6, _, _, _, _, _)) rfl rfl ?_
  refine R_getf rfl rfl (Nat.lt_of_succ_lt hr.1) (hr.2.1 _ _ _) rfl ?_
  refine R_alen rfl hr.1 (hr.2.2 _ _ _) ?_
  refine R_cge 22 rfl rfl (fun h => by exact absurd h (nI_ge hk hn)) (fun h10 => ?_)
  refine R1 (g' := (14, _, _, _, _, _)) rfl rfl ?_
  refine R_getf rfl rfl (Nat.lt_of_succ_lt hr.1) (hr.2.1 _ _ _) rfl ?_
  refine R1 (g' := (18, _, _, _, _, _)) rfl rfl ?_
  refine R_iald k rfl hr.1 (hr.2.2 _ _ _) hk hn rfl ?_
  refine R1 (g' := (23, _, _, _, _, _)) rfl rfl ?_
  refine R_iret rfl ?_
  exact ⟨rfl, rfl⟩
theorem e_Row_set {s : xs} {i n k : Nat} {v : Int32} (hr : xrw i n) (hn : n < 2 ^ 31) (hk : k < n) : Ev_X3_set [.ref i, .int (nI k), .int v] (wd s) (.inl none) (wd (setP s (i + 1) (upd (s.1 (i + 1)) k v))) := by
  refine ⟨Nat.le_of_ble_eq_true rfl, Nat.le_refl _, rfl, ?_⟩
  refine R1 (g' := (1, _, _, _, _, _)) rfl rfl ?_
  refine R_lt 20 rfl rfl (fun h => by exact absurd h (nI_pos (by omega))) (fun h1 => ?_)
  refine R1 (g' := (5, _, _, _, _, _)) rfl rfl ?_
  refine R1 (g' := (6, _, _, _, _, _)) rfl rfl ?_
  refine R_getf rfl rfl (Nat.lt_of_succ_lt hr.1) (hr.2.1 _ _ _) rfl ?_
  refine R_alen rfl hr.1 (hr.2.2 _ _ _) ?_
  refine R_cge 20 rfl rfl (fun h => by exact absurd h (nI_ge hk hn)) (fun h10 => ?_)
  refine R1 (g' := (14, _, _, _, _, _)) rfl rfl ?_
  refine R_getf rfl rfl (Nat.lt_of_succ_lt hr.1) (hr.2.1 _ _ _) rfl ?_
  refine R1 (g' := (18, _, _, _, _, _)) rfl rfl ?_
  refine R1 (g' := (19, _, _, _, _, _)) rfl rfl ?_
  refine R_iast k rfl hr.1 (fun _ => hr.2.2 _ _ _) hk hn rfl ?_
  refine R_vret rfl ?_
  exact ⟨rfl, rfl⟩
def pFill (f : Nat → Int32) (v : Int32) (k : Nat) : Nat → Int32 := fun j => if j < k then v else f j
theorem pFill_0 (f : Nat → Int32) (v : Int32) : pFill f v 0 = f := by
  funext j
  simp [pFill]
theorem pFill_s (f : Nat → Int32) (v : Int32) (k : Nat) : upd (pFill f v k) k v = pFill f v (k + 1) := by
  funext j
  simp only [upd, pFill]
  by_cases h : j = k
  · subst h
    simp
  · by_cases h2 : j < k
    · simp [h, h2, Nat.lt_succ_of_lt h2]
    · simp [h, h2, show ¬ j < k + 1 by omega]
theorem setP_setP (s : xs) (i : Nat) (f g : Nat → Int32) : setP (setP s i f) i g = setP s i g := by
  unfold setP
  congr 1
  funext j
  by_cases h : j = i
  · subst h
    simp [va_up]
  · simp [va_up, h]
theorem setP_self (s : xs) (i : Nat) : setP s i (s.1 i) = s := by
  obtain ⟨a, b, c⟩ := s
  unfold setP
  congr 1
  funext j
  by_cases h : j = i
  · subst h
    simp [va_up]
  · simp [va_up, h]
theorem setP_at (s : xs) (i : Nat) (f : Nat → Int32) : (setP s i f).1 i = f := va_up_self _ _ _
theorem setP_ne (s : xs) {i j : Nat} (f : Nat → Int32) (h : j ≠ i) : (setP s i f).1 j = s.1 j := va_up_ne _ _ h
theorem fill_loop {s : xs} {a n : Nat} {v : Int32} {Po : xO → xw → Prop} (ha : a < 151) (hc : ∀ f q g, cellAt a f q g = .inl (0, n, .inl f)) (hn : n < 2 ^ 31) (kk : Po (.inl none) (wd (setP s a (pFill (s.1 a) v n)))) : ∀ (d k : Nat), k + d = n → xRun M_J7_fill_53178 Po (5, [(2, .int (nI k)), (3, .int (nI n)), (0, .ref a), (1, .int v)], [], wd (setP s a (pFill (s.1 a) v k)), 0, 0) := by
  intro d
  induction d with
  | zero =>
    intro k hk
    have hk : k = n := by omega
    subst hk
    refine R1 (g' := (6, _, _, _, _, _)) rfl rfl ?_
    refine R1 (g' := (7, _, _, _, _, _)) rfl rfl ?_
    refine R_cge 20 rfl rfl (fun h7 => ?_) (fun h => by exact absurd (nI_le (Nat.le_refl _) hn) h)
    refine R_vret rfl ?_
    exact kk
  | succ d ih =>
    intro k hk
    have hlt : k < n := by omega
    refine R1 (g' := (6, _, _, _, _, _)) rfl rfl ?_
    refine R1 (g' := (7, _, _, _, _, _)) rfl rfl ?_
    refine R_cge 20 rfl rfl (fun h => by exact absurd h (nI_ge hlt hn)) (fun h7 => ?_)
    refine R1 (g' := (11, _, _, _, _, _)) rfl rfl ?_
    refine R1 (g' := (12, _, _, _, _, _)) rfl rfl ?_
    refine R1 (g' := (13, _, _, _, _, _)) rfl rfl ?_
    refine R_iast k rfl ha (fun _ => hc _ _ _) hlt hn rfl ?_
    rw [setP_setP, setP_at, pFill_s]
    refine R1 (g' := (17, _, _, _, _, _)) rfl rfl ?_
    refine R1 (g' := (5, _, _, _, _, _)) rfl rfl ?_
    refine R_lv [(2, .int (nI (k + 1))), (3, .int (nI n)), (0, .ref a), (1, .int v)] rfl (List.forall_mem_cons.mpr ⟨by rw [nI_succ k]; rfl, List.forall_mem_cons.mpr ⟨rfl, List.forall_mem_cons.mpr ⟨rfl, List.forall_mem_cons.mpr ⟨rfl, fun _ h => absurd h List.not_mem_nil⟩⟩⟩⟩) ⟨rfl, rfl⟩ ?_
    exact ih (k + 1) (by omega)
theorem e_fill {s : xs} {a n : Nat} {v : Int32} (ha : a < 151) (hc : ∀ f q g, cellAt a f q g = .inl (0, n, .inl f)) (hn : n < 2 ^ 31) : Ev_J7_fill_53178 [.ref a, .int v] (wd s) (.inl none) (wd (setP s a (pFill (s.1 a) v n))) := by
  refine ⟨Nat.le_of_ble_eq_true rfl, Nat.le_refl _, rfl, ?_⟩
  refine R1 (g' := (1, _, .int (nI 0) :: _, _, _, _)) rfl rfl ?_
  refine R1 (g' := (2, _, _, _, _, _)) rfl rfl ?_
  refine R1 (g' := (3, _, _, _, _, _)) rfl rfl ?_
  refine R_alen rfl ha (hc _ _ _) ?_
  refine R1 (g' := (5, _, _, _, _, _)) rfl rfl ?_
  refine R_lv [(2, .int (nI 0)), (3, .int (nI n)), (0, .ref a), (1, .int v)] rfl (List.forall_mem_cons.mpr ⟨rfl, List.forall_mem_cons.mpr ⟨rfl, List.forall_mem_cons.mpr ⟨rfl, List.forall_mem_cons.mpr ⟨rfl, fun _ h => absurd h List.not_mem_nil⟩⟩⟩⟩) ⟨rfl, rfl⟩ ?_
  have h0 := fill_loop (s := s) (v := v) (Po := fun o1 w1 => o1 = .inl none ∧ w1 = wd (setP s a (pFill (s.1 a) v n))) ha hc hn ⟨rfl, rfl⟩ n 0 (Nat.zero_add _)
  rw [pFill_0, setP_self] at h0
  exact h0
theorem e_Row_clear {s : xs} {i n : Nat} (hr : xrw i n) (hn : n < 2 ^ 31) : Ev_X3_clear [.ref i] (wd s) (.inl none) (wd (setP s (i + 1) (pFill (s.1 (i + 1)) 0 n))) := by
  refine ⟨Nat.le_of_ble_eq_true rfl, Nat.le_refl _, rfl, ?_⟩
  refine R1 (g' := (1, _, _, _, _, _)) rfl rfl ?_
  refine R_getf rfl rfl (Nat.lt_of_succ_lt hr.1) (hr.2.1 _ _ _) rfl ?_
  refine R1 (g' := (5, _, .int (nI 0) :: _, _, _, _)) rfl rfl ?_
  refine R_call2 (Or.inl ⟨rfl, rfl⟩) rfl rfl ⟨Nat.le_of_ble_eq_true rfl, Nat.le_of_ble_eq_true rfl⟩ (Nat.le_of_ble_eq_true rfl) ⟨by simp [okL, okV, xarg, wd]; exact Nat.lt_of_succ_lt hr.1, rfl⟩ (e_fill hr.1 hr.2.2 hn) ?_
  refine R_vret rfl ?_
  exact ⟨rfl, rfl⟩
theorem e_Row_copyFrom {s : xs} {i i2 n : Nat} (hr : xrw i n) (hr2 : xrw i2 n) (hn : n < 2 ^ 31) : Ev_X3_copyFrom [.ref i, .ref i2] (wd s) (.inl none) (wd (setP s (i + 1) (va_cpy (s.1 (i2 + 1)) (s.1 (i + 1)) 0 0 n))) := by
  have hl : okL (wd s).1 (xarg 0 [.ref i, .ref i2]) = true := by
    simp only [okL, okV, xarg, wd, List.all_cons, List.all_nil, Bool.and_true, Bool.and_eq_true, Nat.blt_eq]
    exact ⟨Nat.lt_of_succ_lt hr.1, Nat.lt_of_succ_lt hr2.1⟩
  have hs : okS (wd s).1 [.int 0, .ref (i + 1), .int 0, .ref (i2 + 1)] = true := by
    simp only [okS, okV, wd, List.all_cons, List.all_nil, Bool.and_true, Bool.true_and, Bool.and_eq_true, Nat.blt_eq]
    exact ⟨hr.1, hr2.1⟩
  refine ⟨Nat.le_of_ble_eq_true rfl, Nat.le_refl _, rfl, ?_⟩
  refine R1 (g' := (1, _, _, _, _, _)) rfl rfl ?_
  refine R_getf rfl rfl (Nat.lt_of_succ_lt hr2.1) (hr2.2.1 _ _ _) rfl ?_
  refine R1 (g' := (5, _, .int (nI 0) :: _, _, _, _)) rfl rfl ?_
  refine R1 (g' := (6, _, _, _, _, _)) rfl rfl ?_
  refine R_getf rfl rfl (Nat.lt_of_succ_lt hr.1) (hr.2.1 _ _ _) rfl ?_
  refine R1 (g' := (10, _, .int (nI 0) :: _, _, _, _)) rfl rfl ?_
  refine R1 (g' := (11, _, _, _, _, _)) rfl rfl ?_
  refine R_getf rfl rfl (Nat.lt_of_succ_lt hr2.1) (hr2.2.1 _ _ _) rfl ?_
  refine R_alen rfl hr2.1 (hr2.2.2 _ _ _) ?_
  refine R1 (g' := (16, _, _, _, _, _)) rfl rfl ?_
  refine R_getf rfl rfl (Nat.lt_of_succ_lt hr.1) (hr.2.1 _ _ _) rfl ?_
  refine R_alen rfl hr.1 (hr.2.2 _ _ _) ?_
  refine R_call2 (Or.inl ⟨rfl, rfl⟩) rfl rfl ⟨Nat.le_of_ble_eq_true rfl, Nat.le_of_ble_eq_true rfl⟩ (Nat.le_of_ble_eq_true rfl) ⟨hl, hs⟩ ⟨_, _, rfl, rfl, rfl⟩ ?_
  rw [if_neg (nI_nlt (Nat.le_refl n) hn)]
  refine R_call5 (Or.inl ⟨rfl, rfl⟩) rfl rfl ⟨Nat.le_of_ble_eq_true rfl, Nat.le_of_ble_eq_true rfl⟩ (Nat.le_of_ble_eq_true rfl) ⟨hl, rfl⟩ ⟨_, _, _, _, _, n, n, s.1 (i2 + 1), s.1 (i + 1), rfl, ⟨hr2.1, hr2.2.2 _ _ _⟩, ⟨hr.1, hr.2.2 _ _ _⟩, by decide, by decide, nI_pos hn, by rw [nI_clamp hn]; exact Nat.le_of_eq (Nat.zero_add n), by rw [nI_clamp hn]; exact Nat.le_of_eq (Nat.zero_add n), rfl, rfl⟩ ?_
  rw [nI_clamp hn]
  refine R_vret rfl ?_
  exact ⟨rfl, congrArg (Prod.mk 151) (cells_setP s (i + 1) _ (hr.2.2 _ _ _))⟩
