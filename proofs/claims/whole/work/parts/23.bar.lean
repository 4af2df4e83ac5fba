def xbar (p : Nat) : Prop := p + 10 < 151 ∧ (∀ f q g, cellAt p f q g = .inr (0, [.int (f 0), .int (f 1), .int (f 2), .int (f 3), .int (f 4), .int (f 5), .int (f 6), .int (f 7), .ref (p + 1), .ref (p + 3), .ref (p + 5), .ref (p + 7), .ref (p + 9)])) ∧ xrw (p + 1) 8 ∧ xrw (p + 3) 8 ∧ xrw (p + 5) 8 ∧ xrw (p + 7) 8 ∧ xsec (p + 9)
theorem xrw_lit {i n : Nat} (h0 : i + 1 < 151) (h1 : ∀ f q g, cellAt i f q g = .inr (3, [.ref (i + 1)])) (h2 : ∀ f q g, cellAt (i + 1) f q g = .inl (0, n, .inl f)) : xrw i n := ⟨h0, h1, h2⟩
theorem xbar_2 : xbar 2 := ⟨by decide, fun _ _ _ => rfl, xrw_lit (by decide) (fun _ _ _ => rfl) (fun _ _ _ => rfl), xrw_lit (by decide) (fun _ _ _ => rfl) (fun _ _ _ => rfl), xrw_lit (by decide) (fun _ _ _ => rfl) (fun _ _ _ => rfl), xrw_lit (by decide) (fun _ _ _ => rfl) (fun _ _ _ => rfl), ⟨by decide, fun _ _ _ => rfl⟩⟩
theorem xbar_22 : xbar 22 := ⟨by decide, fun _ _ _ => rfl, xrw_lit (by decide) (fun _ _ _ => rfl) (fun _ _ _ => rfl), xrw_lit (by decide) (fun _ _ _ => rfl) (fun _ _ _ => rfl), xrw_lit (by decide) (fun _ _ _ => rfl) (fun _ _ _ => rfl), xrw_lit (by decide) (fun _ _ _ => rfl) (fun _ _ _ => rfl), ⟨by decide, fun _ _ _ => rfl⟩⟩
theorem xbar_44 : xbar 44 := ⟨by decide, fun _ _ _ => rfl, xrw_lit (by decide) (fun _ _ _ => rfl) (fun _ _ _ => rfl), xrw_lit (by decide) (fun _ _ _ => rfl) (fun _ _ _ => rfl), xrw_lit (by decide) (fun _ _ _ => rfl) (fun _ _ _ => rfl), xrw_lit (by decide) (fun _ _ _ => rfl) (fun _ _ _ => rfl), ⟨by decide, fun _ _ _ => rfl⟩⟩
theorem xbar_64 : xbar 64 := ⟨by decide, fun _ _ _ => rfl, xrw_lit (by decide) (fun _ _ _ => rfl) (fun _ _ _ => rfl), xrw_lit (by decide) (fun _ _ _ => rfl) (fun _ _ _ => rfl), xrw_lit (by decide) (fun _ _ _ => rfl) (fun _ _ _ => rfl), xrw_lit (by decide) (fun _ _ _ => rfl) (fun _ _ _ => rfl), ⟨by decide, fun _ _ _ => rfl⟩⟩
theorem xbar_84 : xbar 84 := ⟨by decide, fun _ _ _ => rfl, xrw_lit (by decide) (fun _ _ _ => rfl) (fun _ _ _ => rfl), xrw_lit (by decide) (fun _ _ _ => rfl) (fun _ _ _ => rfl), xrw_lit (by decide) (fun _ _ _ => rfl) (fun _ _ _ => rfl), xrw_lit (by decide) (fun _ _ _ => rfl) (fun _ _ _ => rfl), ⟨by decide, fun _ _ _ => rfl⟩⟩
theorem xbar_104 : xbar 104 := ⟨by decide, fun _ _ _ => rfl, xrw_lit (by decide) (fun _ _ _ => rfl) (fun _ _ _ => rfl), xrw_lit (by decide) (fun _ _ _ => rfl) (fun _ _ _ => rfl), xrw_lit (by decide) (fun _ _ _ => rfl) (fun _ _ _ => rfl), xrw_lit (by decide) (fun _ _ _ => rfl) (fun _ _ _ => rfl), ⟨by decide, fun _ _ _ => rfl⟩⟩
def qn (Q : Nat → Int32) (i : Nat) : Nat := (Q i).toNatClampNeg
def bRel (s : xs) (p : Nat) (Q : Nat → Int32) : Prop := (s.1 p 0 = Q 7 ∧ s.1 p 1 = Q 0 ∧ s.1 p 2 = Q 1 ∧ s.1 p 3 = Q 2 ∧ s.1 p 4 = Q 3 ∧ s.1 p 5 = Q 4 ∧ s.1 p 6 = Q 5 ∧ s.1 p 7 = Q 6) ∧ ∀ k, k < 8 → s.1 (p + 2) k = Q (9 + 4 * k) ∧ s.1 (p + 4) k = Q (10 + 4 * k) ∧ s.1 (p + 6) k = Q (11 + 4 * k) ∧ s.1 (p + 8) k = Q (12 + 4 * k)
def xhas (x : Int32) (n : Nat) : Bool := decide (0 ≤ x) && decide (x < nI n)
theorem xhas_nI {k n : Nat} (hk : k < 2 ^ 31) (hn : n < 2 ^ 31) : xhas (nI k) n = decide (k < n) := by
  have h1 := nI_pos' hk
  have h2 := nI_ltI hk hn
  simp [xhas, h1, h2]
theorem xhas_of {x : Int32} {n : Nat} (hn : n < 2 ^ 31) (h : xhas x n = true) : ∃ k, k < n ∧ x = nI k := by
  simp only [xhas, Bool.and_eq_true, decide_eq_true_eq] at h
  obtain ⟨j, hj, rfl⟩ := nI_of (x := x) (fun z => absurd h.1 (Int32.not_le.mpr z))
  exact ⟨j, (nI_ltI hj hn).mp h.2, rfl⟩
def csum (f : Nat → Int32) : Nat → Int32
  | 0 => 0
  | n + 1 => csum f n + f n
theorem csum_congr {f g : Nat → Int32} : ∀ {n : Nat}, (∀ k, k < n → f k = g k) → csum f n = csum g n
  | 0, _ => rfl
  | n + 1, h => by
    show csum f n + f n = csum g n + g n
    rw [csum_congr (fun k hk => h k (Nat.lt_succ_of_lt hk)), h n (Nat.lt_succ_self n)]
theorem e_has {s : xs} {p n : Nat} {x : Int32} (hp : xbar p) (hn : s.1 p 0 = nI n) : Ev_X0_has [.ref p, .int x] (wd s) (.inl (some (.int (bI (xhas x n))))) (wd s) := by
  obtain ⟨h152, hcell, hrW, hrH, hrV, hrB, hsc⟩ := id hp
  refine ⟨Nat.le_of_ble_eq_true rfl, Nat.le_refl _, Or.inr ⟨rfl, bI_01 _⟩, ?_⟩
  refine R1 (g' := (1, _, _, _, _, _)) rfl rfl ?_
  refine R_lt 16 rfl rfl (fun h1 => ?_) (fun h1 => ?_)
  · refine R1 (g' := (17, _, .int (nI 0) :: _, _, _, _)) rfl rfl ?_
    refine R_iret rfl ?_
    exact ⟨o_i (by first | exact (bI_t (by simp only [xhas, Bool.and_eq_true, decide_eq_true_eq]; exact ⟨Int32.not_lt.mp h1, Int32.not_le.mp h9⟩)).symm | exact (bI_f (by simp only [xhas, Bool.and_eq_false_iff, decide_eq_false_iff_not]; first | exact Or.inl (Int32.not_le.mpr h1) | exact Or.inr (Int32.not_lt.mpr h9))).symm), rfl⟩
  · refine R1 (g' := (5, _, _, _, _, _)) rfl rfl ?_
    refine R1 (g' := (6, _, _, _, _, _)) rfl rfl ?_
    refine R_getf rfl rfl (by omega) (hcell _ _ _) rfl ?_
    rw [hn]
    refine R_cge 16 rfl rfl (fun h9 => ?_) (fun h9 => ?_)
    · refine R1 (g' := (17, _, .int (nI 0) :: _, _, _, _)) rfl rfl ?_
      refine R_iret rfl ?_
      exact ⟨o_i (by first | exact (bI_t (by simp only [xhas, Bool.and_eq_true, decide_eq_true_eq]; exact ⟨Int32.not_lt.mp h1, Int32.not_le.mp h9⟩)).symm | exact (bI_f (by simp only [xhas, Bool.and_eq_false_iff, decide_eq_false_iff_not]; first | exact Or.inl (Int32.not_le.mpr h1) | exact Or.inr (Int32.not_lt.mpr h9))).symm), rfl⟩
    · refine R1 (g' := (13, _, .int (nI 1) :: _, _, _, _)) rfl rfl ?_
      refine R1 (g' := (17, _, _, _, _, _)) rfl rfl ?_
      refine R_iret rfl ?_
      exact ⟨o_i (by first | exact (bI_t (by simp only [xhas, Bool.and_eq_true, decide_eq_true_eq]; exact ⟨Int32.not_lt.mp h1, Int32.not_le.mp h9⟩)).symm | exact (bI_f (by simp only [xhas, Bool.and_eq_false_iff, decide_eq_false_iff_not]; first | exact Or.inl (Int32.not_le.mpr h1) | exact Or.inr (Int32.not_lt.mpr h9))).symm), rfl⟩
theorem e_lengthOf {s : xs} {p k a b v : Nat} (hp : xbar p) (hk8 : k < 8) (hW : s.1 (p + 2) k = nI a) (hH : s.1 (p + 4) k = nI b) (hV : s.1 (p + 6) k = nI v) (ha : nRg a = true) (hb : nRg b = true) (hv : v < 2 ^ 31) : Ev_X0_lengthOf [.ref p, .int (nI k)] (wd s) (.inl (some (.int (nI (nLn v a b))))) (wd s) := by
  obtain ⟨h152, hcell, hrW, hrH, hrV, hrB, hsc⟩ := id hp
  rw [nRg_iff] at ha hb
  have hab : 0 < a * b := Nat.mul_pos (by omega) (by omega)
  refine ⟨Nat.le_of_ble_eq_true rfl, Nat.le_refl _, Or.inl rfl, ?_⟩
  refine R1 (g' := (1, _, _, _, _, _)) rfl rfl ?_
  refine R_getf rfl rfl (by omega) (hcell _ _ _) rfl ?_
  refine R1 (g' := (5, _, _, _, _, _)) rfl rfl ?_
  refine R_call2 (Or.inr (Or.inl ⟨rfl, rfl⟩)) rfl rfl ⟨Nat.le_of_ble_eq_true rfl, Nat.le_of_ble_eq_true rfl⟩ (Nat.le_of_ble_eq_true rfl) ⟨(by simp [okL, okS, okV, xarg, xput1, wd, Value.category] <;> omega), (by simp [okL, okS, okV, xarg, xput1, wd, Value.category] <;> omega)⟩ ⟨⟨_, _, _, rfl, (by show _ < 151; omega), hrV.2.1 _ _ _⟩, e_Row_get hrV (by decide) hk8⟩ ?_
  refine R1 (g' := (9, _, _, _, _, _)) rfl rfl ?_
  refine R_getf rfl rfl (by omega) (hcell _ _ _) rfl ?_
  refine R1 (g' := (13, _, _, _, _, _)) rfl rfl ?_
  refine R_call2 (Or.inr (Or.inl ⟨rfl, rfl⟩)) rfl rfl ⟨Nat.le_of_ble_eq_true rfl, Nat.le_of_ble_eq_true rfl⟩ (Nat.le_of_ble_eq_true rfl) ⟨(by simp [okL, okS, okV, xarg, xput1, wd, Value.category] <;> omega), (by simp [okL, okS, okV, xarg, xput1, wd, Value.category] <;> omega)⟩ ⟨⟨_, _, _, rfl, (by show _ < 151; omega), hrW.2.1 _ _ _⟩, e_Row_get hrW (by decide) hk8⟩ ?_
  refine R1 (g' := (17, _, _, _, _, _)) rfl rfl ?_
  refine R_getf rfl rfl (by omega) (hcell _ _ _) rfl ?_
  refine R1 (g' := (21, _, _, _, _, _)) rfl rfl ?_
  refine R_call2 (Or.inr (Or.inl ⟨rfl, rfl⟩)) rfl rfl ⟨Nat.le_of_ble_eq_true rfl, Nat.le_of_ble_eq_true rfl⟩ (Nat.le_of_ble_eq_true rfl) ⟨(by simp [okL, okS, okV, xarg, xput1, wd, Value.category] <;> omega), (by simp [okL, okS, okV, xarg, xput1, wd, Value.category] <;> omega)⟩ ⟨⟨_, _, _, rfl, (by show _ < 151; omega), hrH.2.1 _ _ _⟩, e_Row_get hrH (by decide) hk8⟩ ?_
  rw [hV, hW, hH]
  refine R_call3 (Or.inl ⟨rfl, rfl⟩) rfl rfl ⟨Nat.le_of_ble_eq_true rfl, Nat.le_of_ble_eq_true rfl⟩ (Nat.le_of_ble_eq_true rfl) ⟨(by simp [okL, okS, okV, xarg, xput1, wd, Value.category] <;> omega), (by simp [okL, okS, okV, xarg, xput1, wd, Value.category] <;> omega)⟩ (e_lengthWith (by omega) (by omega) hab hv) ?_
  refine R_iret rfl ?_
  exact ⟨rfl, rfl⟩
theorem volumeOfAll_loop {s : xs} {p n : Nat} (hp : xbar p) (hn : s.1 p 0 = nI n) (hn8 : n ≤ 8)  : ∀ (d k : Nat), k + d = n → xRun M_X0_volumeOfAll (fun o1 w1 => o1 = .inl (some (.int (csum (fun k => s.1 (p + 6) k) n))) ∧ w1 = wd s) (4, [(2, .int (nI k)), (1, .int (csum (fun k => s.1 (p + 6) k) k)), (0, .ref p)], [], wd s, 0, 0) := by
  obtain ⟨h152, hcell, hrW, hrH, hrV, hrB, hsc⟩ := id hp
  intro d
  induction d with
  | zero =>
    intro k hk
    have hk : k = n := by omega
    subst hk
    refine R1 (g' := (5, _, _, _, _, _)) rfl rfl ?_
    refine R1 (g' := (6, _, _, _, _, _)) rfl rfl ?_
    refine R_getf rfl rfl (by omega) (hcell _ _ _) rfl ?_
    rw [hn]
    refine R_cge 29 rfl rfl (fun h9 => ?_) (fun h => by exact absurd (nI_le (Nat.le_refl _) (by omega)) h)
    refine R1 (g' := (30, _, _, _, _, _)) rfl rfl ?_
    refine R_iret rfl ?_
    exact ⟨rfl, rfl⟩
  | succ d ih =>
    intro k hk
    have hlt : k < n := by omega
    have hk8 : k < 8 := by omega
    refine R1 (g' := (5, _, _, _, _, _)) rfl rfl ?_
    refine R1 (g' := (6, _, _, _, _, _)) rfl rfl ?_
    refine R_getf rfl rfl (by omega) (hcell _ _ _) rfl ?_
    rw [hn]
    refine R_cge 29 rfl rfl (fun h => by exact absurd h (nI_ge hlt (by omega))) (fun h9 => ?_)
    refine R1 (g' := (13, _, _, _, _, _)) rfl rfl ?_
    refine R1 (g' := (14, _, _, _, _, _)) rfl rfl ?_
    refine R_getf rfl rfl (by omega) (hcell _ _ _) rfl ?_
    refine R1 (g' := (18, _, _, _, _, _)) rfl rfl ?_
    refine R_call2 (Or.inr (Or.inl ⟨rfl, rfl⟩)) rfl rfl ⟨Nat.le_of_ble_eq_true rfl, Nat.le_of_ble_eq_true rfl⟩ (Nat.le_of_ble_eq_true rfl) ⟨(by simp [okL, okS, okV, xarg, xput1, wd, Value.category] <;> omega), (by simp [okL, okS, okV, xarg, xput1, wd, Value.category] <;> omega)⟩ ⟨⟨_, _, _, rfl, (by show _ < 151; omega), hrV.2.1 _ _ _⟩, e_Row_get hrV (by decide) hk8⟩ ?_
    refine R1 (g' := (22, _, _, _, _, _)) rfl rfl ?_
    refine R1 (g' := (23, _, _, _, _, _)) rfl rfl ?_
    refine R1 (g' := (26, _, _, _, _, _)) rfl rfl ?_
    refine R1 (g' := (4, _, _, _, _, _)) rfl rfl ?_
    refine R_lv [(2, .int (nI (k + 1))), (1, .int (csum (fun k => s.1 (p + 6) k) (k + 1))), (0, .ref p)] rfl (List.forall_mem_cons.mpr ⟨by rw [nI_succ k]; rfl, List.forall_mem_cons.mpr ⟨rfl, List.forall_mem_cons.mpr ⟨rfl, fun _ h => absurd h List.not_mem_nil⟩⟩⟩) ⟨rfl, rfl⟩ ?_
    exact ih (k + 1) (by omega)
theorem e_volumeOfAll {s : xs} {p n : Nat} (hp : xbar p) (hn : s.1 p 0 = nI n) (hn8 : n ≤ 8)  : Ev_X0_volumeOfAll [.ref p] (wd s) (.inl (some (.int (csum (fun k => s.1 (p + 6) k) n)))) (wd s) := by
  refine ⟨Nat.le_of_ble_eq_true rfl, Nat.le_refl _, Or.inl rfl, ?_⟩
  refine R1 (g' := (1, _, .int (nI 0) :: _, _, _, _)) rfl rfl ?_
  refine R1 (g' := (2, _, _, _, _, _)) rfl rfl ?_
  refine R1 (g' := (3, _, .int (nI 0) :: _, _, _, _)) rfl rfl ?_
  refine R1 (g' := (4, _, _, _, _, _)) rfl rfl ?_
  exact R_lv [(2, .int (nI 0)), (1, .int (csum (fun k => s.1 (p + 6) k) 0)), (0, .ref p)] rfl (List.forall_mem_cons.mpr ⟨rfl, List.forall_mem_cons.mpr ⟨rfl, List.forall_mem_cons.mpr ⟨rfl, fun _ h => absurd h List.not_mem_nil⟩⟩⟩) ⟨rfl, rfl⟩ (volumeOfAll_loop hp hn hn8  n 0 (Nat.zero_add _))
theorem lengthOfAll_loop {s : xs} {p n : Nat} (hp : xbar p) (hn : s.1 p 0 = nI n) (hn8 : n ≤ 8) (hq : ∀ k, k < n → s.1 (p + 2) k = nI (qn (s.1 (p + 2)) k) ∧ s.1 (p + 4) k = nI (qn (s.1 (p + 4)) k) ∧ s.1 (p + 6) k = nI (qn (s.1 (p + 6)) k) ∧ nRg (qn (s.1 (p + 2)) k) = true ∧ nRg (qn (s.1 (p + 4)) k) = true ∧ qn (s.1 (p + 6)) k < 2 ^ 31) : ∀ (d k : Nat), k + d = n → xRun M_X0_lengthOfAll (fun o1 w1 => o1 = .inl (some (.int (csum (fun k => nI (nLn (qn (s.1 (p + 6)) k) (qn (s.1 (p + 2)) k) (qn (s.1 (p + 4)) k))) n))) ∧ w1 = wd s) (4, [(2, .int (nI k)), (1, .int (csum (fun k => nI (nLn (qn (s.1 (p + 6)) k) (qn (s.1 (p + 2)) k) (qn (s.1 (p + 4)) k))) k)), (0, .ref p)], [], wd s, 0, 0) := by
  obtain ⟨h152, hcell, hrW, hrH, hrV, hrB, hsc⟩ := id hp
  intro d
  induction d with
  | zero =>
    intro k hk
    have hk : k = n := by omega
    subst hk
    refine R1 (g' := (5, _, _, _, _, _)) rfl rfl ?_
    refine R1 (g' := (6, _, _, _, _, _)) rfl rfl ?_
    refine R_getf rfl rfl (by omega) (hcell _ _ _) rfl ?_
    rw [hn]
    refine R_cge 26 rfl rfl (fun h9 => ?_) (fun h => by exact absurd (nI_le (Nat.le_refl _) (by omega)) h)
    refine R1 (g' := (27, _, _, _, _, _)) rfl rfl ?_
    refine R_iret rfl ?_
    exact ⟨rfl, rfl⟩
  | succ d ih =>
    intro k hk
    have hlt : k < n := by omega
    have hk8 : k < 8 := by omega
    refine R1 (g' := (5, _, _, _, _, _)) rfl rfl ?_
    refine R1 (g' := (6, _, _, _, _, _)) rfl rfl ?_
    refine R_getf rfl rfl (by omega) (hcell _ _ _) rfl ?_
    rw [hn]
    refine R_cge 26 rfl rfl (fun h => by exact absurd h (nI_ge hlt (by omega))) (fun h9 => ?_)
    refine R1 (g' := (13, _, _, _, _, _)) rfl rfl ?_
    refine R1 (g' := (14, _, _, _, _, _)) rfl rfl ?_
    refine R1 (g' := (15, _, _, _, _, _)) rfl rfl ?_
    obtain ⟨q1, q2, q3, q4, q5, q6⟩ := hq k hlt
    refine R_call2 (Or.inr (Or.inl ⟨rfl, rfl⟩)) rfl rfl ⟨Nat.le_of_ble_eq_true rfl, Nat.le_of_ble_eq_true rfl⟩ (Nat.le_of_ble_eq_true rfl) ⟨(by simp [okL, okS, okV, xarg, xput1, wd, Value.category] <;> omega), (by simp [okL, okS, okV, xarg, xput1, wd, Value.category] <;> omega)⟩ ⟨⟨_, _, _, rfl, (by show _ < 151; omega), hcell _ _ _⟩, e_lengthOf hp hk8 q1 q2 q3 q4 q5 q6⟩ ?_
    refine R1 (g' := (19, _, _, _, _, _)) rfl rfl ?_
    refine R1 (g' := (20, _, _, _, _, _)) rfl rfl ?_
    refine R1 (g' := (23, _, _, _, _, _)) rfl rfl ?_
    refine R1 (g' := (4, _, _, _, _, _)) rfl rfl ?_
    refine R_lv [(2, .int (nI (k + 1))), (1, .int (csum (fun k => nI (nLn (qn (s.1 (p + 6)) k) (qn (s.1 (p + 2)) k) (qn (s.1 (p + 4)) k))) (k + 1))), (0, .ref p)] rfl (List.forall_mem_cons.mpr ⟨by rw [nI_succ k]; rfl, List.forall_mem_cons.mpr ⟨rfl, List.forall_mem_cons.mpr ⟨rfl, fun _ h => absurd h List.not_mem_nil⟩⟩⟩) ⟨rfl, rfl⟩ ?_
    exact ih (k + 1) (by omega)
theorem e_lengthOfAll {s : xs} {p n : Nat} (hp : xbar p) (hn : s.1 p 0 = nI n) (hn8 : n ≤ 8) (hq : ∀ k, k < n → s.1 (p + 2) k = nI (qn (s.1 (p + 2)) k) ∧ s.1 (p + 4) k = nI (qn (s.1 (p + 4)) k) ∧ s.1 (p + 6) k = nI (qn (s.1 (p + 6)) k) ∧ nRg (qn (s.1 (p + 2)) k) = true ∧ nRg (qn (s.1 (p + 4)) k) = true ∧ qn (s.1 (p + 6)) k < 2 ^ 31) : Ev_X0_lengthOfAll [.ref p] (wd s) (.inl (some (.int (csum (fun k => nI (nLn (qn (s.1 (p + 6)) k) (qn (s.1 (p + 2)) k) (qn (s.1 (p + 4)) k))) n)))) (wd s) := by
  refine ⟨Nat.le_of_ble_eq_true rfl, Nat.le_refl _, Or.inl rfl, ?_⟩
  refine R1 (g' := (1, _, .int (nI 0) :: _, _, _, _)) rfl rfl ?_
  refine R1 (g' := (2, _, _, _, _, _)) rfl rfl ?_
  refine R1 (g' := (3, _, .int (nI 0) :: _, _, _, _)) rfl rfl ?_
  refine R1 (g' := (4, _, _, _, _, _)) rfl rfl ?_
  exact R_lv [(2, .int (nI 0)), (1, .int (csum (fun k => nI (nLn (qn (s.1 (p + 6)) k) (qn (s.1 (p + 2)) k) (qn (s.1 (p + 4)) k))) 0)), (0, .ref p)] rfl (List.forall_mem_cons.mpr ⟨rfl, List.forall_mem_cons.mpr ⟨rfl, List.forall_mem_cons.mpr ⟨rfl, fun _ h => absurd h List.not_mem_nil⟩⟩⟩) ⟨rfl, rfl⟩ (lengthOfAll_loop hp hn hn8 hq n 0 (Nat.zero_add _))
def nBl (t : Nat) : Nat := if t < 850 then 0 else (t - 850) / 12 + 1
theorem e_blowsUntilHeat {s : xs} {p t : Nat} (hp : xbar p) (ht : s.1 p 1 = nI t) (h2 : t < 2 ^ 20) : Ev_X0_blowsUntilHeat [.ref p] (wd s) (.inl (some (.int (nI (nBl t))))) (wd s) := by
  obtain ⟨h152, hcell, hrW, hrH, hrV, hrB, hsc⟩ := id hp
  refine ⟨Nat.le_of_ble_eq_true rfl, Nat.le_refl _, Or.inl rfl, ?_⟩
  refine R1 (g' := (1, _, _, _, _, _)) rfl rfl ?_
  refine R_getf rfl rfl (by omega) (hcell _ _ _) rfl ?_
  rw [ht]
  refine R1 (g' := (7, _, .int (nI 850) :: _, _, _, _)) rfl rfl ?_
  refine R_cgeN 14 (t) (850) rfl rfl (rfl) (rfl) (by omega) (by omega) (fun h7 => ?_) (fun h7 => ?_)
  · refine R1 (g' := (15, _, _, _, _, _)) rfl rfl ?_
    refine R_getf rfl rfl (by omega) (hcell _ _ _) rfl ?_
    rw [ht]
    refine R1 (g' := (21, _, .int (nI 850) :: _, _, _, _)) rfl rfl ?_
    refine R1 (g' := (22, _, _, _, _, _)) rfl rfl ?_
    rw [pk_sub (by omega)]
    refine R1 (g' := (24, _, .int (nI 12) :: _, _, _, _)) rfl rfl ?_
    refine R_idiv rfl (by decide) ?_
    rw [pk_div (by omega) (by decide) (by decide)]
    refine R1 (g' := (26, _, .int (nI 1) :: _, _, _, _)) rfl rfl ?_
    refine R1 (g' := (27, _, _, _, _, _)) rfl rfl ?_
    try rw [nI_add]
    refine R_iret rfl ?_
    exact ⟨o_i (by unfold nBl; first | (rw [if_pos (show t < 850 by omega)]; done) | (rw [if_neg (show ¬ t < 850 by omega)]; done) | (rw [if_pos (show t < 850 by omega)]; rfl)), rfl⟩
  · refine R1 (g' := (11, _, .int (nI 0) :: _, _, _, _)) rfl rfl ?_
    refine R1 (g' := (27, _, _, _, _, _)) rfl rfl ?_
    try rw [nI_add]
    refine R_iret rfl ?_
    exact ⟨o_i (by unfold nBl; first | (rw [if_pos (show t < 850 by omega)]; done) | (rw [if_neg (show ¬ t < 850 by omega)]; done) | (rw [if_pos (show t < 850 by omega)]; rfl)), rfl⟩
theorem e_barAllows {s : xs} {p k a b v c : Nat} (hp : xbar p) (hk8 : k < 8) (hW : s.1 (p + 2) k = nI a) (hH : s.1 (p + 4) k = nI b) (hV : s.1 (p + 6) k = nI v) (ha : nRg a = true) (hb : nRg b = true) (hv : v < 2 ^ 31) (hc : c ≤ 2) : Ev_X0_allows [.ref p, .int (nI k), .int (nI c)] (wd s) (.inl (some (.int (bI (nCan a b c v))))) (wd (setP s (p + 9) (secF (s.1 (p + 9)) (nI a) (nI b)))) := by
  obtain ⟨h152, hcell, hrW, hrH, hrV, hrB, hsc⟩ := id hp
  refine ⟨Nat.le_of_ble_eq_true rfl, Nat.le_refl _, Or.inr ⟨rfl, bI_01 _⟩, ?_⟩
  refine R1 (g' := (1, _, _, _, _, _)) rfl rfl ?_
  refine R_getf rfl rfl (by omega) (hcell _ _ _) rfl ?_
  refine R1 (g' := (5, _, _, _, _, _)) rfl rfl ?_
  refine R_getf rfl rfl (by omega) (hcell _ _ _) rfl ?_
  refine R1 (g' := (9, _, _, _, _, _)) rfl rfl ?_
  refine R_call2 (Or.inr (Or.inl ⟨rfl, rfl⟩)) rfl rfl ⟨Nat.le_of_ble_eq_true rfl, Nat.le_of_ble_eq_true rfl⟩ (Nat.le_of_ble_eq_true rfl) ⟨(by simp [okL, okS, okV, xarg, xput1, wd, Value.category] <;> omega), (by simp [okL, okS, okV, xarg, xput1, wd, Value.category] <;> omega)⟩ ⟨⟨_, _, _, rfl, (by show _ < 151; omega), hrW.2.1 _ _ _⟩, e_Row_get hrW (by decide) hk8⟩ ?_
  refine R1 (g' := (13, _, _, _, _, _)) rfl rfl ?_
  refine R_getf rfl rfl (by omega) (hcell _ _ _) rfl ?_
  refine R1 (g' := (17, _, _, _, _, _)) rfl rfl ?_
  refine R_call2 (Or.inr (Or.inl ⟨rfl, rfl⟩)) rfl rfl ⟨Nat.le_of_ble_eq_true rfl, Nat.le_of_ble_eq_true rfl⟩ (Nat.le_of_ble_eq_true rfl) ⟨(by simp [okL, okS, okV, xarg, xput1, wd, Value.category] <;> omega), (by simp [okL, okS, okV, xarg, xput1, wd, Value.category] <;> omega)⟩ ⟨⟨_, _, _, rfl, (by show _ < 151; omega), hrH.2.1 _ _ _⟩, e_Row_get hrH (by decide) hk8⟩ ?_
  rw [hW, hH]
  refine R_call3 (Or.inr (Or.inl ⟨rfl, rfl⟩)) rfl rfl ⟨Nat.le_of_ble_eq_true rfl, Nat.le_of_ble_eq_true rfl⟩ (Nat.le_of_ble_eq_true rfl) ⟨(by simp [okL, okS, okV, xarg, xput1, wd, Value.category] <;> omega), (by simp [okL, okS, okV, xarg, xput1, wd, Value.category] <;> omega)⟩ ⟨⟨_, _, _, rfl, hsc.1, hsc.2 _ _ _⟩, e_become hsc⟩ ?_
  refine R1 (g' := (24, _, _, _, _, _)) rfl rfl ?_
  refine R_getf rfl rfl (by omega) (hcell _ _ _) rfl ?_
  refine R1 (g' := (28, _, _, _, _, _)) rfl rfl ?_
  refine R1 (g' := (29, _, _, _, _, _)) rfl rfl ?_
  refine R_getf rfl rfl (by omega) (hcell _ _ _) rfl ?_
  refine R1 (g' := (33, _, _, _, _, _)) rfl rfl ?_
  refine R_call2 (Or.inr (Or.inl ⟨rfl, rfl⟩)) rfl rfl ⟨Nat.le_of_ble_eq_true rfl, Nat.le_of_ble_eq_true rfl⟩ (Nat.le_of_ble_eq_true rfl) ⟨(by simp [okL, okS, okV, xarg, xput1, wd, Value.category] <;> omega), (by simp [okL, okS, okV, xarg, xput1, wd, Value.category] <;> omega)⟩ ⟨⟨_, _, _, rfl, (by show _ < 151; omega), hrV.2.1 _ _ _⟩, e_Row_get hrV (by decide) hk8⟩ ?_
  rw [setP_ne _ _ (by omega), hV]
  refine R_call3 (Or.inr (Or.inl ⟨rfl, rfl⟩)) rfl rfl ⟨Nat.le_of_ble_eq_true rfl, Nat.le_of_ble_eq_true rfl⟩ (Nat.le_of_ble_eq_true rfl) ⟨(by simp [okL, okS, okV, xarg, xput1, wd, Value.category] <;> omega), (by simp [okL, okS, okV, xarg, xput1, wd, Value.category] <;> omega)⟩ ⟨⟨_, _, _, rfl, hsc.1, hsc.2 _ _ _⟩, e_allows hsc (by rw [setP_at]; rfl) (by rw [setP_at]; rfl) ha hb hc hv⟩ ?_
  refine R_iret rfl ?_
  exact ⟨rfl, rfl⟩
