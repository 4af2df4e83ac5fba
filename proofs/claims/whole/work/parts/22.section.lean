def bI (b : Bool) : Int32 := if b = true then 1 else 0
theorem bI_01 (b : Bool) : bI b = 0 ∨ bI b = 1 := by cases b <;> simp [bI]
theorem bI_t {b : Bool} (h : b = true) : bI b = 1 := by rw [h]; rfl
theorem bI_f {b : Bool} (h : b = false) : bI b = 0 := by rw [h]; rfl
theorem bI_e {b : Bool} (h : bI b = 0) : b = false := by cases b; rfl; exact absurd h (by decide)
theorem bI_n {b : Bool} (h : ¬ bI b = 0) : b = true := by cases b; exact absurd rfl h; rfl
theorem o_i {x y : Int32} (h : x = y) : (Sum.inl (some (Value.int x)) : xO) = Sum.inl (some (Value.int y)) := by rw [h]
def nD (a : Nat) : Nat := if a < 10 then 1 else a / 10
def nNW (a b k : Nat) : Nat := if k = 0 then a + nD b / 3 else if k = 1 then a - nD a else a + 1
def nNH (a b k : Nat) : Nat := if k = 0 then b - nD b else if k = 1 then b + nD a / 3 else b + 1
def nLn (v a b : Nat) : Nat := v / (a * b)
def nRg (a : Nat) : Bool := decide (5 ≤ a) && decide (a ≤ 100)
def nUp (a b v : Nat) : Bool := decide (1 ≤ nLn v a b) && decide (nLn v a b ≤ 3 * min a b)
def nCan (a b k v : Nat) : Bool := (decide (k < 2) || nUp a b v) && (nRg (nNW a b k) && nRg (nNH a b k))
theorem nD_b (a : Nat) (h : 5 ≤ a) : 1 ≤ nD a ∧ nD a < a := by unfold nD; split <;> omega
theorem nD_le (a : Nat) : nD a ≤ a / 10 + 1 := by unfold nD; split <;> omega
theorem nRg_iff {a : Nat} : nRg a = true ↔ 5 ≤ a ∧ a ≤ 100 := by simp [nRg]
theorem e_lengthWith {s : xs} {v a b : Nat} (ha : a ≤ 100) (hb : b ≤ 100) (h0 : 0 < a * b) (hv : v < 2 ^ 31) : Ev_X8_lengthWith [.int (nI v), .int (nI a), .int (nI b)] (wd s) (.inl (some (.int (nI (nLn v a b))))) (wd s) := by
  have hab : a * b ≤ 100 * 100 := Nat.mul_le_mul ha hb
  refine ⟨Nat.le_of_ble_eq_true rfl, Nat.le_refl _, Or.inl rfl, ?_⟩
  refine R1 (g' := (1, _, _, _, _, _)) rfl rfl ?_
  refine R1 (g' := (2, _, _, _, _, _)) rfl rfl ?_
  refine R1 (g' := (3, _, _, _, _, _)) rfl rfl ?_
  rw [pk_mul]
  refine R1 (g' := (4, _, _, _, _, _)) rfl rfl ?_
  refine R1 (g' := (5, _, _, _, _, _)) rfl rfl ?_
  refine R_leN 14 (a * b) rfl rfl (rfl) (by omega) (fun h => by exact absurd h (by omega)) (fun h5 => ?_)
  refine R1 (g' := (9, _, _, _, _, _)) rfl rfl ?_
  refine R1 (g' := (10, _, _, _, _, _)) rfl rfl ?_
  refine R_idiv rfl (nI_ne0 h0 (by omega)) ?_
  refine R1 (g' := (15, _, _, _, _, _)) rfl rfl ?_
  refine R_iret rfl ?_
  exact ⟨o_i (by rw [pk_div hv h0 (by omega)]; rfl), rfl⟩
def nNear (a b t : Nat) : Bool := decide (a ≤ b + t) && decide (b ≤ a + t)
theorem e_isNear {s : xs} {a b t : Nat} (ha : a < 2 ^ 20) (hb : b < 2 ^ 20) (ht : t < 2 ^ 20) : Ev_X8_isNear [.int (nI a), .int (nI b), .int (nI t)] (wd s) (.inl (some (.int (bI (nNear a b t))))) (wd s) := by
  have hd : (if 0 ≤ nI a - nI b then nI a - nI b else 0 - (nI a - nI b)) = nI (if b ≤ a then a - b else b - a) := by
    by_cases h : b ≤ a
    · rw [if_pos h, pk_sub h, if_pos (nI_pos' (by omega))]
    · have h2 : nI a - nI b = -(nI (b - a)) := by rw [← pk_sub (show a ≤ b by omega), Int32.neg_sub]
      have h1 : nI a - nI b < 0 := pk_sneg (by omega) (by omega)
      rw [if_neg (fun z => absurd h1 (Int32.not_lt.mpr z)), if_neg h, h2]
      simp
  have hlt : (if b ≤ a then a - b else b - a) < 2 ^ 31 := by split <;> omega
  refine ⟨Nat.le_of_ble_eq_true rfl, Nat.le_refl _, Or.inr ⟨rfl, bI_01 _⟩, ?_⟩
  refine R1 (g' := (1, _, _, _, _, _)) rfl rfl ?_
  refine R1 (g' := (2, _, _, _, _, _)) rfl rfl ?_
  refine R1 (g' := (3, _, _, _, _, _)) rfl rfl ?_
  refine R_call1 (Or.inl ⟨rfl, rfl⟩) rfl rfl ⟨Nat.le_of_ble_eq_true rfl, Nat.le_of_ble_eq_true rfl⟩ (Nat.le_of_ble_eq_true rfl) ⟨rfl, rfl⟩ (⟨_, rfl, rfl, rfl⟩) ?_
  rw [hd]
  refine R1 (g' := (7, _, _, _, _, _)) rfl rfl ?_
  refine R_cgtN 14 (if b ≤ a then a - b else b - a) (t) rfl rfl (rfl) (rfl) (by omega) (by omega) (fun h7 => ?_) (fun h7 => ?_)
  · refine R1 (g' := (15, _, .int (nI 0) :: _, _, _, _)) rfl rfl ?_
    refine R_iret rfl ?_
    exact ⟨o_i (by first | exact (bI_t (by simp only [nNear, Bool.and_eq_true, decide_eq_true_eq]; split at h7 <;> omega)).symm | exact (bI_f (by simp only [nNear, Bool.and_eq_false_iff, decide_eq_false_iff_not]; split at h7 <;> omega)).symm), rfl⟩
  · refine R1 (g' := (11, _, .int (nI 1) :: _, _, _, _)) rfl rfl ?_
    refine R1 (g' := (15, _, _, _, _, _)) rfl rfl ?_
    refine R_iret rfl ?_
    exact ⟨o_i (by first | exact (bI_t (by simp only [nNear, Bool.and_eq_true, decide_eq_true_eq]; split at h7 <;> omega)).symm | exact (bI_f (by simp only [nNear, Bool.and_eq_false_iff, decide_eq_false_iff_not]; split at h7 <;> omega)).symm), rfl⟩
def xsec (p : Nat) : Prop := p < 151 ∧ ∀ f q g, cellAt p f q g = .inr (4, [.int (f 0), .int (f 1)])
def secF (f : Nat → Int32) (x y : Int32) : Nat → Int32 := upd (upd f 0 x) 1 y
theorem secF_0 (f : Nat → Int32) (x y : Int32) : secF f x y 0 = x := rfl
theorem secF_1 (f : Nat → Int32) (x y : Int32) : secF f x y 1 = y := rfl
theorem secF_F (f : Nat → Int32) (x y u v : Int32) : secF (secF f x y) u v = secF f u v := by
  funext j
  simp only [secF, upd]
  split
  · rfl
  · split <;> rfl
theorem e_become {s : xs} {p : Nat} {x y : Int32} (hp : xsec p) : Ev_X4_become [.ref p, .int x, .int y] (wd s) (.inl none) (wd (setP s p (secF (s.1 p) x y))) := by
  refine ⟨Nat.le_of_ble_eq_true rfl, Nat.le_refl _, rfl, ?_⟩
  refine R1 (g' := (1, _, _, _, _, _)) rfl rfl ?_
  refine R1 (g' := (2, _, _, _, _, _)) rfl rfl ?_
  refine R_put rfl rfl hp.1 (hp.2 _ _ _) (Nat.le_of_ble_eq_true rfl) ⟨_, rfl, Or.inl rfl, _, rfl, rfl⟩ (hp.2 _ _ _) ?_
  refine R1 (g' := (6, _, _, _, _, _)) rfl rfl ?_
  refine R1 (g' := (7, _, _, _, _, _)) rfl rfl ?_
  refine R_put (s := setP s p (upd (s.1 p) 0 x)) rfl rfl hp.1 (hp.2 _ _ _) (Nat.le_of_ble_eq_true rfl) ⟨_, rfl, Or.inl rfl, _, rfl, rfl⟩ (hp.2 _ _ _) ?_
  rw [setP_setP, setP_at]
  refine R_vret rfl ?_
  exact ⟨rfl, rfl⟩
theorem e_pressed {s : xs} {a : Nat} (ha : a < 2 ^ 31) : Ev_X4_pressed [.int (nI a)] (wd s) (.inl (some (.int (nI (nD a))))) (wd s) := by
  refine ⟨Nat.le_of_ble_eq_true rfl, Nat.le_refl _, Or.inl rfl, ?_⟩
  refine R1 (g' := (1, _, _, _, _, _)) rfl rfl ?_
  refine R1 (g' := (3, _, .int (nI 10) :: _, _, _, _)) rfl rfl ?_
  refine R_cgeN 10 (a) (10) rfl rfl (rfl) (rfl) (by omega) (by omega) (fun h3 => ?_) (fun h3 => ?_)
  · refine R1 (g' := (11, _, _, _, _, _)) rfl rfl ?_
    refine R1 (g' := (13, _, .int (nI 10) :: _, _, _, _)) rfl rfl ?_
    refine R_idiv rfl (by decide) ?_
    refine R_iret rfl ?_
    exact ⟨o_i (by unfold nD; first | (rw [if_pos (show a < 10 by omega)]; done) | (rw [if_neg (show ¬ a < 10 by omega), pk_div ha (by decide) (by decide)])), rfl⟩
  · refine R1 (g' := (7, _, .int (nI 1) :: _, _, _, _)) rfl rfl ?_
    refine R1 (g' := (14, _, _, _, _, _)) rfl rfl ?_
    refine R_iret rfl ?_
    exact ⟨o_i (by unfold nD; first | (rw [if_pos (show a < 10 by omega)]; done) | (rw [if_neg (show ¬ a < 10 by omega), pk_div ha (by decide) (by decide)])), rfl⟩
theorem e_allowsDraw {s : xs} {a b : Nat} (ha : 5 ≤ a) (ha2 : a < 2 ^ 20) (hb : b < 2 ^ 20) : Ev_X4_allowsDraw [.int (nI a), .int (nI b)] (wd s) (.inl (some (.int (bI (decide (5 ≤ a - nD a) && decide (b + nD a / 3 ≤ 100)))))) (wd s) := by
  have h1 := nD_b a ha
  refine ⟨Nat.le_of_ble_eq_true rfl, Nat.le_refl _, Or.inr ⟨rfl, bI_01 _⟩, ?_⟩
  refine R1 (g' := (1, _, _, _, _, _)) rfl rfl ?_
  refine R_call1 (Or.inl ⟨rfl, rfl⟩) rfl rfl ⟨Nat.le_of_ble_eq_true rfl, Nat.le_of_ble_eq_true rfl⟩ (Nat.le_of_ble_eq_true rfl) ⟨rfl, rfl⟩ (e_pressed (by omega)) ?_
  refine R1 (g' := (5, _, _, _, _, _)) rfl rfl ?_
  refine R1 (g' := (6, _, _, _, _, _)) rfl rfl ?_
  refine R1 (g' := (7, _, _, _, _, _)) rfl rfl ?_
  refine R1 (g' := (8, _, _, _, _, _)) rfl rfl ?_
  rw [pk_sub (by omega)]
  refine R1 (g' := (9, _, .int (nI 5) :: _, _, _, _)) rfl rfl ?_
  refine R_cltN 26 (a - nD a) (5) rfl rfl (rfl) (rfl) (by omega) (by omega) (fun h9 => ?_) (fun h9 => ?_)
  · refine R1 (g' := (27, _, .int (nI 0) :: _, _, _, _)) rfl rfl ?_
    refine R_iret rfl ?_
    exact ⟨o_i (by first | exact (bI_t (by simp only [Bool.and_eq_true, decide_eq_true_eq]; omega)).symm | exact (bI_f (by simp only [Bool.and_eq_false_iff, decide_eq_false_iff_not]; omega)).symm), rfl⟩
  · refine R1 (g' := (13, _, _, _, _, _)) rfl rfl ?_
    refine R1 (g' := (14, _, _, _, _, _)) rfl rfl ?_
    refine R1 (g' := (15, _, .int (nI 3) :: _, _, _, _)) rfl rfl ?_
    refine R_idiv rfl (by decide) ?_
    rw [pk_div (by omega) (by decide) (by decide)]
    refine R1 (g' := (17, _, _, _, _, _)) rfl rfl ?_
    rw [nI_add]
    refine R1 (g' := (19, _, .int (nI 100) :: _, _, _, _)) rfl rfl ?_
    refine R_cgtN 26 (b + nD a / 3) (100) rfl rfl (rfl) (rfl) (by omega) (by omega) (fun h19 => ?_) (fun h19 => ?_)
    · refine R1 (g' := (27, _, .int (nI 0) :: _, _, _, _)) rfl rfl ?_
      refine R_iret rfl ?_
      exact ⟨o_i (by first | exact (bI_t (by simp only [Bool.and_eq_true, decide_eq_true_eq]; omega)).symm | exact (bI_f (by simp only [Bool.and_eq_false_iff, decide_eq_false_iff_not]; omega)).symm), rfl⟩
    · refine R1 (g' := (23, _, .int (nI 1) :: _, _, _, _)) rfl rfl ?_
      refine R1 (g' := (27, _, _, _, _, _)) rfl rfl ?_
      refine R_iret rfl ?_
      exact ⟨o_i (by first | exact (bI_t (by simp only [Bool.and_eq_true, decide_eq_true_eq]; omega)).symm | exact (bI_f (by simp only [Bool.and_eq_false_iff, decide_eq_false_iff_not]; omega)).symm), rfl⟩
theorem nI_min {a b : Nat} (ha : a < 2 ^ 31) (hb : b < 2 ^ 31) : (if nI b < nI a then nI b else nI a) = nI (min a b) := by
  by_cases h : b < a
  · rw [if_pos ((nI_ltI hb ha).mpr h), Nat.min_eq_right (by omega)]
  · rw [if_neg (fun z => h ((nI_ltI hb ha).mp z)), Nat.min_eq_left (by omega)]
theorem nI_max {a b : Nat} (ha : a < 2 ^ 31) (hb : b < 2 ^ 31) : (if nI a < nI b then nI b else nI a) = nI (max a b) := by
  by_cases h : a < b
  · rw [if_pos ((nI_ltI ha hb).mpr h), Nat.max_eq_right (by omega)]
  · rw [if_neg (fun z => h ((nI_ltI ha hb).mp z)), Nat.max_eq_left (by omega)]
theorem e_allowsUpset {s : xs} {p a b n : Nat} (hp : xsec p) (hw : s.1 p 0 = nI a) (hh : s.1 p 1 = nI b) (ha : a < 2 ^ 20) (hb : b < 2 ^ 20) (hn : n < 2 ^ 31) : Ev_X4_allowsUpset [.ref p, .int (nI n)] (wd s) (.inl (some (.int (bI (decide (max a b < 100) && (decide (1 ≤ n) && decide (n ≤ 3 * min a b))))))) (wd s) := by
  have hok : okL (wd s).1 (xarg 0 [.ref p, .int (nI n)]) = true := by
    simp only [okL, okV, xarg, wd, List.all_cons, List.all_nil, Bool.and_true, Nat.blt_eq]
    exact hp.1
  refine ⟨Nat.le_of_ble_eq_true rfl, Nat.le_refl _, Or.inr ⟨rfl, bI_01 _⟩, ?_⟩
  refine R1 (g' := (1, _, _, _, _, _)) rfl rfl ?_
  refine R_getf rfl rfl hp.1 (hp.2 _ _ _) rfl ?_
  refine R1 (g' := (5, _, _, _, _, _)) rfl rfl ?_
  refine R_getf rfl rfl hp.1 (hp.2 _ _ _) rfl ?_
  rw [hw, hh]
  refine R_call2 (Or.inl ⟨rfl, rfl⟩) rfl rfl ⟨Nat.le_of_ble_eq_true rfl, Nat.le_of_ble_eq_true rfl⟩ (Nat.le_of_ble_eq_true rfl) ⟨hok, rfl⟩ ⟨_, _, rfl, rfl, rfl⟩ ?_
  rw [nI_min (by omega) (by omega)]
  refine R1 (g' := (12, _, _, _, _, _)) rfl rfl ?_
  refine R1 (g' := (13, _, _, _, _, _)) rfl rfl ?_
  refine R_getf rfl rfl hp.1 (hp.2 _ _ _) rfl ?_
  refine R1 (g' := (17, _, _, _, _, _)) rfl rfl ?_
  refine R_getf rfl rfl hp.1 (hp.2 _ _ _) rfl ?_
  rw [hw, hh]
  refine R_call2 (Or.inl ⟨rfl, rfl⟩) rfl rfl ⟨Nat.le_of_ble_eq_true rfl, Nat.le_of_ble_eq_true rfl⟩ (Nat.le_of_ble_eq_true rfl) ⟨(by simp only [okL, okV, xput1, xarg, wd] at hok ⊢; simpa using hok), rfl⟩ ⟨_, _, rfl, rfl, rfl⟩ ?_
  rw [nI_max (by omega) (by omega)]
  refine R1 (g' := (24, _, _, _, _, _)) rfl rfl ?_
  refine R1 (g' := (25, _, _, _, _, _)) rfl rfl ?_
  refine R1 (g' := (27, _, .int (nI 100) :: _, _, _, _)) rfl rfl ?_
  refine R_cgeN 46 (max a b) (100) rfl rfl (rfl) (rfl) (by omega) (by omega) (fun h27 => ?_) (fun h27 => ?_)
  · refine R1 (g' := (47, _, .int (nI 0) :: _, _, _, _)) rfl rfl ?_
    refine R_iret rfl ?_
    exact ⟨o_i (by first | exact (bI_t (by simp only [Bool.and_eq_true, decide_eq_true_eq]; omega)).symm | exact (bI_f (by simp only [Bool.and_eq_false_iff, decide_eq_false_iff_not]; omega)).symm), rfl⟩
  · refine R1 (g' := (31, _, _, _, _, _)) rfl rfl ?_
    refine R1 (g' := (32, _, .int (nI 1) :: _, _, _, _)) rfl rfl ?_
    refine R_cltN 46 (n) (1) rfl rfl (rfl) (rfl) (by omega) (by omega) (fun h32 => ?_) (fun h32 => ?_)
    · refine R1 (g' := (47, _, .int (nI 0) :: _, _, _, _)) rfl rfl ?_
      refine R_iret rfl ?_
      exact ⟨o_i (by first | exact (bI_t (by simp only [Bool.and_eq_true, decide_eq_true_eq]; omega)).symm | exact (bI_f (by simp only [Bool.and_eq_false_iff, decide_eq_false_iff_not]; omega)).symm), rfl⟩
    · refine R1 (g' := (36, _, _, _, _, _)) rfl rfl ?_
      refine R1 (g' := (37, _, .int (nI 3) :: _, _, _, _)) rfl rfl ?_
      refine R1 (g' := (38, _, _, _, _, _)) rfl rfl ?_
      refine R1 (g' := (39, _, _, _, _, _)) rfl rfl ?_
      rw [pk_mul]
      refine R_cgtN 46 (n) (3 * min a b) rfl rfl (rfl) (rfl) (by omega) (by omega) (fun h39 => ?_) (fun h39 => ?_)
      · refine R1 (g' := (47, _, .int (nI 0) :: _, _, _, _)) rfl rfl ?_
        refine R_iret rfl ?_
        exact ⟨o_i (by first | exact (bI_t (by simp only [Bool.and_eq_true, decide_eq_true_eq]; omega)).symm | exact (bI_f (by simp only [Bool.and_eq_false_iff, decide_eq_false_iff_not]; omega)).symm), rfl⟩
      · refine R1 (g' := (43, _, .int (nI 1) :: _, _, _, _)) rfl rfl ?_
        refine R1 (g' := (47, _, _, _, _, _)) rfl rfl ?_
        refine R_iret rfl ?_
        exact ⟨o_i (by first | exact (bI_t (by simp only [Bool.and_eq_true, decide_eq_true_eq]; omega)).symm | exact (bI_f (by simp only [Bool.and_eq_false_iff, decide_eq_false_iff_not]; omega)).symm), rfl⟩
theorem e_allows {s : xs} {p a b k v : Nat} (hp : xsec p) (hw : s.1 p 0 = nI a) (hh : s.1 p 1 = nI b) (ha : nRg a = true) (hb : nRg b = true) (hk : k ≤ 2) (hv : v < 2 ^ 31) : Ev_X4_allows [.ref p, .int (nI k), .int (nI v)] (wd s) (.inl (some (.int (bI (nCan a b k v))))) (wd s) := by
  rw [nRg_iff] at ha hb
  have hok : okL (wd s).1 (xarg 0 [.ref p, .int (nI k), .int (nI v)]) = true := by
    simp only [okL, okV, xarg, wd, List.all_cons, List.all_nil, Bool.and_true, Nat.blt_eq]
    exact hp.1
  have hab : 0 < a * b := Nat.mul_pos (by omega) (by omega)
  have hdb := nD_b b (by omega)
  have hda := nD_b a (by omega)
  have hla := nD_le a
  have hlb := nD_le b
  refine ⟨Nat.le_of_ble_eq_true rfl, Nat.le_refl _, Or.inr ⟨rfl, bI_01 _⟩, ?_⟩
  rcases (show k = 0 ∨ k = 1 ∨ k = 2 by omega) with rfl | rfl | rfl
  · refine R1 (g' := (1, _, _, _, _, _)) rfl rfl ?_
    refine R_tsw (27) 28 rfl (by decide) (by decide) rfl rfl ?_
    refine R1 (g' := (29, _, _, _, _, _)) rfl rfl ?_
    refine R_getf rfl rfl hp.1 (hp.2 _ _ _) rfl ?_
    refine R1 (g' := (33, _, _, _, _, _)) rfl rfl ?_
    refine R_getf rfl rfl hp.1 (hp.2 _ _ _) rfl ?_
    rw [hw, hh]
    refine R_call2 (Or.inl ⟨rfl, rfl⟩) rfl rfl ⟨Nat.le_of_ble_eq_true rfl, Nat.le_of_ble_eq_true rfl⟩ (Nat.le_of_ble_eq_true rfl) ⟨hok, rfl⟩ (e_allowsDraw (by omega) (by omega) (by omega)) ?_
    refine R_iret rfl ?_
    exact ⟨o_i (congrArg bI (Bool.eq_iff_iff.mpr (by simp only [nCan, nRg, nUp, nNW, nNH, Bool.and_eq_true, Bool.or_eq_true, decide_eq_true_eq]; simp; omega))), rfl⟩
  · refine R1 (g' := (1, _, _, _, _, _)) rfl rfl ?_
    refine R_tsw (39) 40 rfl (by decide) (by decide) rfl rfl ?_
    refine R1 (g' := (41, _, _, _, _, _)) rfl rfl ?_
    refine R_getf rfl rfl hp.1 (hp.2 _ _ _) rfl ?_
    refine R1 (g' := (45, _, _, _, _, _)) rfl rfl ?_
    refine R_getf rfl rfl hp.1 (hp.2 _ _ _) rfl ?_
    rw [hw, hh]
    refine R_call2 (Or.inl ⟨rfl, rfl⟩) rfl rfl ⟨Nat.le_of_ble_eq_true rfl, Nat.le_of_ble_eq_true rfl⟩ (Nat.le_of_ble_eq_true rfl) ⟨hok, rfl⟩ (e_allowsDraw (by omega) (by omega) (by omega)) ?_
    refine R_iret rfl ?_
    exact ⟨o_i (congrArg bI (Bool.eq_iff_iff.mpr (by simp only [nCan, nRg, nUp, nNW, nNH, Bool.and_eq_true, Bool.or_eq_true, decide_eq_true_eq]; simp; omega))), rfl⟩
  · refine R1 (g' := (1, _, _, _, _, _)) rfl rfl ?_
    refine R_tsw (51) 52 rfl (by decide) (by decide) rfl rfl ?_
    refine R1 (g' := (53, _, _, _, _, _)) rfl rfl ?_
    refine R1 (g' := (54, _, _, _, _, _)) rfl rfl ?_
    refine R1 (g' := (55, _, _, _, _, _)) rfl rfl ?_
    refine R_getf rfl rfl hp.1 (hp.2 _ _ _) rfl ?_
    refine R1 (g' := (59, _, _, _, _, _)) rfl rfl ?_
    refine R_getf rfl rfl hp.1 (hp.2 _ _ _) rfl ?_
    rw [hw, hh]
    refine R_call3 (Or.inl ⟨rfl, rfl⟩) rfl rfl ⟨Nat.le_of_ble_eq_true rfl, Nat.le_of_ble_eq_true rfl⟩ (Nat.le_of_ble_eq_true rfl) ⟨hok, by simp only [okS, okV, wd, List.all_cons, List.all_nil, Bool.and_true, Nat.blt_eq]; exact hp.1⟩ (e_lengthWith (by omega) (by omega) hab hv) ?_
    refine R_call2 (Or.inr (Or.inl ⟨rfl, rfl⟩)) rfl rfl ⟨Nat.le_of_ble_eq_true rfl, Nat.le_of_ble_eq_true rfl⟩ (Nat.le_of_ble_eq_true rfl) ⟨hok, rfl⟩ (⟨⟨_, _, _, rfl, hp.1, hp.2 _ _ _⟩, e_allowsUpset hp hw hh (by omega) (by omega) (Nat.lt_of_le_of_lt (Nat.div_le_self _ _) hv)⟩) ?_
    refine R_iret rfl ?_
    exact ⟨o_i (congrArg bI (Bool.eq_iff_iff.mpr (by simp only [nCan, nRg, nUp, nNW, nNH, Bool.and_eq_true, Bool.or_eq_true, decide_eq_true_eq]; simp; omega))), rfl⟩
theorem e_change {s : xs} {p a b k : Nat} (hp : xsec p) (hw : s.1 p 0 = nI a) (hh : s.1 p 1 = nI b) (ha : nRg a = true) (hb : nRg b = true) (hk : k ≤ 2) : Ev_X4_change [.ref p, .int (nI k)] (wd s) (.inl none) (wd (setP s p (secF (s.1 p) (nI (nNW a b k)) (nI (nNH a b k))))) := by
  rw [nRg_iff] at ha hb
  have hok : okL (wd s).1 (xarg 0 [.ref p, .int (nI k)]) = true := by
    simp only [okL, okV, xarg, wd, List.all_cons, List.all_nil, Bool.and_true, Nat.blt_eq]
    exact hp.1
  have hos : okS (wd s).1 [.ref p] = true := by
    simp only [okS, okV, wd, List.all_cons, List.all_nil, Bool.and_true, Nat.blt_eq]
    exact hp.1
  have hdb := nD_b b (by omega)
  have hda := nD_b a (by omega)
  have hla := nD_le a
  have hlb := nD_le b
  refine ⟨Nat.le_of_ble_eq_true rfl, Nat.le_refl _, rfl, ?_⟩
  rcases (show k = 0 ∨ k = 1 ∨ k = 2 by omega) with rfl | rfl | rfl
  · refine R1 (g' := (1, _, _, _, _, _)) rfl rfl ?_
    refine R_ne 33 rfl rfl (fun h => by exact absurd rfl h) (fun h1 => ?_)
    refine R1 (g' := (5, _, _, _, _, _)) rfl rfl ?_
    refine R_getf rfl rfl hp.1 (hp.2 _ _ _) rfl ?_
    rw [hh]
    refine R_call1 (Or.inl ⟨rfl, rfl⟩) rfl rfl ⟨Nat.le_of_ble_eq_true rfl, Nat.le_of_ble_eq_true rfl⟩ (Nat.le_of_ble_eq_true rfl) ⟨hok, rfl⟩ (e_pressed (by omega)) ?_
    refine R1 (g' := (12, _, _, _, _, _)) rfl rfl ?_
    refine R1 (g' := (13, _, _, _, _, _)) rfl rfl ?_
    refine R1 (g' := (14, _, _, _, _, _)) rfl rfl ?_
    refine R_getf rfl rfl hp.1 (hp.2 _ _ _) rfl ?_
    refine R1 (g' := (18, _, _, _, _, _)) rfl rfl ?_
    refine R1 (g' := (19, _, .int (nI 3) :: _, _, _, _)) rfl rfl ?_
    refine R_idiv rfl (by decide) ?_
    rw [pk_div (by omega) (by decide) (by decide), hw]
    refine R1 (g' := (21, _, _, _, _, _)) rfl rfl ?_
    rw [nI_add]
    refine R1 (g' := (22, _, _, _, _, _)) rfl rfl ?_
    refine R_getf rfl rfl hp.1 (hp.2 _ _ _) rfl ?_
    refine R1 (g' := (26, _, _, _, _, _)) rfl rfl ?_
    rw [hh]
    refine R1 (g' := (27, _, _, _, _, _)) rfl rfl ?_
    rw [pk_sub (by omega)]
    refine R_call3 (Or.inr (Or.inl ⟨rfl, rfl⟩)) rfl rfl ⟨Nat.le_of_ble_eq_true rfl, Nat.le_of_ble_eq_true rfl⟩ (Nat.le_of_ble_eq_true rfl) ⟨by simp only [okL, okV, xput1, xarg, wd] at hok ⊢; simpa using hok, rfl⟩ (⟨⟨_, _, _, rfl, hp.1, hp.2 _ _ _⟩, e_become hp⟩) ?_
    refine R1 (g' := (83, _, _, _, _, _)) rfl rfl ?_
    refine R_vret rfl ?_
    exact ⟨rfl, rfl⟩
  · refine R1 (g' := (1, _, _, _, _, _)) rfl rfl ?_
    refine R_ne 33 rfl rfl (fun h1 => ?_) (fun h => by exact absurd h (by decide))
    refine R1 (g' := (34, _, _, _, _, _)) rfl rfl ?_
    refine R1 (g' := (35, _, .int (nI 1) :: _, _, _, _)) rfl rfl ?_
    refine R_cne 67 rfl rfl (fun h => by exact absurd rfl h) (fun h35 => ?_)
    refine R1 (g' := (39, _, _, _, _, _)) rfl rfl ?_
    refine R_getf rfl rfl hp.1 (hp.2 _ _ _) rfl ?_
    rw [hw]
    refine R_call1 (Or.inl ⟨rfl, rfl⟩) rfl rfl ⟨Nat.le_of_ble_eq_true rfl, Nat.le_of_ble_eq_true rfl⟩ (Nat.le_of_ble_eq_true rfl) ⟨hok, rfl⟩ (e_pressed (by omega)) ?_
    refine R1 (g' := (46, _, _, _, _, _)) rfl rfl ?_
    refine R1 (g' := (47, _, _, _, _, _)) rfl rfl ?_
    refine R1 (g' := (48, _, _, _, _, _)) rfl rfl ?_
    refine R_getf rfl rfl hp.1 (hp.2 _ _ _) rfl ?_
    rw [hw]
    refine R1 (g' := (52, _, _, _, _, _)) rfl rfl ?_
    refine R1 (g' := (53, _, _, _, _, _)) rfl rfl ?_
    rw [pk_sub (by omega)]
    refine R1 (g' := (54, _, _, _, _, _)) rfl rfl ?_
    refine R_getf rfl rfl hp.1 (hp.2 _ _ _) rfl ?_
    refine R1 (g' := (58, _, _, _, _, _)) rfl rfl ?_
    refine R1 (g' := (59, _, .int (nI 3) :: _, _, _, _)) rfl rfl ?_
    refine R_idiv rfl (by decide) ?_
    rw [pk_div (by omega) (by decide) (by decide), hh]
    refine R1 (g' := (61, _, _, _, _, _)) rfl rfl ?_
    rw [nI_add]
    refine R_call3 (Or.inr (Or.inl ⟨rfl, rfl⟩)) rfl rfl ⟨Nat.le_of_ble_eq_true rfl, Nat.le_of_ble_eq_true rfl⟩ (Nat.le_of_ble_eq_true rfl) ⟨by simp only [okL, okV, xput1, xarg, wd] at hok ⊢; simpa using hok, rfl⟩ (⟨⟨_, _, _, rfl, hp.1, hp.2 _ _ _⟩, e_become hp⟩) ?_
    refine R1 (g' := (83, _, _, _, _, _)) rfl rfl ?_
    refine R_vret rfl ?_
    exact ⟨rfl, rfl⟩
  · refine R1 (g' := (1, _, _, _, _, _)) rfl rfl ?_
    refine R_ne 33 rfl rfl (fun h1 => ?_) (fun h => by exact absurd h (by decide))
    refine R1 (g' := (34, _, _, _, _, _)) rfl rfl ?_
    refine R1 (g' := (35, _, .int (nI 1) :: _, _, _, _)) rfl rfl ?_
    refine R_cne 67 rfl rfl (fun h35 => ?_) (fun h => by exact absurd h (by decide))
    refine R1 (g' := (68, _, _, _, _, _)) rfl rfl ?_
    refine R1 (g' := (69, _, _, _, _, _)) rfl rfl ?_
    refine R_getf rfl rfl hp.1 (hp.2 _ _ _) rfl ?_
    refine R1 (g' := (73, _, .int (nI 1) :: _, _, _, _)) rfl rfl ?_
    rw [hw]
    refine R1 (g' := (74, _, _, _, _, _)) rfl rfl ?_
    rw [nI_add]
    refine R1 (g' := (75, _, _, _, _, _)) rfl rfl ?_
    refine R_getf rfl rfl hp.1 (hp.2 _ _ _) rfl ?_
    refine R1 (g' := (79, _, .int (nI 1) :: _, _, _, _)) rfl rfl ?_
    rw [hh]
    refine R1 (g' := (80, _, _, _, _, _)) rfl rfl ?_
    rw [nI_add]
    refine R_call3 (Or.inr (Or.inl ⟨rfl, rfl⟩)) rfl rfl ⟨Nat.le_of_ble_eq_true rfl, Nat.le_of_ble_eq_true rfl⟩ (Nat.le_of_ble_eq_true rfl) ⟨hok, rfl⟩ (⟨⟨_, _, _, rfl, hp.1, hp.2 _ _ _⟩, e_become hp⟩) ?_
    refine R_vret rfl ?_
    exact ⟨rfl, rfl⟩
