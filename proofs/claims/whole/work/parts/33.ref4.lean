theorem inI_near {a x o : Nat} (ha : a < 2 ^ 20) (hx : x < 2 ^ 20) (ho : o < 2 ^ 20) : inI (nI a - nI x) (-nI o) (nI o) = nNear a x o := by
  have h1 : (nI a - nI x).toInt = (a : Int) - x := pk_sub_toInt (by omega) (by omega)
  have h2 : (-nI o).toInt = -(o : Int) := by
    rw [show -nI o = nI 0 - nI o from (Int32.zero_sub (nI o)).symm, pk_sub_toInt (by decide) (by omega)]
    omega
  have h3 : (nI o).toInt = (o : Int) := nI_toInt (by omega)
  simp only [inI, nNear, Int32.le_iff_toInt_le, h1, h2, h3]
  rw [show decide (-(o : Int) ≤ (a : Int) - x) = decide (x ≤ a + o) from decide_eq_decide.mpr (by omega), show decide ((a : Int) - x ≤ (o : Int)) = decide (a ≤ x + o) from decide_eq_decide.mpr (by omega), Bool.and_comm]
theorem e9_fits {s : xs} {a b x y o : Nat} (ha : a < 2 ^ 20) (hb : b < 2 ^ 20) (hx : x < 2 ^ 20) (hy : y < 2 ^ 20) (ho : o < 2 ^ 20) : Ev_X9_fits [.int (nI a), .int (nI b), .int (nI x), .int (nI y), .int (nI o)] (wd s) (.inl (some (.int (bI (nNear a x o && nNear b y o))))) (wd s) := by
  refine ⟨Nat.le_of_ble_eq_true rfl, Nat.le_refl _, Or.inr ⟨rfl, bI_01 _⟩, ?_⟩
  refine R1 (g' := (1, _, _, _, _, _)) rfl rfl ?_
  refine R1 (g' := (2, _, _, _, _, _)) rfl rfl ?_
  refine R1 (g' := (3, _, _, _, _, _)) rfl rfl ?_
  refine R1 (g' := (5, _, _, _, _, _)) rfl rfl ?_
  refine R1 (g' := (6, _, _, _, _, _)) rfl rfl ?_
  refine R1 (g' := (8, _, _, _, _, _)) rfl rfl ?_
  refine R_call3 (Or.inl ⟨rfl, rfl⟩) rfl rfl ⟨Nat.le_of_ble_eq_true rfl, Nat.le_of_ble_eq_true rfl⟩ (Nat.le_of_ble_eq_true rfl) ⟨rfl, rfl⟩ (e9_in) ?_
  rw [inI_near ha hx ho]
  refine R_eq 32 rfl rfl (fun h11 => ?_) (fun h11 => ?_)
  · refine R1 (g' := (33, _, .int (nI 0) :: _, _, _, _)) rfl rfl ?_
    refine R_iret rfl ?_
    first
      | (have e := bI_e h11; exact ⟨o_i (bI_f (by rw [e, Bool.false_and])).symm, rfl⟩)
      | (have e := bI_e h25; exact ⟨o_i (bI_f (by rw [e, Bool.and_false])).symm, rfl⟩)
      | (have e := bI_n h11; have e2 := bI_n h25; exact ⟨o_i (bI_t (by rw [e, e2, Bool.and_self])).symm, rfl⟩)
  · refine R1 (g' := (15, _, _, _, _, _)) rfl rfl ?_
    refine R1 (g' := (16, _, _, _, _, _)) rfl rfl ?_
    refine R1 (g' := (17, _, _, _, _, _)) rfl rfl ?_
    refine R1 (g' := (19, _, _, _, _, _)) rfl rfl ?_
    refine R1 (g' := (20, _, _, _, _, _)) rfl rfl ?_
    refine R1 (g' := (22, _, _, _, _, _)) rfl rfl ?_
    refine R_call3 (Or.inl ⟨rfl, rfl⟩) rfl rfl ⟨Nat.le_of_ble_eq_true rfl, Nat.le_of_ble_eq_true rfl⟩ (Nat.le_of_ble_eq_true rfl) ⟨rfl, rfl⟩ (e9_in) ?_
    rw [inI_near hb hy ho]
    refine R_eq 32 rfl rfl (fun h25 => ?_) (fun h25 => ?_)
    · refine R1 (g' := (33, _, .int (nI 0) :: _, _, _, _)) rfl rfl ?_
      refine R_iret rfl ?_
      first
        | (have e := bI_e h11; exact ⟨o_i (bI_f (by rw [e, Bool.false_and])).symm, rfl⟩)
        | (have e := bI_e h25; exact ⟨o_i (bI_f (by rw [e, Bool.and_false])).symm, rfl⟩)
        | (have e := bI_n h11; have e2 := bI_n h25; exact ⟨o_i (bI_t (by rw [e, e2, Bool.and_self])).symm, rfl⟩)
    · refine R1 (g' := (29, _, .int (nI 1) :: _, _, _, _)) rfl rfl ?_
      refine R1 (g' := (33, _, _, _, _, _)) rfl rfl ?_
      refine R_iret rfl ?_
      first
        | (have e := bI_e h11; exact ⟨o_i (bI_f (by rw [e, Bool.false_and])).symm, rfl⟩)
        | (have e := bI_e h25; exact ⟨o_i (bI_f (by rw [e, Bool.and_false])).symm, rfl⟩)
        | (have e := bI_n h11; have e2 := bI_n h25; exact ⟨o_i (bI_t (by rw [e, e2, Bool.and_self])).symm, rfl⟩)
theorem e9_sectionOf {s : xs} {a b : Nat} (ha : 5 ≤ a) (ha2 : a ≤ 100) (hb : 5 ≤ b) (hb2 : b ≤ 100) : Ev_X9_sectionOf [.int (nI a), .int (nI b)] (wd s) (.inl (some (.int (nI (96 * (a - 5) + (b - 5)))))) (wd s) := by
  refine ⟨Nat.le_of_ble_eq_true rfl, Nat.le_refl _, Or.inl rfl, ?_⟩
  refine R1 (g' := (2, _, .int (nI 96) :: _, _, _, _)) rfl rfl ?_
  refine R1 (g' := (3, _, _, _, _, _)) rfl rfl ?_
  refine R1 (g' := (4, _, .int (nI 5) :: _, _, _, _)) rfl rfl ?_
  refine R1 (g' := (5, _, _, _, _, _)) rfl rfl ?_
  rw [pk_sub ha]
  refine R1 (g' := (6, _, _, _, _, _)) rfl rfl ?_
  rw [pk_mul]
  refine R1 (g' := (7, _, _, _, _, _)) rfl rfl ?_
  refine R1 (g' := (8, _, _, _, _, _)) rfl rfl ?_
  rw [nI_add]
  refine R1 (g' := (9, _, .int (nI 5) :: _, _, _, _)) rfl rfl ?_
  refine R1 (g' := (10, _, _, _, _, _)) rfl rfl ?_
  rw [pk_sub (by omega)]
  refine R_iret rfl ?_
  exact ⟨o_i (congrArg nI (by omega)), rfl⟩
def okS2 (w h : Int32) : Bool := inI w (nI 5) (nI 100) && inI h (nI 5) (nI 100)
def okW (w h o : Int32) : Bool := inI w (nI 5) (nI 100) && (inI h (nI 5) (nI 100) && inI o (nI 0) (nI 9))
theorem e9_isWish {s : xs} {w h x : Int32} : Ev_X9_isWish [.int w, .int h, .int x] (wd s) (.inl (some (.int (bI (okW w h x))))) (wd s) := by
  refine ⟨Nat.le_of_ble_eq_true rfl, Nat.le_refl _, Or.inr ⟨rfl, bI_01 _⟩, ?_⟩
  refine R1 (g' := (1, _, _, _, _, _)) rfl rfl ?_
  refine R_call1 (Or.inl ⟨rfl, rfl⟩) rfl rfl ⟨Nat.le_of_ble_eq_true rfl, Nat.le_of_ble_eq_true rfl⟩ (Nat.le_of_ble_eq_true rfl) ⟨rfl, rfl⟩ (e9_isSize) ?_
  refine R_eq 28 rfl rfl (fun h4 => ?_) (fun h4 => ?_)
  · refine R1 (g' := (29, _, .int (nI 0) :: _, _, _, _)) rfl rfl ?_
    refine R_iret rfl ?_
    first
      | (have e := bI_e h4; exact ⟨o_i (bI_f (by rw [okW, e, Bool.false_and])).symm, rfl⟩)
      | (have e := bI_e h11; exact ⟨o_i (bI_f (by rw [okW, e, Bool.false_and, Bool.and_false])).symm, rfl⟩)
      | (have e := bI_e h21; exact ⟨o_i (bI_f (by rw [okW, e, Bool.and_false, Bool.and_false])).symm, rfl⟩)
      | (have e := bI_n h4; have e2 := bI_n h11; have e3 := bI_n h21; exact ⟨o_i (bI_t (by rw [okW, e, e2, e3, Bool.and_self, Bool.and_self])).symm, rfl⟩)
  · refine R1 (g' := (8, _, _, _, _, _)) rfl rfl ?_
    refine R_call1 (Or.inl ⟨rfl, rfl⟩) rfl rfl ⟨Nat.le_of_ble_eq_true rfl, Nat.le_of_ble_eq_true rfl⟩ (Nat.le_of_ble_eq_true rfl) ⟨rfl, rfl⟩ (e9_isSize) ?_
    refine R_eq 28 rfl rfl (fun h11 => ?_) (fun h11 => ?_)
    · refine R1 (g' := (29, _, .int (nI 0) :: _, _, _, _)) rfl rfl ?_
      refine R_iret rfl ?_
      first
        | (have e := bI_e h4; exact ⟨o_i (bI_f (by rw [okW, e, Bool.false_and])).symm, rfl⟩)
        | (have e := bI_e h11; exact ⟨o_i (bI_f (by rw [okW, e, Bool.false_and, Bool.and_false])).symm, rfl⟩)
        | (have e := bI_e h21; exact ⟨o_i (bI_f (by rw [okW, e, Bool.and_false, Bool.and_false])).symm, rfl⟩)
        | (have e := bI_n h4; have e2 := bI_n h11; have e3 := bI_n h21; exact ⟨o_i (bI_t (by rw [okW, e, e2, e3, Bool.and_self, Bool.and_self])).symm, rfl⟩)
    · refine R1 (g' := (15, _, _, _, _, _)) rfl rfl ?_
      refine R1 (g' := (16, _, .int (nI 0) :: _, _, _, _)) rfl rfl ?_
      refine R1 (g' := (18, _, .int (nI 9) :: _, _, _, _)) rfl rfl ?_
      refine R_call3 (Or.inl ⟨rfl, rfl⟩) rfl rfl ⟨Nat.le_of_ble_eq_true rfl, Nat.le_of_ble_eq_true rfl⟩ (Nat.le_of_ble_eq_true rfl) ⟨rfl, rfl⟩ (e9_in) ?_
      refine R_eq 28 rfl rfl (fun h21 => ?_) (fun h21 => ?_)
      · refine R1 (g' := (29, _, .int (nI 0) :: _, _, _, _)) rfl rfl ?_
        refine R_iret rfl ?_
        first
          | (have e := bI_e h4; exact ⟨o_i (bI_f (by rw [okW, e, Bool.false_and])).symm, rfl⟩)
          | (have e := bI_e h11; exact ⟨o_i (bI_f (by rw [okW, e, Bool.false_and, Bool.and_false])).symm, rfl⟩)
          | (have e := bI_e h21; exact ⟨o_i (bI_f (by rw [okW, e, Bool.and_false, Bool.and_false])).symm, rfl⟩)
          | (have e := bI_n h4; have e2 := bI_n h11; have e3 := bI_n h21; exact ⟨o_i (bI_t (by rw [okW, e, e2, e3, Bool.and_self, Bool.and_self])).symm, rfl⟩)
      · refine R1 (g' := (25, _, .int (nI 1) :: _, _, _, _)) rfl rfl ?_
        refine R1 (g' := (29, _, _, _, _, _)) rfl rfl ?_
        refine R_iret rfl ?_
        first
          | (have e := bI_e h4; exact ⟨o_i (bI_f (by rw [okW, e, Bool.false_and])).symm, rfl⟩)
          | (have e := bI_e h11; exact ⟨o_i (bI_f (by rw [okW, e, Bool.false_and, Bool.and_false])).symm, rfl⟩)
          | (have e := bI_e h21; exact ⟨o_i (bI_f (by rw [okW, e, Bool.and_false, Bool.and_false])).symm, rfl⟩)
          | (have e := bI_n h4; have e2 := bI_n h11; have e3 := bI_n h21; exact ⟨o_i (bI_t (by rw [okW, e, e2, e3, Bool.and_self, Bool.and_self])).symm, rfl⟩)
theorem cpy_0 {f g : Nat → Int32} {a b : Nat} : va_cpy f g a b 0 = g := funext fun j => pk_cpy_out (by omega)
theorem cpy_s {f g : Nat → Int32} {a b k : Nat} : upd (va_cpy f g a b k) (b + k) (f (a + k)) = va_cpy f g a b (k + 1) := by
  funext j
  simp only [upd]
  by_cases e : j = b + k
  · subst e
    rw [if_pos rfl, pk_cpy_in (by omega) (by omega)]
    congr 1
    omega
  · rw [if_neg e]
    by_cases e2 : b ≤ j ∧ j < b + k
    · rw [pk_cpy_in e2.1 e2.2, pk_cpy_in e2.1 (by omega)]
    · rw [pk_cpy_out (by omega), pk_cpy_out (by omega)]
def xpg (i n : Nat) : Prop := i < 151 ∧ n < 2 ^ 31 ∧ ∀ f q g, cellAt i f q g = .inl (0, n, .inl f)
theorem xpg_m : xpg 143 73 := ⟨by decide, by decide, fun _ _ _ => rfl⟩
theorem xpg_p : xpg 144 73 := ⟨by decide, by decide, fun _ _ _ => rfl⟩
theorem xpg_s : xpg 145 292 := ⟨by decide, by decide, fun _ _ _ => rfl⟩
theorem bring_loop {s : xs} {i n j m a b : Nat} (hi : xpg i n) (hj : xpg j m) (hij : i ≠ j) (ha : a + 73 ≤ n) (hb : b + 73 ≤ m) : ∀ (d k : Nat), k + d = 73 → xRun M_X9_bring (fun o1 w1 => o1 = .inl none ∧ w1 = wd (setP s j (va_cpy (s.1 i) (s.1 j) a b 73))) (3, [(4, .int (nI k)), (0, .ref i), (1, .int (nI a)), (2, .ref j), (3, .int (nI b))], [], wd (setP s j (va_cpy (s.1 i) (s.1 j) a b k)), 0, 0) := by
  obtain ⟨i1, i2, i3⟩ := hi
  obtain ⟨j1, j2, j3⟩ := hj
  intro d
  induction d with
  | zero =>
    intro k hk
    have hk : k = 73 := by omega
    subst hk
    refine R1 (g' := (5, _, _, _, _, _)) rfl rfl ?_
    refine R1 (g' := (7, _, .int (nI 73) :: _, _, _, _)) rfl rfl ?_
    refine R_cgeN 28 (73) (73) rfl rfl (rfl) (rfl) (by omega) (by omega) (fun h7 => ?_) (fun h => by omega)
    refine R_vret rfl ?_
    exact ⟨rfl, rfl⟩
  | succ d ih =>
    intro k hk
    refine R1 (g' := (5, _, _, _, _, _)) rfl rfl ?_
    refine R1 (g' := (7, _, .int (nI 73) :: _, _, _, _)) rfl rfl ?_
    refine R_cgeN 28 (k) (73) rfl rfl (rfl) (rfl) (by omega) (by omega) (fun h => by omega) (fun h7 => ?_)
    refine R1 (g' := (11, _, _, _, _, _)) rfl rfl ?_
    refine R1 (g' := (12, _, _, _, _, _)) rfl rfl ?_
    refine R1 (g' := (14, _, _, _, _, _)) rfl rfl ?_
    refine R1 (g' := (15, _, _, _, _, _)) rfl rfl ?_
    refine R1 (g' := (16, _, _, _, _, _)) rfl rfl ?_
    refine R1 (g' := (17, _, _, _, _, _)) rfl rfl ?_
    refine R1 (g' := (19, _, _, _, _, _)) rfl rfl ?_
    refine R1 (g' := (20, _, _, _, _, _)) rfl rfl ?_
    refine R_iald (a + k) rfl i1 (i3 _ _ _) (by omega) i2 (by rw [nI_add]) ?_
    rw [setP_ne _ _ hij]
    refine R_iast (b + k) rfl j1 (fun _ => j3 _ _ _) (by omega) j2 (by rw [nI_add]) ?_
    rw [setP_setP, setP_at, cpy_s]
    refine R1 (g' := (25, _, _, _, _, _)) rfl rfl ?_
    refine R1 (g' := (3, _, _, _, _, _)) rfl rfl ?_
    refine R_lv [(4, .int (nI (k + 1))), (0, .ref i), (1, .int (nI a)), (2, .ref j), (3, .int (nI b))] rfl (List.forall_mem_cons.mpr ⟨by rw [nI_succ k]; rfl, List.forall_mem_cons.mpr ⟨rfl, List.forall_mem_cons.mpr ⟨rfl, List.forall_mem_cons.mpr ⟨rfl, List.forall_mem_cons.mpr ⟨rfl, fun _ h => absurd h List.not_mem_nil⟩⟩⟩⟩⟩) ⟨rfl, rfl⟩ ?_
    exact ih (k + 1) (by omega)
theorem e9_bring {s : xs} {i n j m a b : Nat} (hi : xpg i n) (hj : xpg j m) (hij : i ≠ j) (ha : a + 73 ≤ n) (hb : b + 73 ≤ m) : Ev_X9_bring [.ref i, .int (nI a), .ref j, .int (nI b)] (wd s) (.inl none) (wd (setP s j (va_cpy (s.1 i) (s.1 j) a b 73))) := by
  have hr := bring_loop (s := s) hi hj hij ha hb 73 0 rfl
  rw [cpy_0, setP_self] at hr
  refine ⟨Nat.le_of_ble_eq_true rfl, Nat.le_refl _, rfl, ?_⟩
  refine R1 (g' := (1, _, .int (nI 0) :: _, _, _, _)) rfl rfl ?_
  refine R1 (g' := (3, _, _, _, _, _)) rfl rfl ?_
  exact R_lv [(4, .int (nI 0)), (0, .ref i), (1, .int (nI a)), (2, .ref j), (3, .int (nI b))] rfl (List.forall_mem_cons.mpr ⟨rfl, List.forall_mem_cons.mpr ⟨rfl, List.forall_mem_cons.mpr ⟨rfl, List.forall_mem_cons.mpr ⟨rfl, List.forall_mem_cons.mpr ⟨rfl, fun _ h => absurd h List.not_mem_nil⟩⟩⟩⟩⟩) ⟨rfl, rfl⟩ hr
def kpF (s : xs) (c : Nat) : xs := put (setP s 145 (va_cpy (s.1 143) (s.1 145) 0 (73 * c) 73)) 142 3 (nI (c + 1))
theorem e9_keepF {s : xs} {c : Nat} (hc : s.1 142 3 = nI c) (h4 : c < 4) : Ev_X9_keep [.ref 142] (wd s) (.inl none) (wd (kpF s c)) := by
  refine ⟨Nat.le_of_ble_eq_true rfl, Nat.le_refl _, rfl, ?_⟩
  refine R1 (g' := (1, _, _, _, _, _)) rfl rfl ?_
  refine R_getf rfl rfl (Nat.le_of_ble_eq_true rfl) rfl rfl ?_
  refine R1 (g' := (5, _, .int (nI 4) :: _, _, _, _)) rfl rfl ?_
  refine R_cneN 48 (c) (4) rfl rfl (hc) (rfl) (by omega) (by omega) (fun h5 => ?_) (fun h => by omega)
  refine R1 (g' := (49, _, _, _, _, _)) rfl rfl ?_
  refine R_getf rfl rfl (Nat.le_of_ble_eq_true rfl) rfl rfl ?_
  refine R1 (g' := (53, _, .int (nI 0) :: _, _, _, _)) rfl rfl ?_
  refine R1 (g' := (54, _, _, _, _, _)) rfl rfl ?_
  refine R_getf rfl rfl (Nat.le_of_ble_eq_true rfl) rfl rfl ?_
  refine R1 (g' := (59, _, .int (nI 73) :: _, _, _, _)) rfl rfl ?_
  refine R1 (g' := (60, _, _, _, _, _)) rfl rfl ?_
  refine R_getf rfl rfl (Nat.le_of_ble_eq_true rfl) rfl rfl ?_
  refine R1 (g' := (64, _, _, _, _, _)) rfl rfl ?_
  rw [hc, pk_mul]
  refine R_call4 (Or.inl ⟨rfl, rfl⟩) rfl rfl ⟨Nat.le_of_ble_eq_true rfl, Nat.le_of_ble_eq_true rfl⟩ (Nat.le_of_ble_eq_true rfl) ⟨rfl, rfl⟩ (e9_bring xpg_m xpg_s (by decide) (by decide) (by omega)) ?_
  refine R1 (g' := (68, _, _, _, _, _)) rfl rfl ?_
  refine R1 (g' := (69, _, _, _, _, _)) rfl rfl ?_
  refine R_getf rfl rfl (Nat.le_of_ble_eq_true rfl) rfl rfl ?_
  refine R1 (g' := (73, _, .int (nI 1) :: _, _, _, _)) rfl rfl ?_
  refine R1 (g' := (74, _, _, _, _, _)) rfl rfl ?_
  rw [setP_ne _ _ (by decide), hc, nI_add]
  refine R_put rfl rfl (Nat.le_of_ble_eq_true rfl) rfl (Nat.le_of_ble_eq_true rfl) ⟨_, rfl, Or.inl rfl, _, rfl, rfl⟩ rfl ?_
  refine R_vret rfl ?_
  exact ⟨rfl, rfl⟩
def qSh (f : Nat → Int32) (k : Nat) : Nat → Int32 := fun j => if j < k then f (j + 73) else f j
theorem qSh_0 (f : Nat → Int32) : qSh f 0 = f := funext fun j => if_neg (Nat.not_lt_zero _)
theorem qSh_k (f : Nat → Int32) {k j : Nat} (h : k ≤ j) : qSh f k j = f j := if_neg (by omega)
theorem qSh_s (f : Nat → Int32) (k : Nat) : upd (qSh f k) k (f (k + 73)) = qSh f (k + 1) := by
  funext j
  simp only [upd, qSh]
  by_cases e : j = k
  · subst e
    rw [if_pos rfl, if_pos (by omega)]
  · rw [if_neg e]
    by_cases e2 : j < k
    · rw [if_pos e2, if_pos (by omega)]
    · rw [if_neg e2, if_neg (by omega)]
def kpM (s : xs) : xs := kpF (put (setP s 145 (qSh (s.1 145) 219)) 142 3 (nI 3)) 3
theorem keep_loop {s : xs} (hc : s.1 142 3 = nI 4) : ∀ (d k : Nat), k + d = 219 → xRun M_X9_keep (fun o1 w1 => o1 = .inl none ∧ w1 = wd (kpM s)) (10, [(1, .int (nI k)), (0, .ref 142)], [], wd (setP s 145 (qSh (s.1 145) k)), 0, 0) := by
  intro d
  induction d with
  | zero =>
    intro k hk
    have hk : k = 219 := by omega
    subst hk
    refine R1 (g' := (11, _, _, _, _, _)) rfl rfl ?_
    refine R1 (g' := (14, _, .int (nI 219) :: _, _, _, _)) rfl rfl ?_
    refine R_cgeN 38 (219) (219) rfl rfl (rfl) (rfl) (by omega) (by omega) (fun h14 => ?_) (fun h => by omega)
    refine R1 (g' := (39, _, _, _, _, _)) rfl rfl ?_
    refine R1 (g' := (40, _, _, _, _, _)) rfl rfl ?_
    refine R_getf rfl rfl (Nat.le_of_ble_eq_true rfl) rfl rfl ?_
    refine R1 (g' := (44, _, .int (nI 1) :: _, _, _, _)) rfl rfl ?_
    rw [setP_ne _ _ (by decide), hc]
    refine R1 (g' := (45, _, _, _, _, _)) rfl rfl ?_
    change xRun _ _ (45, _, [.int (nI 3), _], _, _, _)
    refine R_put rfl rfl (Nat.le_of_ble_eq_true rfl) rfl (Nat.le_of_ble_eq_true rfl) ⟨_, rfl, Or.inl rfl, _, rfl, rfl⟩ rfl ?_
    change xRun _ _ (48, _, _, wd (put (setP s 145 (qSh (s.1 145) 219)) 142 3 (nI 3)), _, _)
    refine R1 (g' := (49, _, _, _, _, _)) rfl rfl ?_
    refine R_getf rfl rfl (Nat.le_of_ble_eq_true rfl) rfl rfl ?_
    refine R1 (g' := (53, _, .int (nI 0) :: _, _, _, _)) rfl rfl ?_
    refine R1 (g' := (54, _, _, _, _, _)) rfl rfl ?_
    refine R_getf rfl rfl (Nat.le_of_ble_eq_true rfl) rfl rfl ?_
    refine R1 (g' := (59, _, .int (nI 73) :: _, _, _, _)) rfl rfl ?_
    refine R1 (g' := (60, _, _, _, _, _)) rfl rfl ?_
    refine R_getf rfl rfl (Nat.le_of_ble_eq_true rfl) rfl rfl ?_
    refine R1 (g' := (64, _, _, _, _, _)) rfl rfl ?_
    rw [show (put (setP s 145 (qSh (s.1 145) 219)) 142 3 (nI 3)).1 142 3 = nI 3 from by simp [put_val], pk_mul]
    refine R_call4 (Or.inl ⟨rfl, rfl⟩) rfl rfl ⟨Nat.le_of_ble_eq_true rfl, Nat.le_of_ble_eq_true rfl⟩ (Nat.le_of_ble_eq_true rfl) ⟨rfl, rfl⟩ (e9_bring xpg_m xpg_s (by decide) (by decide) (by omega)) ?_
    refine R1 (g' := (68, _, _, _, _, _)) rfl rfl ?_
    refine R1 (g' := (69, _, _, _, _, _)) rfl rfl ?_
    refine R_getf rfl rfl (Nat.le_of_ble_eq_true rfl) rfl rfl ?_
    refine R1 (g' := (73, _, .int (nI 1) :: _, _, _, _)) rfl rfl ?_
    refine R1 (g' := (74, _, _, _, _, _)) rfl rfl ?_
    refine R_put rfl rfl (Nat.le_of_ble_eq_true rfl) rfl (Nat.le_of_ble_eq_true rfl) ⟨_, rfl, Or.inl rfl, _, rfl, rfl⟩ rfl ?_
    refine R_vret rfl ?_
    exact ⟨rfl, rfl⟩
  | succ d ih =>
    intro k hk
    refine R1 (g' := (11, _, _, _, _, _)) rfl rfl ?_
    refine R1 (g' := (14, _, .int (nI 219) :: _, _, _, _)) rfl rfl ?_
    refine R_cgeN 38 (k) (219) rfl rfl (rfl) (rfl) (by omega) (by omega) (fun h => by omega) (fun h14 => ?_)
    refine R1 (g' := (18, _, _, _, _, _)) rfl rfl ?_
    refine R_getf rfl rfl (Nat.le_of_ble_eq_true rfl) rfl rfl ?_
    refine R1 (g' := (22, _, _, _, _, _)) rfl rfl ?_
    refine R1 (g' := (23, _, _, _, _, _)) rfl rfl ?_
    refine R_getf rfl rfl (Nat.le_of_ble_eq_true rfl) rfl rfl ?_
    refine R1 (g' := (27, _, _, _, _, _)) rfl rfl ?_
    refine R1 (g' := (29, _, .int (nI 73) :: _, _, _, _)) rfl rfl ?_
    refine R1 (g' := (30, _, _, _, _, _)) rfl rfl ?_
    refine R_iald (k + 73) rfl (Nat.le_of_ble_eq_true rfl) rfl (by omega) (by decide) (by rw [nI_add]) ?_
    rw [setP_at, qSh_k _ (by omega)]
    refine R_iast k rfl (Nat.le_of_ble_eq_true rfl) (fun _ => rfl) (by omega) (by decide) rfl ?_
    rw [setP_setP, setP_at, qSh_s]
    refine R1 (g' := (35, _, _, _, _, _)) rfl rfl ?_
    refine R1 (g' := (10, _, _, _, _, _)) rfl rfl ?_
    refine R_lv [(1, .int (nI (k + 1))), (0, .ref 142)] rfl (List.forall_mem_cons.mpr ⟨by rw [nI_succ k]; rfl, List.forall_mem_cons.mpr ⟨rfl, fun _ h => absurd h List.not_mem_nil⟩⟩) ⟨rfl, rfl⟩ ?_
    exact ih (k + 1) (by omega)
theorem e9_keepM {s : xs} (hc : s.1 142 3 = nI 4) : Ev_X9_keep [.ref 142] (wd s) (.inl none) (wd (kpM s)) := by
  have hr := keep_loop hc 219 0 rfl
  rw [qSh_0, setP_self] at hr
  refine ⟨Nat.le_of_ble_eq_true rfl, Nat.le_refl _, rfl, ?_⟩
  refine R1 (g' := (1, _, _, _, _, _)) rfl rfl ?_
  refine R_getf rfl rfl (Nat.le_of_ble_eq_true rfl) rfl rfl ?_
  refine R1 (g' := (5, _, .int (nI 4) :: _, _, _, _)) rfl rfl ?_
  refine R_cneN 48 (4) (4) rfl rfl (hc) (rfl) (by omega) (by omega) (fun h => by omega) (fun h5 => ?_)
  refine R1 (g' := (9, _, .int (nI 0) :: _, _, _, _)) rfl rfl ?_
  refine R1 (g' := (10, _, _, _, _, _)) rfl rfl ?_
  exact R_lv [(1, .int (nI 0)), (0, .ref 142)] rfl (List.forall_mem_cons.mpr ⟨rfl, List.forall_mem_cons.mpr ⟨rfl, fun _ h => absurd h List.not_mem_nil⟩⟩) ⟨rfl, rfl⟩ hr
