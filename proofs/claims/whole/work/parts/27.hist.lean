section XQ
variable {M : xM} {Po : xO → xw → Prop} {pc : Nat} {lv : List (Nat × Value)} {kc ks : Nat} {s : xs}
theorem R_alen2 {a n : Nat} {z} {st : List Value} (h : xlk M.2.1 pc = some .arraylength) (ha : a < 151) (hc : cellAt a (s.1 a) (s.2.1 a) (s.2.2 a) = .inl (2, n, z)) (kk : xRun M Po (pc + 1, lv, .int (nI n) :: st, wd s, kc, ks)) : xRun M Po (pc, lv, .ref a :: st, wd s, kc, ks) := by
  refine R1 (g' := (pc + 1, lv, .int (nI n) :: st, wd s, kc, ks)) h ?_ kk
  have h1 : (wd s).2 a = .inl (2, n, z) := hc
  have h2 : Nat.blt a (wd s).1 = true := Nat.blt_eq.mpr ha
  have h3 : Nat.blt 2 3 = true := rfl
  show xpick none (fun _ => xpick (xsd M.2.2.1 .arraylength (pc, lv, .ref a :: st, wd s, kc, ks)) _) = _
  simp only [xpick, xsd, h1, h2, h3, Bool.and_self, cond_true]
  rfl
theorem R_aald {a n b : Nat} {x : Int32} {st : List Value} (k : Nat) (h : xlk M.2.1 pc = some .aaload) (ha : a < 151) (hc : cellAt a (s.1 a) (s.2.1 a) (s.2.2 a) = .inl (2, n, .inr (.inr (.inr (.inr (s.2.1 a)))))) (hk : k < n) (hn : n < 2 ^ 31) (hx : x = nI k) (hb : s.2.1 a k = some b) (kk : xRun M Po (pc + 1, lv, .ref b :: st, wd s, kc, ks)) : xRun M Po (pc, lv, .int x :: .ref a :: st, wd s, kc, ks) := by
  subst hx
  refine R0 h rfl ⟨n, s.2.1 a, ⟨ha, hc⟩, vp_in_nI hk hn, ?_⟩
  rw [nI_clamp (by omega), hb]
  exact kk
theorem R_aast {a n v : Nat} {vs : List Value} {x : Int32} {st : List Value} (k : Nat) (h : xlk M.2.1 pc = some .aastore) (ha : a < 151) (hc : ∀ f, cellAt a (s.1 a) f (s.2.2 a) = .inl (2, n, .inr (.inr (.inr (.inr f))))) (hk : k < n) (hn : n < 2 ^ 31) (hx : x = nI k) (hv : v < 151) (hvs : cellAt v (s.1 v) (s.2.1 v) (s.2.2 v) = .inr (5, vs)) (kk : xRun M Po (pc + 1, lv, st, wd (setQ s a (va_up (s.2.1 a) k (some v))), kc, ks)) : xRun M Po (pc, lv, .ref v :: .int x :: .ref a :: st, wd s, kc, ks) := by
  subst hx
  refine R0 h rfl ⟨n, s.2.1 a, vs, ⟨ha, hc _⟩, hv, hvs, vp_in_nI hk hn, ?_⟩
  rw [nI_clamp (by omega)]
  show xRun M Po (pc + 1, lv, st, (151, va_up (cells s) a (.inl (2, n, .inr (.inr (.inr (.inr (va_up (s.2.1 a) k (some v)))))))), kc, ks)
  rw [cells_setQ s a (va_up (s.2.1 a) k (some v)) (hc _)]
  exact kk
end XQ
/-! the saved states -/
def hPl (b : Nat) : Prop := b = 43 ∨ b = 63 ∨ b = 83 ∨ b = 103
theorem hPl_st {b : Nat} (h : hPl b) : xsta b := by rcases h with rfl | rfl | rfl | rfl <;> first | exact xsta_43 | exact xsta_63 | exact xsta_83 | exact xsta_103
theorem hPl_lt {b : Nat} (h : hPl b) : b < 151 := by rcases h with rfl | rfl | rfl | rfl <;> decide
def xhi (s : xs) (π : Nat → Nat) : Prop := (∀ j, j < 4 → s.2.1 42 j = some (π j) ∧ hPl (π j)) ∧ ∀ i j, i < 4 → j < 4 → π i = π j → i = j
theorem e_stateAt {s : xs} {k b : Nat} (hk : k < 4) (hb : s.2.1 42 k = some b) : Ev_X1_stateAt [.ref 41, .int (nI k)] (wd s) (.inl (some (.ref b))) (wd s) := by
  refine ⟨Nat.le_of_ble_eq_true rfl, Nat.le_refl _, ⟨_, rfl⟩, ?_⟩
  refine R1 (g' := (1, _, _, _, _, _)) rfl rfl ?_
  refine R_lt 22 rfl rfl (fun h => by exact absurd h (nI_pos (by omega))) (fun h1 => ?_)
  refine R1 (g' := (5, _, _, _, _, _)) rfl rfl ?_
  refine R1 (g' := (6, _, _, _, _, _)) rfl rfl ?_
  refine R_getf rfl rfl (Nat.le_of_ble_eq_true rfl) rfl rfl ?_
  refine R_alen2 (n := 4) rfl (Nat.le_of_ble_eq_true rfl) rfl ?_
  refine R_cgeN 22 (k) (4) rfl rfl (rfl) (rfl) (by omega) (by omega) (fun h => by omega) (fun h10 => ?_)
  refine R1 (g' := (14, _, _, _, _, _)) rfl rfl ?_
  refine R_getf rfl rfl (Nat.le_of_ble_eq_true rfl) rfl rfl ?_
  refine R1 (g' := (18, _, _, _, _, _)) rfl rfl ?_
  refine R_aald (n := 4) k rfl (Nat.le_of_ble_eq_true rfl) rfl hk (by decide) rfl hb ?_
  refine R1 (g' := (23, _, _, _, _, _)) rfl rfl ?_
  refine R_aret rfl ?_
  exact ⟨rfl, rfl⟩
theorem e_stateAtN {s : xs} : Ev_X1_stateAt [.ref 41, .int (nI 4)] (wd s) (.inl (some .null)) (wd s) := by
  refine ⟨Nat.le_of_ble_eq_true rfl, Nat.le_refl _, ⟨_, rfl⟩, ?_⟩
  refine R1 (g' := (1, _, _, _, _, _)) rfl rfl ?_
  refine R_lt 22 rfl rfl (fun h => by exact absurd h (by decide)) (fun h1 => ?_)
  refine R1 (g' := (5, _, _, _, _, _)) rfl rfl ?_
  refine R1 (g' := (6, _, _, _, _, _)) rfl rfl ?_
  refine R_getf rfl rfl (Nat.le_of_ble_eq_true rfl) rfl rfl ?_
  refine R_alen2 (n := 4) rfl (Nat.le_of_ble_eq_true rfl) rfl ?_
  refine R_cgeN 22 (4) (4) rfl rfl (rfl) (rfl) (by omega) (by omega) (fun h10 => ?_) (fun h => by omega)
  refine R1 (g' := (23, _, _, _, _, _)) rfl rfl ?_
  exact R_nret rfl ⟨rfl, rfl⟩
def qRot (f : Nat → Option Nat) (k : Nat) : Nat → Option Nat := fun j => if j < k then f (j + 1) else f j
def sRot (s : xs) (k : Nat) : xs := setQ s 42 (qRot (s.2.1 42) k)
theorem sRot_0 (s : xs) : sRot s 0 = s := by
  obtain ⟨a, b, c⟩ := s
  unfold sRot setQ
  congr 2
  funext j
  by_cases h : j = 42
  · subst h
    rw [va_up_self]
    funext i
    simp [qRot]
  · rw [va_up_ne _ _ h]
theorem sRot_at (s : xs) (k : Nat) : (sRot s k).2.1 42 = qRot (s.2.1 42) k := by simp [sRot, setQ, va_up]
theorem setQ_setQ (s : xs) (i : Nat) (f g : Nat → Option Nat) : setQ (setQ s i f) i g = setQ s i g := by
  unfold setQ
  congr 2
  funext j
  by_cases h : j = i
  · subst h
    simp [va_up]
  · simp [va_up, h]
theorem sRot_s {s : xs} {k b : Nat} (h : s.2.1 42 (k + 1) = some b) : setQ (sRot s k) 42 (va_up ((sRot s k).2.1 42) k (some b)) = sRot s (k + 1) := by
  rw [sRot_at]
  unfold sRot
  rw [setQ_setQ]
  congr 1
  funext j
  by_cases hj : j = k
  · subst hj
    simp [va_up, qRot, h]
  · by_cases h2 : j < k
    · simp [va_up, hj, qRot, h2, Nat.lt_succ_of_lt h2]
    · simp [va_up, hj, qRot, h2, show ¬ j < k + 1 by omega]
def sMove (s : xs) : xs := setQ s 42 (va_up (qRot (s.2.1 42) 3) 3 (s.2.1 42 0))
theorem sMove_s {s : xs} {b : Nat} (h : s.2.1 42 0 = some b) : setQ (sRot s 3) 42 (va_up ((sRot s 3).2.1 42) 3 (some b)) = sMove s := by
  rw [sRot_at]
  unfold sRot sMove
  rw [setQ_setQ, h]
theorem sRot_get {s : xs} {k j : Nat} (h : k ≤ j) : (sRot s k).2.1 42 j = s.2.1 42 j := by rw [sRot_at]; simp [qRot, show ¬ j < k by omega]
theorem sRot_1 (s : xs) (k : Nat) : (sRot s k).1 = s.1 := rfl
theorem e_move {s : xs} {π : Nat → Nat} (hh : xhi s π) : Ev_X1_moveOldestBehind [.ref 41] (wd s) (.inl none) (wd (sMove s)) := by
  have hl := fun j (h : j < 4) => hPl_lt (hh.1 j h).2
  have l0 := hl 0 (by decide)
  have l1 := hl 1 (by decide)
  have l2 := hl 2 (by decide)
  have l3 := hl 3 (by decide)
  refine ⟨Nat.le_of_ble_eq_true rfl, Nat.le_refl _, rfl, ?_⟩
  refine R1 (g' := (1, _, _, _, _, _)) rfl rfl ?_
  refine R1 (g' := (2, _, .int (nI 0) :: _, _, _, _)) rfl rfl ?_
  refine R_call2 (Or.inr (Or.inl ⟨rfl, rfl⟩)) rfl rfl ⟨Nat.le_of_ble_eq_true rfl, Nat.le_of_ble_eq_true rfl⟩ (Nat.le_of_ble_eq_true rfl) ⟨(by simp [okL, okS, okV, xarg, xput1, wd, Value.category] <;> omega), (by simp [okL, okS, okV, xarg, xput1, wd, Value.category] <;> omega)⟩ ⟨⟨_, _, _, rfl, (by show _ < 151; omega), rfl⟩, e_stateAt (by decide) (hh.1 0 (by decide)).1⟩ ?_
  refine R1 (g' := (6, _, _, _, _, _)) rfl rfl ?_
  refine R1 (g' := (7, _, .int (nI 0) :: _, _, _, _)) rfl rfl ?_
  refine R1 (g' := (8, _, _, _, _, _)) rfl rfl ?_
  rw [show wd s = wd (sRot s 0) from by rw [sRot_0]]
  refine R1 (g' := (9, _, _, _, _, _)) rfl rfl ?_
  refine R1 (g' := (10, _, _, _, _, _)) rfl rfl ?_
  refine R_getf rfl rfl (Nat.le_of_ble_eq_true rfl) rfl rfl ?_
  refine R_alen2 (n := 4) rfl (Nat.le_of_ble_eq_true rfl) rfl ?_
  refine R_cge 46 rfl rfl (fun h => by exact absurd h (by decide)) (fun h14 => ?_)
  refine R1 (g' := (18, _, _, _, _, _)) rfl rfl ?_
  refine R1 (g' := (19, _, _, _, _, _)) rfl rfl ?_
  refine R1 (g' := (20, _, .int (nI 1) :: _, _, _, _)) rfl rfl ?_
  refine R1 (g' := (21, _, .int (nI 1) :: _, _, _, _)) rfl rfl ?_
  refine R_call2 (Or.inr (Or.inl ⟨rfl, rfl⟩)) rfl rfl ⟨Nat.le_of_ble_eq_true rfl, Nat.le_of_ble_eq_true rfl⟩ (Nat.le_of_ble_eq_true rfl) ⟨(by simp [okL, okS, okV, xarg, xput1, wd, Value.category] <;> omega), (by simp [okL, okS, okV, xarg, xput1, wd, Value.category] <;> omega)⟩ ⟨⟨_, _, _, rfl, (by show _ < 151; omega), rfl⟩, e_stateAt (by decide) ((sRot_get (by decide)).trans (hh.1 1 (by decide)).1)⟩ ?_
  refine R1 (g' := (25, _, _, _, _, _)) rfl rfl ?_
  refine R1 (g' := (26, _, _, _, _, _)) rfl rfl ?_
  refine R_getf rfl rfl (Nat.le_of_ble_eq_true rfl) rfl rfl ?_
  refine R1 (g' := (30, _, _, _, _, _)) rfl rfl ?_
  refine R1 (g' := (31, _, _, _, _, _)) rfl rfl ?_
  refine R1 (g' := (38, _, _, _, _, _)) rfl rfl ?_
  refine R1 (g' := (39, _, _, _, _, _)) rfl rfl ?_
  refine R_aast (n := 4) 0 rfl (Nat.le_of_ble_eq_true rfl) (fun _ => rfl) (by decide) (by decide) rfl (by omega) ((hPl_st (hh.1 1 (by decide)).2).2.1 _ _ _) ?_
  rw [sRot_s (hh.1 1 (by decide)).1]
  refine R1 (g' := (43, _, _, _, _, _)) rfl rfl ?_
  refine R1 (g' := (8, _, _, _, _, _)) rfl rfl ?_
  skip
  rw [show nI 0 + Int32.ofInt 1 = nI 1 from rfl]
  refine R1 (g' := (9, _, _, _, _, _)) rfl rfl ?_
  refine R1 (g' := (10, _, _, _, _, _)) rfl rfl ?_
  refine R_getf rfl rfl (Nat.le_of_ble_eq_true rfl) rfl rfl ?_
  refine R_alen2 (n := 4) rfl (Nat.le_of_ble_eq_true rfl) rfl ?_
  refine R_cge 46 rfl rfl (fun h => by exact absurd h (by decide)) (fun h14 => ?_)
  refine R1 (g' := (18, _, _, _, _, _)) rfl rfl ?_
  refine R1 (g' := (19, _, _, _, _, _)) rfl rfl ?_
  refine R1 (g' := (20, _, .int (nI 1) :: _, _, _, _)) rfl rfl ?_
  refine R1 (g' := (21, _, .int (nI 2) :: _, _, _, _)) rfl rfl ?_
  refine R_call2 (Or.inr (Or.inl ⟨rfl, rfl⟩)) rfl rfl ⟨Nat.le_of_ble_eq_true rfl, Nat.le_of_ble_eq_true rfl⟩ (Nat.le_of_ble_eq_true rfl) ⟨(by simp [okL, okS, okV, xarg, xput1, wd, Value.category] <;> omega), (by simp [okL, okS, okV, xarg, xput1, wd, Value.category] <;> omega)⟩ ⟨⟨_, _, _, rfl, (by show _ < 151; omega), rfl⟩, e_stateAt (by decide) ((sRot_get (by decide)).trans (hh.1 2 (by decide)).1)⟩ ?_
  refine R1 (g' := (25, _, _, _, _, _)) rfl rfl ?_
  refine R1 (g' := (26, _, _, _, _, _)) rfl rfl ?_
  refine R_getf rfl rfl (Nat.le_of_ble_eq_true rfl) rfl rfl ?_
  refine R1 (g' := (30, _, _, _, _, _)) rfl rfl ?_
  refine R1 (g' := (31, _, _, _, _, _)) rfl rfl ?_
  refine R1 (g' := (38, _, _, _, _, _)) rfl rfl ?_
  refine R1 (g' := (39, _, _, _, _, _)) rfl rfl ?_
  refine R_aast (n := 4) 1 rfl (Nat.le_of_ble_eq_true rfl) (fun _ => rfl) (by decide) (by decide) rfl (by omega) ((hPl_st (hh.1 2 (by decide)).2).2.1 _ _ _) ?_
  rw [sRot_s (hh.1 2 (by decide)).1]
  refine R1 (g' := (43, _, _, _, _, _)) rfl rfl ?_
  refine R1 (g' := (8, _, _, _, _, _)) rfl rfl ?_
  skip
  rw [show nI 1 + Int32.ofInt 1 = nI 2 from rfl]
  refine R1 (g' := (9, _, _, _, _, _)) rfl rfl ?_
  refine R1 (g' := (10, _, _, _, _, _)) rfl rfl ?_
  refine R_getf rfl rfl (Nat.le_of_ble_eq_true rfl) rfl rfl ?_
  refine R_alen2 (n := 4) rfl (Nat.le_of_ble_eq_true rfl) rfl ?_
  refine R_cge 46 rfl rfl (fun h => by exact absurd h (by decide)) (fun h14 => ?_)
  refine R1 (g' := (18, _, _, _, _, _)) rfl rfl ?_
  refine R1 (g' := (19, _, _, _, _, _)) rfl rfl ?_
  refine R1 (g' := (20, _, .int (nI 1) :: _, _, _, _)) rfl rfl ?_
  refine R1 (g' := (21, _, .int (nI 3) :: _, _, _, _)) rfl rfl ?_
  refine R_call2 (Or.inr (Or.inl ⟨rfl, rfl⟩)) rfl rfl ⟨Nat.le_of_ble_eq_true rfl, Nat.le_of_ble_eq_true rfl⟩ (Nat.le_of_ble_eq_true rfl) ⟨(by simp [okL, okS, okV, xarg, xput1, wd, Value.category] <;> omega), (by simp [okL, okS, okV, xarg, xput1, wd, Value.category] <;> omega)⟩ ⟨⟨_, _, _, rfl, (by show _ < 151; omega), rfl⟩, e_stateAt (by decide) ((sRot_get (by decide)).trans (hh.1 3 (by decide)).1)⟩ ?_
  refine R1 (g' := (25, _, _, _, _, _)) rfl rfl ?_
  refine R1 (g' := (26, _, _, _, _, _)) rfl rfl ?_
  refine R_getf rfl rfl (Nat.le_of_ble_eq_true rfl) rfl rfl ?_
  refine R1 (g' := (30, _, _, _, _, _)) rfl rfl ?_
  refine R1 (g' := (31, _, _, _, _, _)) rfl rfl ?_
  refine R1 (g' := (38, _, _, _, _, _)) rfl rfl ?_
  refine R1 (g' := (39, _, _, _, _, _)) rfl rfl ?_
  refine R_aast (n := 4) 2 rfl (Nat.le_of_ble_eq_true rfl) (fun _ => rfl) (by decide) (by decide) rfl (by omega) ((hPl_st (hh.1 3 (by decide)).2).2.1 _ _ _) ?_
  rw [sRot_s (hh.1 3 (by decide)).1]
  refine R1 (g' := (43, _, _, _, _, _)) rfl rfl ?_
  refine R1 (g' := (8, _, _, _, _, _)) rfl rfl ?_
  skip
  rw [show nI 2 + Int32.ofInt 1 = nI 3 from rfl]
  refine R1 (g' := (9, _, _, _, _, _)) rfl rfl ?_
  refine R1 (g' := (10, _, _, _, _, _)) rfl rfl ?_
  refine R_getf rfl rfl (Nat.le_of_ble_eq_true rfl) rfl rfl ?_
  refine R_alen2 (n := 4) rfl (Nat.le_of_ble_eq_true rfl) rfl ?_
  refine R_cge 46 rfl rfl (fun h => by exact absurd h (by decide)) (fun h14 => ?_)
  refine R1 (g' := (18, _, _, _, _, _)) rfl rfl ?_
  refine R1 (g' := (19, _, _, _, _, _)) rfl rfl ?_
  refine R1 (g' := (20, _, .int (nI 1) :: _, _, _, _)) rfl rfl ?_
  refine R1 (g' := (21, _, .int (nI 4) :: _, _, _, _)) rfl rfl ?_
  refine R_call2 (Or.inr (Or.inl ⟨rfl, rfl⟩)) rfl rfl ⟨Nat.le_of_ble_eq_true rfl, Nat.le_of_ble_eq_true rfl⟩ (Nat.le_of_ble_eq_true rfl) ⟨(by simp [okL, okS, okV, xarg, xput1, wd, Value.category] <;> omega), (by simp [okL, okS, okV, xarg, xput1, wd, Value.category] <;> omega)⟩ ⟨⟨_, _, _, rfl, (by show _ < 151; omega), rfl⟩, e_stateAtN⟩ ?_
  refine R1 (g' := (25, _, _, _, _, _)) rfl rfl ?_
  refine R1 (g' := (26, _, _, _, _, _)) rfl rfl ?_
  refine R_getf rfl rfl (Nat.le_of_ble_eq_true rfl) rfl rfl ?_
  refine R1 (g' := (30, _, _, _, _, _)) rfl rfl ?_
  refine R1 (g' := (31, _, _, _, _, _)) rfl rfl ?_
  refine R1 (g' := (34, _, _, _, _, _)) rfl rfl ?_
  refine R1 (g' := (35, _, _, _, _, _)) rfl rfl ?_
  refine R1 (g' := (39, _, _, _, _, _)) rfl rfl ?_
  refine R_aast (n := 4) 3 rfl (Nat.le_of_ble_eq_true rfl) (fun _ => rfl) (by decide) (by decide) rfl (by omega) ((hPl_st (hh.1 0 (by decide)).2).2.1 _ _ _) ?_
  rw [sMove_s (hh.1 0 (by decide)).1]
  refine R1 (g' := (43, _, _, _, _, _)) rfl rfl ?_
  refine R1 (g' := (8, _, _, _, _, _)) rfl rfl ?_
  skip
  rw [show nI 3 + Int32.ofInt 1 = nI 4 from rfl]
  refine R1 (g' := (9, _, _, _, _, _)) rfl rfl ?_
  refine R1 (g' := (10, _, _, _, _, _)) rfl rfl ?_
  refine R_getf rfl rfl (Nat.le_of_ble_eq_true rfl) rfl rfl ?_
  refine R_alen2 (n := 4) rfl (Nat.le_of_ble_eq_true rfl) rfl ?_
  refine R_cge 46 rfl rfl (fun h14 => ?_) (fun h => by exact absurd (by decide) h)
  refine R_vret rfl ?_
  exact ⟨rfl, rfl⟩
def sSave (s : xs) (b : Nat) (c : Nat) : xs := put (sStCopy s b 1) 41 0 (nI (c + 1))
theorem sStCopy_out {s : xs} {b b2 : Nat} : (∀ i, i < b + 1 ∨ b + 19 < i → (sStCopy s b b2).1 i = s.1 i) ∧ (sStCopy s b b2).2 = s.2 := by
  constructor
  · intro i hi
    simp only [sStCopy, sStepCopy, sBarCopy]
    repeat rw [setP_ne _ _ (by omega)]
    repeat rw [put_ne _ _ (by omega)]
    repeat rw [setP_ne _ _ (by omega)]
    repeat rw [put_ne _ _ (by omega)]
  · rfl
theorem e_saveF {s : xs} {π : Nat → Nat} {c : Nat} (hh : xhi s π) (hc : s.1 41 0 = nI c) (h4 : c < 4) : Ev_X1_save [.ref 41, .ref 1] (wd s) (.inl none) (wd (sSave s (π c) c)) := by
  have hb := (hh.1 c h4).2
  have hlt := hPl_lt hb
  have hk : (sStCopy s (π c) 1).1 41 0 + nI 1 = nI (c + 1) := by rw [sStCopy_out.1 41 (by rcases hb with h | h | h | h <;> omega), hc, nI_succ c]; rfl
  refine ⟨Nat.le_of_ble_eq_true rfl, Nat.le_refl _, rfl, ?_⟩
  refine R1 (g' := (1, _, _, _, _, _)) rfl rfl ?_
  refine R_getf rfl rfl (Nat.le_of_ble_eq_true rfl) rfl rfl ?_
  refine R1 (g' := (5, _, .int (nI 4) :: _, _, _, _)) rfl rfl ?_
  refine R_cltN 17 (c) (4) rfl rfl (hc) (rfl) (by omega) (by omega) (fun h5 => ?_) (fun h => by omega)
  refine R1 (g' := (18, _, _, _, _, _)) rfl rfl ?_
  refine R1 (g' := (19, _, _, _, _, _)) rfl rfl ?_
  refine R_getf rfl rfl (Nat.le_of_ble_eq_true rfl) rfl rfl ?_
  rw [hc]
  refine R_call2 (Or.inr (Or.inl ⟨rfl, rfl⟩)) rfl rfl ⟨Nat.le_of_ble_eq_true rfl, Nat.le_of_ble_eq_true rfl⟩ (Nat.le_of_ble_eq_true rfl) ⟨(by simp [okL, okS, okV, xarg, xput1, wd, Value.category] <;> omega), (by simp [okL, okS, okV, xarg, xput1, wd, Value.category] <;> omega)⟩ ⟨⟨_, _, _, rfl, (by show _ < 151; omega), rfl⟩, e_stateAt h4 (hh.1 c h4).1⟩ ?_
  refine R1 (g' := (26, _, _, _, _, _)) rfl rfl ?_
  refine R1 (g' := (27, _, _, _, _, _)) rfl rfl ?_
  refine R1 (g' := (30, _, _, _, _, _)) rfl rfl ?_
  refine R1 (g' := (31, _, _, _, _, _)) rfl rfl ?_
  refine R1 (g' := (32, _, _, _, _, _)) rfl rfl ?_
  refine R_call2 (Or.inr (Or.inl ⟨rfl, rfl⟩)) rfl rfl ⟨Nat.le_of_ble_eq_true rfl, Nat.le_of_ble_eq_true rfl⟩ (Nat.le_of_ble_eq_true rfl) ⟨(by simp [okL, okS, okV, xarg, xput1, wd, Value.category] <;> omega), (by simp [okL, okS, okV, xarg, xput1, wd, Value.category] <;> omega)⟩ ⟨⟨_, _, _, rfl, (by show _ < 151; omega), (hPl_st hb).2.1 _ _ _⟩, e_stCopy (hPl_st hb) xsta_1⟩ ?_
  refine R1 (g' := (36, _, _, _, _, _)) rfl rfl ?_
  refine R1 (g' := (37, _, _, _, _, _)) rfl rfl ?_
  refine R_getf rfl rfl (Nat.le_of_ble_eq_true rfl) rfl rfl ?_
  refine R1 (g' := (41, _, .int (nI 1) :: _, _, _, _)) rfl rfl ?_
  refine R1 (g' := (42, _, .int _ :: _, _, _, _)) rfl rfl ?_
  rw [hk]
  refine R_put rfl rfl (Nat.le_of_ble_eq_true rfl) rfl (Nat.le_of_ble_eq_true rfl) ⟨_, rfl, Or.inl rfl, _, rfl, rfl⟩ rfl ?_
  refine R_vret rfl ?_
  exact ⟨rfl, rfl⟩
theorem e_saveM {s : xs} {π : Nat → Nat} (hh : xhi s π) (hc : s.1 41 0 = nI 4) : Ev_X1_save [.ref 41, .ref 1] (wd s) (.inl none) (wd (sSave (put (sMove s) 41 0 (nI 3)) (π 0) 3)) := by
  have hb := (hh.1 0 (by decide)).2
  have hlt := hPl_lt hb
  have h3 : (put (sMove s) 41 0 (nI 3)).2.1 42 3 = some (π 0) := by
    rw [put_2]
    show va_up s.2.1 42 (va_up (qRot (s.2.1 42) 3) 3 (s.2.1 42 0)) 42 3 = _
    rw [va_up_self, va_up_self]
    exact (hh.1 0 (by decide)).1
  have hk : (sStCopy (put (sMove s) 41 0 (nI 3)) (π 0) 1).1 41 0 + nI 1 = nI 4 := by rw [sStCopy_out.1 41 (by rcases hb with h | h | h | h <;> omega), put_val]; rfl
  refine ⟨Nat.le_of_ble_eq_true rfl, Nat.le_refl _, rfl, ?_⟩
  refine R1 (g' := (1, _, _, _, _, _)) rfl rfl ?_
  refine R_getf rfl rfl (Nat.le_of_ble_eq_true rfl) rfl rfl ?_
  refine R1 (g' := (5, _, .int (nI 4) :: _, _, _, _)) rfl rfl ?_
  refine R_cltN 17 (4) (4) rfl rfl (hc) (rfl) (by omega) (by omega) (fun h => by omega) (fun h5 => ?_)
  refine R1 (g' := (9, _, _, _, _, _)) rfl rfl ?_
  refine R_call1 (Or.inr (Or.inl ⟨rfl, rfl⟩)) rfl rfl ⟨Nat.le_of_ble_eq_true rfl, Nat.le_of_ble_eq_true rfl⟩ (Nat.le_of_ble_eq_true rfl) ⟨(by simp [okL, okS, okV, xarg, xput1, wd, Value.category] <;> omega), (by simp [okL, okS, okV, xarg, xput1, wd, Value.category] <;> omega)⟩ ⟨⟨_, _, _, rfl, (by show _ < 151; omega), rfl⟩, e_move hh⟩ ?_
  refine R1 (g' := (13, _, _, _, _, _)) rfl rfl ?_
  refine R1 (g' := (14, _, .int (nI 3) :: _, _, _, _)) rfl rfl ?_
  refine R_put rfl rfl (Nat.le_of_ble_eq_true rfl) rfl (Nat.le_of_ble_eq_true rfl) ⟨_, rfl, Or.inl rfl, _, rfl, rfl⟩ rfl ?_
  change xRun _ _ (17, _, _, wd (put (sMove s) 41 0 (nI 3)), _, _)
  refine R1 (g' := (18, _, _, _, _, _)) rfl rfl ?_
  refine R1 (g' := (19, _, _, _, _, _)) rfl rfl ?_
  refine R_getf rfl rfl (Nat.le_of_ble_eq_true rfl) rfl rfl ?_
  rw [show (put (sMove s) 41 0 (nI 3)).1 41 0 = nI 3 from by rw [put_val]; rfl]
  refine R_call2 (Or.inr (Or.inl ⟨rfl, rfl⟩)) rfl rfl ⟨Nat.le_of_ble_eq_true rfl, Nat.le_of_ble_eq_true rfl⟩ (Nat.le_of_ble_eq_true rfl) ⟨(by simp [okL, okS, okV, xarg, xput1, wd, Value.category] <;> omega), (by simp [okL, okS, okV, xarg, xput1, wd, Value.category] <;> omega)⟩ ⟨⟨_, _, _, rfl, (by show _ < 151; omega), rfl⟩, e_stateAt (by decide) h3⟩ ?_
  refine R1 (g' := (26, _, _, _, _, _)) rfl rfl ?_
  refine R1 (g' := (27, _, _, _, _, _)) rfl rfl ?_
  refine R1 (g' := (30, _, _, _, _, _)) rfl rfl ?_
  refine R1 (g' := (31, _, _, _, _, _)) rfl rfl ?_
  refine R1 (g' := (32, _, _, _, _, _)) rfl rfl ?_
  refine R_call2 (Or.inr (Or.inl ⟨rfl, rfl⟩)) rfl rfl ⟨Nat.le_of_ble_eq_true rfl, Nat.le_of_ble_eq_true rfl⟩ (Nat.le_of_ble_eq_true rfl) ⟨(by simp [okL, okS, okV, xarg, xput1, wd, Value.category] <;> omega), (by simp [okL, okS, okV, xarg, xput1, wd, Value.category] <;> omega)⟩ ⟨⟨_, _, _, rfl, (by show _ < 151; omega), (hPl_st hb).2.1 _ _ _⟩, e_stCopy (hPl_st hb) xsta_1⟩ ?_
  refine R1 (g' := (36, _, _, _, _, _)) rfl rfl ?_
  refine R1 (g' := (37, _, _, _, _, _)) rfl rfl ?_
  refine R_getf rfl rfl (Nat.le_of_ble_eq_true rfl) rfl rfl ?_
  refine R1 (g' := (41, _, .int (nI 1) :: _, _, _, _)) rfl rfl ?_
  refine R1 (g' := (42, _, .int _ :: _, _, _, _)) rfl rfl ?_
  rw [hk]
  refine R_put rfl rfl (Nat.le_of_ble_eq_true rfl) rfl (Nat.le_of_ble_eq_true rfl) ⟨_, rfl, Or.inl rfl, _, rfl, rfl⟩ rfl ?_
  refine R_vret rfl ?_
  exact ⟨rfl, rfl⟩
def sRest (s : xs) (b : Nat) (c : Nat) : xs := put (sStCopy s 1 b) 41 0 (nI c)
theorem nI_sub_1 (c : Nat) : nI (c + 1) - nI 1 = nI c := by rw [nI_succ]; exact Int32.add_sub_cancel _ _
theorem e_restore {s : xs} {π : Nat → Nat} {c : Nat} (hh : xhi s π) (hc : s.1 41 0 = nI (c + 1)) (h4 : c < 4) : Ev_X1_restore [.ref 41, .ref 1] (wd s) (.inl none) (wd (sRest s (π c) c)) := by
  have hb := (hh.1 c h4).2
  have hlt := hPl_lt hb
  have hk1 : nI (c + 1) - nI 1 = nI c := nI_sub_1 c
  have hk : (sStCopy s 1 (π c)).1 41 0 - nI 1 = nI c := by rw [sStCopy_out.1 41 (by omega), hc]; exact hk1
  refine ⟨Nat.le_of_ble_eq_true rfl, Nat.le_refl _, rfl, ?_⟩
  refine R1 (g' := (1, _, _, _, _, _)) rfl rfl ?_
  refine R1 (g' := (2, _, _, _, _, _)) rfl rfl ?_
  refine R_getf rfl rfl (Nat.le_of_ble_eq_true rfl) rfl rfl ?_
  refine R1 (g' := (6, _, .int (nI 1) :: _, _, _, _)) rfl rfl ?_
  refine R1 (g' := (7, _, .int _ :: _, _, _, _)) rfl rfl ?_
  rw [hc, hk1]
  refine R_call2 (Or.inr (Or.inl ⟨rfl, rfl⟩)) rfl rfl ⟨Nat.le_of_ble_eq_true rfl, Nat.le_of_ble_eq_true rfl⟩ (Nat.le_of_ble_eq_true rfl) ⟨(by simp [okL, okS, okV, xarg, xput1, wd, Value.category] <;> omega), (by simp [okL, okS, okV, xarg, xput1, wd, Value.category] <;> omega)⟩ ⟨⟨_, _, _, rfl, (by show _ < 151; omega), rfl⟩, e_stateAt h4 (hh.1 c h4).1⟩ ?_
  refine R1 (g' := (11, _, _, _, _, _)) rfl rfl ?_
  refine R1 (g' := (12, _, _, _, _, _)) rfl rfl ?_
  refine R1 (g' := (15, _, _, _, _, _)) rfl rfl ?_
  refine R1 (g' := (16, _, _, _, _, _)) rfl rfl ?_
  refine R1 (g' := (17, _, _, _, _, _)) rfl rfl ?_
  refine R_call2 (Or.inr (Or.inl ⟨rfl, rfl⟩)) rfl rfl ⟨Nat.le_of_ble_eq_true rfl, Nat.le_of_ble_eq_true rfl⟩ (Nat.le_of_ble_eq_true rfl) ⟨(by simp [okL, okS, okV, xarg, xput1, wd, Value.category] <;> omega), (by simp [okL, okS, okV, xarg, xput1, wd, Value.category] <;> omega)⟩ ⟨⟨_, _, _, rfl, (by show _ < 151; omega), rfl⟩, e_stCopy xsta_1 (hPl_st hb)⟩ ?_
  refine R1 (g' := (21, _, _, _, _, _)) rfl rfl ?_
  refine R1 (g' := (22, _, _, _, _, _)) rfl rfl ?_
  refine R_getf rfl rfl (Nat.le_of_ble_eq_true rfl) rfl rfl ?_
  refine R1 (g' := (26, _, .int (nI 1) :: _, _, _, _)) rfl rfl ?_
  refine R1 (g' := (27, _, .int _ :: _, _, _, _)) rfl rfl ?_
  rw [hk]
  refine R_put rfl rfl (Nat.le_of_ble_eq_true rfl) rfl (Nat.le_of_ble_eq_true rfl) ⟨_, rfl, Or.inl rfl, _, rfl, rfl⟩ rfl ?_
  refine R_vret rfl ?_
  exact ⟨rfl, rfl⟩
