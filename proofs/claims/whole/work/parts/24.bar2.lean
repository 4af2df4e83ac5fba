def put (s : xs) (p k : Nat) (v : Int32) : xs := setP s p (upd (s.1 p) k v)
theorem put_val (s : xs) (p k q j : Nat) (v : Int32) : (put s p k v).1 q j = if q = p then (if j = k then v else s.1 p j) else s.1 q j := by
  by_cases h : q = p
  · subst h
    simp only [put, setP_at, upd, if_true]
  · simp only [put, setP_ne _ _ h, if_neg h]
theorem put_ne (s : xs) {p k q : Nat} (v : Int32) (h : q ≠ p) : (put s p k v).1 q = s.1 q := setP_ne _ _ h
theorem put_2 (s : xs) (p k : Nat) (v : Int32) : (put s p k v).2 = s.2 := rfl
theorem setP_2 (s : xs) (p : Nat) (f : Nat → Int32) : (setP s p f).2 = s.2 := rfl
theorem setP_val (s : xs) (p q j : Nat) (f : Nat → Int32) : (setP s p f).1 q j = if q = p then f j else s.1 q j := by
  by_cases h : q = p
  · subst h
    simp only [setP_at, if_true]
  · simp only [setP_ne _ _ h, if_neg h]
/-- nothing else has moved -/
def sOut (p n : Nat) (s s' : xs) : Prop := (∀ i, i < p ∨ p + n < i → s'.1 i = s.1 i) ∧ s'.2 = s.2
theorem sOut_rf {p n : Nat} {s : xs} : sOut p n s s := ⟨fun _ _ => rfl, rfl⟩
theorem sOut_put {p n q k : Nat} {v : Int32} {s s' : xs} (h : sOut p n s s') (h1 : p ≤ q) (h2 : q ≤ p + n) : sOut p n s (put s' q k v) := ⟨fun i hi => (put_ne _ _ (by omega)).trans (h.1 i hi), h.2⟩
theorem sOut_set {p n q : Nat} {f : Nat → Int32} {s s' : xs} (h : sOut p n s s') (h1 : p ≤ q) (h2 : q ≤ p + n) : sOut p n s (setP s' q f) := ⟨fun i hi => (setP_ne _ _ (by omega)).trans (h.1 i hi), h.2⟩
theorem sOut_tr {p n : Nat} {s s' s2 : xs} (h : sOut p n s s') (h2 : sOut p n s' s2) : sOut p n s s2 := ⟨fun i hi => (h2.1 i hi).trans (h.1 i hi), h2.2.trans h.2⟩
def sBegin (s : xs) (p : Nat) (w h v : Int32) : xs :=
  put (put (put (put (put (put (put (put (put (put (put s p 0 (nI 1)) p 1 (nI 1250)) p 3 (nI 0)) p 4 (nI 0)) p 5 (nI 0)) p 6 (nI 0)) p 7 v) (p + 2) 0 w) (p + 4) 0 h) (p + 6) 0 v) (p + 8) 0 (nI 0)
theorem e_begin {s : xs} {p : Nat} {w h v : Int32} (hp : xbar p) : Ev_X0_begin [.ref p, .int w, .int h, .int v] (wd s) (.inl none) (wd (sBegin s p w h v)) := by
  obtain ⟨h152, hcell, hrW, hrH, hrV, hrB, hsc⟩ := id hp
  refine ⟨Nat.le_of_ble_eq_true rfl, Nat.le_refl _, rfl, ?_⟩
  refine R1 (g' := (1, _, _, _, _, _)) rfl rfl ?_
  refine R1 (g' := (2, _, .int (nI 1) :: _, _, _, _)) rfl rfl ?_
  refine R_put rfl rfl (by omega) (hcell _ _ _) (Nat.le_of_ble_eq_true rfl) ⟨_, rfl, Or.inl rfl, _, rfl, rfl⟩ (hcell _ _ _) ?_
  refine R1 (g' := (6, _, _, _, _, _)) rfl rfl ?_
  refine R1 (g' := (9, _, .int (nI 1250) :: _, _, _, _)) rfl rfl ?_
  refine R_put rfl rfl (by omega) (hcell _ _ _) (Nat.le_of_ble_eq_true rfl) ⟨_, rfl, Or.inl rfl, _, rfl, rfl⟩ (hcell _ _ _) ?_
  refine R1 (g' := (13, _, _, _, _, _)) rfl rfl ?_
  refine R1 (g' := (14, _, .int (nI 0) :: _, _, _, _)) rfl rfl ?_
  refine R_put rfl rfl (by omega) (hcell _ _ _) (Nat.le_of_ble_eq_true rfl) ⟨_, rfl, Or.inl rfl, _, rfl, rfl⟩ (hcell _ _ _) ?_
  refine R1 (g' := (18, _, _, _, _, _)) rfl rfl ?_
  refine R1 (g' := (19, _, .int (nI 0) :: _, _, _, _)) rfl rfl ?_
  refine R_put rfl rfl (by omega) (hcell _ _ _) (Nat.le_of_ble_eq_true rfl) ⟨_, rfl, Or.inl rfl, _, rfl, rfl⟩ (hcell _ _ _) ?_
  refine R1 (g' := (23, _, _, _, _, _)) rfl rfl ?_
  refine R1 (g' := (24, _, .int (nI 0) :: _, _, _, _)) rfl rfl ?_
  refine R_put rfl rfl (by omega) (hcell _ _ _) (Nat.le_of_ble_eq_true rfl) ⟨_, rfl, Or.inl rfl, _, rfl, rfl⟩ (hcell _ _ _) ?_
  refine R1 (g' := (28, _, _, _, _, _)) rfl rfl ?_
  refine R1 (g' := (29, _, .int (nI 0) :: _, _, _, _)) rfl rfl ?_
  refine R_put rfl rfl (by omega) (hcell _ _ _) (Nat.le_of_ble_eq_true rfl) ⟨_, rfl, Or.inl rfl, _, rfl, rfl⟩ (hcell _ _ _) ?_
  refine R1 (g' := (33, _, _, _, _, _)) rfl rfl ?_
  refine R1 (g' := (34, _, _, _, _, _)) rfl rfl ?_
  refine R_put rfl rfl (by omega) (hcell _ _ _) (Nat.le_of_ble_eq_true rfl) ⟨_, rfl, Or.inl rfl, _, rfl, rfl⟩ (hcell _ _ _) ?_
  refine R1 (g' := (38, _, _, _, _, _)) rfl rfl ?_
  refine R_getf rfl rfl (by omega) (hcell _ _ _) rfl ?_
  refine R1 (g' := (42, _, .int (nI 0) :: _, _, _, _)) rfl rfl ?_
  refine R1 (g' := (43, _, _, _, _, _)) rfl rfl ?_
  refine R_call3 (Or.inr (Or.inl ⟨rfl, rfl⟩)) rfl rfl ⟨Nat.le_of_ble_eq_true rfl, Nat.le_of_ble_eq_true rfl⟩ (Nat.le_of_ble_eq_true rfl) ⟨(by simp [okL, okS, okV, xarg, xput1, wd, Value.category] <;> omega), (by simp [okL, okS, okV, xarg, xput1, wd, Value.category] <;> omega)⟩ ⟨⟨_, _, _, rfl, (by show _ < 151; omega), hrW.2.1 _ _ _⟩, e_Row_set hrW (by decide) (show 0 < 8 by decide)⟩ ?_
  refine R1 (g' := (47, _, _, _, _, _)) rfl rfl ?_
  refine R_getf rfl rfl (by omega) (hcell _ _ _) rfl ?_
  refine R1 (g' := (51, _, .int (nI 0) :: _, _, _, _)) rfl rfl ?_
  refine R1 (g' := (52, _, _, _, _, _)) rfl rfl ?_
  refine R_call3 (Or.inr (Or.inl ⟨rfl, rfl⟩)) rfl rfl ⟨Nat.le_of_ble_eq_true rfl, Nat.le_of_ble_eq_true rfl⟩ (Nat.le_of_ble_eq_true rfl) ⟨(by simp [okL, okS, okV, xarg, xput1, wd, Value.category] <;> omega), (by simp [okL, okS, okV, xarg, xput1, wd, Value.category] <;> omega)⟩ ⟨⟨_, _, _, rfl, (by show _ < 151; omega), hrH.2.1 _ _ _⟩, e_Row_set hrH (by decide) (show 0 < 8 by decide)⟩ ?_
  refine R1 (g' := (56, _, _, _, _, _)) rfl rfl ?_
  refine R_getf rfl rfl (by omega) (hcell _ _ _) rfl ?_
  refine R1 (g' := (60, _, .int (nI 0) :: _, _, _, _)) rfl rfl ?_
  refine R1 (g' := (61, _, _, _, _, _)) rfl rfl ?_
  refine R_call3 (Or.inr (Or.inl ⟨rfl, rfl⟩)) rfl rfl ⟨Nat.le_of_ble_eq_true rfl, Nat.le_of_ble_eq_true rfl⟩ (Nat.le_of_ble_eq_true rfl) ⟨(by simp [okL, okS, okV, xarg, xput1, wd, Value.category] <;> omega), (by simp [okL, okS, okV, xarg, xput1, wd, Value.category] <;> omega)⟩ ⟨⟨_, _, _, rfl, (by show _ < 151; omega), hrV.2.1 _ _ _⟩, e_Row_set hrV (by decide) (show 0 < 8 by decide)⟩ ?_
  refine R1 (g' := (65, _, _, _, _, _)) rfl rfl ?_
  refine R_getf rfl rfl (by omega) (hcell _ _ _) rfl ?_
  refine R1 (g' := (69, _, .int (nI 0) :: _, _, _, _)) rfl rfl ?_
  refine R1 (g' := (70, _, .int (nI 0) :: _, _, _, _)) rfl rfl ?_
  refine R_call3 (Or.inr (Or.inl ⟨rfl, rfl⟩)) rfl rfl ⟨Nat.le_of_ble_eq_true rfl, Nat.le_of_ble_eq_true rfl⟩ (Nat.le_of_ble_eq_true rfl) ⟨(by simp [okL, okS, okV, xarg, xput1, wd, Value.category] <;> omega), (by simp [okL, okS, okV, xarg, xput1, wd, Value.category] <;> omega)⟩ ⟨⟨_, _, _, rfl, (by show _ < 151; omega), hrB.2.1 _ _ _⟩, e_Row_set hrB (by decide) (show 0 < 8 by decide)⟩ ?_
  refine R_vret rfl ?_
  exact ⟨rfl, rfl⟩
def sCopyPart (s : xs) (p f t : Nat) : xs :=
  let s1 := put s (p + 2) t (s.1 (p + 2) f)
  let s2 := put s1 (p + 4) t (s1.1 (p + 4) f)
  let s3 := put s2 (p + 6) t (s2.1 (p + 6) f)
  put s3 (p + 8) t (s3.1 (p + 8) f)
theorem e_copyPart {s : xs} {p f t : Nat} (hp : xbar p) (hf : f < 8) (ht : t < 8) : Ev_X0_copyPart [.ref p, .int (nI f), .int (nI t)] (wd s) (.inl none) (wd (sCopyPart s p f t)) := by
  obtain ⟨h152, hcell, hrW, hrH, hrV, hrB, hsc⟩ := id hp
  refine ⟨Nat.le_of_ble_eq_true rfl, Nat.le_refl _, rfl, ?_⟩
  refine R1 (g' := (1, _, _, _, _, _)) rfl rfl ?_
  refine R_getf rfl rfl (by omega) (hcell _ _ _) rfl ?_
  refine R1 (g' := (5, _, _, _, _, _)) rfl rfl ?_
  refine R1 (g' := (6, _, _, _, _, _)) rfl rfl ?_
  refine R_getf rfl rfl (by omega) (hcell _ _ _) rfl ?_
  refine R1 (g' := (10, _, _, _, _, _)) rfl rfl ?_
  refine R_call2 (Or.inr (Or.inl ⟨rfl, rfl⟩)) rfl rfl ⟨Nat.le_of_ble_eq_true rfl, Nat.le_of_ble_eq_true rfl⟩ (Nat.le_of_ble_eq_true rfl) ⟨(by simp [okL, okS, okV, xarg, xput1, wd, Value.category] <;> omega), (by simp [okL, okS, okV, xarg, xput1, wd, Value.category] <;> omega)⟩ ⟨⟨_, _, _, rfl, (by show _ < 151; omega), hrW.2.1 _ _ _⟩, e_Row_get hrW (by decide) hf⟩ ?_
  refine R_call3 (Or.inr (Or.inl ⟨rfl, rfl⟩)) rfl rfl ⟨Nat.le_of_ble_eq_true rfl, Nat.le_of_ble_eq_true rfl⟩ (Nat.le_of_ble_eq_true rfl) ⟨(by simp [okL, okS, okV, xarg, xput1, wd, Value.category] <;> omega), (by simp [okL, okS, okV, xarg, xput1, wd, Value.category] <;> omega)⟩ ⟨⟨_, _, _, rfl, (by show _ < 151; omega), hrW.2.1 _ _ _⟩, e_Row_set hrW (by decide) ht⟩ ?_
  refine R1 (g' := (17, _, _, _, _, _)) rfl rfl ?_
  refine R_getf rfl rfl (by omega) (hcell _ _ _) rfl ?_
  refine R1 (g' := (21, _, _, _, _, _)) rfl rfl ?_
  refine R1 (g' := (22, _, _, _, _, _)) rfl rfl ?_
  refine R_getf rfl rfl (by omega) (hcell _ _ _) rfl ?_
  refine R1 (g' := (26, _, _, _, _, _)) rfl rfl ?_
  refine R_call2 (Or.inr (Or.inl ⟨rfl, rfl⟩)) rfl rfl ⟨Nat.le_of_ble_eq_true rfl, Nat.le_of_ble_eq_true rfl⟩ (Nat.le_of_ble_eq_true rfl) ⟨(by simp [okL, okS, okV, xarg, xput1, wd, Value.category] <;> omega), (by simp [okL, okS, okV, xarg, xput1, wd, Value.category] <;> omega)⟩ ⟨⟨_, _, _, rfl, (by show _ < 151; omega), hrH.2.1 _ _ _⟩, e_Row_get hrH (by decide) hf⟩ ?_
  refine R_call3 (Or.inr (Or.inl ⟨rfl, rfl⟩)) rfl rfl ⟨Nat.le_of_ble_eq_true rfl, Nat.le_of_ble_eq_true rfl⟩ (Nat.le_of_ble_eq_true rfl) ⟨(by simp [okL, okS, okV, xarg, xput1, wd, Value.category] <;> omega), (by simp [okL, okS, okV, xarg, xput1, wd, Value.category] <;> omega)⟩ ⟨⟨_, _, _, rfl, (by show _ < 151; omega), hrH.2.1 _ _ _⟩, e_Row_set hrH (by decide) ht⟩ ?_
  refine R1 (g' := (33, _, _, _, _, _)) rfl rfl ?_
  refine R_getf rfl rfl (by omega) (hcell _ _ _) rfl ?_
  refine R1 (g' := (37, _, _, _, _, _)) rfl rfl ?_
  refine R1 (g' := (38, _, _, _, _, _)) rfl rfl ?_
  refine R_getf rfl rfl (by omega) (hcell _ _ _) rfl ?_
  refine R1 (g' := (42, _, _, _, _, _)) rfl rfl ?_
  refine R_call2 (Or.inr (Or.inl ⟨rfl, rfl⟩)) rfl rfl ⟨Nat.le_of_ble_eq_true rfl, Nat.le_of_ble_eq_true rfl⟩ (Nat.le_of_ble_eq_true rfl) ⟨(by simp [okL, okS, okV, xarg, xput1, wd, Value.category] <;> omega), (by simp [okL, okS, okV, xarg, xput1, wd, Value.category] <;> omega)⟩ ⟨⟨_, _, _, rfl, (by show _ < 151; omega), hrV.2.1 _ _ _⟩, e_Row_get hrV (by decide) hf⟩ ?_
  refine R_call3 (Or.inr (Or.inl ⟨rfl, rfl⟩)) rfl rfl ⟨Nat.le_of_ble_eq_true rfl, Nat.le_of_ble_eq_true rfl⟩ (Nat.le_of_ble_eq_true rfl) ⟨(by simp [okL, okS, okV, xarg, xput1, wd, Value.category] <;> omega), (by simp [okL, okS, okV, xarg, xput1, wd, Value.category] <;> omega)⟩ ⟨⟨_, _, _, rfl, (by show _ < 151; omega), hrV.2.1 _ _ _⟩, e_Row_set hrV (by decide) ht⟩ ?_
  refine R1 (g' := (49, _, _, _, _, _)) rfl rfl ?_
  refine R_getf rfl rfl (by omega) (hcell _ _ _) rfl ?_
  refine R1 (g' := (53, _, _, _, _, _)) rfl rfl ?_
  refine R1 (g' := (54, _, _, _, _, _)) rfl rfl ?_
  refine R_getf rfl rfl (by omega) (hcell _ _ _) rfl ?_
  refine R1 (g' := (58, _, _, _, _, _)) rfl rfl ?_
  refine R_call2 (Or.inr (Or.inl ⟨rfl, rfl⟩)) rfl rfl ⟨Nat.le_of_ble_eq_true rfl, Nat.le_of_ble_eq_true rfl⟩ (Nat.le_of_ble_eq_true rfl) ⟨(by simp [okL, okS, okV, xarg, xput1, wd, Value.category] <;> omega), (by simp [okL, okS, okV, xarg, xput1, wd, Value.category] <;> omega)⟩ ⟨⟨_, _, _, rfl, (by show _ < 151; omega), hrB.2.1 _ _ _⟩, e_Row_get hrB (by decide) hf⟩ ?_
  refine R_call3 (Or.inr (Or.inl ⟨rfl, rfl⟩)) rfl rfl ⟨Nat.le_of_ble_eq_true rfl, Nat.le_of_ble_eq_true rfl⟩ (Nat.le_of_ble_eq_true rfl) ⟨(by simp [okL, okS, okV, xarg, xput1, wd, Value.category] <;> omega), (by simp [okL, okS, okV, xarg, xput1, wd, Value.category] <;> omega)⟩ ⟨⟨_, _, _, rfl, (by show _ < 151; omega), hrB.2.1 _ _ _⟩, e_Row_set hrB (by decide) ht⟩ ?_
  refine R_vret rfl ?_
  exact ⟨rfl, rfl⟩
def sBarCopy (s : xs) (p p2 : Nat) : xs :=
  let s0 := put s p 0 (s.1 p2 0)
  let s1 := put s0 p 1 (s0.1 p2 1)
  let s2 := put s1 p 2 (s1.1 p2 2)
  let s3 := put s2 p 3 (s2.1 p2 3)
  let s4 := put s3 p 4 (s3.1 p2 4)
  let s5 := put s4 p 5 (s4.1 p2 5)
  let s6 := put s5 p 6 (s5.1 p2 6)
  let s7 := put s6 p 7 (s6.1 p2 7)
  let t0 := setP s7 (p + 2) (va_cpy (s7.1 (p2 + 2)) (s7.1 (p + 2)) 0 0 8)
  let t1 := setP t0 (p + 4) (va_cpy (t0.1 (p2 + 4)) (t0.1 (p + 4)) 0 0 8)
  let t2 := setP t1 (p + 6) (va_cpy (t1.1 (p2 + 6)) (t1.1 (p + 6)) 0 0 8)
  setP t2 (p + 8) (va_cpy (t2.1 (p2 + 8)) (t2.1 (p + 8)) 0 0 8)
theorem e_barCopy {s : xs} {p p2 : Nat} (hp : xbar p) (hp2 : xbar p2) : Ev_X0_copyFrom [.ref p, .ref p2] (wd s) (.inl none) (wd (sBarCopy s p p2)) := by
  obtain ⟨h152, hcell, hrW, hrH, hrV, hrB, hsc⟩ := id hp
  obtain ⟨h1522, hcell2, hrW2, hrH2, hrV2, hrB2, hsc2⟩ := id hp2
  refine ⟨Nat.le_of_ble_eq_true rfl, Nat.le_refl _, rfl, ?_⟩
  refine R1 (g' := (1, _, _, _, _, _)) rfl rfl ?_
  refine R1 (g' := (2, _, _, _, _, _)) rfl rfl ?_
  refine R_getf rfl rfl (by omega) (hcell2 _ _ _) rfl ?_
  refine R_put rfl rfl (by omega) (hcell _ _ _) (Nat.le_of_ble_eq_true rfl) ⟨_, rfl, Or.inl rfl, _, rfl, rfl⟩ (hcell _ _ _) ?_
  refine R1 (g' := (9, _, _, _, _, _)) rfl rfl ?_
  refine R1 (g' := (10, _, _, _, _, _)) rfl rfl ?_
  refine R_getf rfl rfl (by omega) (hcell2 _ _ _) rfl ?_
  refine R_put rfl rfl (by omega) (hcell _ _ _) (Nat.le_of_ble_eq_true rfl) ⟨_, rfl, Or.inl rfl, _, rfl, rfl⟩ (hcell _ _ _) ?_
  refine R1 (g' := (17, _, _, _, _, _)) rfl rfl ?_
  refine R1 (g' := (18, _, _, _, _, _)) rfl rfl ?_
  refine R_getf rfl rfl (by omega) (hcell2 _ _ _) rfl ?_
  refine R_put rfl rfl (by omega) (hcell _ _ _) (Nat.le_of_ble_eq_true rfl) ⟨_, rfl, Or.inl rfl, _, rfl, rfl⟩ (hcell _ _ _) ?_
  refine R1 (g' := (25, _, _, _, _, _)) rfl rfl ?_
  refine R1 (g' := (26, _, _, _, _, _)) rfl rfl ?_
  refine R_getf rfl rfl (by omega) (hcell2 _ _ _) rfl ?_
  refine R_put rfl rfl (by omega) (hcell _ _ _) (Nat.le_of_ble_eq_true rfl) ⟨_, rfl, Or.inl rfl, _, rfl, rfl⟩ (hcell _ _ _) ?_
  refine R1 (g' := (33, _, _, _, _, _)) rfl rfl ?_
  refine R1 (g' := (34, _, _, _, _, _)) rfl rfl ?_
  refine R_getf rfl rfl (by omega) (hcell2 _ _ _) rfl ?_
  refine R_put rfl rfl (by omega) (hcell _ _ _) (Nat.le_of_ble_eq_true rfl) ⟨_, rfl, Or.inl rfl, _, rfl, rfl⟩ (hcell _ _ _) ?_
  refine R1 (g' := (41, _, _, _, _, _)) rfl rfl ?_
  refine R1 (g' := (42, _, _, _, _, _)) rfl rfl ?_
  refine R_getf rfl rfl (by omega) (hcell2 _ _ _) rfl ?_
  refine R_put rfl rfl (by omega) (hcell _ _ _) (Nat.le_of_ble_eq_true rfl) ⟨_, rfl, Or.inl rfl, _, rfl, rfl⟩ (hcell _ _ _) ?_
  refine R1 (g' := (49, _, _, _, _, _)) rfl rfl ?_
  refine R1 (g' := (50, _, _, _, _, _)) rfl rfl ?_
  refine R_getf rfl rfl (by omega) (hcell2 _ _ _) rfl ?_
  refine R_put rfl rfl (by omega) (hcell _ _ _) (Nat.le_of_ble_eq_true rfl) ⟨_, rfl, Or.inl rfl, _, rfl, rfl⟩ (hcell _ _ _) ?_
  refine R1 (g' := (57, _, _, _, _, _)) rfl rfl ?_
  refine R1 (g' := (58, _, _, _, _, _)) rfl rfl ?_
  refine R_getf rfl rfl (by omega) (hcell2 _ _ _) rfl ?_
  refine R_put rfl rfl (by omega) (hcell _ _ _) (Nat.le_of_ble_eq_true rfl) ⟨_, rfl, Or.inl rfl, _, rfl, rfl⟩ (hcell _ _ _) ?_
  refine R1 (g' := (65, _, _, _, _, _)) rfl rfl ?_
  refine R_getf rfl rfl (by omega) (hcell _ _ _) rfl ?_
  refine R1 (g' := (69, _, _, _, _, _)) rfl rfl ?_
  refine R_getf rfl rfl (by omega) (hcell2 _ _ _) rfl ?_
  refine R_call2 (Or.inr (Or.inl ⟨rfl, rfl⟩)) rfl rfl ⟨Nat.le_of_ble_eq_true rfl, Nat.le_of_ble_eq_true rfl⟩ (Nat.le_of_ble_eq_true rfl) ⟨(by simp [okL, okS, okV, xarg, xput1, wd, Value.category] <;> omega), (by simp [okL, okS, okV, xarg, xput1, wd, Value.category] <;> omega)⟩ ⟨⟨_, _, _, rfl, (by show _ < 151; omega), hrW.2.1 _ _ _⟩, e_Row_copyFrom hrW hrW2 (by decide)⟩ ?_
  refine R1 (g' := (76, _, _, _, _, _)) rfl rfl ?_
  refine R_getf rfl rfl (by omega) (hcell _ _ _) rfl ?_
  refine R1 (g' := (80, _, _, _, _, _)) rfl rfl ?_
  refine R_getf rfl rfl (by omega) (hcell2 _ _ _) rfl ?_
  refine R_call2 (Or.inr (Or.inl ⟨rfl, rfl⟩)) rfl rfl ⟨Nat.le_of_ble_eq_true rfl, Nat.le_of_ble_eq_true rfl⟩ (Nat.le_of_ble_eq_true rfl) ⟨(by simp [okL, okS, okV, xarg, xput1, wd, Value.category] <;> omega), (by simp [okL, okS, okV, xarg, xput1, wd, Value.category] <;> omega)⟩ ⟨⟨_, _, _, rfl, (by show _ < 151; omega), hrH.2.1 _ _ _⟩, e_Row_copyFrom hrH hrH2 (by decide)⟩ ?_
  refine R1 (g' := (87, _, _, _, _, _)) rfl rfl ?_
  refine R_getf rfl rfl (by omega) (hcell _ _ _) rfl ?_
  refine R1 (g' := (91, _, _, _, _, _)) rfl rfl ?_
  refine R_getf rfl rfl (by omega) (hcell2 _ _ _) rfl ?_
  refine R_call2 (Or.inr (Or.inl ⟨rfl, rfl⟩)) rfl rfl ⟨Nat.le_of_ble_eq_true rfl, Nat.le_of_ble_eq_true rfl⟩ (Nat.le_of_ble_eq_true rfl) ⟨(by simp [okL, okS, okV, xarg, xput1, wd, Value.category] <;> omega), (by simp [okL, okS, okV, xarg, xput1, wd, Value.category] <;> omega)⟩ ⟨⟨_, _, _, rfl, (by show _ < 151; omega), hrV.2.1 _ _ _⟩, e_Row_copyFrom hrV hrV2 (by decide)⟩ ?_
  refine R1 (g' := (98, _, _, _, _, _)) rfl rfl ?_
  refine R_getf rfl rfl (by omega) (hcell _ _ _) rfl ?_
  refine R1 (g' := (102, _, _, _, _, _)) rfl rfl ?_
  refine R_getf rfl rfl (by omega) (hcell2 _ _ _) rfl ?_
  refine R_call2 (Or.inr (Or.inl ⟨rfl, rfl⟩)) rfl rfl ⟨Nat.le_of_ble_eq_true rfl, Nat.le_of_ble_eq_true rfl⟩ (Nat.le_of_ble_eq_true rfl) ⟨(by simp [okL, okS, okV, xarg, xput1, wd, Value.category] <;> omega), (by simp [okL, okS, okV, xarg, xput1, wd, Value.category] <;> omega)⟩ ⟨⟨_, _, _, rfl, (by show _ < 151; omega), hrB.2.1 _ _ _⟩, e_Row_copyFrom hrB hrB2 (by decide)⟩ ?_
  refine R_vret rfl ?_
  exact ⟨rfl, rfl⟩
def sHot (s : xs) (p : Nat) : Nat → xs
  | 0 => s
  | k + 1 => put (sHot s p k) (p + 6) k ((sHot s p k).1 (p + 6) k - (sHot s p k).1 (p + 6) k * (sHot s p k).1 p 2 / nI 1000)
def sHs (s : xs) (p : Nat) : Nat → Int32
  | 0 => 0
  | k + 1 => sHs s p k + (sHot s p k).1 (p + 6) k * (sHot s p k).1 p 2 / nI 1000
def sWarm (s : xs) (p n : Nat) : xs :=
  let s0 := sHot s p n
  let s1 := put s0 p 1 (nI 1250)
  let s2 := put s1 p 3 (s1.1 p 3 + nI 1)
  put s2 p 5 (s2.1 p 5 + sHs s p n)
theorem sHot_out {s : xs} {p : Nat} : ∀ k, (∀ i, i ≠ p + 6 → (sHot s p k).1 i = s.1 i) ∧ (sHot s p k).2 = s.2
  | 0 => ⟨fun _ _ => rfl, rfl⟩
  | k + 1 => ⟨fun i hi => (put_ne _ _ hi).trans ((sHot_out k).1 i hi), (sHot_out k).2⟩
theorem warm_loop {s : xs} {p n : Nat} (hp : xbar p) (hn : s.1 p 0 = nI n) (hn8 : n ≤ 8) : ∀ (d k : Nat), k + d = n → xRun M_X0_warmUp (fun o1 w1 => o1 = .inl (some (.int (sHs s p n))) ∧ w1 = wd (sWarm s p n)) (4, [(2, .int (nI k)), (1, .int (sHs s p k)), (0, .ref p)], [], wd (sHot s p k), 0, 0) := by
  obtain ⟨h152, hcell, hrW, hrH, hrV, hrB, hsc⟩ := id hp
  intro d
  induction d with
  | zero =>
    intro k hk
    have hk : k = n := by omega
    subst hk
    have hn2 : (sHot s p k).1 p 0 = nI k := by rw [(sHot_out k).1 p (by omega)]; exact hn
    refine R1 (g' := (5, _, _, _, _, _)) rfl rfl ?_
    refine R1 (g' := (6, _, _, _, _, _)) rfl rfl ?_
    refine R_getf rfl rfl (by omega) (hcell _ _ _) rfl ?_
    rw [hn2]
    refine R_cge 58 rfl rfl (fun h9 => ?_) (fun h => by exact absurd (nI_le (Nat.le_refl _) (by omega)) h)
    refine R1 (g' := (59, _, _, _, _, _)) rfl rfl ?_
    refine R1 (g' := (62, _, .int (nI 1250) :: _, _, _, _)) rfl rfl ?_
    refine R_put rfl rfl (by omega) (hcell _ _ _) (Nat.le_of_ble_eq_true rfl) ⟨_, rfl, Or.inl rfl, _, rfl, rfl⟩ (hcell _ _ _) ?_
    refine R1 (g' := (66, _, _, _, _, _)) rfl rfl ?_
    refine R1 (g' := (67, _, _, _, _, _)) rfl rfl ?_
    refine R_getf rfl rfl (by omega) (hcell _ _ _) rfl ?_
    refine R1 (g' := (71, _, .int (nI 1) :: _, _, _, _)) rfl rfl ?_
    refine R1 (g' := (72, _, _, _, _, _)) rfl rfl ?_
    refine R_put rfl rfl (by omega) (hcell _ _ _) (Nat.le_of_ble_eq_true rfl) ⟨_, rfl, Or.inl rfl, _, rfl, rfl⟩ (hcell _ _ _) ?_
    refine R1 (g' := (76, _, _, _, _, _)) rfl rfl ?_
    refine R1 (g' := (77, _, _, _, _, _)) rfl rfl ?_
    refine R_getf rfl rfl (by omega) (hcell _ _ _) rfl ?_
    refine R1 (g' := (81, _, _, _, _, _)) rfl rfl ?_
    refine R1 (g' := (82, _, _, _, _, _)) rfl rfl ?_
    refine R_put rfl rfl (by omega) (hcell _ _ _) (Nat.le_of_ble_eq_true rfl) ⟨_, rfl, Or.inl rfl, _, rfl, rfl⟩ (hcell _ _ _) ?_
    refine R1 (g' := (86, _, _, _, _, _)) rfl rfl ?_
    refine R_iret rfl ?_
    exact ⟨rfl, rfl⟩
  | succ d ih =>
    intro k hk
    have hlt : k < n := by omega
    have hk8 : k < 8 := by omega
    have hn2 : (sHot s p k).1 p 0 = nI n := by rw [(sHot_out k).1 p (by omega)]; exact hn
    refine R1 (g' := (5, _, _, _, _, _)) rfl rfl ?_
    refine R1 (g' := (6, _, _, _, _, _)) rfl rfl ?_
    refine R_getf rfl rfl (by omega) (hcell _ _ _) rfl ?_
    rw [hn2]
    refine R_cge 58 rfl rfl (fun h => by exact absurd h (nI_ge hlt (by omega))) (fun h9 => ?_)
    refine R1 (g' := (13, _, _, _, _, _)) rfl rfl ?_
    refine R_getf rfl rfl (by omega) (hcell _ _ _) rfl ?_
    refine R1 (g' := (17, _, _, _, _, _)) rfl rfl ?_
    refine R_call2 (Or.inr (Or.inl ⟨rfl, rfl⟩)) rfl rfl ⟨Nat.le_of_ble_eq_true rfl, Nat.le_of_ble_eq_true rfl⟩ (Nat.le_of_ble_eq_true rfl) ⟨(by simp [okL, okS, okV, xarg, xput1, wd, Value.category] <;> omega), (by simp [okL, okS, okV, xarg, xput1, wd, Value.category] <;> omega)⟩ ⟨⟨_, _, _, rfl, (by show _ < 151; omega), hrV.2.1 _ _ _⟩, e_Row_get hrV (by decide) hk8⟩ ?_
    refine R1 (g' := (21, _, _, _, _, _)) rfl rfl ?_
    refine R_getf rfl rfl (by omega) (hcell _ _ _) rfl ?_
    refine R1 (g' := (25, _, _, _, _, _)) rfl rfl ?_
    refine R1 (g' := (28, _, .int (nI 1000) :: _, _, _, _)) rfl rfl ?_
    refine R_idiv rfl (by decide) ?_
    refine R1 (g' := (30, _, _, _, _, _)) rfl rfl ?_
    refine R1 (g' := (31, _, _, _, _, _)) rfl rfl ?_
    refine R_getf rfl rfl (by omega) (hcell _ _ _) rfl ?_
    refine R1 (g' := (35, _, _, _, _, _)) rfl rfl ?_
    refine R1 (g' := (36, _, _, _, _, _)) rfl rfl ?_
    refine R_getf rfl rfl (by omega) (hcell _ _ _) rfl ?_
    refine R1 (g' := (40, _, _, _, _, _)) rfl rfl ?_
    refine R_call2 (Or.inr (Or.inl ⟨rfl, rfl⟩)) rfl rfl ⟨Nat.le_of_ble_eq_true rfl, Nat.le_of_ble_eq_true rfl⟩ (Nat.le_of_ble_eq_true rfl) ⟨(by simp [okL, okS, okV, xarg, xput1, wd, Value.category] <;> omega), (by simp [okL, okS, okV, xarg, xput1, wd, Value.category] <;> omega)⟩ ⟨⟨_, _, _, rfl, (by show _ < 151; omega), hrV.2.1 _ _ _⟩, e_Row_get hrV (by decide) hk8⟩ ?_
    refine R1 (g' := (44, _, _, _, _, _)) rfl rfl ?_
    refine R1 (g' := (45, _, _, _, _, _)) rfl rfl ?_
    refine R_call3 (Or.inr (Or.inl ⟨rfl, rfl⟩)) rfl rfl ⟨Nat.le_of_ble_eq_true rfl, Nat.le_of_ble_eq_true rfl⟩ (Nat.le_of_ble_eq_true rfl) ⟨(by simp [okL, okS, okV, xarg, xput1, wd, Value.category] <;> omega), (by simp [okL, okS, okV, xarg, xput1, wd, Value.category] <;> omega)⟩ ⟨⟨_, _, _, rfl, (by show _ < 151; omega), hrV.2.1 _ _ _⟩, e_Row_set hrV (by decide) hk8⟩ ?_
    refine R1 (g' := (49, _, _, _, _, _)) rfl rfl ?_
    refine R1 (g' := (50, _, _, _, _, _)) rfl rfl ?_
    refine R1 (g' := (51, _, _, _, _, _)) rfl rfl ?_
    refine R1 (g' := (52, _, _, _, _, _)) rfl rfl ?_
    refine R1 (g' := (55, _, _, _, _, _)) rfl rfl ?_
    refine R1 (g' := (4, _, _, _, _, _)) rfl rfl ?_
    refine R_lv [(2, .int (nI (k + 1))), (1, .int (sHs s p (k + 1))), (0, .ref p)] rfl (List.forall_mem_cons.mpr ⟨by rw [nI_succ k]; rfl, List.forall_mem_cons.mpr ⟨rfl, List.forall_mem_cons.mpr ⟨rfl, fun _ h => absurd h List.not_mem_nil⟩⟩⟩) ⟨rfl, rfl⟩ ?_
    exact ih (k + 1) (by omega)
theorem e_warmUp {s : xs} {p n : Nat} (hp : xbar p) (hn : s.1 p 0 = nI n) (hn8 : n ≤ 8) : Ev_X0_warmUp [.ref p] (wd s) (.inl (some (.int (sHs s p n)))) (wd (sWarm s p n)) := by
  refine ⟨Nat.le_of_ble_eq_true rfl, Nat.le_refl _, Or.inl rfl, ?_⟩
  refine R1 (g' := (1, _, .int (nI 0) :: _, _, _, _)) rfl rfl ?_
  refine R1 (g' := (2, _, _, _, _, _)) rfl rfl ?_
  refine R1 (g' := (3, _, .int (nI 0) :: _, _, _, _)) rfl rfl ?_
  refine R1 (g' := (4, _, _, _, _, _)) rfl rfl ?_
  exact R_lv [(2, .int (nI 0)), (1, .int (sHs s p 0)), (0, .ref p)] rfl (List.forall_mem_cons.mpr ⟨rfl, List.forall_mem_cons.mpr ⟨rfl, List.forall_mem_cons.mpr ⟨rfl, fun _ h => absurd h List.not_mem_nil⟩⟩⟩) ⟨rfl, rfl⟩ (warm_loop hp hn hn8 n 0 (Nat.zero_add _))
def sDrop (s : xs) (p n : Nat) : xs :=
  let s1 := put s p 0 (nI (n - 1))
  put s1 p 6 (s1.1 p 6 + s1.1 (p + 6) (n - 1))
theorem e_dropLast {s : xs} {p n : Nat} (hp : xbar p) (hn : s.1 p 0 = nI n) (h1 : 1 ≤ n) (hn8 : n ≤ 8) : Ev_X0_dropLast [.ref p] (wd s) (.inl (some (.int (s.1 (p + 6) (n - 1))))) (wd (sDrop s p n)) := by
  obtain ⟨h152, hcell, hrW, hrH, hrV, hrB, hsc⟩ := id hp
  refine ⟨Nat.le_of_ble_eq_true rfl, Nat.le_refl _, Or.inl rfl, ?_⟩
  refine R1 (g' := (1, _, _, _, _, _)) rfl rfl ?_
  refine R1 (g' := (2, _, _, _, _, _)) rfl rfl ?_
  refine R_getf rfl rfl (by omega) (hcell _ _ _) rfl ?_
  rw [hn]
  refine R1 (g' := (6, _, .int (nI 1) :: _, _, _, _)) rfl rfl ?_
  refine R1 (g' := (7, _, _, _, _, _)) rfl rfl ?_
  rw [pk_sub h1]
  refine R_put rfl rfl (by omega) (hcell _ _ _) (Nat.le_of_ble_eq_true rfl) ⟨_, rfl, Or.inl rfl, _, rfl, rfl⟩ (hcell _ _ _) ?_
  refine R1 (g' := (11, _, _, _, _, _)) rfl rfl ?_
  refine R_getf rfl rfl (by omega) (hcell _ _ _) rfl ?_
  refine R1 (g' := (15, _, _, _, _, _)) rfl rfl ?_
  refine R_getf rfl rfl (by omega) (hcell _ _ _) rfl ?_
  have e1 : (setP s p (upd (s.1 p) 0 (nI (n - 1)))).1 p 0 = nI (n - 1) := by rw [setP_at]; rfl
  rw [e1]
  refine R_call2 (Or.inr (Or.inl ⟨rfl, rfl⟩)) rfl rfl ⟨Nat.le_of_ble_eq_true rfl, Nat.le_of_ble_eq_true rfl⟩ (Nat.le_of_ble_eq_true rfl) ⟨(by simp [okL, okS, okV, xarg, xput1, wd, Value.category] <;> omega), (by simp [okL, okS, okV, xarg, xput1, wd, Value.category] <;> omega)⟩ ⟨⟨_, _, _, rfl, (by show _ < 151; omega), hrV.2.1 _ _ _⟩, e_Row_get (k := n - 1) hrV (by decide) (by omega)⟩ ?_
  refine R1 (g' := (22, _, _, _, _, _)) rfl rfl ?_
  refine R1 (g' := (23, _, _, _, _, _)) rfl rfl ?_
  refine R1 (g' := (24, _, _, _, _, _)) rfl rfl ?_
  refine R_getf rfl rfl (by omega) (hcell _ _ _) rfl ?_
  refine R1 (g' := (28, _, _, _, _, _)) rfl rfl ?_
  refine R1 (g' := (29, _, _, _, _, _)) rfl rfl ?_
  refine R_put rfl rfl (by omega) (hcell _ _ _) (Nat.le_of_ble_eq_true rfl) ⟨_, rfl, Or.inl rfl, _, rfl, rfl⟩ (hcell _ _ _) ?_
  refine R1 (g' := (33, _, _, _, _, _)) rfl rfl ?_
  refine R_iret rfl ?_
  have e2 : (setP s p (upd (s.1 p) 0 (nI (n - 1)))).1 (p + 5 + 1) = s.1 (p + 6) := setP_ne _ _ (by omega)
  exact ⟨o_i (congrFun e2 _), rfl⟩
theorem e_canJoin {s : xs} {p k a b v a2 b2 v2 t : Nat} (hp : xbar p) (hk8 : k + 1 < 8) (hW : s.1 (p + 2) k = nI a) (hH : s.1 (p + 4) k = nI b) (hV : s.1 (p + 6) k = nI v) (hW2 : s.1 (p + 2) (k + 1) = nI a2) (hH2 : s.1 (p + 4) (k + 1) = nI b2) (hV2 : s.1 (p + 6) (k + 1) = nI v2) (ht : s.1 p 1 = nI t)
    (hb : a < 2 ^ 20 ∧ b < 2 ^ 20 ∧ v < 2 ^ 30 ∧ a2 < 2 ^ 20 ∧ b2 < 2 ^ 20 ∧ v2 < 2 ^ 30 ∧ t < 2 ^ 20) : Ev_X0_canJoin [.ref p, .int (nI k)] (wd s) (.inl (some (.int (bI (decide (a = a2) && (decide (b = b2) && (decide (v + v2 ≤ 9000000) && decide (1100 ≤ t)))))))) (wd s) := by
  obtain ⟨h152, hcell, hrW, hrH, hrV, hrB, hsc⟩ := id hp
  obtain ⟨z1, z2, z3, z4, z5, z6, z7⟩ := hb
  have hk : k < 8 := by omega
  refine ⟨Nat.le_of_ble_eq_true rfl, Nat.le_refl _, Or.inr ⟨rfl, bI_01 _⟩, ?_⟩
  refine R1 (g' := (1, _, _, _, _, _)) rfl rfl ?_
  refine R_getf rfl rfl (by omega) (hcell _ _ _) rfl ?_
  refine R1 (g' := (5, _, _, _, _, _)) rfl rfl ?_
  refine R_call2 (Or.inr (Or.inl ⟨rfl, rfl⟩)) rfl rfl ⟨Nat.le_of_ble_eq_true rfl, Nat.le_of_ble_eq_true rfl⟩ (Nat.le_of_ble_eq_true rfl) ⟨(by simp [okL, okS, okV, xarg, xput1, wd, Value.category] <;> omega), (by simp [okL, okS, okV, xarg, xput1, wd, Value.category] <;> omega)⟩ ⟨⟨_, _, _, rfl, (by show _ < 151; omega), hrW.2.1 _ _ _⟩, e_Row_get hrW (by decide) hk⟩ ?_
  refine R1 (g' := (9, _, _, _, _, _)) rfl rfl ?_
  refine R_getf rfl rfl (by omega) (hcell _ _ _) rfl ?_
  refine R1 (g' := (13, _, _, _, _, _)) rfl rfl ?_
  refine R1 (g' := (14, _, .int (nI 1) :: _, _, _, _)) rfl rfl ?_
  refine R1 (g' := (15, _, _, _, _, _)) rfl rfl ?_
  rw [nI_add]
  refine R_call2 (Or.inr (Or.inl ⟨rfl, rfl⟩)) rfl rfl ⟨Nat.le_of_ble_eq_true rfl, Nat.le_of_ble_eq_true rfl⟩ (Nat.le_of_ble_eq_true rfl) ⟨(by simp [okL, okS, okV, xarg, xput1, wd, Value.category] <;> omega), (by simp [okL, okS, okV, xarg, xput1, wd, Value.category] <;> omega)⟩ ⟨⟨_, _, _, rfl, (by show _ < 151; omega), hrW.2.1 _ _ _⟩, e_Row_get hrW (by decide) hk8⟩ ?_
  rw [hW, hW2]
  refine R_cneN 80 (a) (a2) rfl rfl (rfl) (rfl) (by omega) (by omega) (fun h18 => ?_) (fun h18 => ?_)
  · refine R1 (g' := (81, _, .int (nI 0) :: _, _, _, _)) rfl rfl ?_
    refine R_iret rfl ?_
    exact ⟨o_i (by first | exact (bI_t (by simp only [Bool.and_eq_true, decide_eq_true_eq]; omega)).symm | exact (bI_f (by simp only [Bool.and_eq_false_iff, decide_eq_false_iff_not]; omega)).symm), rfl⟩
  · refine R1 (g' := (22, _, _, _, _, _)) rfl rfl ?_
    refine R_getf rfl rfl (by omega) (hcell _ _ _) rfl ?_
    refine R1 (g' := (26, _, _, _, _, _)) rfl rfl ?_
    refine R_call2 (Or.inr (Or.inl ⟨rfl, rfl⟩)) rfl rfl ⟨Nat.le_of_ble_eq_true rfl, Nat.le_of_ble_eq_true rfl⟩ (Nat.le_of_ble_eq_true rfl) ⟨(by simp [okL, okS, okV, xarg, xput1, wd, Value.category] <;> omega), (by simp [okL, okS, okV, xarg, xput1, wd, Value.category] <;> omega)⟩ ⟨⟨_, _, _, rfl, (by show _ < 151; omega), hrH.2.1 _ _ _⟩, e_Row_get hrH (by decide) hk⟩ ?_
    refine R1 (g' := (30, _, _, _, _, _)) rfl rfl ?_
    refine R_getf rfl rfl (by omega) (hcell _ _ _) rfl ?_
    refine R1 (g' := (34, _, _, _, _, _)) rfl rfl ?_
    refine R1 (g' := (35, _, .int (nI 1) :: _, _, _, _)) rfl rfl ?_
    refine R1 (g' := (36, _, _, _, _, _)) rfl rfl ?_
    rw [nI_add]
    refine R_call2 (Or.inr (Or.inl ⟨rfl, rfl⟩)) rfl rfl ⟨Nat.le_of_ble_eq_true rfl, Nat.le_of_ble_eq_true rfl⟩ (Nat.le_of_ble_eq_true rfl) ⟨(by simp [okL, okS, okV, xarg, xput1, wd, Value.category] <;> omega), (by simp [okL, okS, okV, xarg, xput1, wd, Value.category] <;> omega)⟩ ⟨⟨_, _, _, rfl, (by show _ < 151; omega), hrH.2.1 _ _ _⟩, e_Row_get hrH (by decide) hk8⟩ ?_
    rw [hH, hH2]
    refine R_cneN 80 (b) (b2) rfl rfl (rfl) (rfl) (by omega) (by omega) (fun h39 => ?_) (fun h39 => ?_)
    · refine R1 (g' := (81, _, .int (nI 0) :: _, _, _, _)) rfl rfl ?_
      refine R_iret rfl ?_
      exact ⟨o_i (by first | exact (bI_t (by simp only [Bool.and_eq_true, decide_eq_true_eq]; omega)).symm | exact (bI_f (by simp only [Bool.and_eq_false_iff, decide_eq_false_iff_not]; omega)).symm), rfl⟩
    · refine R1 (g' := (43, _, _, _, _, _)) rfl rfl ?_
      refine R_getf rfl rfl (by omega) (hcell _ _ _) rfl ?_
      refine R1 (g' := (47, _, _, _, _, _)) rfl rfl ?_
      refine R_call2 (Or.inr (Or.inl ⟨rfl, rfl⟩)) rfl rfl ⟨Nat.le_of_ble_eq_true rfl, Nat.le_of_ble_eq_true rfl⟩ (Nat.le_of_ble_eq_true rfl) ⟨(by simp [okL, okS, okV, xarg, xput1, wd, Value.category] <;> omega), (by simp [okL, okS, okV, xarg, xput1, wd, Value.category] <;> omega)⟩ ⟨⟨_, _, _, rfl, (by show _ < 151; omega), hrV.2.1 _ _ _⟩, e_Row_get hrV (by decide) hk⟩ ?_
      refine R1 (g' := (51, _, _, _, _, _)) rfl rfl ?_
      refine R_getf rfl rfl (by omega) (hcell _ _ _) rfl ?_
      refine R1 (g' := (55, _, _, _, _, _)) rfl rfl ?_
      refine R1 (g' := (56, _, .int (nI 1) :: _, _, _, _)) rfl rfl ?_
      refine R1 (g' := (57, _, _, _, _, _)) rfl rfl ?_
      rw [nI_add]
      refine R_call2 (Or.inr (Or.inl ⟨rfl, rfl⟩)) rfl rfl ⟨Nat.le_of_ble_eq_true rfl, Nat.le_of_ble_eq_true rfl⟩ (Nat.le_of_ble_eq_true rfl) ⟨(by simp [okL, okS, okV, xarg, xput1, wd, Value.category] <;> omega), (by simp [okL, okS, okV, xarg, xput1, wd, Value.category] <;> omega)⟩ ⟨⟨_, _, _, rfl, (by show _ < 151; omega), hrV.2.1 _ _ _⟩, e_Row_get hrV (by decide) hk8⟩ ?_
      rw [hV, hV2]
      refine R1 (g' := (61, _, _, _, _, _)) rfl rfl ?_
      rw [nI_add]
      refine R1 (g' := (63, _, .int (nI 9000000) :: _, _, _, _)) rfl rfl ?_
      refine R_cgtN 80 (v + v2) (9000000) rfl rfl (rfl) (rfl) (by omega) (by omega) (fun h63 => ?_) (fun h63 => ?_)
      · refine R1 (g' := (81, _, .int (nI 0) :: _, _, _, _)) rfl rfl ?_
        refine R_iret rfl ?_
        exact ⟨o_i (by first | exact (bI_t (by simp only [Bool.and_eq_true, decide_eq_true_eq]; omega)).symm | exact (bI_f (by simp only [Bool.and_eq_false_iff, decide_eq_false_iff_not]; omega)).symm), rfl⟩
      · refine R1 (g' := (67, _, _, _, _, _)) rfl rfl ?_
        refine R_getf rfl rfl (by omega) (hcell _ _ _) rfl ?_
        rw [ht]
        refine R1 (g' := (73, _, .int (nI 1100) :: _, _, _, _)) rfl rfl ?_
        refine R_cltN 80 (t) (1100) rfl rfl (rfl) (rfl) (by omega) (by omega) (fun h73 => ?_) (fun h73 => ?_)
        · refine R1 (g' := (81, _, .int (nI 0) :: _, _, _, _)) rfl rfl ?_
          refine R_iret rfl ?_
          exact ⟨o_i (by first | exact (bI_t (by simp only [Bool.and_eq_true, decide_eq_true_eq]; omega)).symm | exact (bI_f (by simp only [Bool.and_eq_false_iff, decide_eq_false_iff_not]; omega)).symm), rfl⟩
        · refine R1 (g' := (77, _, .int (nI 1) :: _, _, _, _)) rfl rfl ?_
          refine R1 (g' := (81, _, _, _, _, _)) rfl rfl ?_
          refine R_iret rfl ?_
          exact ⟨o_i (by first | exact (bI_t (by simp only [Bool.and_eq_true, decide_eq_true_eq]; omega)).symm | exact (bI_f (by simp only [Bool.and_eq_false_iff, decide_eq_false_iff_not]; omega)).symm), rfl⟩
theorem e_canSplit {s : xs} {p k a b v n c : Nat} (hp : xbar p) (hn : s.1 p 0 = nI n) (hn8 : n ≤ 8) (hk : k < n) (hW : s.1 (p + 2) k = nI a) (hH : s.1 (p + 4) k = nI b) (hV : s.1 (p + 6) k = nI v) (ha : nRg a = true) (hb : nRg b = true) (hv : v < 2 ^ 31) (hc : c < 2 ^ 31) : Ev_X0_canSplit [.ref p, .int (nI k), .int (nI c)] (wd s) (.inl (some (.int (bI (decide (n < 8) && decide (c < nLn v a b)))))) (wd s) := by
  obtain ⟨h152, hcell, hrW, hrH, hrV, hrB, hsc⟩ := id hp
  have hh : bI (xhas (nI k) n) = 1 := bI_t (by rw [xhas_nI (by omega) (by omega)]; exact decide_eq_true hk)
  have hl : nLn v a b < 2 ^ 31 := Nat.lt_of_le_of_lt (Nat.div_le_self _ _) hv
  refine ⟨Nat.le_of_ble_eq_true rfl, Nat.le_refl _, Or.inr ⟨rfl, bI_01 _⟩, ?_⟩
  refine R1 (g' := (1, _, _, _, _, _)) rfl rfl ?_
  refine R1 (g' := (2, _, _, _, _, _)) rfl rfl ?_
  refine R_call2 (Or.inr (Or.inl ⟨rfl, rfl⟩)) rfl rfl ⟨Nat.le_of_ble_eq_true rfl, Nat.le_of_ble_eq_true rfl⟩ (Nat.le_of_ble_eq_true rfl) ⟨(by simp [okL, okS, okV, xarg, xput1, wd, Value.category] <;> omega), (by simp [okL, okS, okV, xarg, xput1, wd, Value.category] <;> omega)⟩ ⟨⟨_, _, _, rfl, (by show _ < 151; omega), hcell _ _ _⟩, e_has hp hn⟩ ?_
  rw [hh]
  refine R_eq 30 rfl rfl (fun h => by exact absurd h (by decide)) (fun h5 => ?_)
  refine R1 (g' := (9, _, _, _, _, _)) rfl rfl ?_
  refine R_getf rfl rfl (by omega) (hcell _ _ _) rfl ?_
  rw [hn]
  refine R1 (g' := (14, _, .int (nI 8) :: _, _, _, _)) rfl rfl ?_
  refine R_cgeN 30 (n) (8) rfl rfl (rfl) (rfl) (by omega) (by omega) (fun h14 => ?_) (fun h14 => ?_)
  · refine R1 (g' := (31, _, .int (nI 0) :: _, _, _, _)) rfl rfl ?_
    refine R_iret rfl ?_
    exact ⟨o_i (by first | exact (bI_t (by simp only [Bool.and_eq_true, decide_eq_true_eq]; omega)).symm | exact (bI_f (by simp only [Bool.and_eq_false_iff, decide_eq_false_iff_not]; omega)).symm), rfl⟩
  · refine R1 (g' := (18, _, _, _, _, _)) rfl rfl ?_
    refine R1 (g' := (19, _, _, _, _, _)) rfl rfl ?_
    refine R_call2 (Or.inr (Or.inl ⟨rfl, rfl⟩)) rfl rfl ⟨Nat.le_of_ble_eq_true rfl, Nat.le_of_ble_eq_true rfl⟩ (Nat.le_of_ble_eq_true rfl) ⟨(by simp [okL, okS, okV, xarg, xput1, wd, Value.category] <;> omega), (by simp [okL, okS, okV, xarg, xput1, wd, Value.category] <;> omega)⟩ ⟨⟨_, _, _, rfl, (by show _ < 151; omega), hcell _ _ _⟩, e_lengthOf hp (by omega) hW hH hV ha hb hv⟩ ?_
    refine R1 (g' := (23, _, _, _, _, _)) rfl rfl ?_
    refine R_cleN 30 (nLn v a b) (c) rfl rfl (rfl) (rfl) (by omega) (by omega) (fun h23 => ?_) (fun h23 => ?_)
    · refine R1 (g' := (31, _, .int (nI 0) :: _, _, _, _)) rfl rfl ?_
      refine R_iret rfl ?_
      exact ⟨o_i (by first | exact (bI_t (by simp only [Bool.and_eq_true, decide_eq_true_eq]; omega)).symm | exact (bI_f (by simp only [Bool.and_eq_false_iff, decide_eq_false_iff_not]; omega)).symm), rfl⟩
    · refine R1 (g' := (27, _, .int (nI 1) :: _, _, _, _)) rfl rfl ?_
      refine R1 (g' := (31, _, _, _, _, _)) rfl rfl ?_
      refine R_iret rfl ?_
      exact ⟨o_i (by first | exact (bI_t (by simp only [Bool.and_eq_true, decide_eq_true_eq]; omega)).symm | exact (bI_f (by simp only [Bool.and_eq_false_iff, decide_eq_false_iff_not]; omega)).symm), rfl⟩
theorem e_canSplitN {s : xs} {p n : Nat} {x y : Int32} (hp : xbar p) (hn : s.1 p 0 = nI n) (hx : xhas x n = false) : Ev_X0_canSplit [.ref p, .int x, .int y] (wd s) (.inl (some (.int (bI false)))) (wd s) := by
  obtain ⟨h152, hcell, hrW, hrH, hrV, hrB, hsc⟩ := id hp
  have hh : bI (xhas x n) = 0 := bI_f hx
  refine ⟨Nat.le_of_ble_eq_true rfl, Nat.le_refl _, Or.inr ⟨rfl, bI_01 _⟩, ?_⟩
  refine R1 (g' := (1, _, _, _, _, _)) rfl rfl ?_
  refine R1 (g' := (2, _, _, _, _, _)) rfl rfl ?_
  refine R_call2 (Or.inr (Or.inl ⟨rfl, rfl⟩)) rfl rfl ⟨Nat.le_of_ble_eq_true rfl, Nat.le_of_ble_eq_true rfl⟩ (Nat.le_of_ble_eq_true rfl) ⟨(by simp [okL, okS, okV, xarg, xput1, wd, Value.category] <;> omega), (by simp [okL, okS, okV, xarg, xput1, wd, Value.category] <;> omega)⟩ ⟨⟨_, _, _, rfl, (by show _ < 151; omega), hcell _ _ _⟩, e_has hp hn⟩ ?_
  rw [hh]
  refine R_eq 30 rfl rfl (fun h5 => ?_) (fun h => by exact absurd rfl h)
  refine R1 (g' := (31, _, .int (nI 0) :: _, _, _, _)) rfl rfl ?_
  refine R_iret rfl ?_
  exact ⟨rfl, rfl⟩
