def xstp (t : Nat) : Prop := t + 9 < 151 ∧ (∀ f q g, cellAt t f q g = .inr (6, [.int (f 0), .ref (t + 1), .ref (t + 3), .ref (t + 5), .ref (t + 7)])) ∧ xrw (t + 1) 8 ∧ xrw (t + 3) 8 ∧ xrw (t + 5) 8 ∧ xrw (t + 7) 8
def xsta (b : Nat) : Prop := b + 20 < 151 ∧ (∀ f q g, cellAt b f q g = .inr (5, [.ref (b + 1), .ref (b + 11)])) ∧ xbar (b + 1) ∧ xstp (b + 11)
theorem xsta_1 : xsta 1 := ⟨by decide, fun _ _ _ => rfl, xbar_2, by decide, fun _ _ _ => rfl, xrw_lit (by decide) (fun _ _ _ => rfl) (fun _ _ _ => rfl), xrw_lit (by decide) (fun _ _ _ => rfl) (fun _ _ _ => rfl), xrw_lit (by decide) (fun _ _ _ => rfl) (fun _ _ _ => rfl), xrw_lit (by decide) (fun _ _ _ => rfl) (fun _ _ _ => rfl)⟩
theorem xsta_21 : xsta 21 := ⟨by decide, fun _ _ _ => rfl, xbar_22, by decide, fun _ _ _ => rfl, xrw_lit (by decide) (fun _ _ _ => rfl) (fun _ _ _ => rfl), xrw_lit (by decide) (fun _ _ _ => rfl) (fun _ _ _ => rfl), xrw_lit (by decide) (fun _ _ _ => rfl) (fun _ _ _ => rfl), xrw_lit (by decide) (fun _ _ _ => rfl) (fun _ _ _ => rfl)⟩
theorem xsta_43 : xsta 43 := ⟨by decide, fun _ _ _ => rfl, xbar_44, by decide, fun _ _ _ => rfl, xrw_lit (by decide) (fun _ _ _ => rfl) (fun _ _ _ => rfl), xrw_lit (by decide) (fun _ _ _ => rfl) (fun _ _ _ => rfl), xrw_lit (by decide) (fun _ _ _ => rfl) (fun _ _ _ => rfl), xrw_lit (by decide) (fun _ _ _ => rfl) (fun _ _ _ => rfl)⟩
theorem xsta_63 : xsta 63 := ⟨by decide, fun _ _ _ => rfl, xbar_64, by decide, fun _ _ _ => rfl, xrw_lit (by decide) (fun _ _ _ => rfl) (fun _ _ _ => rfl), xrw_lit (by decide) (fun _ _ _ => rfl) (fun _ _ _ => rfl), xrw_lit (by decide) (fun _ _ _ => rfl) (fun _ _ _ => rfl), xrw_lit (by decide) (fun _ _ _ => rfl) (fun _ _ _ => rfl)⟩
theorem xsta_83 : xsta 83 := ⟨by decide, fun _ _ _ => rfl, xbar_84, by decide, fun _ _ _ => rfl, xrw_lit (by decide) (fun _ _ _ => rfl) (fun _ _ _ => rfl), xrw_lit (by decide) (fun _ _ _ => rfl) (fun _ _ _ => rfl), xrw_lit (by decide) (fun _ _ _ => rfl) (fun _ _ _ => rfl), xrw_lit (by decide) (fun _ _ _ => rfl) (fun _ _ _ => rfl)⟩
theorem xsta_103 : xsta 103 := ⟨by decide, fun _ _ _ => rfl, xbar_104, by decide, fun _ _ _ => rfl, xrw_lit (by decide) (fun _ _ _ => rfl) (fun _ _ _ => rfl), xrw_lit (by decide) (fun _ _ _ => rfl) (fun _ _ _ => rfl), xrw_lit (by decide) (fun _ _ _ => rfl) (fun _ _ _ => rfl), xrw_lit (by decide) (fun _ _ _ => rfl) (fun _ _ _ => rfl)⟩
theorem e_stHas {s : xs} {t n : Nat} {x : Int32} (ht : xstp t) (hn : s.1 t 0 = nI n) : Ev_X6_has [.ref t, .int x] (wd s) (.inl (some (.int (bI (xhas x n))))) (wd s) := by
  obtain ⟨t152, tcell, trW, trH, trO, trL⟩ := id ht
  refine ⟨Nat.le_of_ble_eq_true rfl, Nat.le_refl _, Or.inr ⟨rfl, bI_01 _⟩, ?_⟩
  refine R1 (g' := (1, _, _, _, _, _)) rfl rfl ?_
  refine R_lt 16 rfl rfl (fun h1 => ?_) (fun h1 => ?_)
  · refine R1 (g' := (17, _, .int (nI 0) :: _, _, _, _)) rfl rfl ?_
    refine R_iret rfl ?_
    exact ⟨o_i (by first | exact (bI_t (by simp only [xhas, Bool.and_eq_true, decide_eq_true_eq]; exact ⟨Int32.not_lt.mp h1, Int32.not_le.mp h9⟩)).symm | exact (bI_f (by simp only [xhas, Bool.and_eq_false_iff, decide_eq_false_iff_not]; first | exact Or.inl (Int32.not_le.mpr h1) | exact Or.inr (Int32.not_lt.mpr h9))).symm), rfl⟩
  · refine R1 (g' := (5, _, _, _, _, _)) rfl rfl ?_
    refine R1 (g' := (6, _, _, _, _, _)) rfl rfl ?_
    refine R_getf rfl rfl (by omega) (tcell _ _ _) rfl ?_
    rw [hn]
    refine R_cge 16 rfl rfl (fun h9 => ?_) (fun h9 => ?_)
    · refine R1 (g' := (17, _, .int (nI 0) :: _, _, _, _)) rfl rfl ?_
      refine R_iret rfl ?_
      exact ⟨o_i (by first | exact (bI_t (by simp only [xhas, Bool.and_eq_true, decide_eq_true_eq]; exact ⟨Int32.not_lt.mp h1, Int32.not_le.mp h9⟩)).symm | exact (bI_f (by simp only [xhas, Bool.and_eq_false_iff, decide_eq_false_iff_not]; first | exact Or.inl (Int32.not_le.mpr h1) | exact Or.inr (Int32.not_lt.mpr h9))).symm), rfl⟩
    · refine R1 (g' := (13, _, .int (nI 1) :: _, _, _, _)) rfl rfl ?_
      refine R1 (g' := (17, _, _, _, _, _)) rfl rfl ?_
      refine R_iret rfl ?_
      exact ⟨o_i (by first | exact (bI_t (by simp only [xhas, Bool.and_eq_true, decide_eq_true_eq]; exact ⟨Int32.not_lt.mp h1, Int32.not_le.mp h9⟩)).symm | exact (bI_f (by simp only [xhas, Bool.and_eq_false_iff, decide_eq_false_iff_not]; first | exact Or.inl (Int32.not_le.mpr h1) | exact Or.inr (Int32.not_lt.mpr h9))).symm), rfl⟩
def sTell (s : xs) (t m : Nat) (w h o l : Int32) : xs :=
  let s1 := put s (t + 2) m w
  let s2 := put s1 (t + 4) m h
  let s3 := put s2 (t + 6) m o
  let s4 := put s3 (t + 8) m l
  put s4 t 0 (s4.1 t 0 + nI 1)
theorem e_tell {s : xs} {t m : Nat} {w h o l : Int32} (ht : xstp t) (hn : s.1 t 0 = nI m) (hm : m < 8) : Ev_X6_tell [.ref t, .int w, .int h, .int o, .int l] (wd s) (.inl (some (.int (nI m)))) (wd (sTell s t m w h o l)) := by
  obtain ⟨t152, tcell, trW, trH, trO, trL⟩ := id ht
  refine ⟨Nat.le_of_ble_eq_true rfl, Nat.le_refl _, Or.inl rfl, ?_⟩
  refine R1 (g' := (1, _, _, _, _, _)) rfl rfl ?_
  refine R_getf rfl rfl (by omega) (tcell _ _ _) rfl ?_
  rw [hn]
  refine R1 (g' := (6, _, _, _, _, _)) rfl rfl ?_
  refine R1 (g' := (7, _, _, _, _, _)) rfl rfl ?_
  refine R_getf rfl rfl (by omega) (tcell _ _ _) rfl ?_
  refine R1 (g' := (12, _, _, _, _, _)) rfl rfl ?_
  refine R1 (g' := (13, _, _, _, _, _)) rfl rfl ?_
  refine R_call3 (Or.inr (Or.inl ⟨rfl, rfl⟩)) rfl rfl ⟨Nat.le_of_ble_eq_true rfl, Nat.le_of_ble_eq_true rfl⟩ (Nat.le_of_ble_eq_true rfl) ⟨(by simp [okL, okS, okV, xarg, xput1, wd, Value.category] <;> omega), (by simp [okL, okS, okV, xarg, xput1, wd, Value.category] <;> omega)⟩ ⟨⟨_, _, _, rfl, (by show _ < 151; omega), trW.2.1 _ _ _⟩, e_Row_set trW (by decide) hm⟩ ?_
  refine R1 (g' := (17, _, _, _, _, _)) rfl rfl ?_
  refine R_getf rfl rfl (by omega) (tcell _ _ _) rfl ?_
  refine R1 (g' := (22, _, _, _, _, _)) rfl rfl ?_
  refine R1 (g' := (23, _, _, _, _, _)) rfl rfl ?_
  refine R_call3 (Or.inr (Or.inl ⟨rfl, rfl⟩)) rfl rfl ⟨Nat.le_of_ble_eq_true rfl, Nat.le_of_ble_eq_true rfl⟩ (Nat.le_of_ble_eq_true rfl) ⟨(by simp [okL, okS, okV, xarg, xput1, wd, Value.category] <;> omega), (by simp [okL, okS, okV, xarg, xput1, wd, Value.category] <;> omega)⟩ ⟨⟨_, _, _, rfl, (by show _ < 151; omega), trH.2.1 _ _ _⟩, e_Row_set trH (by decide) hm⟩ ?_
  refine R1 (g' := (27, _, _, _, _, _)) rfl rfl ?_
  refine R_getf rfl rfl (by omega) (tcell _ _ _) rfl ?_
  refine R1 (g' := (32, _, _, _, _, _)) rfl rfl ?_
  refine R1 (g' := (33, _, _, _, _, _)) rfl rfl ?_
  refine R_call3 (Or.inr (Or.inl ⟨rfl, rfl⟩)) rfl rfl ⟨Nat.le_of_ble_eq_true rfl, Nat.le_of_ble_eq_true rfl⟩ (Nat.le_of_ble_eq_true rfl) ⟨(by simp [okL, okS, okV, xarg, xput1, wd, Value.category] <;> omega), (by simp [okL, okS, okV, xarg, xput1, wd, Value.category] <;> omega)⟩ ⟨⟨_, _, _, rfl, (by show _ < 151; omega), trO.2.1 _ _ _⟩, e_Row_set trO (by decide) hm⟩ ?_
  refine R1 (g' := (37, _, _, _, _, _)) rfl rfl ?_
  refine R_getf rfl rfl (by omega) (tcell _ _ _) rfl ?_
  refine R1 (g' := (42, _, _, _, _, _)) rfl rfl ?_
  refine R1 (g' := (44, _, _, _, _, _)) rfl rfl ?_
  refine R_call3 (Or.inr (Or.inl ⟨rfl, rfl⟩)) rfl rfl ⟨Nat.le_of_ble_eq_true rfl, Nat.le_of_ble_eq_true rfl⟩ (Nat.le_of_ble_eq_true rfl) ⟨(by simp [okL, okS, okV, xarg, xput1, wd, Value.category] <;> omega), (by simp [okL, okS, okV, xarg, xput1, wd, Value.category] <;> omega)⟩ ⟨⟨_, _, _, rfl, (by show _ < 151; omega), trL.2.1 _ _ _⟩, e_Row_set trL (by decide) hm⟩ ?_
  refine R1 (g' := (48, _, _, _, _, _)) rfl rfl ?_
  refine R1 (g' := (49, _, _, _, _, _)) rfl rfl ?_
  refine R_getf rfl rfl (by omega) (tcell _ _ _) rfl ?_
  refine R1 (g' := (53, _, .int (nI 1) :: _, _, _, _)) rfl rfl ?_
  refine R1 (g' := (54, _, _, _, _, _)) rfl rfl ?_
  refine R_put rfl rfl (by omega) (tcell _ _ _) (Nat.le_of_ble_eq_true rfl) ⟨_, rfl, Or.inl rfl, _, rfl, rfl⟩ (tcell _ _ _) ?_
  refine R1 (g' := (59, _, _, _, _, _)) rfl rfl ?_
  refine R_iret rfl ?_
  exact ⟨rfl, rfl⟩
def sStepOf (s : xs) (t k w : Nat) : Int32 := if w = 0 then s.1 (t + 2) k else if w = 1 then s.1 (t + 4) k else if w = 2 then s.1 (t + 6) k else s.1 (t + 8) k
theorem e_ofStep {s : xs} {t k w : Nat} (ht : xstp t) (hk8 : k < 8) (hw : w < 4) : Ev_X6_ofStep [.ref t, .int (nI k), .int (nI w)] (wd s) (.inl (some (.int (sStepOf s t k w)))) (wd s) := by
  obtain ⟨t152, tcell, trW, trH, trO, trL⟩ := id ht
  refine ⟨Nat.le_of_ble_eq_true rfl, Nat.le_refl _, Or.inl rfl, ?_⟩
  rcases (show w = 0 ∨ w = 1 ∨ w = 2 ∨ w = 3 by omega) with rfl | rfl | rfl | rfl
  · refine R1 (g' := (1, _, _, _, _, _)) rfl rfl ?_
    refine R_tsw 27 28 rfl (by decide) (by decide) rfl rfl ?_
    refine R1 (g' := (29, _, _, _, _, _)) rfl rfl ?_
    refine R_getf rfl rfl (by omega) (tcell _ _ _) rfl ?_
    refine R1 (g' := (33, _, _, _, _, _)) rfl rfl ?_
    refine R_call2 (Or.inr (Or.inl ⟨rfl, rfl⟩)) rfl rfl ⟨Nat.le_of_ble_eq_true rfl, Nat.le_of_ble_eq_true rfl⟩ (Nat.le_of_ble_eq_true rfl) ⟨(by simp [okL, okS, okV, xarg, xput1, wd, Value.category] <;> omega), (by simp [okL, okS, okV, xarg, xput1, wd, Value.category] <;> omega)⟩ ⟨⟨_, _, _, rfl, (by show _ < 151; omega), trW.2.1 _ _ _⟩, e_Row_get trW (by decide) hk8⟩ ?_
    refine R_iret rfl ?_
    exact ⟨rfl, rfl⟩
  · refine R1 (g' := (1, _, _, _, _, _)) rfl rfl ?_
    refine R_tsw 36 37 rfl (by decide) (by decide) rfl rfl ?_
    refine R1 (g' := (38, _, _, _, _, _)) rfl rfl ?_
    refine R_getf rfl rfl (by omega) (tcell _ _ _) rfl ?_
    refine R1 (g' := (42, _, _, _, _, _)) rfl rfl ?_
    refine R_call2 (Or.inr (Or.inl ⟨rfl, rfl⟩)) rfl rfl ⟨Nat.le_of_ble_eq_true rfl, Nat.le_of_ble_eq_true rfl⟩ (Nat.le_of_ble_eq_true rfl) ⟨(by simp [okL, okS, okV, xarg, xput1, wd, Value.category] <;> omega), (by simp [okL, okS, okV, xarg, xput1, wd, Value.category] <;> omega)⟩ ⟨⟨_, _, _, rfl, (by show _ < 151; omega), trH.2.1 _ _ _⟩, e_Row_get trH (by decide) hk8⟩ ?_
    refine R_iret rfl ?_
    exact ⟨rfl, rfl⟩
  · refine R1 (g' := (1, _, _, _, _, _)) rfl rfl ?_
    refine R_tsw 45 46 rfl (by decide) (by decide) rfl rfl ?_
    refine R1 (g' := (47, _, _, _, _, _)) rfl rfl ?_
    refine R_getf rfl rfl (by omega) (tcell _ _ _) rfl ?_
    refine R1 (g' := (51, _, _, _, _, _)) rfl rfl ?_
    refine R_call2 (Or.inr (Or.inl ⟨rfl, rfl⟩)) rfl rfl ⟨Nat.le_of_ble_eq_true rfl, Nat.le_of_ble_eq_true rfl⟩ (Nat.le_of_ble_eq_true rfl) ⟨(by simp [okL, okS, okV, xarg, xput1, wd, Value.category] <;> omega), (by simp [okL, okS, okV, xarg, xput1, wd, Value.category] <;> omega)⟩ ⟨⟨_, _, _, rfl, (by show _ < 151; omega), trO.2.1 _ _ _⟩, e_Row_get trO (by decide) hk8⟩ ?_
    refine R_iret rfl ?_
    exact ⟨rfl, rfl⟩
  · refine R1 (g' := (1, _, _, _, _, _)) rfl rfl ?_
    refine R_tswO 55 rfl (Or.inr (by decide)) rfl ?_
    refine R1 (g' := (56, _, _, _, _, _)) rfl rfl ?_
    refine R_getf rfl rfl (by omega) (tcell _ _ _) rfl ?_
    refine R1 (g' := (60, _, _, _, _, _)) rfl rfl ?_
    refine R_call2 (Or.inr (Or.inl ⟨rfl, rfl⟩)) rfl rfl ⟨Nat.le_of_ble_eq_true rfl, Nat.le_of_ble_eq_true rfl⟩ (Nat.le_of_ble_eq_true rfl) ⟨(by simp [okL, okS, okV, xarg, xput1, wd, Value.category] <;> omega), (by simp [okL, okS, okV, xarg, xput1, wd, Value.category] <;> omega)⟩ ⟨⟨_, _, _, rfl, (by show _ < 151; omega), trL.2.1 _ _ _⟩, e_Row_get trL (by decide) hk8⟩ ?_
    refine R_iret rfl ?_
    exact ⟨rfl, rfl⟩
def sStepCopy (s : xs) (p p2 : Nat) : xs :=
  let s7 := put s p 0 (s.1 p2 0)
  let t0 := setP s7 (p + 2) (va_cpy (s7.1 (p2 + 2)) (s7.1 (p + 2)) 0 0 8)
  let t1 := setP t0 (p + 4) (va_cpy (t0.1 (p2 + 4)) (t0.1 (p + 4)) 0 0 8)
  let t2 := setP t1 (p + 6) (va_cpy (t1.1 (p2 + 6)) (t1.1 (p + 6)) 0 0 8)
  setP t2 (p + 8) (va_cpy (t2.1 (p2 + 8)) (t2.1 (p + 8)) 0 0 8)
theorem e_stepCopy {s : xs} {p p2 : Nat} (ht : xstp p) (ht2 : xstp p2) : Ev_X6_copyFrom [.ref p, .ref p2] (wd s) (.inl none) (wd (sStepCopy s p p2)) := by
  obtain ⟨t152, tcell, trW, trH, trO, trL⟩ := id ht
  obtain ⟨t1522, tcell2, trW2, trH2, trO2, trL2⟩ := id ht2
  refine ⟨Nat.le_of_ble_eq_true rfl, Nat.le_refl _, rfl, ?_⟩
  refine R1 (g' := (1, _, _, _, _, _)) rfl rfl ?_
  refine R1 (g' := (2, _, _, _, _, _)) rfl rfl ?_
  refine R_getf rfl rfl (by omega) (tcell2 _ _ _) rfl ?_
  refine R_put rfl rfl (by omega) (tcell _ _ _) (Nat.le_of_ble_eq_true rfl) ⟨_, rfl, Or.inl rfl, _, rfl, rfl⟩ (tcell _ _ _) ?_
  refine R1 (g' := (9, _, _, _, _, _)) rfl rfl ?_
  refine R_getf rfl rfl (by omega) (tcell _ _ _) rfl ?_
  refine R1 (g' := (13, _, _, _, _, _)) rfl rfl ?_
  refine R_getf rfl rfl (by omega) (tcell2 _ _ _) rfl ?_
  refine R_call2 (Or.inr (Or.inl ⟨rfl, rfl⟩)) rfl rfl ⟨Nat.le_of_ble_eq_true rfl, Nat.le_of_ble_eq_true rfl⟩ (Nat.le_of_ble_eq_true rfl) ⟨(by simp [okL, okS, okV, xarg, xput1, wd, Value.category] <;> omega), (by simp [okL, okS, okV, xarg, xput1, wd, Value.category] <;> omega)⟩ ⟨⟨_, _, _, rfl, (by show _ < 151; omega), trW.2.1 _ _ _⟩, e_Row_copyFrom trW trW2 (by decide)⟩ ?_
  refine R1 (g' := (20, _, _, _, _, _)) rfl rfl ?_
  refine R_getf rfl rfl (by omega) (tcell _ _ _) rfl ?_
  refine R1 (g' := (24, _, _, _, _, _)) rfl rfl ?_
  refine R_getf rfl rfl (by omega) (tcell2 _ _ _) rfl ?_
  refine R_call2 (Or.inr (Or.inl ⟨rfl, rfl⟩)) rfl rfl ⟨Nat.le_of_ble_eq_true rfl, Nat.le_of_ble_eq_true rfl⟩ (Nat.le_of_ble_eq_true rfl) ⟨(by simp [okL, okS, okV, xarg, xput1, wd, Value.category] <;> omega), (by simp [okL, okS, okV, xarg, xput1, wd, Value.category] <;> omega)⟩ ⟨⟨_, _, _, rfl, (by show _ < 151; omega), trH.2.1 _ _ _⟩, e_Row_copyFrom trH trH2 (by decide)⟩ ?_
  refine R1 (g' := (31, _, _, _, _, _)) rfl rfl ?_
  refine R_getf rfl rfl (by omega) (tcell _ _ _) rfl ?_
  refine R1 (g' := (35, _, _, _, _, _)) rfl rfl ?_
  refine R_getf rfl rfl (by omega) (tcell2 _ _ _) rfl ?_
  refine R_call2 (Or.inr (Or.inl ⟨rfl, rfl⟩)) rfl rfl ⟨Nat.le_of_ble_eq_true rfl, Nat.le_of_ble_eq_true rfl⟩ (Nat.le_of_ble_eq_true rfl) ⟨(by simp [okL, okS, okV, xarg, xput1, wd, Value.category] <;> omega), (by simp [okL, okS, okV, xarg, xput1, wd, Value.category] <;> omega)⟩ ⟨⟨_, _, _, rfl, (by show _ < 151; omega), trO.2.1 _ _ _⟩, e_Row_copyFrom trO trO2 (by decide)⟩ ?_
  refine R1 (g' := (42, _, _, _, _, _)) rfl rfl ?_
  refine R_getf rfl rfl (by omega) (tcell _ _ _) rfl ?_
  refine R1 (g' := (46, _, _, _, _, _)) rfl rfl ?_
  refine R_getf rfl rfl (by omega) (tcell2 _ _ _) rfl ?_
  refine R_call2 (Or.inr (Or.inl ⟨rfl, rfl⟩)) rfl rfl ⟨Nat.le_of_ble_eq_true rfl, Nat.le_of_ble_eq_true rfl⟩ (Nat.le_of_ble_eq_true rfl) ⟨(by simp [okL, okS, okV, xarg, xput1, wd, Value.category] <;> omega), (by simp [okL, okS, okV, xarg, xput1, wd, Value.category] <;> omega)⟩ ⟨⟨_, _, _, rfl, (by show _ < 151; omega), trL.2.1 _ _ _⟩, e_Row_copyFrom trL trL2 (by decide)⟩ ?_
  refine R_vret rfl ?_
  exact ⟨rfl, rfl⟩
def sStCopy (s : xs) (b b2 : Nat) : xs := sStepCopy (sBarCopy s (b + 1) (b2 + 1)) (b + 11) (b2 + 11)
theorem e_stCopy {s : xs} {b b2 : Nat} (hb : xsta b) (hb2 : xsta b2) : Ev_X5_copyFrom [.ref b, .ref b2] (wd s) (.inl none) (wd (sStCopy s b b2)) := by
  obtain ⟨s152, scell, hp, ht⟩ := id hb
  obtain ⟨s1522, scell2, hp2, ht2⟩ := id hb2
  refine ⟨Nat.le_of_ble_eq_true rfl, Nat.le_refl _, rfl, ?_⟩
  refine R1 (g' := (1, _, _, _, _, _)) rfl rfl ?_
  refine R_getf rfl rfl (by omega) (scell _ _ _) rfl ?_
  refine R1 (g' := (5, _, _, _, _, _)) rfl rfl ?_
  refine R_getf rfl rfl (by omega) (scell2 _ _ _) rfl ?_
  refine R_call2 (Or.inr (Or.inl ⟨rfl, rfl⟩)) rfl rfl ⟨Nat.le_of_ble_eq_true rfl, Nat.le_of_ble_eq_true rfl⟩ (Nat.le_of_ble_eq_true rfl) ⟨(by simp [okL, okS, okV, xarg, xput1, wd, Value.category] <;> omega), (by simp [okL, okS, okV, xarg, xput1, wd, Value.category] <;> omega)⟩ ⟨⟨_, _, _, rfl, (by show _ < 151; omega), hp.2.1 _ _ _⟩, e_barCopy hp hp2⟩ ?_
  refine R1 (g' := (12, _, _, _, _, _)) rfl rfl ?_
  refine R_getf rfl rfl (by omega) (scell _ _ _) rfl ?_
  refine R1 (g' := (16, _, _, _, _, _)) rfl rfl ?_
  refine R_getf rfl rfl (by omega) (scell2 _ _ _) rfl ?_
  refine R_call2 (Or.inr (Or.inl ⟨rfl, rfl⟩)) rfl rfl ⟨Nat.le_of_ble_eq_true rfl, Nat.le_of_ble_eq_true rfl⟩ (Nat.le_of_ble_eq_true rfl) ⟨(by simp [okL, okS, okV, xarg, xput1, wd, Value.category] <;> omega), (by simp [okL, okS, okV, xarg, xput1, wd, Value.category] <;> omega)⟩ ⟨⟨_, _, _, rfl, (by show _ < 151; omega), ht.2.1 _ _ _⟩, e_stepCopy ht ht2⟩ ?_
  refine R_vret rfl ?_
  exact ⟨rfl, rfl⟩
/-! a page of 73 numbers: what the reference keeps a state in -/
def qPart (Q : Nat → Int32) (k : Nat) : Prop := Q (9 + 4 * k) = nI (qn Q (9 + 4 * k)) ∧ Q (10 + 4 * k) = nI (qn Q (10 + 4 * k)) ∧ Q (11 + 4 * k) = nI (qn Q (11 + 4 * k)) ∧ nRg (qn Q (9 + 4 * k)) = true ∧ nRg (qn Q (10 + 4 * k)) = true ∧ 1 ≤ qn Q (11 + 4 * k) ∧ qn Q (11 + 4 * k) ≤ 9000000
def qStep (Q : Nat → Int32) (k : Nat) : Prop := Q (41 + 4 * k) = nI (qn Q (41 + 4 * k)) ∧ Q (42 + 4 * k) = nI (qn Q (42 + 4 * k)) ∧ Q (43 + 4 * k) = nI (qn Q (43 + 4 * k)) ∧ Q (44 + 4 * k) = nI (qn Q (44 + 4 * k)) ∧ nRg (qn Q (41 + 4 * k)) = true ∧ nRg (qn Q (42 + 4 * k)) = true ∧ qn Q (43 + 4 * k) ≤ 9 ∧ qn Q (44 + 4 * k) ≤ 9999
def pInv (Q : Nat → Int32) : Prop := (Q 7 = nI (qn Q 7) ∧ 1 ≤ qn Q 7 ∧ qn Q 7 ≤ 8) ∧ (Q 8 = nI (qn Q 8) ∧ qn Q 8 ≤ 8) ∧ (Q 0 = nI (qn Q 0) ∧ 20 ≤ qn Q 0 ∧ qn Q 0 ≤ 1250) ∧ (Q 1 = nI (qn Q 1) ∧ qn Q 1 ≤ 50) ∧ (∀ k, k < qn Q 7 → qPart Q k) ∧ (∀ k, k < qn Q 8 → qStep Q k) ∧ (Q 6 = nI (qn Q 6) ∧ 1 ≤ qn Q 6 ∧ qn Q 6 ≤ 9000000)
def tRel (s : xs) (t : Nat) (Q : Nat → Int32) : Prop := s.1 t 0 = Q 8 ∧ ∀ k, k < 8 → s.1 (t + 2) k = Q (41 + 4 * k) ∧ s.1 (t + 4) k = Q (42 + 4 * k) ∧ s.1 (t + 6) k = Q (43 + 4 * k) ∧ s.1 (t + 8) k = Q (44 + 4 * k)
def pRel (s : xs) (b : Nat) (Q : Nat → Int32) : Prop := bRel s (b + 1) Q ∧ tRel s (b + 11) Q
def qLen (Q : Nat → Int32) (k : Nat) : Nat := nLn (qn Q (11 + 4 * k)) (qn Q (9 + 4 * k)) (qn Q (10 + 4 * k))
def qFit (Q : Nat → Int32) (k : Nat) : Bool := decide (k < qn Q 8) && (nNear (qn Q (9 + 4 * k)) (qn Q (41 + 4 * k)) (qn Q (43 + 4 * k)) && (nNear (qn Q (10 + 4 * k)) (qn Q (42 + 4 * k)) (qn Q (43 + 4 * k)) && decide (qn Q (44 + 4 * k) ≤ qLen Q k)))
def qAll (f : Nat → Bool) : Nat → Bool
  | 0 => true
  | n + 1 => qAll f n && f n
def qRight (Q : Nat → Int32) : Bool := decide (0 < qn Q 8) && (decide (qn Q 7 = qn Q 8) && qAll (qFit Q) (qn Q 8))
def qPartOf (Q : Nat → Int32) (k w : Nat) : Int32 := if w = 0 then Q (9 + 4 * k) else if w = 1 then Q (10 + 4 * k) else if w = 2 then Q (11 + 4 * k) else if w = 3 then nI (qLen Q k) else if w = 4 then Q (12 + 4 * k) else if w = 8 then bI (qFit Q k) else bI (nCan (qn Q (9 + 4 * k)) (qn Q (10 + 4 * k)) (w - 5) (qn Q (11 + 4 * k)))
def qOf (Q : Nat → Int32) (w : Nat) : Int32 := if w = 0 then Q 7 else if w = 1 then Q 0 else if w = 2 then Q 1 else if w = 3 then Q 2 else if w = 4 then Q 3 else if w = 5 then csum (fun k => Q (11 + 4 * k)) (qn Q 7) else if w = 6 then Q 4 else if w = 7 then Q 5 else if w = 8 then csum (fun k => nI (qLen Q k)) (qn Q 7) else if w = 9 then Q 8 else if w = 10 then bI (qRight Q) else nI (nBl (qn Q 0))
theorem qLen_le {Q : Nat → Int32} {k : Nat} (h : qPart Q k) : qLen Q k ≤ 9000000 := Nat.le_trans (Nat.div_le_self _ _) h.2.2.2.2.2.2
theorem e_meetsStep {s : xs} {b k : Nat} {Q : Nat → Int32} (hb : xsta b) (hr : pRel s b Q) (hi : pInv Q) (hk : k < qn Q 7) : Ev_X5_meetsStep [.ref b, .int (nI k)] (wd s) (.inl (some (.int (bI (qFit Q k))))) (wd s) := by
  obtain ⟨s152, scell, hp, ht⟩ := id hb
  obtain ⟨⟨⟨b0, b1, b2, b3, b4, b5, b6, b7⟩, br⟩, t0, tr⟩ := hr
  obtain ⟨h152, hcell, hrW, hrH, hrV, hrB, hsc⟩ := id hp
  obtain ⟨t152, tcell, trW, trH, trO, trL⟩ := id ht
  obtain ⟨⟨i7, i7a, i7b⟩, ⟨i8, i8a⟩, ⟨i0, i0a, i0b⟩, ⟨i1, i1a⟩, iP, iS, i6⟩ := hi
  have hk8 : k < 8 := by omega
  obtain ⟨r1, r2, r3, r4⟩ := br k hk8
  obtain ⟨p1, p2, p3, p4, p5, p6, p7⟩ := iP k hk
  have hlen := qLen_le (iP k hk)
  obtain ⟨g4, g4'⟩ := nRg_iff.mp p4
  obtain ⟨g5, g5'⟩ := nRg_iff.mp p5
  refine ⟨Nat.le_of_ble_eq_true rfl, Nat.le_refl _, Or.inr ⟨rfl, bI_01 _⟩, ?_⟩
  by_cases hks : k < qn Q 8
  · obtain ⟨q1, q2, q3, q4, q5, q6, q7, q8⟩ := iS k hks
    obtain ⟨u1, u2, u3, u4⟩ := tr k hk8
    obtain ⟨g6, g6'⟩ := nRg_iff.mp q5
    obtain ⟨g7, g7'⟩ := nRg_iff.mp q6
    have hd : decide (k < qn Q 8) = true := decide_eq_true hks
    refine R1 (g' := (1, _, _, _, _, _)) rfl rfl ?_
    refine R_getf rfl rfl (by omega) (scell _ _ _) rfl ?_
    refine R1 (g' := (5, _, _, _, _, _)) rfl rfl ?_
    rw [show b + 11 = b + 11 from rfl]
    refine R_call2 (Or.inr (Or.inl ⟨rfl, rfl⟩)) rfl rfl ⟨Nat.le_of_ble_eq_true rfl, Nat.le_of_ble_eq_true rfl⟩ (Nat.le_of_ble_eq_true rfl) ⟨(by simp [okL, okS, okV, xarg, xput1, wd, Value.category] <;> omega), (by simp [okL, okS, okV, xarg, xput1, wd, Value.category] <;> omega)⟩ ⟨⟨_, _, _, rfl, (by show _ < 151; omega), tcell _ _ _⟩, e_stHas ht (t0.trans i8)⟩ ?_
    rw [xhas_nI (by omega) (by omega)]
    rw [hd]
    refine R_eq 115 rfl rfl (fun h => by exact absurd h (by decide)) (fun h8 => ?_)
    refine R1 (g' := (12, _, _, _, _, _)) rfl rfl ?_
    refine R_getf rfl rfl (by omega) (scell _ _ _) rfl ?_
    refine R_getf rfl rfl (by omega) (hcell _ _ _) rfl ?_
    refine R1 (g' := (19, _, _, _, _, _)) rfl rfl ?_
    refine R_call2 (Or.inr (Or.inl ⟨rfl, rfl⟩)) rfl rfl ⟨Nat.le_of_ble_eq_true rfl, Nat.le_of_ble_eq_true rfl⟩ (Nat.le_of_ble_eq_true rfl) ⟨(by simp [okL, okS, okV, xarg, xput1, wd, Value.category] <;> omega), (by simp [okL, okS, okV, xarg, xput1, wd, Value.category] <;> omega)⟩ ⟨⟨_, _, _, rfl, (by show _ < 151; omega), hrW.2.1 _ _ _⟩, e_Row_get hrW (by decide) hk8⟩ ?_
    refine R1 (g' := (23, _, _, _, _, _)) rfl rfl ?_
    refine R_getf rfl rfl (by omega) (scell _ _ _) rfl ?_
    refine R_getf rfl rfl (by omega) (tcell _ _ _) rfl ?_
    refine R1 (g' := (30, _, _, _, _, _)) rfl rfl ?_
    refine R_call2 (Or.inr (Or.inl ⟨rfl, rfl⟩)) rfl rfl ⟨Nat.le_of_ble_eq_true rfl, Nat.le_of_ble_eq_true rfl⟩ (Nat.le_of_ble_eq_true rfl) ⟨(by simp [okL, okS, okV, xarg, xput1, wd, Value.category] <;> omega), (by simp [okL, okS, okV, xarg, xput1, wd, Value.category] <;> omega)⟩ ⟨⟨_, _, _, rfl, (by show _ < 151; omega), trW.2.1 _ _ _⟩, e_Row_get trW (by decide) hk8⟩ ?_
    refine R1 (g' := (34, _, _, _, _, _)) rfl rfl ?_
    refine R_getf rfl rfl (by omega) (scell _ _ _) rfl ?_
    refine R_getf rfl rfl (by omega) (tcell _ _ _) rfl ?_
    refine R1 (g' := (41, _, _, _, _, _)) rfl rfl ?_
    refine R_call2 (Or.inr (Or.inl ⟨rfl, rfl⟩)) rfl rfl ⟨Nat.le_of_ble_eq_true rfl, Nat.le_of_ble_eq_true rfl⟩ (Nat.le_of_ble_eq_true rfl) ⟨(by simp [okL, okS, okV, xarg, xput1, wd, Value.category] <;> omega), (by simp [okL, okS, okV, xarg, xput1, wd, Value.category] <;> omega)⟩ ⟨⟨_, _, _, rfl, (by show _ < 151; omega), trO.2.1 _ _ _⟩, e_Row_get trO (by decide) hk8⟩ ?_
    rw [r1, u1, u3, p1, q1, q3]
    refine R_call3 (Or.inl ⟨rfl, rfl⟩) rfl rfl ⟨Nat.le_of_ble_eq_true rfl, Nat.le_of_ble_eq_true rfl⟩ (Nat.le_of_ble_eq_true rfl) ⟨(by simp [okL, okS, okV, xarg, xput1, wd, Value.category] <;> omega), (by simp [okL, okS, okV, xarg, xput1, wd, Value.category] <;> omega)⟩ (e_isNear (by omega) (by omega) (by omega)) ?_
    refine R_eq 115 rfl rfl (fun h47 => ?_) (fun h47 => ?_)
    · refine R1 (g' := (116, _, .int (nI 0) :: _, _, _, _)) rfl rfl ?_
      refine R_iret rfl ?_
      first
        | (have e := bI_e h47; exact ⟨o_i (bI_f (by simp only [qFit, e, Bool.false_and, Bool.and_false])).symm, rfl⟩)
        | (have e := bI_e h86; exact ⟨o_i (bI_f (by simp only [qFit, e, Bool.false_and, Bool.and_false])).symm, rfl⟩)
        | exact ⟨o_i (bI_t (by simp only [qFit, Bool.and_eq_true]; exact ⟨hd, bI_n h47, bI_n h86, decide_eq_true (by omega)⟩)).symm, rfl⟩
        | exact ⟨o_i (bI_f (by simp only [qFit, Bool.and_eq_false_iff, decide_eq_false_iff_not]; omega)).symm, rfl⟩
    · refine R1 (g' := (51, _, _, _, _, _)) rfl rfl ?_
      refine R_getf rfl rfl (by omega) (scell _ _ _) rfl ?_
      refine R_getf rfl rfl (by omega) (hcell _ _ _) rfl ?_
      refine R1 (g' := (58, _, _, _, _, _)) rfl rfl ?_
      refine R_call2 (Or.inr (Or.inl ⟨rfl, rfl⟩)) rfl rfl ⟨Nat.le_of_ble_eq_true rfl, Nat.le_of_ble_eq_true rfl⟩ (Nat.le_of_ble_eq_true rfl) ⟨(by simp [okL, okS, okV, xarg, xput1, wd, Value.category] <;> omega), (by simp [okL, okS, okV, xarg, xput1, wd, Value.category] <;> omega)⟩ ⟨⟨_, _, _, rfl, (by show _ < 151; omega), hrH.2.1 _ _ _⟩, e_Row_get hrH (by decide) hk8⟩ ?_
      refine R1 (g' := (62, _, _, _, _, _)) rfl rfl ?_
      refine R_getf rfl rfl (by omega) (scell _ _ _) rfl ?_
      refine R_getf rfl rfl (by omega) (tcell _ _ _) rfl ?_
      refine R1 (g' := (69, _, _, _, _, _)) rfl rfl ?_
      refine R_call2 (Or.inr (Or.inl ⟨rfl, rfl⟩)) rfl rfl ⟨Nat.le_of_ble_eq_true rfl, Nat.le_of_ble_eq_true rfl⟩ (Nat.le_of_ble_eq_true rfl) ⟨(by simp [okL, okS, okV, xarg, xput1, wd, Value.category] <;> omega), (by simp [okL, okS, okV, xarg, xput1, wd, Value.category] <;> omega)⟩ ⟨⟨_, _, _, rfl, (by show _ < 151; omega), trH.2.1 _ _ _⟩, e_Row_get trH (by decide) hk8⟩ ?_
      refine R1 (g' := (73, _, _, _, _, _)) rfl rfl ?_
      refine R_getf rfl rfl (by omega) (scell _ _ _) rfl ?_
      refine R_getf rfl rfl (by omega) (tcell _ _ _) rfl ?_
      refine R1 (g' := (80, _, _, _, _, _)) rfl rfl ?_
      refine R_call2 (Or.inr (Or.inl ⟨rfl, rfl⟩)) rfl rfl ⟨Nat.le_of_ble_eq_true rfl, Nat.le_of_ble_eq_true rfl⟩ (Nat.le_of_ble_eq_true rfl) ⟨(by simp [okL, okS, okV, xarg, xput1, wd, Value.category] <;> omega), (by simp [okL, okS, okV, xarg, xput1, wd, Value.category] <;> omega)⟩ ⟨⟨_, _, _, rfl, (by show _ < 151; omega), trO.2.1 _ _ _⟩, e_Row_get trO (by decide) hk8⟩ ?_
      rw [r2, u2, u3, p2, q2, q3]
      refine R_call3 (Or.inl ⟨rfl, rfl⟩) rfl rfl ⟨Nat.le_of_ble_eq_true rfl, Nat.le_of_ble_eq_true rfl⟩ (Nat.le_of_ble_eq_true rfl) ⟨(by simp [okL, okS, okV, xarg, xput1, wd, Value.category] <;> omega), (by simp [okL, okS, okV, xarg, xput1, wd, Value.category] <;> omega)⟩ (e_isNear (by omega) (by omega) (by omega)) ?_
      refine R_eq 115 rfl rfl (fun h86 => ?_) (fun h86 => ?_)
      · refine R1 (g' := (116, _, .int (nI 0) :: _, _, _, _)) rfl rfl ?_
        refine R_iret rfl ?_
        first
          | (have e := bI_e h47; exact ⟨o_i (bI_f (by simp only [qFit, e, Bool.false_and, Bool.and_false])).symm, rfl⟩)
          | (have e := bI_e h86; exact ⟨o_i (bI_f (by simp only [qFit, e, Bool.false_and, Bool.and_false])).symm, rfl⟩)
          | exact ⟨o_i (bI_t (by simp only [qFit, Bool.and_eq_true]; exact ⟨hd, bI_n h47, bI_n h86, decide_eq_true (by omega)⟩)).symm, rfl⟩
          | exact ⟨o_i (bI_f (by simp only [qFit, Bool.and_eq_false_iff, decide_eq_false_iff_not]; omega)).symm, rfl⟩
      · refine R1 (g' := (90, _, _, _, _, _)) rfl rfl ?_
        refine R_getf rfl rfl (by omega) (scell _ _ _) rfl ?_
        refine R1 (g' := (94, _, _, _, _, _)) rfl rfl ?_
        refine R_call2 (Or.inr (Or.inl ⟨rfl, rfl⟩)) rfl rfl ⟨Nat.le_of_ble_eq_true rfl, Nat.le_of_ble_eq_true rfl⟩ (Nat.le_of_ble_eq_true rfl) ⟨(by simp [okL, okS, okV, xarg, xput1, wd, Value.category] <;> omega), (by simp [okL, okS, okV, xarg, xput1, wd, Value.category] <;> omega)⟩ ⟨⟨_, _, _, rfl, (by show _ < 151; omega), hcell _ _ _⟩, e_lengthOf hp hk8 (r1.trans p1) (r2.trans p2) (r3.trans p3) p4 p5 (by omega)⟩ ?_
        refine R1 (g' := (98, _, _, _, _, _)) rfl rfl ?_
        refine R_getf rfl rfl (by omega) (scell _ _ _) rfl ?_
        refine R_getf rfl rfl (by omega) (tcell _ _ _) rfl ?_
        refine R1 (g' := (105, _, _, _, _, _)) rfl rfl ?_
        refine R_call2 (Or.inr (Or.inl ⟨rfl, rfl⟩)) rfl rfl ⟨Nat.le_of_ble_eq_true rfl, Nat.le_of_ble_eq_true rfl⟩ (Nat.le_of_ble_eq_true rfl) ⟨(by simp [okL, okS, okV, xarg, xput1, wd, Value.category] <;> omega), (by simp [okL, okS, okV, xarg, xput1, wd, Value.category] <;> omega)⟩ ⟨⟨_, _, _, rfl, (by show _ < 151; omega), trL.2.1 _ _ _⟩, e_Row_get trL (by decide) hk8⟩ ?_
        refine R_cltN 115 (qLen Q k) (qn Q (44 + 4 * k)) rfl rfl (rfl) (u4.trans q4) (by omega) (by omega) (fun h108 => ?_) (fun h108 => ?_)
        · refine R1 (g' := (116, _, .int (nI 0) :: _, _, _, _)) rfl rfl ?_
          refine R_iret rfl ?_
          first
            | (have e := bI_e h47; exact ⟨o_i (bI_f (by simp only [qFit, e, Bool.false_and, Bool.and_false])).symm, rfl⟩)
            | (have e := bI_e h86; exact ⟨o_i (bI_f (by simp only [qFit, e, Bool.false_and, Bool.and_false])).symm, rfl⟩)
            | exact ⟨o_i (bI_t (by simp only [qFit, Bool.and_eq_true]; exact ⟨hd, bI_n h47, bI_n h86, decide_eq_true (by omega)⟩)).symm, rfl⟩
            | exact ⟨o_i (bI_f (by simp only [qFit, Bool.and_eq_false_iff, decide_eq_false_iff_not]; omega)).symm, rfl⟩
        · refine R1 (g' := (112, _, .int (nI 1) :: _, _, _, _)) rfl rfl ?_
          refine R1 (g' := (116, _, _, _, _, _)) rfl rfl ?_
          refine R_iret rfl ?_
          first
            | (have e := bI_e h47; exact ⟨o_i (bI_f (by simp only [qFit, e, Bool.false_and, Bool.and_false])).symm, rfl⟩)
            | (have e := bI_e h86; exact ⟨o_i (bI_f (by simp only [qFit, e, Bool.false_and, Bool.and_false])).symm, rfl⟩)
            | exact ⟨o_i (bI_t (by simp only [qFit, Bool.and_eq_true]; exact ⟨hd, bI_n h47, bI_n h86, decide_eq_true (by omega)⟩)).symm, rfl⟩
            | exact ⟨o_i (bI_f (by simp only [qFit, Bool.and_eq_false_iff, decide_eq_false_iff_not]; omega)).symm, rfl⟩
  · have hd : decide (k < qn Q 8) = false := decide_eq_false hks
    refine R1 (g' := (1, _, _, _, _, _)) rfl rfl ?_
    refine R_getf rfl rfl (by omega) (scell _ _ _) rfl ?_
    refine R1 (g' := (5, _, _, _, _, _)) rfl rfl ?_
    rw [show b + 11 = b + 11 from rfl]
    refine R_call2 (Or.inr (Or.inl ⟨rfl, rfl⟩)) rfl rfl ⟨Nat.le_of_ble_eq_true rfl, Nat.le_of_ble_eq_true rfl⟩ (Nat.le_of_ble_eq_true rfl) ⟨(by simp [okL, okS, okV, xarg, xput1, wd, Value.category] <;> omega), (by simp [okL, okS, okV, xarg, xput1, wd, Value.category] <;> omega)⟩ ⟨⟨_, _, _, rfl, (by show _ < 151; omega), tcell _ _ _⟩, e_stHas ht (t0.trans i8)⟩ ?_
    rw [xhas_nI (by omega) (by omega)]
    rw [hd]
    refine R_eq 115 rfl rfl (fun h8 => ?_) (fun h => by exact absurd rfl h)
    refine R1 (g' := (116, _, .int (nI 0) :: _, _, _, _)) rfl rfl ?_
    refine R_iret rfl ?_
    exact ⟨o_i (bI_f (by simp only [qFit, hd, Bool.false_and])).symm, rfl⟩
theorem qAll_stop {f : Nat → Bool} {k : Nat} (h : f k = false) : ∀ {n : Nat}, k < n → qAll f n = false
  | 0, hk => absurd hk (Nat.not_lt_zero _)
  | n + 1, hk => by
    show (qAll f n && f n) = false
    rcases Nat.lt_or_ge k n with h1 | h1
    · rw [qAll_stop h h1]; rfl
    · have : k = n := by omega
      subst this
      rw [h, Bool.and_false]
theorem right_loop {s : xs} {b : Nat} {Q : Nat → Int32} (hb : xsta b) (hr : pRel s b Q) (hi : pInv Q) (he : qn Q 7 = qn Q 8) (h0 : 0 < qn Q 8) : ∀ (d k : Nat), k + d = qn Q 8 → qAll (qFit Q) k = true → xRun M_X5_isRight (fun o1 w1 => o1 = .inl (some (.int (bI (qRight Q)))) ∧ w1 = wd s) (31, [(1, .int (nI k)), (0, .ref b)], [], wd s, 0, 0) := by
  have hr0 := hr
  have hi0 := hi
  obtain ⟨s152, scell, hp, ht⟩ := id hb
  obtain ⟨⟨⟨b0, b1, b2, b3, b4, b5, b6, b7⟩, br⟩, t0, tr⟩ := hr
  obtain ⟨h152, hcell, hrW, hrH, hrV, hrB, hsc⟩ := id hp
  obtain ⟨t152, tcell, trW, trH, trO, trL⟩ := id ht
  obtain ⟨⟨i7, i7a, i7b⟩, ⟨i8, i8a⟩, ⟨i0, i0a, i0b⟩, ⟨i1, i1a⟩, iP, iS, i6⟩ := hi
  intro d
  induction d with
  | zero =>
    intro k hk hq
    have hk : k = qn Q 8 := by omega
    refine R1 (g' := (32, _, _, _, _, _)) rfl rfl ?_
    refine R1 (g' := (33, _, _, _, _, _)) rfl rfl ?_
    refine R_getf rfl rfl (by omega) (scell _ _ _) rfl ?_
    refine R_getf rfl rfl (by omega) (tcell _ _ _) rfl ?_
    refine R_cgeN 58 (k) (qn Q 8) rfl rfl (rfl) (t0.trans i8) (by omega) (by omega) (fun h39 => ?_) (fun h => by omega)
    refine R1 (g' := (59, _, .int (nI 1) :: _, _, _, _)) rfl rfl ?_
    refine R_iret rfl ?_
    exact ⟨o_i (bI_t (by simp only [qRight, Bool.and_eq_true, decide_eq_true_eq]; exact ⟨h0, he, by rw [← hk]; exact hq⟩)).symm, rfl⟩
  | succ d ih =>
    intro k hk hq
    refine R1 (g' := (32, _, _, _, _, _)) rfl rfl ?_
    refine R1 (g' := (33, _, _, _, _, _)) rfl rfl ?_
    refine R_getf rfl rfl (by omega) (scell _ _ _) rfl ?_
    refine R_getf rfl rfl (by omega) (tcell _ _ _) rfl ?_
    refine R_cgeN 58 (k) (qn Q 8) rfl rfl (rfl) (t0.trans i8) (by omega) (by omega) (fun h => by omega) (fun h39 => ?_)
    refine R1 (g' := (43, _, _, _, _, _)) rfl rfl ?_
    refine R1 (g' := (44, _, _, _, _, _)) rfl rfl ?_
    refine R_call2 (Or.inr (Or.inl ⟨rfl, rfl⟩)) rfl rfl ⟨Nat.le_of_ble_eq_true rfl, Nat.le_of_ble_eq_true rfl⟩ (Nat.le_of_ble_eq_true rfl) ⟨(by simp [okL, okS, okV, xarg, xput1, wd, Value.category] <;> omega), (by simp [okL, okS, okV, xarg, xput1, wd, Value.category] <;> omega)⟩ ⟨⟨_, _, _, rfl, (by show _ < 151; omega), scell _ _ _⟩, e_meetsStep hb hr0 hi0 (by omega)⟩ ?_
    refine R_ne 52 rfl rfl (fun h47 => ?_) (fun h47 => ?_)
    · refine R1 (g' := (55, _, _, _, _, _)) rfl rfl ?_
      refine R1 (g' := (31, _, _, _, _, _)) rfl rfl ?_
      refine R_lv [(1, .int (nI (k + 1))), (0, .ref b)] rfl (List.forall_mem_cons.mpr ⟨by rw [nI_succ k]; rfl, List.forall_mem_cons.mpr ⟨rfl, fun _ h => absurd h List.not_mem_nil⟩⟩) ⟨rfl, rfl⟩ ?_
      exact ih (k + 1) (by omega) (by show (qAll (qFit Q) k && qFit Q k) = true; rw [hq, bI_n h47]; rfl)
    · refine R1 (g' := (51, _, .int (nI 0) :: _, _, _, _)) rfl rfl ?_
      refine R_iret rfl ?_
      exact ⟨o_i (bI_f (by simp only [qRight]; rw [qAll_stop (bI_e h47) (show k < qn Q 8 by omega), Bool.and_false, Bool.and_false])).symm, rfl⟩
theorem e_isRight {s : xs} {b : Nat} {Q : Nat → Int32} (hb : xsta b) (hr : pRel s b Q) (hi : pInv Q) : Ev_X5_isRight [.ref b] (wd s) (.inl (some (.int (bI (qRight Q))))) (wd s) := by
  have hr0 := hr
  have hi0 := hi
  obtain ⟨s152, scell, hp, ht⟩ := id hb
  obtain ⟨⟨⟨b0, b1, b2, b3, b4, b5, b6, b7⟩, br⟩, t0, tr⟩ := hr
  obtain ⟨h152, hcell, hrW, hrH, hrV, hrB, hsc⟩ := id hp
  obtain ⟨t152, tcell, trW, trH, trO, trL⟩ := id ht
  obtain ⟨⟨i7, i7a, i7b⟩, ⟨i8, i8a⟩, ⟨i0, i0a, i0b⟩, ⟨i1, i1a⟩, iP, iS, i6⟩ := hi
  refine ⟨Nat.le_of_ble_eq_true rfl, Nat.le_refl _, Or.inr ⟨rfl, bI_01 _⟩, ?_⟩
  refine R1 (g' := (1, _, _, _, _, _)) rfl rfl ?_
  refine R_getf rfl rfl (by omega) (scell _ _ _) rfl ?_
  refine R_getf rfl rfl (by omega) (tcell _ _ _) rfl ?_
  refine R_eqN 27 (qn Q 8) rfl rfl (t0.trans i8) (by omega) (fun h7 => ?_) (fun h7 => ?_)
  · refine R1 (g' := (28, _, .int (nI 0) :: _, _, _, _)) rfl rfl ?_
    refine R_iret rfl ?_
    first
      | exact ⟨o_i (bI_f (by simp only [qRight]; rw [decide_eq_false (show ¬ 0 < qn Q 8 by omega), Bool.false_and])).symm, rfl⟩
      | exact ⟨o_i (bI_f (by simp only [qRight]; rw [decide_eq_false (show ¬ qn Q 7 = qn Q 8 by omega), Bool.false_and, Bool.and_false])).symm, rfl⟩
  · refine R1 (g' := (11, _, _, _, _, _)) rfl rfl ?_
    refine R_getf rfl rfl (by omega) (scell _ _ _) rfl ?_
    refine R_getf rfl rfl (by omega) (tcell _ _ _) rfl ?_
    refine R1 (g' := (18, _, _, _, _, _)) rfl rfl ?_
    refine R_getf rfl rfl (by omega) (scell _ _ _) rfl ?_
    refine R_getf rfl rfl (by omega) (hcell _ _ _) rfl ?_
    refine R_ceqN 29 (qn Q 8) (qn Q 7) rfl rfl (t0.trans i8) (b0.trans i7) (by omega) (by omega) (fun h24 => ?_) (fun h24 => ?_)
    · refine R1 (g' := (30, _, .int (nI 0) :: _, _, _, _)) rfl rfl ?_
      refine R1 (g' := (31, _, _, _, _, _)) rfl rfl ?_
      exact R_lv [(1, .int (nI 0)), (0, .ref b)] rfl (List.forall_mem_cons.mpr ⟨rfl, List.forall_mem_cons.mpr ⟨rfl, fun _ h => absurd h List.not_mem_nil⟩⟩) ⟨rfl, rfl⟩ (right_loop hb hr0 hi0 (by omega) (by omega) (qn Q 8) 0 (Nat.zero_add _) rfl)
    · refine R1 (g' := (28, _, .int (nI 0) :: _, _, _, _)) rfl rfl ?_
      refine R_iret rfl ?_
      first
        | exact ⟨o_i (bI_f (by simp only [qRight]; rw [decide_eq_false (show ¬ 0 < qn Q 8 by omega), Bool.false_and])).symm, rfl⟩
        | exact ⟨o_i (bI_f (by simp only [qRight]; rw [decide_eq_false (show ¬ qn Q 7 = qn Q 8 by omega), Bool.false_and, Bool.and_false])).symm, rfl⟩
theorem e_ofPart {s : xs} {b k w : Nat} {Q : Nat → Int32} (hb : xsta b) (hr : pRel s b Q) (hi : pInv Q) (hk : k < qn Q 7) (hw : w < 9) : ∃ f, Ev_X5_ofPart [.ref b, .int (nI k), .int (nI w)] (wd s) (.inl (some (.int (qPartOf Q k w)))) (wd (setP s (b + 10) f)) := by
  have hr0 := hr
  have hi0 := hi
  obtain ⟨s152, scell, hp, ht⟩ := id hb
  obtain ⟨⟨⟨b0, b1, b2, b3, b4, b5, b6, b7⟩, br⟩, t0, tr⟩ := hr
  obtain ⟨h152, hcell, hrW, hrH, hrV, hrB, hsc⟩ := id hp
  obtain ⟨t152, tcell, trW, trH, trO, trL⟩ := id ht
  obtain ⟨⟨i7, i7a, i7b⟩, ⟨i8, i8a⟩, ⟨i0, i0a, i0b⟩, ⟨i1, i1a⟩, iP, iS, i6⟩ := hi
  have hk8 : k < 8 := by omega
  obtain ⟨r1, r2, r3, r4⟩ := br k hk8
  obtain ⟨p1, p2, p3, p4, p5, p6, p7⟩ := iP k hk
  have hlen := qLen_le (iP k hk)
  obtain ⟨g4, g4'⟩ := nRg_iff.mp p4
  obtain ⟨g5, g5'⟩ := nRg_iff.mp p5
  rcases (show w = 0 ∨ w = 1 ∨ w = 2 ∨ w = 3 ∨ w = 4 ∨ w = 5 ∨ w = 6 ∨ w = 7 ∨ w = 8 by omega) with rfl | rfl | rfl | rfl | rfl | rfl | rfl | rfl | rfl
  · refine ⟨s.1 (b + 10), Nat.le_of_ble_eq_true rfl, Nat.le_refl _, Or.inl rfl, ?_⟩
    rw [setP_self]
    refine R1 (g' := (1, _, _, _, _, _)) rfl rfl ?_
    refine R_tsw 47 48 rfl (by decide) (by decide) rfl rfl ?_
    refine R1 (g' := (49, _, _, _, _, _)) rfl rfl ?_
    refine R_getf rfl rfl (by omega) (scell _ _ _) rfl ?_
    refine R_getf rfl rfl (by omega) (hcell _ _ _) rfl ?_
    refine R1 (g' := (56, _, _, _, _, _)) rfl rfl ?_
    refine R_call2 (Or.inr (Or.inl ⟨rfl, rfl⟩)) rfl rfl ⟨Nat.le_of_ble_eq_true rfl, Nat.le_of_ble_eq_true rfl⟩ (Nat.le_of_ble_eq_true rfl) ⟨(by simp [okL, okS, okV, xarg, xput1, wd, Value.category] <;> omega), (by simp [okL, okS, okV, xarg, xput1, wd, Value.category] <;> omega)⟩ ⟨⟨_, _, _, rfl, (by show _ < 151; omega), hrW.2.1 _ _ _⟩, e_Row_get hrW (by decide) hk8⟩ ?_
    refine R_iret rfl ?_
    exact ⟨o_i r1, rfl⟩
  · refine ⟨s.1 (b + 10), Nat.le_of_ble_eq_true rfl, Nat.le_refl _, Or.inl rfl, ?_⟩
    rw [setP_self]
    refine R1 (g' := (1, _, _, _, _, _)) rfl rfl ?_
    refine R_tsw 59 60 rfl (by decide) (by decide) rfl rfl ?_
    refine R1 (g' := (61, _, _, _, _, _)) rfl rfl ?_
    refine R_getf rfl rfl (by omega) (scell _ _ _) rfl ?_
    refine R_getf rfl rfl (by omega) (hcell _ _ _) rfl ?_
    refine R1 (g' := (68, _, _, _, _, _)) rfl rfl ?_
    refine R_call2 (Or.inr (Or.inl ⟨rfl, rfl⟩)) rfl rfl ⟨Nat.le_of_ble_eq_true rfl, Nat.le_of_ble_eq_true rfl⟩ (Nat.le_of_ble_eq_true rfl) ⟨(by simp [okL, okS, okV, xarg, xput1, wd, Value.category] <;> omega), (by simp [okL, okS, okV, xarg, xput1, wd, Value.category] <;> omega)⟩ ⟨⟨_, _, _, rfl, (by show _ < 151; omega), hrH.2.1 _ _ _⟩, e_Row_get hrH (by decide) hk8⟩ ?_
    refine R_iret rfl ?_
    exact ⟨o_i r2, rfl⟩
  · refine ⟨s.1 (b + 10), Nat.le_of_ble_eq_true rfl, Nat.le_refl _, Or.inl rfl, ?_⟩
    rw [setP_self]
    refine R1 (g' := (1, _, _, _, _, _)) rfl rfl ?_
    refine R_tsw 71 72 rfl (by decide) (by decide) rfl rfl ?_
    refine R1 (g' := (73, _, _, _, _, _)) rfl rfl ?_
    refine R_getf rfl rfl (by omega) (scell _ _ _) rfl ?_
    refine R_getf rfl rfl (by omega) (hcell _ _ _) rfl ?_
    refine R1 (g' := (80, _, _, _, _, _)) rfl rfl ?_
    refine R_call2 (Or.inr (Or.inl ⟨rfl, rfl⟩)) rfl rfl ⟨Nat.le_of_ble_eq_true rfl, Nat.le_of_ble_eq_true rfl⟩ (Nat.le_of_ble_eq_true rfl) ⟨(by simp [okL, okS, okV, xarg, xput1, wd, Value.category] <;> omega), (by simp [okL, okS, okV, xarg, xput1, wd, Value.category] <;> omega)⟩ ⟨⟨_, _, _, rfl, (by show _ < 151; omega), hrV.2.1 _ _ _⟩, e_Row_get hrV (by decide) hk8⟩ ?_
    refine R_iret rfl ?_
    exact ⟨o_i r3, rfl⟩
  · refine ⟨s.1 (b + 10), Nat.le_of_ble_eq_true rfl, Nat.le_refl _, Or.inl rfl, ?_⟩
    rw [setP_self]
    refine R1 (g' := (1, _, _, _, _, _)) rfl rfl ?_
    refine R_tsw 83 84 rfl (by decide) (by decide) rfl rfl ?_
    refine R1 (g' := (85, _, _, _, _, _)) rfl rfl ?_
    refine R_getf rfl rfl (by omega) (scell _ _ _) rfl ?_
    refine R1 (g' := (89, _, _, _, _, _)) rfl rfl ?_
    refine R_call2 (Or.inr (Or.inl ⟨rfl, rfl⟩)) rfl rfl ⟨Nat.le_of_ble_eq_true rfl, Nat.le_of_ble_eq_true rfl⟩ (Nat.le_of_ble_eq_true rfl) ⟨(by simp [okL, okS, okV, xarg, xput1, wd, Value.category] <;> omega), (by simp [okL, okS, okV, xarg, xput1, wd, Value.category] <;> omega)⟩ ⟨⟨_, _, _, rfl, (by show _ < 151; omega), hcell _ _ _⟩, e_lengthOf hp hk8 (r1.trans p1) (r2.trans p2) (r3.trans p3) p4 p5 (by omega)⟩ ?_
    refine R_iret rfl ?_
    exact ⟨rfl, rfl⟩
  · refine ⟨s.1 (b + 10), Nat.le_of_ble_eq_true rfl, Nat.le_refl _, Or.inl rfl, ?_⟩
    rw [setP_self]
    refine R1 (g' := (1, _, _, _, _, _)) rfl rfl ?_
    refine R_tsw 92 93 rfl (by decide) (by decide) rfl rfl ?_
    refine R1 (g' := (94, _, _, _, _, _)) rfl rfl ?_
    refine R_getf rfl rfl (by omega) (scell _ _ _) rfl ?_
    refine R_getf rfl rfl (by omega) (hcell _ _ _) rfl ?_
    refine R1 (g' := (101, _, _, _, _, _)) rfl rfl ?_
    refine R_call2 (Or.inr (Or.inl ⟨rfl, rfl⟩)) rfl rfl ⟨Nat.le_of_ble_eq_true rfl, Nat.le_of_ble_eq_true rfl⟩ (Nat.le_of_ble_eq_true rfl) ⟨(by simp [okL, okS, okV, xarg, xput1, wd, Value.category] <;> omega), (by simp [okL, okS, okV, xarg, xput1, wd, Value.category] <;> omega)⟩ ⟨⟨_, _, _, rfl, (by show _ < 151; omega), hrB.2.1 _ _ _⟩, e_Row_get hrB (by decide) hk8⟩ ?_
    refine R_iret rfl ?_
    exact ⟨o_i r4, rfl⟩
  · refine ⟨secF (s.1 (b + 10)) (nI (qn Q (9 + 4 * k))) (nI (qn Q (10 + 4 * k))), Nat.le_of_ble_eq_true rfl, Nat.le_refl _, Or.inl rfl, ?_⟩
    refine R1 (g' := (1, _, _, _, _, _)) rfl rfl ?_
    refine R_tsw 104 105 rfl (by decide) (by decide) rfl rfl ?_
    refine R1 (g' := (106, _, _, _, _, _)) rfl rfl ?_
    refine R_getf rfl rfl (by omega) (scell _ _ _) rfl ?_
    refine R1 (g' := (110, _, _, _, _, _)) rfl rfl ?_
    refine R1 (g' := (111, _, .int (nI 0) :: _, _, _, _)) rfl rfl ?_
    refine R_call3 (Or.inr (Or.inl ⟨rfl, rfl⟩)) rfl rfl ⟨Nat.le_of_ble_eq_true rfl, Nat.le_of_ble_eq_true rfl⟩ (Nat.le_of_ble_eq_true rfl) ⟨(by simp [okL, okS, okV, xarg, xput1, wd, Value.category] <;> omega), (by simp [okL, okS, okV, xarg, xput1, wd, Value.category] <;> omega)⟩ ⟨⟨_, _, _, rfl, (by show _ < 151; omega), hcell _ _ _⟩, e_barAllows hp hk8 (r1.trans p1) (r2.trans p2) (r3.trans p3) p4 p5 (by omega) (by decide)⟩ ?_
    refine R_eq 121 rfl rfl (fun h114 => ?_) (fun h114 => ?_)
    · refine R1 (g' := (122, _, .int (nI 0) :: _, _, _, _)) rfl rfl ?_
      refine R_iret rfl ?_
      exact ⟨o_i (by first | exact (bI_t (bI_n h114)).symm | exact (bI_f (bI_e h114)).symm), rfl⟩
    · refine R1 (g' := (118, _, .int (nI 1) :: _, _, _, _)) rfl rfl ?_
      refine R1 (g' := (122, _, _, _, _, _)) rfl rfl ?_
      refine R_iret rfl ?_
      exact ⟨o_i (by first | exact (bI_t (bI_n h114)).symm | exact (bI_f (bI_e h114)).symm), rfl⟩
  · refine ⟨secF (s.1 (b + 10)) (nI (qn Q (9 + 4 * k))) (nI (qn Q (10 + 4 * k))), Nat.le_of_ble_eq_true rfl, Nat.le_refl _, Or.inl rfl, ?_⟩
    refine R1 (g' := (1, _, _, _, _, _)) rfl rfl ?_
    refine R_tsw 122 123 rfl (by decide) (by decide) rfl rfl ?_
    refine R1 (g' := (124, _, _, _, _, _)) rfl rfl ?_
    refine R_getf rfl rfl (by omega) (scell _ _ _) rfl ?_
    refine R1 (g' := (128, _, _, _, _, _)) rfl rfl ?_
    refine R1 (g' := (129, _, .int (nI 1) :: _, _, _, _)) rfl rfl ?_
    refine R_call3 (Or.inr (Or.inl ⟨rfl, rfl⟩)) rfl rfl ⟨Nat.le_of_ble_eq_true rfl, Nat.le_of_ble_eq_true rfl⟩ (Nat.le_of_ble_eq_true rfl) ⟨(by simp [okL, okS, okV, xarg, xput1, wd, Value.category] <;> omega), (by simp [okL, okS, okV, xarg, xput1, wd, Value.category] <;> omega)⟩ ⟨⟨_, _, _, rfl, (by show _ < 151; omega), hcell _ _ _⟩, e_barAllows hp hk8 (r1.trans p1) (r2.trans p2) (r3.trans p3) p4 p5 (by omega) (by decide)⟩ ?_
    refine R_eq 139 rfl rfl (fun h132 => ?_) (fun h132 => ?_)
    · refine R1 (g' := (140, _, .int (nI 0) :: _, _, _, _)) rfl rfl ?_
      refine R_iret rfl ?_
      exact ⟨o_i (by first | exact (bI_t (bI_n h132)).symm | exact (bI_f (bI_e h132)).symm), rfl⟩
    · refine R1 (g' := (136, _, .int (nI 1) :: _, _, _, _)) rfl rfl ?_
      refine R1 (g' := (140, _, _, _, _, _)) rfl rfl ?_
      refine R_iret rfl ?_
      exact ⟨o_i (by first | exact (bI_t (bI_n h132)).symm | exact (bI_f (bI_e h132)).symm), rfl⟩
  · refine ⟨secF (s.1 (b + 10)) (nI (qn Q (9 + 4 * k))) (nI (qn Q (10 + 4 * k))), Nat.le_of_ble_eq_true rfl, Nat.le_refl _, Or.inl rfl, ?_⟩
    refine R1 (g' := (1, _, _, _, _, _)) rfl rfl ?_
    refine R_tsw 140 141 rfl (by decide) (by decide) rfl rfl ?_
    refine R1 (g' := (142, _, _, _, _, _)) rfl rfl ?_
    refine R_getf rfl rfl (by omega) (scell _ _ _) rfl ?_
    refine R1 (g' := (146, _, _, _, _, _)) rfl rfl ?_
    refine R1 (g' := (147, _, .int (nI 2) :: _, _, _, _)) rfl rfl ?_
    refine R_call3 (Or.inr (Or.inl ⟨rfl, rfl⟩)) rfl rfl ⟨Nat.le_of_ble_eq_true rfl, Nat.le_of_ble_eq_true rfl⟩ (Nat.le_of_ble_eq_true rfl) ⟨(by simp [okL, okS, okV, xarg, xput1, wd, Value.category] <;> omega), (by simp [okL, okS, okV, xarg, xput1, wd, Value.category] <;> omega)⟩ ⟨⟨_, _, _, rfl, (by show _ < 151; omega), hcell _ _ _⟩, e_barAllows hp hk8 (r1.trans p1) (r2.trans p2) (r3.trans p3) p4 p5 (by omega) (by decide)⟩ ?_
    refine R_eq 157 rfl rfl (fun h150 => ?_) (fun h150 => ?_)
    · refine R1 (g' := (158, _, .int (nI 0) :: _, _, _, _)) rfl rfl ?_
      refine R_iret rfl ?_
      exact ⟨o_i (by first | exact (bI_t (bI_n h150)).symm | exact (bI_f (bI_e h150)).symm), rfl⟩
    · refine R1 (g' := (154, _, .int (nI 1) :: _, _, _, _)) rfl rfl ?_
      refine R1 (g' := (158, _, _, _, _, _)) rfl rfl ?_
      refine R_iret rfl ?_
      exact ⟨o_i (by first | exact (bI_t (bI_n h150)).symm | exact (bI_f (bI_e h150)).symm), rfl⟩
  · refine ⟨s.1 (b + 10), Nat.le_of_ble_eq_true rfl, Nat.le_refl _, Or.inl rfl, ?_⟩
    rw [setP_self]
    refine R1 (g' := (1, _, _, _, _, _)) rfl rfl ?_
    refine R_tswO 159 rfl (Or.inr (by decide)) rfl ?_
    refine R1 (g' := (160, _, _, _, _, _)) rfl rfl ?_
    refine R1 (g' := (161, _, _, _, _, _)) rfl rfl ?_
    refine R_call2 (Or.inr (Or.inl ⟨rfl, rfl⟩)) rfl rfl ⟨Nat.le_of_ble_eq_true rfl, Nat.le_of_ble_eq_true rfl⟩ (Nat.le_of_ble_eq_true rfl) ⟨(by simp [okL, okS, okV, xarg, xput1, wd, Value.category] <;> omega), (by simp [okL, okS, okV, xarg, xput1, wd, Value.category] <;> omega)⟩ ⟨⟨_, _, _, rfl, (by show _ < 151; omega), scell _ _ _⟩, e_meetsStep hb hr0 hi0 hk⟩ ?_
    refine R_eq 171 rfl rfl (fun h164 => ?_) (fun h164 => ?_)
    · refine R1 (g' := (172, _, .int (nI 0) :: _, _, _, _)) rfl rfl ?_
      refine R_iret rfl ?_
      exact ⟨o_i (by first | exact (bI_t (bI_n h164)).symm | exact (bI_f (bI_e h164)).symm), rfl⟩
    · refine R1 (g' := (168, _, .int (nI 1) :: _, _, _, _)) rfl rfl ?_
      refine R1 (g' := (172, _, _, _, _, _)) rfl rfl ?_
      refine R_iret rfl ?_
      exact ⟨o_i (by first | exact (bI_t (bI_n h164)).symm | exact (bI_f (bI_e h164)).symm), rfl⟩
theorem e_ofWhole {s : xs} {b w : Nat} {Q : Nat → Int32} (hb : xsta b) (hr : pRel s b Q) (hi : pInv Q) (hw : w < 12) : Ev_X5_ofWhole [.ref b, .int (nI w)] (wd s) (.inl (some (.int (qOf Q w)))) (wd s) := by
  have hr0 := hr
  have hi0 := hi
  obtain ⟨s152, scell, hp, ht⟩ := id hb
  obtain ⟨⟨⟨b0, b1, b2, b3, b4, b5, b6, b7⟩, br⟩, t0, tr⟩ := hr
  obtain ⟨h152, hcell, hrW, hrH, hrV, hrB, hsc⟩ := id hp
  obtain ⟨t152, tcell, trW, trH, trO, trL⟩ := id ht
  obtain ⟨⟨i7, i7a, i7b⟩, ⟨i8, i8a⟩, ⟨i0, i0a, i0b⟩, ⟨i1, i1a⟩, iP, iS, i6⟩ := hi
  have hq : ∀ k, k < qn Q 7 → s.1 (b + 1 + 2) k = nI (qn (s.1 (b + 1 + 2)) k) ∧ s.1 (b + 1 + 4) k = nI (qn (s.1 (b + 1 + 4)) k) ∧ s.1 (b + 1 + 6) k = nI (qn (s.1 (b + 1 + 6)) k) ∧ nRg (qn (s.1 (b + 1 + 2)) k) = true ∧ nRg (qn (s.1 (b + 1 + 4)) k) = true ∧ qn (s.1 (b + 1 + 6)) k < 2 ^ 31 := by
    intro k hk
    obtain ⟨r1, r2, r3, r4⟩ := br k (by omega)
    obtain ⟨p1, p2, p3, p4, p5, p6, p7⟩ := iP k hk
    unfold qn at *
    rw [r1, r2, r3]
    exact ⟨p1, p2, p3, p4, p5, by omega⟩
  have hsv : csum (fun k => s.1 (b + 1 + 6) k) (qn Q 7) = csum (fun k => Q (11 + 4 * k)) (qn Q 7) := csum_congr fun k hk => (br k (by omega)).2.2.1
  have hsl : csum (fun k => nI (nLn (qn (s.1 (b + 1 + 6)) k) (qn (s.1 (b + 1 + 2)) k) (qn (s.1 (b + 1 + 4)) k))) (qn Q 7) = csum (fun k => nI (qLen Q k)) (qn Q 7) := csum_congr fun k hk => by
    obtain ⟨r1, r2, r3, r4⟩ := br k (by omega)
    unfold qLen qn
    rw [r1, r2, r3]
  refine ⟨Nat.le_of_ble_eq_true rfl, Nat.le_refl _, Or.inl rfl, ?_⟩
  rcases (show w = 0 ∨ w = 1 ∨ w = 2 ∨ w = 3 ∨ w = 4 ∨ w = 5 ∨ w = 6 ∨ w = 7 ∨ w = 8 ∨ w = 9 ∨ w = 10 ∨ w = 11 by omega) with rfl | rfl | rfl | rfl | rfl | rfl | rfl | rfl | rfl | rfl | rfl | rfl
  · refine R1 (g' := (1, _, _, _, _, _)) rfl rfl ?_
    refine R_tsw 59 60 rfl (by decide) (by decide) rfl rfl ?_
    refine R1 (g' := (61, _, _, _, _, _)) rfl rfl ?_
    refine R_getf rfl rfl (by omega) (scell _ _ _) rfl ?_
    refine R_getf rfl rfl (by omega) (hcell _ _ _) rfl ?_
    refine R_iret rfl ?_
    exact ⟨o_i b0, rfl⟩
  · refine R1 (g' := (1, _, _, _, _, _)) rfl rfl ?_
    refine R_tsw 67 68 rfl (by decide) (by decide) rfl rfl ?_
    refine R1 (g' := (69, _, _, _, _, _)) rfl rfl ?_
    refine R_getf rfl rfl (by omega) (scell _ _ _) rfl ?_
    refine R_getf rfl rfl (by omega) (hcell _ _ _) rfl ?_
    refine R_iret rfl ?_
    exact ⟨o_i b1, rfl⟩
  · refine R1 (g' := (1, _, _, _, _, _)) rfl rfl ?_
    refine R_tsw 75 76 rfl (by decide) (by decide) rfl rfl ?_
    refine R1 (g' := (77, _, _, _, _, _)) rfl rfl ?_
    refine R_getf rfl rfl (by omega) (scell _ _ _) rfl ?_
    refine R_getf rfl rfl (by omega) (hcell _ _ _) rfl ?_
    refine R_iret rfl ?_
    exact ⟨o_i b2, rfl⟩
  · refine R1 (g' := (1, _, _, _, _, _)) rfl rfl ?_
    refine R_tsw 83 84 rfl (by decide) (by decide) rfl rfl ?_
    refine R1 (g' := (85, _, _, _, _, _)) rfl rfl ?_
    refine R_getf rfl rfl (by omega) (scell _ _ _) rfl ?_
    refine R_getf rfl rfl (by omega) (hcell _ _ _) rfl ?_
    refine R_iret rfl ?_
    exact ⟨o_i b3, rfl⟩
  · refine R1 (g' := (1, _, _, _, _, _)) rfl rfl ?_
    refine R_tsw 91 92 rfl (by decide) (by decide) rfl rfl ?_
    refine R1 (g' := (93, _, _, _, _, _)) rfl rfl ?_
    refine R_getf rfl rfl (by omega) (scell _ _ _) rfl ?_
    refine R_getf rfl rfl (by omega) (hcell _ _ _) rfl ?_
    refine R_iret rfl ?_
    exact ⟨o_i b4, rfl⟩
  · refine R1 (g' := (1, _, _, _, _, _)) rfl rfl ?_
    refine R_tsw 99 100 rfl (by decide) (by decide) rfl rfl ?_
    refine R1 (g' := (101, _, _, _, _, _)) rfl rfl ?_
    refine R_getf rfl rfl (by omega) (scell _ _ _) rfl ?_
    refine R_call1 (Or.inr (Or.inl ⟨rfl, rfl⟩)) rfl rfl ⟨Nat.le_of_ble_eq_true rfl, Nat.le_of_ble_eq_true rfl⟩ (Nat.le_of_ble_eq_true rfl) ⟨(by simp [okL, okS, okV, xarg, xput1, wd, Value.category] <;> omega), (by simp [okL, okS, okV, xarg, xput1, wd, Value.category] <;> omega)⟩ ⟨⟨_, _, _, rfl, (by show _ < 151; omega), hcell _ _ _⟩, e_volumeOfAll hp (b0.trans i7) i7b⟩ ?_
    refine R_iret rfl ?_
    exact ⟨o_i hsv, rfl⟩
  · refine R1 (g' := (1, _, _, _, _, _)) rfl rfl ?_
    refine R_tsw 107 108 rfl (by decide) (by decide) rfl rfl ?_
    refine R1 (g' := (109, _, _, _, _, _)) rfl rfl ?_
    refine R_getf rfl rfl (by omega) (scell _ _ _) rfl ?_
    refine R_getf rfl rfl (by omega) (hcell _ _ _) rfl ?_
    refine R_iret rfl ?_
    exact ⟨o_i b5, rfl⟩
  · refine R1 (g' := (1, _, _, _, _, _)) rfl rfl ?_
    refine R_tsw 115 116 rfl (by decide) (by decide) rfl rfl ?_
    refine R1 (g' := (117, _, _, _, _, _)) rfl rfl ?_
    refine R_getf rfl rfl (by omega) (scell _ _ _) rfl ?_
    refine R_getf rfl rfl (by omega) (hcell _ _ _) rfl ?_
    refine R_iret rfl ?_
    exact ⟨o_i b6, rfl⟩
  · refine R1 (g' := (1, _, _, _, _, _)) rfl rfl ?_
    refine R_tsw 123 124 rfl (by decide) (by decide) rfl rfl ?_
    refine R1 (g' := (125, _, _, _, _, _)) rfl rfl ?_
    refine R_getf rfl rfl (by omega) (scell _ _ _) rfl ?_
    refine R_call1 (Or.inr (Or.inl ⟨rfl, rfl⟩)) rfl rfl ⟨Nat.le_of_ble_eq_true rfl, Nat.le_of_ble_eq_true rfl⟩ (Nat.le_of_ble_eq_true rfl) ⟨(by simp [okL, okS, okV, xarg, xput1, wd, Value.category] <;> omega), (by simp [okL, okS, okV, xarg, xput1, wd, Value.category] <;> omega)⟩ ⟨⟨_, _, _, rfl, (by show _ < 151; omega), hcell _ _ _⟩, e_lengthOfAll hp (b0.trans i7) i7b hq⟩ ?_
    refine R_iret rfl ?_
    exact ⟨o_i hsl, rfl⟩
  · refine R1 (g' := (1, _, _, _, _, _)) rfl rfl ?_
    refine R_tsw 131 132 rfl (by decide) (by decide) rfl rfl ?_
    refine R1 (g' := (133, _, _, _, _, _)) rfl rfl ?_
    refine R_getf rfl rfl (by omega) (scell _ _ _) rfl ?_
    refine R_getf rfl rfl (by omega) (tcell _ _ _) rfl ?_
    refine R_iret rfl ?_
    exact ⟨o_i t0, rfl⟩
  · refine R1 (g' := (1, _, _, _, _, _)) rfl rfl ?_
    refine R_tsw 139 140 rfl (by decide) (by decide) rfl rfl ?_
    refine R1 (g' := (141, _, _, _, _, _)) rfl rfl ?_
    refine R_call1 (Or.inr (Or.inl ⟨rfl, rfl⟩)) rfl rfl ⟨Nat.le_of_ble_eq_true rfl, Nat.le_of_ble_eq_true rfl⟩ (Nat.le_of_ble_eq_true rfl) ⟨(by simp [okL, okS, okV, xarg, xput1, wd, Value.category] <;> omega), (by simp [okL, okS, okV, xarg, xput1, wd, Value.category] <;> omega)⟩ ⟨⟨_, _, _, rfl, (by show _ < 151; omega), scell _ _ _⟩, e_isRight hb hr0 hi0⟩ ?_
    refine R_eq 151 rfl rfl (fun h144 => ?_) (fun h144 => ?_)
    · refine R1 (g' := (152, _, .int (nI 0) :: _, _, _, _)) rfl rfl ?_
      refine R_iret rfl ?_
      exact ⟨o_i (by first | exact (bI_t (bI_n h144)).symm | exact (bI_f (bI_e h144)).symm), rfl⟩
    · refine R1 (g' := (148, _, .int (nI 1) :: _, _, _, _)) rfl rfl ?_
      refine R1 (g' := (152, _, _, _, _, _)) rfl rfl ?_
      refine R_iret rfl ?_
      exact ⟨o_i (by first | exact (bI_t (bI_n h144)).symm | exact (bI_f (bI_e h144)).symm), rfl⟩
  · refine R1 (g' := (1, _, _, _, _, _)) rfl rfl ?_
    refine R_tswO 153 rfl (Or.inr (by decide)) rfl ?_
    refine R1 (g' := (154, _, _, _, _, _)) rfl rfl ?_
    refine R_getf rfl rfl (by omega) (scell _ _ _) rfl ?_
    refine R_call1 (Or.inr (Or.inl ⟨rfl, rfl⟩)) rfl rfl ⟨Nat.le_of_ble_eq_true rfl, Nat.le_of_ble_eq_true rfl⟩ (Nat.le_of_ble_eq_true rfl) ⟨(by simp [okL, okS, okV, xarg, xput1, wd, Value.category] <;> omega), (by simp [okL, okS, okV, xarg, xput1, wd, Value.category] <;> omega)⟩ ⟨⟨_, _, _, rfl, (by show _ < 151; omega), hcell _ _ _⟩, e_blowsUntilHeat hp (b1.trans i0) (by omega)⟩ ?_
    refine R_iret rfl ?_
    exact ⟨rfl, rfl⟩
