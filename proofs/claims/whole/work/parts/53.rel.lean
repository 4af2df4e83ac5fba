theorem bRel_fr {s s' : xs} {p : Nat} {Q : Nat → Int32} (h : ∀ i, p ≤ i → i ≤ p + 8 → s'.1 i = s.1 i) (k : bRel s p Q) : bRel s' p Q := by
  unfold bRel
  rw [h p (by omega) (by omega), h (p + 2) (by omega) (by omega), h (p + 4) (by omega) (by omega), h (p + 6) (by omega) (by omega), h (p + 8) (by omega) (by omega)]
  exact k
theorem tRel_fr {s s' : xs} {t : Nat} {Q : Nat → Int32} (h : ∀ i, t ≤ i → i ≤ t + 8 → s'.1 i = s.1 i) (k : tRel s t Q) : tRel s' t Q := by
  unfold tRel
  rw [h t (by omega) (by omega), h (t + 2) (by omega) (by omega), h (t + 4) (by omega) (by omega), h (t + 6) (by omega) (by omega), h (t + 8) (by omega) (by omega)]
  exact k
theorem pRel_fr {s s' : xs} {b : Nat} {Q : Nat → Int32} (h : ∀ i, b ≤ i → i ≤ b + 19 → s'.1 i = s.1 i) (k : pRel s b Q) : pRel s' b Q := ⟨bRel_fr (fun i a c => h i (by omega) (by omega)) k.1, tRel_fr (fun i a c => h i (by omega) (by omega)) k.2⟩
theorem bRel_cg {s : xs} {p : Nat} {Q Q2 : Nat → Int32} (h : ∀ q, q < 73 → Q2 q = Q q) (k : bRel s p Q) : bRel s p Q2 := by
  obtain ⟨⟨b0, b1, b2, b3, b4, b5, b6, b7⟩, br⟩ := k
  refine ⟨⟨b0.trans (h 7 (by decide)).symm, b1.trans (h 0 (by decide)).symm, b2.trans (h 1 (by decide)).symm, b3.trans (h 2 (by decide)).symm, b4.trans (h 3 (by decide)).symm, b5.trans (h 4 (by decide)).symm, b6.trans (h 5 (by decide)).symm, b7.trans (h 6 (by decide)).symm⟩, fun j hj => ?_⟩
  obtain ⟨r1, r2, r3, r4⟩ := br j hj
  exact ⟨r1.trans (h _ (by omega)).symm, r2.trans (h _ (by omega)).symm, r3.trans (h _ (by omega)).symm, r4.trans (h _ (by omega)).symm⟩
theorem pRel_cg {s : xs} {b : Nat} {Q Q2 : Nat → Int32} (h : ∀ q, q < 73 → Q2 q = Q q) (k : pRel s b Q) : pRel s b Q2 := by
  refine ⟨bRel_cg h k.1, k.2.1.trans (h 8 (by decide)).symm, fun j hj => ?_⟩
  obtain ⟨r1, r2, r3, r4⟩ := k.2.2 j hj
  exact ⟨r1.trans (h _ (by omega)).symm, r2.trans (h _ (by omega)).symm, r3.trans (h _ (by omega)).symm, r4.trans (h _ (by omega)).symm⟩
theorem pInv_cg {Q Q2 : Nat → Int32} (h : ∀ q, q < 73 → Q2 q = Q q) (k : pInv Q) : pInv Q2 := by
  obtain ⟨⟨i7, i7a, i7b⟩, ⟨i8, i8a⟩, ⟨i0, i0a, i0b⟩, ⟨i1, i1a⟩, iP, iS, i6, i6a, i6b⟩ := k
  refine pInv_of (n := qn Q 7) (m := qn Q 8) (t := qn Q 0) (c := qn Q 1) (x := qn Q 6) ((h 7 (by decide)).trans i7) i7a i7b ((h 8 (by decide)).trans i8) i8a ((h 0 (by decide)).trans i0) i0a i0b ((h 1 (by decide)).trans i1) i1a (fun k hk => qPart_cg (h _ (by omega)) (h _ (by omega)) (h _ (by omega)) (iP k hk)) (fun k hk => ?_) ((h 6 (by decide)).trans i6) i6a i6b
  obtain ⟨g1, g2, g3, g4, g5, g6, g7, g8⟩ := iS k hk
  exact qStep_of ((h _ (by omega)).trans g1) ((h _ (by omega)).trans g2) ((h _ (by omega)).trans g3) ((h _ (by omega)).trans g4) g5 g6 g7 g8
theorem sStepCopy_out {s : xs} {p p2 i : Nat} (h : i < p ∨ p + 8 < i) : (sStepCopy s p p2).1 i = s.1 i := by
  simp only [sStepCopy]
  (repeat (first | rw [setP_at] | rw [setP_ne _ _ (by omega)] | rw [put_ne _ _ (by omega)]))
theorem sBarCopy_out {s : xs} {p p2 i : Nat} (h : i < p ∨ p + 8 < i) : (sBarCopy s p p2).1 i = s.1 i := by
  simp only [sBarCopy]
  (repeat (first | rw [setP_at] | rw [setP_ne _ _ (by omega)] | rw [put_ne _ _ (by omega)]))
theorem bRel_copy {s : xs} {p p2 : Nat} {Q : Nat → Int32} (hp : p2 + 9 ≤ p ∨ p + 9 ≤ p2) (h : bRel s p2 Q) : bRel (sBarCopy s p p2) p Q := by
  obtain ⟨⟨b0, b1, b2, b3, b4, b5, b6, b7⟩, br⟩ := h
  refine ⟨⟨?_, ?_, ?_, ?_, ?_, ?_, ?_, ?_⟩, fun j hj => ?_⟩
  · (simp [sBarCopy, put_val, setP_val, show ¬ p2 = p by omega, show ¬ p2 + 2 = p + 2 by omega, show ¬ p2 + 4 = p + 4 by omega, show ¬ p2 + 6 = p + 6 by omega, show ¬ p2 + 8 = p + 8 by omega, show ¬ p2 + 2 = p + 4 by omega, show ¬ p2 + 2 = p + 6 by omega, show ¬ p2 + 2 = p + 8 by omega, show ¬ p2 + 4 = p + 2 by omega, show ¬ p2 + 4 = p + 6 by omega, show ¬ p2 + 4 = p + 8 by omega, show ¬ p2 + 6 = p + 2 by omega, show ¬ p2 + 6 = p + 4 by omega, show ¬ p2 + 6 = p + 8 by omega, show ¬ p2 + 8 = p + 2 by omega, show ¬ p2 + 8 = p + 4 by omega, show ¬ p2 + 8 = p + 6 by omega, show ¬ p2 = p + 2 by omega, show ¬ p2 = p + 4 by omega, show ¬ p2 = p + 6 by omega, show ¬ p2 = p + 8 by omega, show ¬ p2 + 2 = p by omega, show ¬ p2 + 4 = p by omega, show ¬ p2 + 6 = p by omega, show ¬ p2 + 8 = p by omega]) <;> exact b0
  · (simp [sBarCopy, put_val, setP_val, show ¬ p2 = p by omega, show ¬ p2 + 2 = p + 2 by omega, show ¬ p2 + 4 = p + 4 by omega, show ¬ p2 + 6 = p + 6 by omega, show ¬ p2 + 8 = p + 8 by omega, show ¬ p2 + 2 = p + 4 by omega, show ¬ p2 + 2 = p + 6 by omega, show ¬ p2 + 2 = p + 8 by omega, show ¬ p2 + 4 = p + 2 by omega, show ¬ p2 + 4 = p + 6 by omega, show ¬ p2 + 4 = p + 8 by omega, show ¬ p2 + 6 = p + 2 by omega, show ¬ p2 + 6 = p + 4 by omega, show ¬ p2 + 6 = p + 8 by omega, show ¬ p2 + 8 = p + 2 by omega, show ¬ p2 + 8 = p + 4 by omega, show ¬ p2 + 8 = p + 6 by omega, show ¬ p2 = p + 2 by omega, show ¬ p2 = p + 4 by omega, show ¬ p2 = p + 6 by omega, show ¬ p2 = p + 8 by omega, show ¬ p2 + 2 = p by omega, show ¬ p2 + 4 = p by omega, show ¬ p2 + 6 = p by omega, show ¬ p2 + 8 = p by omega]) <;> exact b1
  · (simp [sBarCopy, put_val, setP_val, show ¬ p2 = p by omega, show ¬ p2 + 2 = p + 2 by omega, show ¬ p2 + 4 = p + 4 by omega, show ¬ p2 + 6 = p + 6 by omega, show ¬ p2 + 8 = p + 8 by omega, show ¬ p2 + 2 = p + 4 by omega, show ¬ p2 + 2 = p + 6 by omega, show ¬ p2 + 2 = p + 8 by omega, show ¬ p2 + 4 = p + 2 by omega, show ¬ p2 + 4 = p + 6 by omega, show ¬ p2 + 4 = p + 8 by omega, show ¬ p2 + 6 = p + 2 by omega, show ¬ p2 + 6 = p + 4 by omega, show ¬ p2 + 6 = p + 8 by omega, show ¬ p2 + 8 = p + 2 by omega, show ¬ p2 + 8 = p + 4 by omega, show ¬ p2 + 8 = p + 6 by omega, show ¬ p2 = p + 2 by omega, show ¬ p2 = p + 4 by omega, show ¬ p2 = p + 6 by omega, show ¬ p2 = p + 8 by omega, show ¬ p2 + 2 = p by omega, show ¬ p2 + 4 = p by omega, show ¬ p2 + 6 = p by omega, show ¬ p2 + 8 = p by omega]) <;> exact b2
  · (simp [sBarCopy, put_val, setP_val, show ¬ p2 = p by omega, show ¬ p2 + 2 = p + 2 by omega, show ¬ p2 + 4 = p + 4 by omega, show ¬ p2 + 6 = p + 6 by omega, show ¬ p2 + 8 = p + 8 by omega, show ¬ p2 + 2 = p + 4 by omega, show ¬ p2 + 2 = p + 6 by omega, show ¬ p2 + 2 = p + 8 by omega, show ¬ p2 + 4 = p + 2 by omega, show ¬ p2 + 4 = p + 6 by omega, show ¬ p2 + 4 = p + 8 by omega, show ¬ p2 + 6 = p + 2 by omega, show ¬ p2 + 6 = p + 4 by omega, show ¬ p2 + 6 = p + 8 by omega, show ¬ p2 + 8 = p + 2 by omega, show ¬ p2 + 8 = p + 4 by omega, show ¬ p2 + 8 = p + 6 by omega, show ¬ p2 = p + 2 by omega, show ¬ p2 = p + 4 by omega, show ¬ p2 = p + 6 by omega, show ¬ p2 = p + 8 by omega, show ¬ p2 + 2 = p by omega, show ¬ p2 + 4 = p by omega, show ¬ p2 + 6 = p by omega, show ¬ p2 + 8 = p by omega]) <;> exact b3
  · (simp [sBarCopy, put_val, setP_val, show ¬ p2 = p by omega, show ¬ p2 + 2 = p + 2 by omega, show ¬ p2 + 4 = p + 4 by omega, show ¬ p2 + 6 = p + 6 by omega, show ¬ p2 + 8 = p + 8 by omega, show ¬ p2 + 2 = p + 4 by omega, show ¬ p2 + 2 = p + 6 by omega, show ¬ p2 + 2 = p + 8 by omega, show ¬ p2 + 4 = p + 2 by omega, show ¬ p2 + 4 = p + 6 by omega, show ¬ p2 + 4 = p + 8 by omega, show ¬ p2 + 6 = p + 2 by omega, show ¬ p2 + 6 = p + 4 by omega, show ¬ p2 + 6 = p + 8 by omega, show ¬ p2 + 8 = p + 2 by omega, show ¬ p2 + 8 = p + 4 by omega, show ¬ p2 + 8 = p + 6 by omega, show ¬ p2 = p + 2 by omega, show ¬ p2 = p + 4 by omega, show ¬ p2 = p + 6 by omega, show ¬ p2 = p + 8 by omega, show ¬ p2 + 2 = p by omega, show ¬ p2 + 4 = p by omega, show ¬ p2 + 6 = p by omega, show ¬ p2 + 8 = p by omega]) <;> exact b4
  · (simp [sBarCopy, put_val, setP_val, show ¬ p2 = p by omega, show ¬ p2 + 2 = p + 2 by omega, show ¬ p2 + 4 = p + 4 by omega, show ¬ p2 + 6 = p + 6 by omega, show ¬ p2 + 8 = p + 8 by omega, show ¬ p2 + 2 = p + 4 by omega, show ¬ p2 + 2 = p + 6 by omega, show ¬ p2 + 2 = p + 8 by omega, show ¬ p2 + 4 = p + 2 by omega, show ¬ p2 + 4 = p + 6 by omega, show ¬ p2 + 4 = p + 8 by omega, show ¬ p2 + 6 = p + 2 by omega, show ¬ p2 + 6 = p + 4 by omega, show ¬ p2 + 6 = p + 8 by omega, show ¬ p2 + 8 = p + 2 by omega, show ¬ p2 + 8 = p + 4 by omega, show ¬ p2 + 8 = p + 6 by omega, show ¬ p2 = p + 2 by omega, show ¬ p2 = p + 4 by omega, show ¬ p2 = p + 6 by omega, show ¬ p2 = p + 8 by omega, show ¬ p2 + 2 = p by omega, show ¬ p2 + 4 = p by omega, show ¬ p2 + 6 = p by omega, show ¬ p2 + 8 = p by omega]) <;> exact b5
  · (simp [sBarCopy, put_val, setP_val, show ¬ p2 = p by omega, show ¬ p2 + 2 = p + 2 by omega, show ¬ p2 + 4 = p + 4 by omega, show ¬ p2 + 6 = p + 6 by omega, show ¬ p2 + 8 = p + 8 by omega, show ¬ p2 + 2 = p + 4 by omega, show ¬ p2 + 2 = p + 6 by omega, show ¬ p2 + 2 = p + 8 by omega, show ¬ p2 + 4 = p + 2 by omega, show ¬ p2 + 4 = p + 6 by omega, show ¬ p2 + 4 = p + 8 by omega, show ¬ p2 + 6 = p + 2 by omega, show ¬ p2 + 6 = p + 4 by omega, show ¬ p2 + 6 = p + 8 by omega, show ¬ p2 + 8 = p + 2 by omega, show ¬ p2 + 8 = p + 4 by omega, show ¬ p2 + 8 = p + 6 by omega, show ¬ p2 = p + 2 by omega, show ¬ p2 = p + 4 by omega, show ¬ p2 = p + 6 by omega, show ¬ p2 = p + 8 by omega, show ¬ p2 + 2 = p by omega, show ¬ p2 + 4 = p by omega, show ¬ p2 + 6 = p by omega, show ¬ p2 + 8 = p by omega]) <;> exact b6
  · (simp [sBarCopy, put_val, setP_val, show ¬ p2 = p by omega, show ¬ p2 + 2 = p + 2 by omega, show ¬ p2 + 4 = p + 4 by omega, show ¬ p2 + 6 = p + 6 by omega, show ¬ p2 + 8 = p + 8 by omega, show ¬ p2 + 2 = p + 4 by omega, show ¬ p2 + 2 = p + 6 by omega, show ¬ p2 + 2 = p + 8 by omega, show ¬ p2 + 4 = p + 2 by omega, show ¬ p2 + 4 = p + 6 by omega, show ¬ p2 + 4 = p + 8 by omega, show ¬ p2 + 6 = p + 2 by omega, show ¬ p2 + 6 = p + 4 by omega, show ¬ p2 + 6 = p + 8 by omega, show ¬ p2 + 8 = p + 2 by omega, show ¬ p2 + 8 = p + 4 by omega, show ¬ p2 + 8 = p + 6 by omega, show ¬ p2 = p + 2 by omega, show ¬ p2 = p + 4 by omega, show ¬ p2 = p + 6 by omega, show ¬ p2 = p + 8 by omega, show ¬ p2 + 2 = p by omega, show ¬ p2 + 4 = p by omega, show ¬ p2 + 6 = p by omega, show ¬ p2 + 8 = p by omega]) <;> exact b7
  · obtain ⟨r1, r2, r3, r4⟩ := br j hj
    refine ⟨?_, ?_, ?_, ?_⟩
    · (simp [sBarCopy, put_val, setP_val, show ¬ p2 = p by omega, show ¬ p2 + 2 = p + 2 by omega, show ¬ p2 + 4 = p + 4 by omega, show ¬ p2 + 6 = p + 6 by omega, show ¬ p2 + 8 = p + 8 by omega, show ¬ p2 + 2 = p + 4 by omega, show ¬ p2 + 2 = p + 6 by omega, show ¬ p2 + 2 = p + 8 by omega, show ¬ p2 + 4 = p + 2 by omega, show ¬ p2 + 4 = p + 6 by omega, show ¬ p2 + 4 = p + 8 by omega, show ¬ p2 + 6 = p + 2 by omega, show ¬ p2 + 6 = p + 4 by omega, show ¬ p2 + 6 = p + 8 by omega, show ¬ p2 + 8 = p + 2 by omega, show ¬ p2 + 8 = p + 4 by omega, show ¬ p2 + 8 = p + 6 by omega, show ¬ p2 = p + 2 by omega, show ¬ p2 = p + 4 by omega, show ¬ p2 = p + 6 by omega, show ¬ p2 = p + 8 by omega, show ¬ p2 + 2 = p by omega, show ¬ p2 + 4 = p by omega, show ¬ p2 + 6 = p by omega, show ¬ p2 + 8 = p by omega]) <;> (rw [pk_cpy_in (Nat.zero_le _) (by omega), Nat.zero_add, Nat.sub_zero]; (repeat (first | rw [setP_ne _ _ (by omega)] | rw [put_ne _ _ (by omega)])); exact r1)
    · (simp [sBarCopy, put_val, setP_val, show ¬ p2 = p by omega, show ¬ p2 + 2 = p + 2 by omega, show ¬ p2 + 4 = p + 4 by omega, show ¬ p2 + 6 = p + 6 by omega, show ¬ p2 + 8 = p + 8 by omega, show ¬ p2 + 2 = p + 4 by omega, show ¬ p2 + 2 = p + 6 by omega, show ¬ p2 + 2 = p + 8 by omega, show ¬ p2 + 4 = p + 2 by omega, show ¬ p2 + 4 = p + 6 by omega, show ¬ p2 + 4 = p + 8 by omega, show ¬ p2 + 6 = p + 2 by omega, show ¬ p2 + 6 = p + 4 by omega, show ¬ p2 + 6 = p + 8 by omega, show ¬ p2 + 8 = p + 2 by omega, show ¬ p2 + 8 = p + 4 by omega, show ¬ p2 + 8 = p + 6 by omega, show ¬ p2 = p + 2 by omega, show ¬ p2 = p + 4 by omega, show ¬ p2 = p + 6 by omega, show ¬ p2 = p + 8 by omega, show ¬ p2 + 2 = p by omega, show ¬ p2 + 4 = p by omega, show ¬ p2 + 6 = p by omega, show ¬ p2 + 8 = p by omega]) <;> (rw [pk_cpy_in (Nat.zero_le _) (by omega), Nat.zero_add, Nat.sub_zero]; (repeat (first | rw [setP_ne _ _ (by omega)] | rw [put_ne _ _ (by omega)])); exact r2)
    · (simp [sBarCopy, put_val, setP_val, show ¬ p2 = p by omega, show ¬ p2 + 2 = p + 2 by omega, show ¬ p2 + 4 = p + 4 by omega, show ¬ p2 + 6 = p + 6 by omega, show ¬ p2 + 8 = p + 8 by omega, show ¬ p2 + 2 = p + 4 by omega, show ¬ p2 + 2 = p + 6 by omega, show ¬ p2 + 2 = p + 8 by omega, show ¬ p2 + 4 = p + 2 by omega, show ¬ p2 + 4 = p + 6 by omega, show ¬ p2 + 4 = p + 8 by omega, show ¬ p2 + 6 = p + 2 by omega, show ¬ p2 + 6 = p + 4 by omega, show ¬ p2 + 6 = p + 8 by omega, show ¬ p2 + 8 = p + 2 by omega, show ¬ p2 + 8 = p + 4 by omega, show ¬ p2 + 8 = p + 6 by omega, show ¬ p2 = p + 2 by omega, show ¬ p2 = p + 4 by omega, show ¬ p2 = p + 6 by omega, show ¬ p2 = p + 8 by omega, show ¬ p2 + 2 = p by omega, show ¬ p2 + 4 = p by omega, show ¬ p2 + 6 = p by omega, show ¬ p2 + 8 = p by omega]) <;> (rw [pk_cpy_in (Nat.zero_le _) (by omega), Nat.zero_add, Nat.sub_zero]; (repeat (first | rw [setP_ne _ _ (by omega)] | rw [put_ne _ _ (by omega)])); exact r3)
    · (simp [sBarCopy, put_val, setP_val, show ¬ p2 = p by omega, show ¬ p2 + 2 = p + 2 by omega, show ¬ p2 + 4 = p + 4 by omega, show ¬ p2 + 6 = p + 6 by omega, show ¬ p2 + 8 = p + 8 by omega, show ¬ p2 + 2 = p + 4 by omega, show ¬ p2 + 2 = p + 6 by omega, show ¬ p2 + 2 = p + 8 by omega, show ¬ p2 + 4 = p + 2 by omega, show ¬ p2 + 4 = p + 6 by omega, show ¬ p2 + 4 = p + 8 by omega, show ¬ p2 + 6 = p + 2 by omega, show ¬ p2 + 6 = p + 4 by omega, show ¬ p2 + 6 = p + 8 by omega, show ¬ p2 + 8 = p + 2 by omega, show ¬ p2 + 8 = p + 4 by omega, show ¬ p2 + 8 = p + 6 by omega, show ¬ p2 = p + 2 by omega, show ¬ p2 = p + 4 by omega, show ¬ p2 = p + 6 by omega, show ¬ p2 = p + 8 by omega, show ¬ p2 + 2 = p by omega, show ¬ p2 + 4 = p by omega, show ¬ p2 + 6 = p by omega, show ¬ p2 + 8 = p by omega]) <;> (rw [pk_cpy_in (Nat.zero_le _) (by omega), Nat.zero_add, Nat.sub_zero]; (repeat (first | rw [setP_ne _ _ (by omega)] | rw [put_ne _ _ (by omega)])); exact r4)
theorem tRel_copy {s : xs} {p p2 : Nat} {Q : Nat → Int32} (hp : p2 + 9 ≤ p ∨ p + 9 ≤ p2) (h : tRel s p2 Q) : tRel (sStepCopy s p p2) p Q := by
  obtain ⟨b0, br⟩ := h
  refine ⟨?_, fun j hj => ?_⟩
  · (simp [sStepCopy, put_val, setP_val, show ¬ p2 = p by omega, show ¬ p2 + 2 = p + 2 by omega, show ¬ p2 + 4 = p + 4 by omega, show ¬ p2 + 6 = p + 6 by omega, show ¬ p2 + 8 = p + 8 by omega, show ¬ p2 + 2 = p + 4 by omega, show ¬ p2 + 2 = p + 6 by omega, show ¬ p2 + 2 = p + 8 by omega, show ¬ p2 + 4 = p + 2 by omega, show ¬ p2 + 4 = p + 6 by omega, show ¬ p2 + 4 = p + 8 by omega, show ¬ p2 + 6 = p + 2 by omega, show ¬ p2 + 6 = p + 4 by omega, show ¬ p2 + 6 = p + 8 by omega, show ¬ p2 + 8 = p + 2 by omega, show ¬ p2 + 8 = p + 4 by omega, show ¬ p2 + 8 = p + 6 by omega, show ¬ p2 = p + 2 by omega, show ¬ p2 = p + 4 by omega, show ¬ p2 = p + 6 by omega, show ¬ p2 = p + 8 by omega, show ¬ p2 + 2 = p by omega, show ¬ p2 + 4 = p by omega, show ¬ p2 + 6 = p by omega, show ¬ p2 + 8 = p by omega]) <;> exact b0
  · obtain ⟨r1, r2, r3, r4⟩ := br j hj
    refine ⟨?_, ?_, ?_, ?_⟩
    · (simp [sStepCopy, put_val, setP_val, show ¬ p2 = p by omega, show ¬ p2 + 2 = p + 2 by omega, show ¬ p2 + 4 = p + 4 by omega, show ¬ p2 + 6 = p + 6 by omega, show ¬ p2 + 8 = p + 8 by omega, show ¬ p2 + 2 = p + 4 by omega, show ¬ p2 + 2 = p + 6 by omega, show ¬ p2 + 2 = p + 8 by omega, show ¬ p2 + 4 = p + 2 by omega, show ¬ p2 + 4 = p + 6 by omega, show ¬ p2 + 4 = p + 8 by omega, show ¬ p2 + 6 = p + 2 by omega, show ¬ p2 + 6 = p + 4 by omega, show ¬ p2 + 6 = p + 8 by omega, show ¬ p2 + 8 = p + 2 by omega, show ¬ p2 + 8 = p + 4 by omega, show ¬ p2 + 8 = p + 6 by omega, show ¬ p2 = p + 2 by omega, show ¬ p2 = p + 4 by omega, show ¬ p2 = p + 6 by omega, show ¬ p2 = p + 8 by omega, show ¬ p2 + 2 = p by omega, show ¬ p2 + 4 = p by omega, show ¬ p2 + 6 = p by omega, show ¬ p2 + 8 = p by omega]) <;> (rw [pk_cpy_in (Nat.zero_le _) (by omega), Nat.zero_add, Nat.sub_zero]; (repeat (first | rw [setP_ne _ _ (by omega)] | rw [put_ne _ _ (by omega)])); exact r1)
    · (simp [sStepCopy, put_val, setP_val, show ¬ p2 = p by omega, show ¬ p2 + 2 = p + 2 by omega, show ¬ p2 + 4 = p + 4 by omega, show ¬ p2 + 6 = p + 6 by omega, show ¬ p2 + 8 = p + 8 by omega, show ¬ p2 + 2 = p + 4 by omega, show ¬ p2 + 2 = p + 6 by omega, show ¬ p2 + 2 = p + 8 by omega, show ¬ p2 + 4 = p + 2 by omega, show ¬ p2 + 4 = p + 6 by omega, show ¬ p2 + 4 = p + 8 by omega, show ¬ p2 + 6 = p + 2 by omega, show ¬ p2 + 6 = p + 4 by omega, show ¬ p2 + 6 = p + 8 by omega, show ¬ p2 + 8 = p + 2 by omega, show ¬ p2 + 8 = p + 4 by omega, show ¬ p2 + 8 = p + 6 by omega, show ¬ p2 = p + 2 by omega, show ¬ p2 = p + 4 by omega, show ¬ p2 = p + 6 by omega, show ¬ p2 = p + 8 by omega, show ¬ p2 + 2 = p by omega, show ¬ p2 + 4 = p by omega, show ¬ p2 + 6 = p by omega, show ¬ p2 + 8 = p by omega]) <;> (rw [pk_cpy_in (Nat.zero_le _) (by omega), Nat.zero_add, Nat.sub_zero]; (repeat (first | rw [setP_ne _ _ (by omega)] | rw [put_ne _ _ (by omega)])); exact r2)
    · (simp [sStepCopy, put_val, setP_val, show ¬ p2 = p by omega, show ¬ p2 + 2 = p + 2 by omega, show ¬ p2 + 4 = p + 4 by omega, show ¬ p2 + 6 = p + 6 by omega, show ¬ p2 + 8 = p + 8 by omega, show ¬ p2 + 2 = p + 4 by omega, show ¬ p2 + 2 = p + 6 by omega, show ¬ p2 + 2 = p + 8 by omega, show ¬ p2 + 4 = p + 2 by omega, show ¬ p2 + 4 = p + 6 by omega, show ¬ p2 + 4 = p + 8 by omega, show ¬ p2 + 6 = p + 2 by omega, show ¬ p2 + 6 = p + 4 by omega, show ¬ p2 + 6 = p + 8 by omega, show ¬ p2 + 8 = p + 2 by omega, show ¬ p2 + 8 = p + 4 by omega, show ¬ p2 + 8 = p + 6 by omega, show ¬ p2 = p + 2 by omega, show ¬ p2 = p + 4 by omega, show ¬ p2 = p + 6 by omega, show ¬ p2 = p + 8 by omega, show ¬ p2 + 2 = p by omega, show ¬ p2 + 4 = p by omega, show ¬ p2 + 6 = p by omega, show ¬ p2 + 8 = p by omega]) <;> (rw [pk_cpy_in (Nat.zero_le _) (by omega), Nat.zero_add, Nat.sub_zero]; (repeat (first | rw [setP_ne _ _ (by omega)] | rw [put_ne _ _ (by omega)])); exact r3)
    · (simp [sStepCopy, put_val, setP_val, show ¬ p2 = p by omega, show ¬ p2 + 2 = p + 2 by omega, show ¬ p2 + 4 = p + 4 by omega, show ¬ p2 + 6 = p + 6 by omega, show ¬ p2 + 8 = p + 8 by omega, show ¬ p2 + 2 = p + 4 by omega, show ¬ p2 + 2 = p + 6 by omega, show ¬ p2 + 2 = p + 8 by omega, show ¬ p2 + 4 = p + 2 by omega, show ¬ p2 + 4 = p + 6 by omega, show ¬ p2 + 4 = p + 8 by omega, show ¬ p2 + 6 = p + 2 by omega, show ¬ p2 + 6 = p + 4 by omega, show ¬ p2 + 6 = p + 8 by omega, show ¬ p2 + 8 = p + 2 by omega, show ¬ p2 + 8 = p + 4 by omega, show ¬ p2 + 8 = p + 6 by omega, show ¬ p2 = p + 2 by omega, show ¬ p2 = p + 4 by omega, show ¬ p2 = p + 6 by omega, show ¬ p2 = p + 8 by omega, show ¬ p2 + 2 = p by omega, show ¬ p2 + 4 = p by omega, show ¬ p2 + 6 = p by omega, show ¬ p2 + 8 = p by omega]) <;> (rw [pk_cpy_in (Nat.zero_le _) (by omega), Nat.zero_add, Nat.sub_zero]; (repeat (first | rw [setP_ne _ _ (by omega)] | rw [put_ne _ _ (by omega)])); exact r4)
theorem pRel_copy {s : xs} {b b2 : Nat} {Q : Nat → Int32} (hp : b2 + 20 ≤ b ∨ b + 20 ≤ b2) (h : pRel s b2 Q) : pRel (sStCopy s b b2) b Q := by
  unfold sStCopy
  refine ⟨bRel_fr (fun i h1 h2 => sStepCopy_out (by omega)) (bRel_copy (by omega) h.1), tRel_copy (by omega) (tRel_fr (fun i h1 h2 => sBarCopy_out (by omega)) h.2)⟩
def HS (s : xs) (π : Nat → Nat) (n : Nat) (W : Nat → Nat → Int32) : Prop := ∀ j, j < n → pRel s (π j) (W j) ∧ pInv (W j)
def wN (W : Nat → Nat → Int32) (c : Nat) (Q : Nat → Int32) : Nat → Nat → Int32 := fun j => if c = 4 then (if j < 3 then W (j + 1) else Q) else (if j < c then W j else Q)
def cN4 (c : Nat) : Nat := if c = 4 then 4 else c + 1
theorem hPl_dj {a b : Nat} (ha : hPl a) (hb : hPl b) (h : a ≠ b) : a + 20 ≤ b ∨ b + 20 ≤ a := by
  unfold hPl at ha hb
  omega
theorem hPl_hi {a : Nat} (ha : hPl a) : 43 ≤ a ∧ a ≤ 103 := by
  unfold hPl at ha
  omega
theorem c_save {s : xs} {π : Nat → Nat} {c : Nat} {W : Nat → Nat → Int32} {Q : Nat → Int32} (hh : xhi s π) (hc4 : c ≤ 4) (hc : s.1 41 0 = nI c) (hW : HS s π c W) (h1 : pRel s 1 Q) (hi : pInv Q) : ∃ s' π', Ev_X1_save [.ref 41, .ref 1] (wd s) (.inl none) (wd s') ∧ xhi s' π' ∧ s'.1 41 0 = nI (cN4 c) ∧ HS s' π' (cN4 c) (wN W c Q) ∧ (∀ i, (i < 41 ∨ 122 < i) → s'.1 i = s.1 i) ∧ s'.2.2 = s.2.2 := by
  by_cases e4 : c = 4
  · subst e4
    have hb := hPl_hi (hh.1 0 (by decide)).2
    have eq2 : (sSave (put (sMove s) 41 0 (nI 3)) (π 0) 3).2.1 42 = va_up (qRot (s.2.1 42) 3) 3 (s.2.1 42 0) := by
      show (sStCopy (put (sMove s) 41 0 (nI 3)) (π 0) 1).2.1 42 = _
      rw [sStCopy_out.2, put_2]
      show va_up s.2.1 42 (va_up (qRot (s.2.1 42) 3) 3 (s.2.1 42 0)) 42 = _
      exact va_up_self _ _ _
    have fr : ∀ i, (i < π 0 + 1 ∨ π 0 + 19 < i) → i ≠ 41 → (sSave (put (sMove s) 41 0 (nI 3)) (π 0) 3).1 i = s.1 i := by
      intro i hi1 hi2
      unfold sSave
      rw [put_ne _ _ hi2, sStCopy_out.1 i hi1, put_ne _ _ hi2]
      rfl
    refine ⟨_, fun j => if j < 3 then π (j + 1) else π 0, e_saveM hh hc, ⟨fun j hj => ?_, fun i j hi1 hj1 he => ?_⟩, ?_, fun j hj => ?_, fun i hi1 => fr i (by omega) (by omega), ?_⟩
    · rw [eq2]
      dsimp only
      by_cases z : j < 3
      · rw [va_up_ne _ _ (by omega), if_pos z]
        simp only [qRot]
        rw [if_pos z]
        exact hh.1 (j + 1) (by omega)
      · rw [if_neg z, show j = 3 by omega, va_up_self]
        exact hh.1 0 (by decide)
    · have d := hh.2
      dsimp only at he
      by_cases z : i < 3
      · by_cases z2 : j < 3
        · rw [if_pos z, if_pos z2] at he
          have := d _ _ (by omega) (by omega) he
          omega
        · rw [if_pos z, if_neg z2] at he
          have := d _ _ (by omega) (by decide) he
          omega
      · by_cases z2 : j < 3
        · rw [if_neg z, if_pos z2] at he
          have := d _ _ (by decide) (by omega) he
          omega
        · omega
    · unfold sSave
      rw [put_val, if_pos rfl, if_pos rfl]
      rfl
    · have hj4 : j < 4 := hj
      simp only [wN, if_true]
      by_cases z : j < 3
      · rw [if_pos z, if_pos z]
        obtain ⟨k1, k2⟩ := hW (j + 1) (by omega)
        have hpj := hPl_hi (hh.1 (j + 1) (by omega)).2
        have hne : π (j + 1) ≠ π 0 := fun e => by
          have := hh.2 _ _ (by omega) (by decide) e
          omega
        have hdj := hPl_dj (hh.1 (j + 1) (by omega)).2 (hh.1 0 (by decide)).2 hne
        exact ⟨pRel_fr (fun i a b => fr i (by omega) (by omega)) k1, k2⟩
      · rw [if_neg z, if_neg z]
        refine ⟨?_, hi⟩
        unfold sSave
        refine pRel_fr (fun i a b => put_ne _ _ (by omega)) (pRel_copy (by omega) (pRel_fr (fun i a b => ?_) h1))
        rw [put_ne _ _ (by omega)]
        rfl
    · unfold sSave
      show (sStCopy (put (sMove s) 41 0 (nI 3)) (π 0) 1).2.2 = _
      rw [sStCopy_out.2]
      rfl
  · have hcl : c < 4 := by omega
    have hb := hPl_hi (hh.1 c hcl).2
    have fr : ∀ i, (i < π c + 1 ∨ π c + 19 < i) → i ≠ 41 → (sSave s (π c) c).1 i = s.1 i := by
      intro i hi1 hi2
      unfold sSave
      rw [put_ne _ _ hi2, sStCopy_out.1 i hi1]
    have eq2 : (sSave s (π c) c).2 = s.2 := by
      show (sStCopy s (π c) 1).2 = _
      exact sStCopy_out.2
    refine ⟨_, π, e_saveF hh hc hcl, ⟨fun j hj => ?_, hh.2⟩, ?_, fun j hj => ?_, fun i hi1 => fr i (by omega) (by omega), ?_⟩
    · rw [eq2]
      exact hh.1 j hj
    · unfold sSave cN4
      rw [put_val, if_pos rfl, if_pos rfl, if_neg e4]
    · unfold cN4 at hj
      rw [if_neg e4] at hj
      simp only [wN, if_neg e4]
      by_cases z : j < c
      · rw [if_pos z]
        obtain ⟨k1, k2⟩ := hW j z
        have hpj := hPl_hi (hh.1 j (by omega)).2
        have hne : π j ≠ π c := fun e => by
          have := hh.2 _ _ (by omega) hcl e
          omega
        have hdj := hPl_dj (hh.1 j (by omega)).2 (hh.1 c hcl).2 hne
        exact ⟨pRel_fr (fun i a b => fr i (by omega) (by omega)) k1, k2⟩
      · rw [if_neg z, show j = c by omega]
        refine ⟨?_, hi⟩
        unfold sSave
        exact pRel_fr (fun i a b => put_ne _ _ (by omega)) (pRel_copy (by omega) h1)
    · rw [eq2]
