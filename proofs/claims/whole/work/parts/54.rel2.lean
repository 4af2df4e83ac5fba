theorem c_restore {s : xs} {π : Nat → Nat} {c : Nat} {W : Nat → Nat → Int32} (hh : xhi s π) (h4 : c < 4) (hc : s.1 41 0 = nI (c + 1)) (hW : HS s π (c + 1) W) : ∃ s', Ev_X1_restore [.ref 41, .ref 1] (wd s) (.inl none) (wd s') ∧ xhi s' π ∧ s'.1 41 0 = nI c ∧ HS s' π c W ∧ pRel s' 1 (W c) ∧ pInv (W c) ∧ (∀ i, (i < 1 ∨ 20 < i) → i ≠ 41 → s'.1 i = s.1 i) ∧ s'.2 = s.2 := by
  have hb := hPl_hi (hh.1 c h4).2
  have fr : ∀ i, (i < 1 ∨ 20 < i) → i ≠ 41 → (sRest s (π c) c).1 i = s.1 i := by
    intro i hi1 hi2
    unfold sRest
    rw [put_ne _ _ hi2, sStCopy_out.1 i (by omega)]
  have e2 : (sRest s (π c) c).2 = s.2 := by
    show (sStCopy s 1 (π c)).2 = _
    exact sStCopy_out.2
  refine ⟨_, e_restore hh hc h4, ⟨fun j hj => by rw [e2]; exact hh.1 j hj, hh.2⟩, ?_, fun j hj => ?_, ?_, (hW c (Nat.lt_succ_self c)).2, fr, e2⟩
  · unfold sRest
    rw [put_val, if_pos rfl, if_pos rfl]
  · obtain ⟨k1, k2⟩ := hW j (by omega)
    have hpj := hPl_hi (hh.1 j (by omega)).2
    exact ⟨pRel_fr (fun i a b => fr i (by omega) (by omega)) k1, k2⟩
  · unfold sRest
    exact pRel_fr (fun i a b => put_ne _ _ (by omega)) (pRel_copy (by omega) (hW c (Nat.lt_succ_self c)).1)
/-! the reference's saved pages -/
def pg (s : xs) (j : Nat) : Nat → Int32 := fun q => s.1 145 (73 * j + q)
def kX (s s' : xs) : Prop := (∀ i, i ≠ 142 → i ≠ 145 → s'.1 i = s.1 i) ∧ (∀ j, j ≠ 3 → s'.1 142 j = s.1 142 j) ∧ s'.2 = s.2
theorem kpF_pg {s : xs} {c j q : Nat} (hq : q < 73) : pg (kpF s c) j q = if j = c then s.1 143 q else pg s j q := by
  have e : (kpF s c).1 145 = va_cpy (s.1 143) (s.1 145) 0 (73 * c) 73 := by
    unfold kpF
    rw [put_ne _ _ (by decide), setP_at]
  unfold pg
  rw [e]
  by_cases z : j = c
  · subst z
    rw [if_pos rfl, pk_cpy_in (by omega) (by omega), show 0 + (73 * j + q - 73 * j) = q by omega]
  · rw [if_neg z, pk_cpy_out (by omega)]
theorem kpF_X {s : xs} {c : Nat} : kX s (kpF s c) := by
  refine ⟨fun i a b => ?_, fun j a => ?_, rfl⟩
  · unfold kpF
    rw [put_ne _ _ a, setP_ne _ _ b]
  · unfold kpF
    rw [put_val, if_pos rfl, if_neg a, setP_ne _ _ (by decide)]
theorem r_keep {s : xs} {c : Nat} (hc4 : c ≤ 4) (hc : s.1 142 3 = nI c) : ∃ s', Ev_X9_keep [.ref 142] (wd s) (.inl none) (wd s') ∧ s'.1 142 3 = nI (cN4 c) ∧ (∀ j, j < cN4 c → ∀ q, q < 73 → pg s' j q = wN (pg s) c (s.1 143) j q) ∧ kX s s' := by
  by_cases e4 : c = 4
  · subst e4
    have x1 : kX s (put (setP s 145 (qSh (s.1 145) 219)) 142 3 (nI 3)) := by
      refine ⟨fun i a b => ?_, fun j a => ?_, rfl⟩
      · rw [put_ne _ _ a, setP_ne _ _ b]
      · rw [put_val, if_pos rfl, if_neg a, setP_ne _ _ (by decide)]
    have x2 := kpF_X (s := put (setP s 145 (qSh (s.1 145) 219)) 142 3 (nI 3)) (c := 3)
    refine ⟨_, e9_keepM hc, ?_, fun j hj q hq => ?_, ⟨fun i a b => (x2.1 i a b).trans (x1.1 i a b), fun j a => (x2.2.1 j a).trans (x1.2.1 j a), rfl⟩⟩
    · unfold kpM kpF
      rw [put_val, if_pos rfl, if_pos rfl]
      rfl
    · have hj4 : j < 4 := hj
      unfold kpM
      rw [kpF_pg hq, x1.1 143 (by decide) (by decide)]
      simp only [wN, if_true]
      by_cases z : j = 3
      · rw [if_pos z, if_neg (by omega)]
      · rw [if_neg z, if_pos (by omega)]
        unfold pg
        rw [put_ne _ _ (by decide), setP_at]
        simp only [qSh]
        rw [if_pos (by omega), show 73 * (j + 1) + q = 73 * j + q + 73 by omega]
  · refine ⟨_, e9_keepF hc (by omega), ?_, fun j hj q hq => ?_, kpF_X⟩
    · unfold kpF cN4
      rw [put_val, if_pos rfl, if_pos rfl, if_neg e4]
    · unfold cN4 at hj
      rw [if_neg e4] at hj
      rw [kpF_pg hq]
      simp only [wN, if_neg e4]
      by_cases z : j = c
      · rw [if_pos z, if_neg (by omega)]
      · rw [if_neg z, if_pos (by omega)]
/-! what class and reference have in common between calls -/
def RlS (s : xs) : Prop := ∃ π c, xhi s π ∧ c ≤ 4 ∧ s.1 41 0 = nI c ∧ s.1 142 3 = nI c ∧ HS s π c (pg s)
def RlT (s : xs) : Prop := ∃ L, L ≤ 90 ∧ s.1 133 0 = nI L ∧ s.1 142 5 = nI L ∧ ∀ j, j < L → s.1 141 j = s.1 146 j
def Rl (s : xs) : Prop := pRel s 1 (s.1 143) ∧ pInv (s.1 143) ∧ RlS s ∧ RlT s
theorem HS_cg {s : xs} {π : Nat → Nat} {n : Nat} {W W2 : Nat → Nat → Int32} (h : ∀ j, j < n → ∀ q, q < 73 → W2 j q = W j q) (k : HS s π n W) : HS s π n W2 := fun j hj => ⟨pRel_cg (h j hj) (k j hj).1, pInv_cg (h j hj) (k j hj).2⟩
theorem HS_fr {s s' : xs} {π : Nat → Nat} {n : Nat} {W : Nat → Nat → Int32} (hh : xhi s π) (hn : n ≤ 4) (h : ∀ i, 43 ≤ i → i ≤ 122 → s'.1 i = s.1 i) (k : HS s π n W) : HS s' π n W := fun j hj => by
  have := hPl_hi (hh.1 j (by omega)).2
  exact ⟨pRel_fr (fun i a b => h i (by omega) (by omega)) (k j hj).1, (k j hj).2⟩
theorem xhi_fr {s s' : xs} {π : Nat → Nat} (h : s'.2.1 42 = s.2.1 42) (k : xhi s π) : xhi s' π := ⟨fun j hj => by rw [h]; exact k.1 j hj, k.2⟩
