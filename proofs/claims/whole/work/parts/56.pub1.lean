/-! a pair of calls: the class first, then the reference -/
def Pair (f g : xR) (ca ra : List Value) (ex : List String) (s : xs) : Prop := ∃ o s1 v s2, f ca (wd s) o (wd s1) ∧ g ra (wd s1) (.inl (some (.int v))) (wd s2) ∧ Rl s2 ∧ ((o = .inl (some (.int v)) ∧ s2.1 142 6 = nI 0) ∨ ∃ k E, ex[k]? = some E ∧ o = .inr E ∧ s2.1 142 6 = nI (k + 1))
theorem RlT_c {s s' : xs} (h : RlT s) (h1 : s'.1 133 0 = s.1 133 0) (h2 : s'.1 141 = s.1 141) (h3 : s'.1 142 5 = s.1 142 5) (h4 : s'.1 146 = s.1 146) : RlT s' := by
  obtain ⟨L, a, b, c, d⟩ := h
  refine ⟨L, a, h1.trans b, h3.trans c, fun j hj => ?_⟩
  rw [h2, h4]
  exact d j hj
theorem cN4_le {c : Nat} (h : c ≤ 4) : cN4 c ≤ 4 := by
  unfold cN4
  split <;> omega
/-- a call that changes the state: saved, changed; kept, changed -/
theorem Rl_step {s s1 s2 s5 : xs} {π : Nat → Nat} {c : Nat} {Q : Nat → Int32} (hT : RlT s) (hc : c ≤ 4) (h1 : xhi s1 π) (h2 : s1.1 41 0 = nI (cN4 c)) (h3 : HS s1 π (cN4 c) (wN (pg s) c (s.1 143))) (h4 : ∀ i, (i < 41 ∨ 122 < i) → s1.1 i = s.1 i) (o1 : ∀ i, 20 < i → s2.1 i = s1.1 i) (o2 : s2.2.1 42 = s1.2.1 42) (hp : pRel s2 1 Q) (hi : pInv Q) (r1 : s5.1 143 = Q) (r2 : s5.1 142 3 = nI (cN4 c)) (r3 : ∀ j, j < cN4 c → ∀ q, q < 73 → pg s5 j q = wN (pg s) c (s.1 143) j q) (r4 : ∀ i, i < 142 → s5.1 i = s2.1 i) (r5 : s5.2.1 42 = s2.2.1 42) (r6 : s5.1 142 5 = s.1 142 5) (r7 : s5.1 146 = s.1 146) : Rl s5 := by
  refine ⟨?_, by rw [r1]; exact hi, ⟨π, cN4 c, xhi_fr (r5.trans o2) h1, cN4_le hc, ?_, r2, ?_⟩, RlT_c hT ?_ ?_ r6 r7⟩
  · rw [r1]
    exact pRel_fr (fun i a b => r4 i (by omega)) hp
  · rw [r4 41 (by decide), o1 41 (by decide)]
    exact h2
  · exact HS_cg r3 (HS_fr h1 (cN4_le hc) (fun i a b => (r4 i (by omega)).trans (o1 i (by omega))) h3)
  · rw [r4 133 (by decide), o1 133 (by decide), h4 133 (by decide)]
  · rw [r4 141 (by decide), o1 141 (by decide), h4 141 (by decide)]
/-- a call that throws or tells: the reference sets its code and perhaps lays numbers out -/
theorem Rl_same {s s5 : xs} (h : Rl s) (r4 : ∀ i, i < 123 → s5.1 i = s.1 i) (r0 : s5.1 133 0 = s.1 133 0) (ra : s5.1 141 = s.1 141) (r5 : s5.2.1 42 = s.2.1 42) (r1 : s5.1 143 = s.1 143) (r2 : s5.1 142 3 = s.1 142 3) (r3 : s5.1 145 = s.1 145) (r6 : s5.1 142 5 = s.1 142 5) (r7 : s5.1 146 = s.1 146) : Rl s5 := by
  obtain ⟨h1, h2, ⟨π, c, k1, k2, k3, k4, k5⟩, hT⟩ := h
  refine ⟨?_, by rw [r1]; exact h2, ⟨π, c, xhi_fr r5 k1, k2, ?_, r2.trans k4, ?_⟩, RlT_c hT r0 ra r6 r7⟩
  · rw [r1]
    exact pRel_fr (fun i a b => r4 i (by omega)) h1
  · rw [r4 41 (by decide)]
    exact k3
  · have e : pg s5 = pg s := by
      funext j q
      unfold pg
      rw [r3]
    rw [e]
    exact HS_fr k1 k2 (fun i a b => r4 i (by omega)) k5
