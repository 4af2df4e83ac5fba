theorem nq {Q : Nat → Int32} {i a : Nat} (h : Q i = nI a) (ha : a < 2 ^ 31) : qn Q i = a := by unfold qn; rw [h]; exact nI_clamp ha
theorem qPart_of {Q : Nat → Int32} {k a b v : Nat} (h1 : Q (9 + 4 * k) = nI a) (h2 : Q (10 + 4 * k) = nI b) (h3 : Q (11 + 4 * k) = nI v) (ha : nRg a = true) (hb : nRg b = true) (hv : 1 ≤ v) (hv2 : v ≤ 9000000) : qPart Q k := by
  have ha' := nRg_iff.mp ha
  have hb' := nRg_iff.mp hb
  have e1 := nq h1 (by omega)
  have e2 := nq h2 (by omega)
  have e3 := nq h3 (by omega)
  unfold qPart
  rw [e1, e2, e3]
  exact ⟨h1, h2, h3, ha, hb, hv, hv2⟩
theorem qPart_cg {Q Q2 : Nat → Int32} {k k2 : Nat} (h1 : Q2 (9 + 4 * k2) = Q (9 + 4 * k)) (h2 : Q2 (10 + 4 * k2) = Q (10 + 4 * k)) (h3 : Q2 (11 + 4 * k2) = Q (11 + 4 * k)) (h : qPart Q k) : qPart Q2 k2 := by
  obtain ⟨g1, g2, g3, g4, g5, g6, g7⟩ := h
  exact qPart_of (h1.trans g1) (h2.trans g2) (h3.trans g3) g4 g5 g6 g7
theorem qStep_of {Q : Nat → Int32} {k a b c d : Nat} (h1 : Q (41 + 4 * k) = nI a) (h2 : Q (42 + 4 * k) = nI b) (h3 : Q (43 + 4 * k) = nI c) (h4 : Q (44 + 4 * k) = nI d) (ha : nRg a = true) (hb : nRg b = true) (hc : c ≤ 9) (hd : d ≤ 9999) : qStep Q k := by
  have ha' := nRg_iff.mp ha
  have hb' := nRg_iff.mp hb
  have e1 := nq h1 (by omega)
  have e2 := nq h2 (by omega)
  have e3 := nq h3 (by omega)
  have e4 := nq h4 (by omega)
  unfold qStep
  rw [e1, e2, e3, e4]
  exact ⟨h1, h2, h3, h4, ha, hb, hc, hd⟩
theorem qStep_cg {Q Q2 : Nat → Int32} {k : Nat} (h : ∀ i, 41 ≤ i → i < 73 → Q2 i = Q i) (hk : k < 8) (g : qStep Q k) : qStep Q2 k := by
  obtain ⟨g1, g2, g3, g4, g5, g6, g7, g8⟩ := g
  exact qStep_of ((h _ (by omega) (by omega)).trans g1) ((h _ (by omega) (by omega)).trans g2) ((h _ (by omega) (by omega)).trans g3) ((h _ (by omega) (by omega)).trans g4) g5 g6 g7 g8
theorem pInv_of {Q : Nat → Int32} {n m t c x : Nat} (h7 : Q 7 = nI n) (n1 : 1 ≤ n) (n8 : n ≤ 8) (h8 : Q 8 = nI m) (m8 : m ≤ 8) (h0 : Q 0 = nI t) (t1 : 20 ≤ t) (t2 : t ≤ 1250) (h1 : Q 1 = nI c) (c5 : c ≤ 50) (hP : ∀ k, k < n → qPart Q k) (hS : ∀ k, k < m → qStep Q k) (h6 : Q 6 = nI x) (x1 : 1 ≤ x) (x2 : x ≤ 9000000) : pInv Q := by
  have e7 := nq h7 (by omega)
  have e8 := nq h8 (by omega)
  have e0 := nq h0 (by omega)
  have e1 := nq h1 (by omega)
  have e6 := nq h6 (by omega)
  unfold pInv
  rw [e7, e8, e0, e1, e6]
  exact ⟨⟨h7, n1, n8⟩, ⟨h8, m8⟩, ⟨h0, t1, t2⟩, ⟨h1, c5⟩, hP, hS, h6, x1, x2⟩
theorem tRel_cg {s s' : xs} {t : Nat} {Q Q2 : Nat → Int32} (h : tRel s t Q) (h0 : s'.1 t 0 = s.1 t 0) (h2 : s'.1 (t + 2) = s.1 (t + 2)) (h4 : s'.1 (t + 4) = s.1 (t + 4)) (h6 : s'.1 (t + 6) = s.1 (t + 6)) (h8 : s'.1 (t + 8) = s.1 (t + 8)) (hq8 : Q2 8 = Q 8) (hq : ∀ i, 41 ≤ i → i < 73 → Q2 i = Q i) : tRel s' t Q2 := by
  refine ⟨h0.trans (h.1.trans hq8.symm), fun k hk => ?_⟩
  obtain ⟨r1, r2, r3, r4⟩ := h.2 k hk
  rw [h2, h4, h6, h8]
  exact ⟨r1.trans (hq _ (by omega) (by omega)).symm, r2.trans (hq _ (by omega) (by omega)).symm, r3.trans (hq _ (by omega) (by omega)).symm, r4.trans (hq _ (by omega) (by omega)).symm⟩
def qStrike (Q : Nat → Int32) (k a b t c : Nat) : Nat → Int32 := fun i => if i = 9 + 4 * k then nI a else if i = 10 + 4 * k then nI b else if i = 12 + 4 * k then Q i + nI c else if i = 3 then Q i + nI c else if i = 0 then nI (t - 12 * c) else Q i
def qBegin (Q : Nat → Int32) (w h v : Int32) : Nat → Int32 := fun i => if i = 0 then nI 1250 else if i = 2 ∨ i = 3 ∨ i = 4 ∨ i = 5 ∨ i = 12 then nI 0 else if i = 6 ∨ i = 11 then v else if i = 7 then nI 1 else if i = 9 then w else if i = 10 then h else Q i
def qLoss (Q : Nat → Int32) (k : Nat) : Int32 := Q (11 + 4 * k) * Q 1 / nI 1000
def qHot (Q : Nat → Int32) (n : Nat) : Nat → Int32 := fun i => if 11 ≤ i ∧ i < 9 + 4 * n ∧ i % 4 = 3 then Q i - Q i * Q 1 / nI 1000 else Q i
def qHeat (Q : Nat → Int32) (n : Nat) : Nat → Int32 := fun i => if i = 0 then nI 1250 else if i = 2 then Q 2 + nI 1 else if i = 4 then Q 4 + csum (qLoss Q) n else qHot Q n i
def qCut (Q : Nat → Int32) (k n : Nat) (c : Int32) : Nat → Int32 := fun i => if i = 7 then nI (n + 1) else if i = 11 + 4 * k then c * Q (9 + 4 * k) * Q (10 + 4 * k) else if i = 15 + 4 * k then Q (11 + 4 * k) - c * Q (9 + 4 * k) * Q (10 + 4 * k) else if 13 + 4 * k ≤ i ∧ i < 13 + 4 * n then Q (i - 4) else Q i
def qWeld (Q : Nat → Int32) (k n : Nat) : Nat → Int32 := fun i => if i = 7 then nI (n - 1) else if i = 11 + 4 * k ∨ i = 12 + 4 * k then Q i + Q (i + 4) else if 13 + 4 * k ≤ i ∧ i < 5 + 4 * n then Q (i + 4) else Q i
def qDrop (Q : Nat → Int32) (n : Nat) : Nat → Int32 := fun i => if i = 7 then nI (n - 1) else if i = 5 then Q 5 + Q (7 + 4 * n) else Q i
def qTell (Q : Nat → Int32) (m : Nat) (w h o l : Int32) : Nat → Int32 := fun i => if i = 41 + 4 * m then w else if i = 42 + 4 * m then h else if i = 43 + 4 * m then o else if i = 44 + 4 * m then l else if i = 8 then nI (m + 1) else Q i
theorem r_strike {s : xs} {p k a b t c : Nat} {Q : Nat → Int32} (h : bRel s p Q) (ht : Q 0 = nI t) (hk : k < 8) (hc : c * 12 ≤ t) : bRel (sStrike s p k a b c) p (qStrike Q k a b t c) := by
  obtain ⟨⟨b0, b1, b2, b3, b4, b5, b6, b7⟩, br⟩ := h
  refine ⟨⟨?_, ?_, ?_, ?_, ?_, ?_, ?_, ?_⟩, fun j hj => ?_⟩
  · simp only [qStrike]
    (repeat (first | rw [if_pos (by omega)] | rw [if_neg (by omega)]))
    (simp [sStrike, sSec, put_val, setP_val]) <;> (first | exact b0 | rfl)
  · simp only [qStrike]
    (repeat (first | rw [if_pos (by omega)] | rw [if_neg (by omega)]))
    (simp [sStrike, sSec, put_val, setP_val]) <;> (rw [b1, ht, pk_sub hc, Nat.mul_comm])
  · simp only [qStrike]
    (repeat (first | rw [if_pos (by omega)] | rw [if_neg (by omega)]))
    (simp [sStrike, sSec, put_val, setP_val]) <;> (first | exact b2 | rfl)
  · simp only [qStrike]
    (repeat (first | rw [if_pos (by omega)] | rw [if_neg (by omega)]))
    (simp [sStrike, sSec, put_val, setP_val]) <;> (first | exact b3 | rfl)
  · simp only [qStrike]
    (repeat (first | rw [if_pos (by omega)] | rw [if_neg (by omega)]))
    (simp [sStrike, sSec, put_val, setP_val]) <;> (rw [b4])
  · simp only [qStrike]
    (repeat (first | rw [if_pos (by omega)] | rw [if_neg (by omega)]))
    (simp [sStrike, sSec, put_val, setP_val]) <;> (first | exact b5 | rfl)
  · simp only [qStrike]
    (repeat (first | rw [if_pos (by omega)] | rw [if_neg (by omega)]))
    (simp [sStrike, sSec, put_val, setP_val]) <;> (first | exact b6 | rfl)
  · simp only [qStrike]
    (repeat (first | rw [if_pos (by omega)] | rw [if_neg (by omega)]))
    (simp [sStrike, sSec, put_val, setP_val]) <;> (first | exact b7 | rfl)
  · obtain ⟨r1, r2, r3, r4⟩ := br j hj
    by_cases e : j = k
    · subst e
      refine ⟨?_, ?_, ?_, ?_⟩
      · simp only [qStrike]
        (repeat (first | rw [if_pos (by omega)] | rw [if_neg (by omega)]))
        (simp [sStrike, sSec, put_val, setP_val]) <;> (first | exact r1 | rfl)
      · simp only [qStrike]
        (repeat (first | rw [if_pos (by omega)] | rw [if_neg (by omega)]))
        (simp [sStrike, sSec, put_val, setP_val]) <;> (first | exact r2 | rfl)
      · simp only [qStrike]
        (repeat (first | rw [if_pos (by omega)] | rw [if_neg (by omega)]))
        (simp [sStrike, sSec, put_val, setP_val]) <;> (first | exact r3 | rfl)
      · simp only [qStrike]
        (repeat (first | rw [if_pos (by omega)] | rw [if_neg (by omega)]))
        (simp [sStrike, sSec, put_val, setP_val]) <;> (rw [r4])
    · refine ⟨?_, ?_, ?_, ?_⟩
      · simp only [qStrike]
        (repeat (first | rw [if_pos (by omega)] | rw [if_neg (by omega)]))
        (simp [sStrike, sSec, put_val, setP_val, e]) <;> (first | exact r1 | rfl)
      · simp only [qStrike]
        (repeat (first | rw [if_pos (by omega)] | rw [if_neg (by omega)]))
        (simp [sStrike, sSec, put_val, setP_val, e]) <;> (first | exact r2 | rfl)
      · simp only [qStrike]
        (repeat (first | rw [if_pos (by omega)] | rw [if_neg (by omega)]))
        (simp [sStrike, sSec, put_val, setP_val, e]) <;> (first | exact r3 | rfl)
      · simp only [qStrike]
        (repeat (first | rw [if_pos (by omega)] | rw [if_neg (by omega)]))
        (simp [sStrike, sSec, put_val, setP_val, e]) <;> (first | exact r4 | rfl)
theorem r_begin {s : xs} {p : Nat} {w x v : Int32} {Q : Nat → Int32} (h : bRel s p Q) : bRel (sBegin s p w x v) p (qBegin Q w x v) := by
  obtain ⟨⟨b0, b1, b2, b3, b4, b5, b6, b7⟩, br⟩ := h
  refine ⟨⟨?_, ?_, ?_, ?_, ?_, ?_, ?_, ?_⟩, fun j hj => ?_⟩
  · simp only [qBegin]
    (repeat (first | rw [if_pos (by omega)] | rw [if_neg (by omega)]))
    (simp [sBegin, put_val, setP_val]) <;> (first | exact b0 | rfl)
  · simp only [qBegin]
    (repeat (first | rw [if_pos (by omega)] | rw [if_neg (by omega)]))
    (simp [sBegin, put_val, setP_val]) <;> (first | exact b1 | rfl)
  · simp only [qBegin]
    (repeat (first | rw [if_pos (by omega)] | rw [if_neg (by omega)]))
    (simp [sBegin, put_val, setP_val]) <;> (first | exact b2 | rfl)
  · simp only [qBegin]
    (repeat (first | rw [if_pos (by omega)] | rw [if_neg (by omega)]))
    (simp [sBegin, put_val, setP_val]) <;> (first | exact b3 | rfl)
  · simp only [qBegin]
    (repeat (first | rw [if_pos (by omega)] | rw [if_neg (by omega)]))
    (simp [sBegin, put_val, setP_val]) <;> (first | exact b4 | rfl)
  · simp only [qBegin]
    (repeat (first | rw [if_pos (by omega)] | rw [if_neg (by omega)]))
    (simp [sBegin, put_val, setP_val]) <;> (first | exact b5 | rfl)
  · simp only [qBegin]
    (repeat (first | rw [if_pos (by omega)] | rw [if_neg (by omega)]))
    (simp [sBegin, put_val, setP_val]) <;> (first | exact b6 | rfl)
  · simp only [qBegin]
    (repeat (first | rw [if_pos (by omega)] | rw [if_neg (by omega)]))
    (simp [sBegin, put_val, setP_val]) <;> (first | exact b7 | rfl)
  · obtain ⟨r1, r2, r3, r4⟩ := br j hj
    by_cases e : j = 0
    · subst e
      refine ⟨?_, ?_, ?_, ?_⟩
      · simp only [qBegin]
        (repeat (first | rw [if_pos (by omega)] | rw [if_neg (by omega)]))
        (simp [sBegin, put_val, setP_val]) <;> (first | exact r1 | rfl)
      · simp only [qBegin]
        (repeat (first | rw [if_pos (by omega)] | rw [if_neg (by omega)]))
        (simp [sBegin, put_val, setP_val]) <;> (first | exact r2 | rfl)
      · simp only [qBegin]
        (repeat (first | rw [if_pos (by omega)] | rw [if_neg (by omega)]))
        (simp [sBegin, put_val, setP_val]) <;> (first | exact r3 | rfl)
      · simp only [qBegin]
        (repeat (first | rw [if_pos (by omega)] | rw [if_neg (by omega)]))
        (simp [sBegin, put_val, setP_val]) <;> (first | exact r4 | rfl)
    · refine ⟨?_, ?_, ?_, ?_⟩
      · simp only [qBegin]
        (repeat (first | rw [if_pos (by omega)] | rw [if_neg (by omega)]))
        (simp [sBegin, put_val, setP_val, e]) <;> (first | exact r1 | rfl)
      · simp only [qBegin]
        (repeat (first | rw [if_pos (by omega)] | rw [if_neg (by omega)]))
        (simp [sBegin, put_val, setP_val, e]) <;> (first | exact r2 | rfl)
      · simp only [qBegin]
        (repeat (first | rw [if_pos (by omega)] | rw [if_neg (by omega)]))
        (simp [sBegin, put_val, setP_val, e]) <;> (first | exact r3 | rfl)
      · simp only [qBegin]
        (repeat (first | rw [if_pos (by omega)] | rw [if_neg (by omega)]))
        (simp [sBegin, put_val, setP_val, e]) <;> (first | exact r4 | rfl)
theorem sHot_at {s : xs} {p : Nat} : ∀ n j, (sHot s p n).1 (p + 6) j = if j < n then s.1 (p + 6) j - s.1 (p + 6) j * s.1 p 2 / nI 1000 else s.1 (p + 6) j
  | 0, j => (if_neg (Nat.not_lt_zero _)).symm
  | n + 1, j => by
    rw [sHot, put_val, if_pos rfl, sHot_at n n, sHot_at n j, (sHot_out n).1 p (by omega)]
    by_cases e : j = n
    · subst e
      (repeat (first | rw [if_pos (by omega)] | rw [if_neg (by omega)]))
    · (repeat (first | rw [if_pos (by omega)] | rw [if_neg (by omega)]))
      by_cases e2 : j < n
      · (repeat (first | rw [if_pos (by omega)] | rw [if_neg (by omega)]))
      · (repeat (first | rw [if_pos (by omega)] | rw [if_neg (by omega)]))
theorem sHs_at {s : xs} {p : Nat} : ∀ n, sHs s p n = csum (fun k => s.1 (p + 6) k * s.1 p 2 / nI 1000) n
  | 0 => rfl
  | n + 1 => by
    rw [sHs, csum, sHs_at n, sHot_at n n, (sHot_out n).1 p (by omega), if_neg (Nat.lt_irrefl _)]
theorem r_heat {s : xs} {p n : Nat} {Q : Nat → Int32} (h : bRel s p Q) (hn8 : n ≤ 8) : bRel (sWarm s p n) p (qHeat Q n) ∧ sHs s p n = csum (qLoss Q) n := by
  have hs : sHs s p n = csum (qLoss Q) n := by
    rw [sHs_at]
    refine csum_congr fun k hk => ?_
    rw [(h.2 k (by omega)).2.2.1, h.1.2.2.1]
    rfl
  refine ⟨?_, hs⟩
  obtain ⟨⟨b0, b1, b2, b3, b4, b5, b6, b7⟩, br⟩ := h
  refine ⟨⟨?_, ?_, ?_, ?_, ?_, ?_, ?_, ?_⟩, fun j hj => ?_⟩
  · simp only [qHeat, qHot]
    (repeat (first | rw [if_pos (by omega)] | rw [if_neg (by omega)]))
    (simp [sWarm, put_val]) <;> (rw [(sHot_out n).1 _ (by omega)]; exact b0)
  · simp only [qHeat, qHot]
    (repeat (first | rw [if_pos (by omega)] | rw [if_neg (by omega)]))
    (simp [sWarm, put_val]) <;> (rfl)
  · simp only [qHeat, qHot]
    (repeat (first | rw [if_pos (by omega)] | rw [if_neg (by omega)]))
    (simp [sWarm, put_val]) <;> (rw [(sHot_out n).1 _ (by omega)]; exact b2)
  · simp only [qHeat, qHot]
    (repeat (first | rw [if_pos (by omega)] | rw [if_neg (by omega)]))
    (simp [sWarm, put_val]) <;> (rw [(sHot_out n).1 _ (by omega)]; rw [b3])
  · simp only [qHeat, qHot]
    (repeat (first | rw [if_pos (by omega)] | rw [if_neg (by omega)]))
    (simp [sWarm, put_val]) <;> (rw [(sHot_out n).1 _ (by omega)]; exact b4)
  · simp only [qHeat, qHot]
    (repeat (first | rw [if_pos (by omega)] | rw [if_neg (by omega)]))
    (simp [sWarm, put_val]) <;> (rw [(sHot_out n).1 _ (by omega)]; rw [b5, hs])
  · simp only [qHeat, qHot]
    (repeat (first | rw [if_pos (by omega)] | rw [if_neg (by omega)]))
    (simp [sWarm, put_val]) <;> (rw [(sHot_out n).1 _ (by omega)]; exact b6)
  · simp only [qHeat, qHot]
    (repeat (first | rw [if_pos (by omega)] | rw [if_neg (by omega)]))
    (simp [sWarm, put_val]) <;> (rw [(sHot_out n).1 _ (by omega)]; exact b7)
  · obtain ⟨r1, r2, r3, r4⟩ := br j hj
    refine ⟨?_, ?_, ?_, ?_⟩
    · simp only [qHeat, qHot]
      (repeat (first | rw [if_pos (by omega)] | rw [if_neg (by omega)]))
      (simp [sWarm, put_val]) <;> (rw [(sHot_out n).1 _ (by omega)]; exact r1)
    · simp only [qHeat, qHot]
      (repeat (first | rw [if_pos (by omega)] | rw [if_neg (by omega)]))
      (simp [sWarm, put_val]) <;> (rw [(sHot_out n).1 _ (by omega)]; exact r2)
    · rw [show (sWarm s p n).1 (p + 6) j = (sHot s p n).1 (p + 6) j from by simp [sWarm, put_val], sHot_at]
      simp only [qHeat, qHot]
      by_cases e : j < n
      · (repeat (first | rw [if_pos (by omega)] | rw [if_neg (by omega)]))
        rw [r3, b2]
      · (repeat (first | rw [if_pos (by omega)] | rw [if_neg (by omega)]))
        exact r3
    · simp only [qHeat, qHot]
      (repeat (first | rw [if_pos (by omega)] | rw [if_neg (by omega)]))
      (simp [sWarm, put_val]) <;> (rw [(sHot_out n).1 _ (by omega)]; exact r4)
theorem sCopyPart_at {s : xs} {p f t r j : Nat} (hr : r = p + 2 ∨ r = p + 4 ∨ r = p + 6 ∨ r = p + 8) : (sCopyPart s p f t).1 r j = if j = t then s.1 r f else s.1 r j := by
  rcases hr with rfl | rfl | rfl | rfl <;> simp [sCopyPart, put_val]
theorem sUp_at {s : xs} {p n r : Nat} (hr : r = p + 2 ∨ r = p + 4 ∨ r = p + 6 ∨ r = p + 8) : ∀ d j, d ≤ n → (sUp s p n d).1 r j = if n - d < j ∧ j ≤ n then s.1 r (j - 1) else s.1 r j
  | 0, j, _ => (if_neg (by omega)).symm
  | d + 1, j, hd => by
    rw [sUp, sCopyPart_at hr, sUp_at hr d _ (by omega), sUp_at hr d _ (by omega)]
    by_cases e : j = n - d
    · subst e
      rw [if_pos rfl, if_neg (by omega), if_pos (by omega)]
    · rw [if_neg e]
      by_cases e2 : n - d < j ∧ j ≤ n
      · rw [if_pos e2, if_pos (by omega)]
      · rw [if_neg e2, if_neg (by omega)]
theorem sDn_at {s : xs} {p k r : Nat} (hr : r = p + 2 ∨ r = p + 4 ∨ r = p + 6 ∨ r = p + 8) : ∀ d j, (sDn s p k d).1 r j = if k ≤ j ∧ j < k + d then s.1 r (j + 1) else s.1 r j
  | 0, j => (if_neg (by omega)).symm
  | d + 1, j => by
    rw [sDn, sCopyPart_at hr, sDn_at hr d _, sDn_at hr d _]
    by_cases e : j = k + d
    · subst e
      rw [if_pos rfl, if_neg (by omega), if_pos (by omega)]
    · rw [if_neg e]
      by_cases e2 : k ≤ j ∧ j < k + d
      · rw [if_pos e2, if_pos (by omega)]
      · rw [if_neg e2, if_neg (by omega)]
theorem r_cut {s : xs} {p k n : Nat} {c : Int32} {Q : Nat → Int32} (h : bRel s p Q) (hn : Q 7 = nI n) (hn8 : n < 8) (hk : k < n) : bRel (sSplit s p k n c) p (qCut Q k n c) := by
  obtain ⟨⟨b0, b1, b2, b3, b4, b5, b6, b7⟩, br⟩ := h
  refine ⟨⟨?_, ?_, ?_, ?_, ?_, ?_, ?_, ?_⟩, fun j hj => ?_⟩
  · simp only [qCut]
    (repeat (first | rw [if_pos (by omega)] | rw [if_neg (by omega)]))
    (simp [sSplit, put_val]) <;> (rw [(sUp_out (s := s) (p := p) (n := n) (n - k)).1 p (by omega) (by omega) (by omega) (by omega)]; rw [b0, hn]; exact nI_add n 1)
  · simp only [qCut]
    (repeat (first | rw [if_pos (by omega)] | rw [if_neg (by omega)]))
    (simp [sSplit, put_val]) <;> (rw [(sUp_out (s := s) (p := p) (n := n) (n - k)).1 p (by omega) (by omega) (by omega) (by omega)]; exact b1)
  · simp only [qCut]
    (repeat (first | rw [if_pos (by omega)] | rw [if_neg (by omega)]))
    (simp [sSplit, put_val]) <;> (rw [(sUp_out (s := s) (p := p) (n := n) (n - k)).1 p (by omega) (by omega) (by omega) (by omega)]; exact b2)
  · simp only [qCut]
    (repeat (first | rw [if_pos (by omega)] | rw [if_neg (by omega)]))
    (simp [sSplit, put_val]) <;> (rw [(sUp_out (s := s) (p := p) (n := n) (n - k)).1 p (by omega) (by omega) (by omega) (by omega)]; exact b3)
  · simp only [qCut]
    (repeat (first | rw [if_pos (by omega)] | rw [if_neg (by omega)]))
    (simp [sSplit, put_val]) <;> (rw [(sUp_out (s := s) (p := p) (n := n) (n - k)).1 p (by omega) (by omega) (by omega) (by omega)]; exact b4)
  · simp only [qCut]
    (repeat (first | rw [if_pos (by omega)] | rw [if_neg (by omega)]))
    (simp [sSplit, put_val]) <;> (rw [(sUp_out (s := s) (p := p) (n := n) (n - k)).1 p (by omega) (by omega) (by omega) (by omega)]; exact b5)
  · simp only [qCut]
    (repeat (first | rw [if_pos (by omega)] | rw [if_neg (by omega)]))
    (simp [sSplit, put_val]) <;> (rw [(sUp_out (s := s) (p := p) (n := n) (n - k)).1 p (by omega) (by omega) (by omega) (by omega)]; exact b6)
  · simp only [qCut]
    (repeat (first | rw [if_pos (by omega)] | rw [if_neg (by omega)]))
    (simp [sSplit, put_val]) <;> (rw [(sUp_out (s := s) (p := p) (n := n) (n - k)).1 p (by omega) (by omega) (by omega) (by omega)]; exact b7)
  · obtain ⟨k1, k2, k3, k4⟩ := br k (by omega)
    obtain ⟨r1, r2, r3, r4⟩ := br j hj
    obtain ⟨v1, v2, v3, v4⟩ := br (j - 1) (by omega)
    have uW : ∀ j, (sUp s p n (n - k)).1 (p + 2) j = if n - (n - k) < j ∧ j ≤ n then s.1 (p + 2) (j - 1) else s.1 (p + 2) j := fun j => sUp_at (by omega) _ _ (by omega)
    have uH : ∀ j, (sUp s p n (n - k)).1 (p + 4) j = if n - (n - k) < j ∧ j ≤ n then s.1 (p + 4) (j - 1) else s.1 (p + 4) j := fun j => sUp_at (by omega) _ _ (by omega)
    have uV : ∀ j, (sUp s p n (n - k)).1 (p + 6) j = if n - (n - k) < j ∧ j ≤ n then s.1 (p + 6) (j - 1) else s.1 (p + 6) j := fun j => sUp_at (by omega) _ _ (by omega)
    have uB : ∀ j, (sUp s p n (n - k)).1 (p + 8) j = if n - (n - k) < j ∧ j ≤ n then s.1 (p + 8) (j - 1) else s.1 (p + 8) j := fun j => sUp_at (by omega) _ _ (by omega)
    refine ⟨?_, ?_, ?_, ?_⟩
    · rw [show (sSplit s p k n c).1 (p + 2) j = (sUp s p n (n - k)).1 (p + 2) j from by simp [sSplit, put_val], uW]
      simp only [qCut]
      by_cases e : k < j ∧ j ≤ n
      · (repeat (first | rw [if_pos (by omega)] | rw [if_neg (by omega)]))
        rw [v1]
        congr 1
        omega
      · (repeat (first | rw [if_pos (by omega)] | rw [if_neg (by omega)]))
        exact r1
    · rw [show (sSplit s p k n c).1 (p + 4) j = (sUp s p n (n - k)).1 (p + 4) j from by simp [sSplit, put_val], uH]
      simp only [qCut]
      by_cases e : k < j ∧ j ≤ n
      · (repeat (first | rw [if_pos (by omega)] | rw [if_neg (by omega)]))
        rw [v2]
        congr 1
        omega
      · (repeat (first | rw [if_pos (by omega)] | rw [if_neg (by omega)]))
        exact r2
    · simp only [qCut]
      by_cases e1 : j = k
      · subst e1
        (repeat (first | rw [if_pos (by omega)] | rw [if_neg (by omega)]))
        (simp [sSplit, put_val]) <;> (rw [uW, uH]; (repeat (first | rw [if_pos (by omega)] | rw [if_neg (by omega)])); rw [k1, k2])
      · by_cases e2 : j = k + 1
        · subst e2
          (repeat (first | rw [if_pos (by omega)] | rw [if_neg (by omega)]))
          (simp [sSplit, put_val]) <;> (rw [uW, uH, uV]; (repeat (first | rw [if_pos (by omega)] | rw [if_neg (by omega)])); rw [k1, k2, k3])
        · rw [show (sSplit s p k n c).1 (p + 6) j = (sUp s p n (n - k)).1 (p + 6) j from by simp [sSplit, put_val, e1, e2], uV]
          by_cases e : k < j ∧ j ≤ n
          · (repeat (first | rw [if_pos (by omega)] | rw [if_neg (by omega)]))
            rw [v3]
            congr 1
            omega
          · (repeat (first | rw [if_pos (by omega)] | rw [if_neg (by omega)]))
            exact r3
    · rw [show (sSplit s p k n c).1 (p + 8) j = (sUp s p n (n - k)).1 (p + 8) j from by simp [sSplit, put_val], uB]
      simp only [qCut]
      by_cases e : k < j ∧ j ≤ n
      · (repeat (first | rw [if_pos (by omega)] | rw [if_neg (by omega)]))
        rw [v4]
        congr 1
        omega
      · (repeat (first | rw [if_pos (by omega)] | rw [if_neg (by omega)]))
        exact r4
theorem r_weld {s : xs} {p k n : Nat} {Q : Nat → Int32} (h : bRel s p Q) (hn8 : n ≤ 8) (hk : k + 1 < n) : bRel (sJoin s p k n) p (qWeld Q k n) := by
  obtain ⟨⟨b0, b1, b2, b3, b4, b5, b6, b7⟩, br⟩ := h
  refine ⟨⟨?_, ?_, ?_, ?_, ?_, ?_, ?_, ?_⟩, fun j hj => ?_⟩
  · simp only [sJoin, qWeld]
    rw [(sDn_out (p := p) (k := k + 1) (n - 1 - (k + 1))).1 p (by omega) (by omega) (by omega) (by omega)]
    (repeat (first | rw [if_pos (by omega)] | rw [if_neg (by omega)]))
    (simp [put_val]) <;> (rfl)
  · simp only [sJoin, qWeld]
    rw [(sDn_out (p := p) (k := k + 1) (n - 1 - (k + 1))).1 p (by omega) (by omega) (by omega) (by omega)]
    (repeat (first | rw [if_pos (by omega)] | rw [if_neg (by omega)]))
    (simp [put_val]) <;> (exact b1)
  · simp only [sJoin, qWeld]
    rw [(sDn_out (p := p) (k := k + 1) (n - 1 - (k + 1))).1 p (by omega) (by omega) (by omega) (by omega)]
    (repeat (first | rw [if_pos (by omega)] | rw [if_neg (by omega)]))
    (simp [put_val]) <;> (exact b2)
  · simp only [sJoin, qWeld]
    rw [(sDn_out (p := p) (k := k + 1) (n - 1 - (k + 1))).1 p (by omega) (by omega) (by omega) (by omega)]
    (repeat (first | rw [if_pos (by omega)] | rw [if_neg (by omega)]))
    (simp [put_val]) <;> (exact b3)
  · simp only [sJoin, qWeld]
    rw [(sDn_out (p := p) (k := k + 1) (n - 1 - (k + 1))).1 p (by omega) (by omega) (by omega) (by omega)]
    (repeat (first | rw [if_pos (by omega)] | rw [if_neg (by omega)]))
    (simp [put_val]) <;> (exact b4)
  · simp only [sJoin, qWeld]
    rw [(sDn_out (p := p) (k := k + 1) (n - 1 - (k + 1))).1 p (by omega) (by omega) (by omega) (by omega)]
    (repeat (first | rw [if_pos (by omega)] | rw [if_neg (by omega)]))
    (simp [put_val]) <;> (exact b5)
  · simp only [sJoin, qWeld]
    rw [(sDn_out (p := p) (k := k + 1) (n - 1 - (k + 1))).1 p (by omega) (by omega) (by omega) (by omega)]
    (repeat (first | rw [if_pos (by omega)] | rw [if_neg (by omega)]))
    (simp [put_val]) <;> (exact b6)
  · simp only [sJoin, qWeld]
    rw [(sDn_out (p := p) (k := k + 1) (n - 1 - (k + 1))).1 p (by omega) (by omega) (by omega) (by omega)]
    (repeat (first | rw [if_pos (by omega)] | rw [if_neg (by omega)]))
    (simp [put_val]) <;> (exact b7)
  · obtain ⟨k1, k2, k3, k4⟩ := br (k + 1) (by omega)
    obtain ⟨r1, r2, r3, r4⟩ := br j hj
    refine ⟨?_, ?_, ?_, ?_⟩
    · simp only [sJoin]
      rw [sDn_at (by omega)]
      simp only [qWeld]
      by_cases e : k + 1 ≤ j ∧ j < k + 1 + (n - 1 - (k + 1))
      · obtain ⟨v1, v2, v3, v4⟩ := br (j + 1) (by omega)
        (repeat (first | rw [if_pos (by omega)] | rw [if_neg (by omega)]))
        (simp [put_val]) <;> (rw [v1]; rfl)
      · (repeat (first | rw [if_pos (by omega)] | rw [if_neg (by omega)]))
        (simp [put_val]) <;> (exact r1)
    · simp only [sJoin]
      rw [sDn_at (by omega)]
      simp only [qWeld]
      by_cases e : k + 1 ≤ j ∧ j < k + 1 + (n - 1 - (k + 1))
      · obtain ⟨v1, v2, v3, v4⟩ := br (j + 1) (by omega)
        (repeat (first | rw [if_pos (by omega)] | rw [if_neg (by omega)]))
        (simp [put_val]) <;> (rw [v2]; rfl)
      · (repeat (first | rw [if_pos (by omega)] | rw [if_neg (by omega)]))
        (simp [put_val]) <;> (exact r2)
    · simp only [sJoin]
      rw [sDn_at (by omega)]
      simp only [qWeld]
      by_cases e1 : j = k
      · subst e1
        (repeat (first | rw [if_pos (by omega)] | rw [if_neg (by omega)]))
        (simp [put_val]) <;> (rw [r3, k3]; rfl)
      · by_cases e : k + 1 ≤ j ∧ j < k + 1 + (n - 1 - (k + 1))
        · obtain ⟨v1, v2, v3, v4⟩ := br (j + 1) (by omega)
          (repeat (first | rw [if_pos (by omega)] | rw [if_neg (by omega)]))
          (simp [put_val, show ¬ j + 1 = k by omega]) <;> (rw [v3]; rfl)
        · (repeat (first | rw [if_pos (by omega)] | rw [if_neg (by omega)]))
          (simp [put_val, e1]) <;> (exact r3)
    · simp only [sJoin]
      rw [sDn_at (by omega)]
      simp only [qWeld]
      by_cases e1 : j = k
      · subst e1
        (repeat (first | rw [if_pos (by omega)] | rw [if_neg (by omega)]))
        (simp [put_val]) <;> (rw [r4, k4]; rfl)
      · by_cases e : k + 1 ≤ j ∧ j < k + 1 + (n - 1 - (k + 1))
        · obtain ⟨v1, v2, v3, v4⟩ := br (j + 1) (by omega)
          (repeat (first | rw [if_pos (by omega)] | rw [if_neg (by omega)]))
          (simp [put_val, show ¬ j + 1 = k by omega]) <;> (rw [v4]; rfl)
        · (repeat (first | rw [if_pos (by omega)] | rw [if_neg (by omega)]))
          (simp [put_val, e1]) <;> (exact r4)
theorem r_drop {s : xs} {p n : Nat} {Q : Nat → Int32} (h : bRel s p Q) (h1 : 1 ≤ n) (hn8 : n ≤ 8) : bRel (sDrop s p n) p (qDrop Q n) := by
  obtain ⟨⟨b0, b1, b2, b3, b4, b5, b6, b7⟩, br⟩ := h
  refine ⟨⟨?_, ?_, ?_, ?_, ?_, ?_, ?_, ?_⟩, fun j hj => ?_⟩
  · simp only [qDrop]
    (repeat (first | rw [if_pos (by omega)] | rw [if_neg (by omega)]))
    (simp [sDrop, put_val, setP_val]) <;> (first | exact b0 | rfl)
  · simp only [qDrop]
    (repeat (first | rw [if_pos (by omega)] | rw [if_neg (by omega)]))
    (simp [sDrop, put_val, setP_val]) <;> (first | exact b1 | rfl)
  · simp only [qDrop]
    (repeat (first | rw [if_pos (by omega)] | rw [if_neg (by omega)]))
    (simp [sDrop, put_val, setP_val]) <;> (first | exact b2 | rfl)
  · simp only [qDrop]
    (repeat (first | rw [if_pos (by omega)] | rw [if_neg (by omega)]))
    (simp [sDrop, put_val, setP_val]) <;> (first | exact b3 | rfl)
  · simp only [qDrop]
    (repeat (first | rw [if_pos (by omega)] | rw [if_neg (by omega)]))
    (simp [sDrop, put_val, setP_val]) <;> (first | exact b4 | rfl)
  · simp only [qDrop]
    (repeat (first | rw [if_pos (by omega)] | rw [if_neg (by omega)]))
    (simp [sDrop, put_val, setP_val]) <;> (first | exact b5 | rfl)
  · simp only [qDrop]
    (repeat (first | rw [if_pos (by omega)] | rw [if_neg (by omega)]))
    (simp [sDrop, put_val, setP_val]) <;> (rw [b6, (br (n - 1) (by omega)).2.2.1, show 11 + 4 * (n - 1) = 7 + 4 * n by omega])
  · simp only [qDrop]
    (repeat (first | rw [if_pos (by omega)] | rw [if_neg (by omega)]))
    (simp [sDrop, put_val, setP_val]) <;> (first | exact b7 | rfl)
  · obtain ⟨r1, r2, r3, r4⟩ := br j hj
    refine ⟨?_, ?_, ?_, ?_⟩
    · simp only [qDrop]
      (repeat (first | rw [if_pos (by omega)] | rw [if_neg (by omega)]))
      (simp [sDrop, put_val, setP_val]) <;> (first | exact r1 | rfl)
    · simp only [qDrop]
      (repeat (first | rw [if_pos (by omega)] | rw [if_neg (by omega)]))
      (simp [sDrop, put_val, setP_val]) <;> (first | exact r2 | rfl)
    · simp only [qDrop]
      (repeat (first | rw [if_pos (by omega)] | rw [if_neg (by omega)]))
      (simp [sDrop, put_val, setP_val]) <;> (first | exact r3 | rfl)
    · simp only [qDrop]
      (repeat (first | rw [if_pos (by omega)] | rw [if_neg (by omega)]))
      (simp [sDrop, put_val, setP_val]) <;> (first | exact r4 | rfl)
theorem r_tell {s : xs} {t m : Nat} {w x y l : Int32} {Q : Nat → Int32} (h : tRel s t Q) (hm : Q 8 = nI m) (hm8 : m < 8) : tRel (sTell s t m w x y l) t (qTell Q m w x y l) := by
  obtain ⟨t0, br⟩ := h
  refine ⟨?_, fun j hj => ?_⟩
  · simp only [qTell]
    (repeat (first | rw [if_pos (by omega)] | rw [if_neg (by omega)]))
    (simp [sTell, put_val]) <;> (rw [t0, hm]; exact nI_add m 1)
  · obtain ⟨r1, r2, r3, r4⟩ := br j hj
    by_cases e : j = m
    · subst e
      refine ⟨?_, ?_, ?_, ?_⟩
      · simp only [qTell]
        (repeat (first | rw [if_pos (by omega)] | rw [if_neg (by omega)]))
        (simp [sTell, put_val, setP_val]) <;> (first | exact r1 | rfl)
      · simp only [qTell]
        (repeat (first | rw [if_pos (by omega)] | rw [if_neg (by omega)]))
        (simp [sTell, put_val, setP_val]) <;> (first | exact r2 | rfl)
      · simp only [qTell]
        (repeat (first | rw [if_pos (by omega)] | rw [if_neg (by omega)]))
        (simp [sTell, put_val, setP_val]) <;> (first | exact r3 | rfl)
      · simp only [qTell]
        (repeat (first | rw [if_pos (by omega)] | rw [if_neg (by omega)]))
        (simp [sTell, put_val, setP_val]) <;> (first | exact r4 | rfl)
    · refine ⟨?_, ?_, ?_, ?_⟩
      · simp only [qTell]
        (repeat (first | rw [if_pos (by omega)] | rw [if_neg (by omega)]))
        (simp [sTell, put_val, setP_val, e]) <;> (first | exact r1 | rfl)
      · simp only [qTell]
        (repeat (first | rw [if_pos (by omega)] | rw [if_neg (by omega)]))
        (simp [sTell, put_val, setP_val, e]) <;> (first | exact r2 | rfl)
      · simp only [qTell]
        (repeat (first | rw [if_pos (by omega)] | rw [if_neg (by omega)]))
        (simp [sTell, put_val, setP_val, e]) <;> (first | exact r3 | rfl)
      · simp only [qTell]
        (repeat (first | rw [if_pos (by omega)] | rw [if_neg (by omega)]))
        (simp [sTell, put_val, setP_val, e]) <;> (first | exact r4 | rfl)
