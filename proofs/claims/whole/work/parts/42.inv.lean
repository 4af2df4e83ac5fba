theorem qHeat_V {Q : Nat → Int32} {n k c : Nat} (hk : k < n) (h : qPart Q k) (h1 : Q 1 = nI c) (hc : c ≤ 50) : qHeat Q n (11 + 4 * k) = nI (qn Q (11 + 4 * k) - qn Q (11 + 4 * k) * c / 1000) ∧ 1 ≤ qn Q (11 + 4 * k) - qn Q (11 + 4 * k) * c / 1000 ∧ qn Q (11 + 4 * k) - qn Q (11 + 4 * k) * c / 1000 ≤ 9000000 := by
  obtain ⟨p1, p2, p3, p4, p5, p6, p7⟩ := h
  have hm : qn Q (11 + 4 * k) * c ≤ 9000000 * 50 := Nat.mul_le_mul p7 hc
  have hm2 : qn Q (11 + 4 * k) * c ≤ qn Q (11 + 4 * k) * 50 := Nat.mul_le_mul_left _ hc
  have hd : qn Q (11 + 4 * k) * c / 1000 < qn Q (11 + 4 * k) := by
    rw [Nat.div_lt_iff_lt_mul (by decide)]
    omega
  refine ⟨?_, by omega, by omega⟩
  simp only [qHeat, qHot]
  (repeat (first | rw [if_pos (by omega)] | rw [if_neg (by omega)]))
  rw [h1]
  generalize qn Q (11 + 4 * k) = v at *
  rw [p3, pk_mul, pk_div (by omega) (by decide) (by decide), pk_sub (by omega)]
theorem i_heat {Q : Nat → Int32} (h : pInv Q) : pInv (qHeat Q (qn Q 7)) := by
  obtain ⟨⟨i7, i7a, i7b⟩, ⟨i8, i8a⟩, ⟨i0, i0a, i0b⟩, ⟨i1, i1a⟩, iP, iS, i6, i6a, i6b⟩ := h
  have lo : ∀ i, i ≠ 0 → i ≠ 2 → i ≠ 4 → (i < 11 ∨ 40 < i) → qHeat Q (qn Q 7) i = Q i := by
    intro i e0 e2 e4 e
    simp only [qHeat, qHot]
    (repeat (first | rw [if_pos (by omega)] | rw [if_neg (by omega)]))
  refine pInv_of (n := qn Q 7) (m := qn Q 8) (t := 1250) (c := qn Q 1) (x := qn Q 6) ((lo 7 (by decide) (by decide) (by decide) (by decide)).trans i7) i7a i7b ((lo 8 (by decide) (by decide) (by decide) (by decide)).trans i8) i8a rfl (by decide) (by decide) ((lo 1 (by decide) (by decide) (by decide) (by decide)).trans i1) i1a (fun k hk => ?_) (fun k hk => qStep_cg (fun i h1 h2 => lo i (by omega) (by omega) (by omega) (by omega)) (by omega) (iS k hk)) ((lo 6 (by decide) (by decide) (by decide) (by decide)).trans i6) i6a i6b
  have hp := iP k hk
  obtain ⟨p1, p2, p3, p4, p5, p6, p7⟩ := id hp
  obtain ⟨v1, v2, v3⟩ := qHeat_V hk hp i1 i1a
  refine qPart_of ?_ ?_ v1 p4 p5 v2 v3
  · rw [← p1]
    simp only [qHeat, qHot]
    (repeat (first | rw [if_pos (by omega)] | rw [if_neg (by omega)]))
  · rw [← p2]
    simp only [qHeat, qHot]
    (repeat (first | rw [if_pos (by omega)] | rw [if_neg (by omega)]))
theorem i_strike {Q : Nat → Int32} {k a b t c : Nat} (h : pInv Q) (hk : k < qn Q 7) (ha : nRg a = true) (hb : nRg b = true) (ht : 20 + 12 * c ≤ t) (ht2 : t ≤ 1250) : pInv (qStrike Q k a b t c) := by
  obtain ⟨⟨i7, i7a, i7b⟩, ⟨i8, i8a⟩, ⟨i0, i0a, i0b⟩, ⟨i1, i1a⟩, iP, iS, i6, i6a, i6b⟩ := h
  have lo : ∀ i, i ≠ 0 → i ≠ 3 → (i < 9 ∨ 40 < i) → qStrike Q k a b t c i = Q i := fun i e0 e3 e => qStrike_o e0 e3 e (by omega)
  exact pInv_of (n := qn Q 7) (m := qn Q 8) (t := t - 12 * c) (c := qn Q 1) (x := qn Q 6) ((lo 7 (by decide) (by decide) (by decide)).trans i7) i7a i7b ((lo 8 (by decide) (by decide) (by decide)).trans i8) i8a qStrike_t (by omega) (by omega) ((lo 1 (by decide) (by decide) (by decide)).trans i1) i1a (fun j hj => qStrike_part (by omega) (iP j hj) (fun _ => ha) (fun _ => hb)) (fun j hj => qStep_cg (fun i h1 h2 => lo i (by omega) (by omega) (by omega)) (by omega) (iS j hj)) ((lo 6 (by decide) (by decide) (by decide)).trans i6) i6a i6b
theorem i_begin {Q : Nat → Int32} {a b v : Nat} (h : pInv Q) (ha : nRg a = true) (hb : nRg b = true) (hv : 1 ≤ v) (hv2 : v ≤ 9000000) : pInv (qBegin Q (nI a) (nI b) (nI v)) := by
  obtain ⟨⟨i7, i7a, i7b⟩, ⟨i8, i8a⟩, ⟨i0, i0a, i0b⟩, ⟨i1, i1a⟩, iP, iS, i6, i6a, i6b⟩ := h
  refine pInv_of (n := 1) (m := qn Q 8) (t := 1250) (c := qn Q 1) (x := v) rfl (by decide) (by decide) i8 i8a rfl (by decide) (by decide) i1 i1a (fun k hk => ?_) (fun k hk => qStep_cg (fun i h1 h2 => ?_) (by omega) (iS k hk)) rfl hv hv2
  · have e : k = 0 := by omega
    subst e
    exact qPart_of (a := a) (b := b) (v := v) rfl rfl rfl ha hb hv hv2
  · simp only [qBegin]
    (repeat (first | rw [if_pos (by omega)] | rw [if_neg (by omega)]))
theorem i_upd0 {Q : Nat → Int32} {t : Nat} (h : pInv Q) (t1 : 20 ≤ t) (t2 : t ≤ 1250) : pInv (upd Q 0 (nI t)) := by
  obtain ⟨⟨i7, i7a, i7b⟩, ⟨i8, i8a⟩, ⟨i0, i0a, i0b⟩, ⟨i1, i1a⟩, iP, iS, i6, i6a, i6b⟩ := h
  exact pInv_of (n := qn Q 7) (m := qn Q 8) (t := t) (c := qn Q 1) (x := qn Q 6) i7 i7a i7b i8 i8a rfl t1 t2 i1 i1a (fun k hk => qPart_cg (pk_un (by omega)) (pk_un (by omega)) (pk_un (by omega)) (iP k hk)) (fun k hk => qStep_cg (fun i h1 h2 => pk_un (by omega)) (by omega) (iS k hk)) i6 i6a i6b
theorem i_upd1 {Q : Nat → Int32} {t : Nat} (h : pInv Q) (t2 : t ≤ 50) : pInv (upd Q 1 (nI t)) := by
  obtain ⟨⟨i7, i7a, i7b⟩, ⟨i8, i8a⟩, ⟨i0, i0a, i0b⟩, ⟨i1, i1a⟩, iP, iS, i6, i6a, i6b⟩ := h
  exact pInv_of (n := qn Q 7) (m := qn Q 8) (t := qn Q 0) (c := t) (x := qn Q 6) i7 i7a i7b i8 i8a i0 i0a i0b rfl t2 (fun k hk => qPart_cg (pk_un (by omega)) (pk_un (by omega)) (pk_un (by omega)) (iP k hk)) (fun k hk => qStep_cg (fun i h1 h2 => pk_un (by omega)) (by omega) (iS k hk)) i6 i6a i6b
theorem i_upd8 {Q : Nat → Int32} (h : pInv Q) : pInv (upd Q 8 (nI 0)) := by
  obtain ⟨⟨i7, i7a, i7b⟩, ⟨i8, i8a⟩, ⟨i0, i0a, i0b⟩, ⟨i1, i1a⟩, iP, iS, i6, i6a, i6b⟩ := h
  exact pInv_of (n := qn Q 7) (m := 0) (t := qn Q 0) (c := qn Q 1) (x := qn Q 6) i7 i7a i7b rfl (by decide) i0 i0a i0b i1 i1a (fun k hk => qPart_cg (pk_un (by omega)) (pk_un (by omega)) (pk_un (by omega)) (iP k hk)) (fun k hk => absurd hk (Nat.not_lt_zero _)) i6 i6a i6b
theorem i_drop {Q : Nat → Int32} (h : pInv Q) (h2 : 2 ≤ qn Q 7) : pInv (qDrop Q (qn Q 7)) := by
  obtain ⟨⟨i7, i7a, i7b⟩, ⟨i8, i8a⟩, ⟨i0, i0a, i0b⟩, ⟨i1, i1a⟩, iP, iS, i6, i6a, i6b⟩ := h
  have lo : ∀ i, i ≠ 5 → i ≠ 7 → qDrop Q (qn Q 7) i = Q i := fun i a b => (if_neg b).trans (if_neg a)
  exact pInv_of (n := qn Q 7 - 1) (m := qn Q 8) (t := qn Q 0) (c := qn Q 1) (x := qn Q 6) rfl (by omega) (by omega) i8 i8a i0 i0a i0b i1 i1a (fun k hk => qPart_cg (lo _ (by omega) (by omega)) (lo _ (by omega) (by omega)) (lo _ (by omega) (by omega)) (iP k (by omega))) (fun k hk => qStep_cg (fun i h1 h2 => lo i (by omega) (by omega)) (by omega) (iS k hk)) i6 i6a i6b
theorem i_tell {Q : Nat → Int32} {a b c d : Nat} (h : pInv Q) (h8 : qn Q 8 < 8) (ha : nRg a = true) (hb : nRg b = true) (hc : c ≤ 9) (hd : d ≤ 9999) : pInv (qTell Q (qn Q 8) (nI a) (nI b) (nI c) (nI d)) := by
  obtain ⟨⟨i7, i7a, i7b⟩, ⟨i8, i8a⟩, ⟨i0, i0a, i0b⟩, ⟨i1, i1a⟩, iP, iS, i6, i6a, i6b⟩ := h
  generalize hm : qn Q 8 = m at *
  have lo : ∀ i, i ≠ 8 → (i < 41 + 4 * m ∨ 44 + 4 * m < i) → qTell Q m (nI a) (nI b) (nI c) (nI d) i = Q i := by
    intro i e1 e2
    simp only [qTell]
    (repeat (first | rw [if_pos (by omega)] | rw [if_neg (by omega)]))
  have e8 : qTell Q m (nI a) (nI b) (nI c) (nI d) 8 = nI (m + 1) := by
    simp only [qTell]
    rw [if_neg (by omega), if_neg (by omega), if_neg (by omega), if_neg (by omega)]
    exact if_pos trivial
  have l7 : ∀ i, i < 8 → qTell Q m (nI a) (nI b) (nI c) (nI d) i = Q i := fun i hi => lo i (by omega) (by omega)
  refine pInv_of (n := qn Q 7) (m := m + 1) (t := qn Q 0) (c := qn Q 1) (x := qn Q 6) ((l7 7 (by decide)).trans i7) i7a i7b e8 (by omega) ((l7 0 (by decide)).trans i0) i0a i0b ((l7 1 (by decide)).trans i1) i1a (fun k hk => qPart_cg (lo _ (by omega) (by omega)) (lo _ (by omega) (by omega)) (lo _ (by omega) (by omega)) (iP k hk)) (fun k hk => ?_) ((l7 6 (by decide)).trans i6) i6a i6b
  by_cases e : k = m
  · subst e
    refine qStep_of (a := a) (b := b) (c := c) (d := d) (if_pos rfl) ?_ ?_ ?_ ha hb hc hd
    · exact (if_neg (by omega)).trans (if_pos rfl)
    · exact (if_neg (by omega)).trans ((if_neg (by omega)).trans (if_pos rfl))
    · exact (if_neg (by omega)).trans ((if_neg (by omega)).trans ((if_neg (by omega)).trans (if_pos rfl)))
  · obtain ⟨g1, g2, g3, g4, g5, g6, g7, g8⟩ := iS k (by omega)
    exact qStep_of ((lo _ (by omega) (by omega)).trans g1) ((lo _ (by omega) (by omega)).trans g2) ((lo _ (by omega) (by omega)).trans g3) ((lo _ (by omega) (by omega)).trans g4) g5 g6 g7 g8
theorem i_cut {Q : Nat → Int32} {k c : Nat} (h : pInv Q) (hk : k < qn Q 7) (h8 : qn Q 7 < 8) (hc : 1 ≤ c) (hl : c < qLen Q k) : pInv (qCut Q k (qn Q 7) (nI c)) := by
  obtain ⟨⟨i7, i7a, i7b⟩, ⟨i8, i8a⟩, ⟨i0, i0a, i0b⟩, ⟨i1, i1a⟩, iP, iS, i6, i6a, i6b⟩ := h
  obtain ⟨p1, p2, p3, p4, p5, p6, p7⟩ := id (iP k hk)
  have ha := nRg_iff.mp p4
  have hb := nRg_iff.mp p5
  have h0 : 0 < qn Q (9 + 4 * k) * qn Q (10 + 4 * k) := Nat.mul_pos (by omega) (by omega)
  have hx : (c + 1) * (qn Q (9 + 4 * k) * qn Q (10 + 4 * k)) ≤ qn Q (11 + 4 * k) := by
    rw [← Nat.le_div_iff_mul_le h0]
    exact hl
  have hx2 : (c + 1) * (qn Q (9 + 4 * k) * qn Q (10 + 4 * k)) = c * (qn Q (9 + 4 * k) * qn Q (10 + 4 * k)) + qn Q (9 + 4 * k) * qn Q (10 + 4 * k) := Nat.succ_mul _ _
  have hx3 : 1 * (qn Q (9 + 4 * k) * qn Q (10 + 4 * k)) ≤ c * (qn Q (9 + 4 * k) * qn Q (10 + 4 * k)) := Nat.mul_le_mul_right _ hc
  have ew : nI c * Q (9 + 4 * k) * Q (10 + 4 * k) = nI (c * (qn Q (9 + 4 * k) * qn Q (10 + 4 * k))) := by rw [p1, p2, pk_mul, pk_mul, Nat.mul_assoc]
  have ev : Q (11 + 4 * k) - nI c * Q (9 + 4 * k) * Q (10 + 4 * k) = nI (qn Q (11 + 4 * k) - c * (qn Q (9 + 4 * k) * qn Q (10 + 4 * k))) := by rw [ew]; rw [p3]; exact pk_sub (by omega)
  generalize hn : qn Q 7 = n at *
  have lo : ∀ i, i ≠ 7 → (i < 11 + 4 * k ∨ 13 + 4 * n ≤ i) → qCut Q k n (nI c) i = Q i := by
    intro i e1 e2
    simp only [qCut]
    (repeat (first | rw [if_pos (by omega)] | rw [if_neg (by omega)]))
  have l7 : ∀ i, i < 7 ∨ i = 8 → qCut Q k n (nI c) i = Q i := fun i hi => lo i (by omega) (by omega)
  have sh : ∀ i, i ≠ 11 + 4 * k → i ≠ 15 + 4 * k → 13 + 4 * k ≤ i → i < 13 + 4 * n → qCut Q k n (nI c) i = Q (i - 4) := by
    intro i e1 e2 e3 e4
    simp only [qCut]
    (repeat (first | rw [if_pos (by omega)] | rw [if_neg (by omega)]))
  have e7 : qCut Q k n (nI c) 7 = nI (n + 1) := if_pos rfl
  refine pInv_of (n := n + 1) (m := qn Q 8) (t := qn Q 0) (c := qn Q 1) (x := qn Q 6) e7 (by omega) (by omega) ((l7 8 (by decide)).trans i8) i8a ((l7 0 (by decide)).trans i0) i0a i0b ((l7 1 (by decide)).trans i1) i1a (fun j hj => ?_) (fun j hj => qStep_cg (fun i h1 h2 => lo i (by omega) (by omega)) (by omega) (iS j hj)) ((l7 6 (by decide)).trans i6) i6a i6b
  rcases Nat.lt_trichotomy j k with z | z | z
  · exact qPart_cg (lo _ (by omega) (by omega)) (lo _ (by omega) (by omega)) (lo _ (by omega) (by omega)) (iP j (by omega))
  · subst z
    refine qPart_of (v := c * (qn Q (9 + 4 * j) * qn Q (10 + 4 * j))) ((lo _ (by omega) (by omega)).trans p1) ((lo _ (by omega) (by omega)).trans p2) ?_ p4 p5 (by omega) (by omega)
    rw [← ew]
    exact (if_neg (by omega)).trans (if_pos rfl)
  · by_cases e : j = k + 1
    · subst e
      refine qPart_of (a := qn Q (9 + 4 * k)) (b := qn Q (10 + 4 * k)) (v := qn Q (11 + 4 * k) - c * (qn Q (9 + 4 * k) * qn Q (10 + 4 * k))) ?_ ?_ ?_ p4 p5 (by omega) (by omega)
      · exact ((sh _ (by omega) (by omega) (by omega) (by omega)).trans (congrArg Q (by omega))).trans p1
      · exact ((sh _ (by omega) (by omega) (by omega) (by omega)).trans (congrArg Q (by omega))).trans p2
      · rw [← ev]
        exact (if_neg (by omega)).trans ((if_neg (by omega)).trans (if_pos (by omega)))
    · exact qPart_cg (k := j - 1) ((sh _ (by omega) (by omega) (by omega) (by omega)).trans (congrArg Q (by omega))) ((sh _ (by omega) (by omega) (by omega) (by omega)).trans (congrArg Q (by omega))) ((sh _ (by omega) (by omega) (by omega) (by omega)).trans (congrArg Q (by omega))) (iP (j - 1) (by omega))
theorem i_weld {Q : Nat → Int32} {k : Nat} (h : pInv Q) (hk : k + 1 < qn Q 7) (hv : qn Q (11 + 4 * k) + qn Q (15 + 4 * k) ≤ 9000000) : pInv (qWeld Q k (qn Q 7)) := by
  obtain ⟨⟨i7, i7a, i7b⟩, ⟨i8, i8a⟩, ⟨i0, i0a, i0b⟩, ⟨i1, i1a⟩, iP, iS, i6, i6a, i6b⟩ := h
  obtain ⟨p1, p2, p3, p4, p5, p6, p7⟩ := id (iP k (by omega))
  obtain ⟨q1, q2, q3, q4, q5, q6, q7⟩ := id (iP (k + 1) hk)
  rw [show 11 + 4 * (k + 1) = 15 + 4 * k by omega] at q3
  generalize hn : qn Q 7 = n at *
  have lo : ∀ i, i ≠ 7 → (i < 11 + 4 * k ∨ 5 + 4 * n ≤ i) → qWeld Q k n i = Q i := by
    intro i e1 e2
    simp only [qWeld]
    (repeat (first | rw [if_pos (by omega)] | rw [if_neg (by omega)]))
  have l7 : ∀ i, i < 7 ∨ i = 8 → qWeld Q k n i = Q i := fun i hi => lo i (by omega) (by omega)
  have sh : ∀ i, 13 + 4 * k ≤ i → i < 5 + 4 * n → qWeld Q k n i = Q (i + 4) := by
    intro i e3 e4
    simp only [qWeld]
    (repeat (first | rw [if_pos (by omega)] | rw [if_neg (by omega)]))
  have e7 : qWeld Q k n 7 = nI (n - 1) := if_pos rfl
  refine pInv_of (n := n - 1) (m := qn Q 8) (t := qn Q 0) (c := qn Q 1) (x := qn Q 6) e7 (by omega) (by omega) ((l7 8 (by decide)).trans i8) i8a ((l7 0 (by decide)).trans i0) i0a i0b ((l7 1 (by decide)).trans i1) i1a (fun j hj => ?_) (fun j hj => qStep_cg (fun i h1 h2 => lo i (by omega) (by omega)) (by omega) (iS j hj)) ((l7 6 (by decide)).trans i6) i6a i6b
  rcases Nat.lt_trichotomy j k with z | z | z
  · exact qPart_cg (lo _ (by omega) (by omega)) (lo _ (by omega) (by omega)) (lo _ (by omega) (by omega)) (iP j (by omega))
  · subst z
    refine qPart_of (v := qn Q (11 + 4 * j) + qn Q (15 + 4 * j)) ((lo _ (by omega) (by omega)).trans p1) ((lo _ (by omega) (by omega)).trans p2) ?_ p4 p5 (by omega) hv
    rw [← nI_add, ← p3, ← q3]
    exact (if_neg (by omega)).trans ((if_pos (by omega)).trans (by rw [show 11 + 4 * j + 4 = 15 + 4 * j by omega]))
  · exact qPart_cg (k := j + 1) ((sh _ (by omega) (by omega)).trans (congrArg Q (by omega))) ((sh _ (by omega) (by omega)).trans (congrArg Q (by omega))) ((sh _ (by omega) (by omega)).trans (congrArg Q (by omega))) (iP (j + 1) (by omega))
