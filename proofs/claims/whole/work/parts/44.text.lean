/-! an order of a text, apart from all code -/
def isd (x : Int32) : Bool := inI x (nI 48) (nI 57)
def nd (g : Nat → Int32) (p : Nat) : Nat → Nat
  | 0 => 0
  | d + 1 => bif Nat.beq (nd g p d) d && isd (g (p + d)) then d + 1 else nd g p d
def nv (g : Nat → Int32) (p : Nat) : Nat → Nat
  | 0 => 0
  | d + 1 => nv g p d * 10 + (qn g (p + d) - 48)
theorem nd_le (g : Nat → Int32) (p : Nat) : ∀ d, nd g p d ≤ d
  | 0 => Nat.le_refl _
  | d + 1 => by
    have := nd_le g p d
    rw [nd]
    cases (Nat.beq (nd g p d) d && isd (g (p + d)))
    · rw [cond_false]; omega
    · rw [cond_true]
      exact Nat.le_refl _
theorem nd_go {g : Nat → Int32} {p c : Nat} (h : nd g p c = c) (h2 : isd (g (p + c)) = true) : nd g p (c + 1) = c + 1 := by rw [nd, h, h2, Nat.beq_refl]; rfl
theorem nd_stop {g : Nat → Int32} {p c : Nat} (h : nd g p c = c) (h2 : isd (g (p + c)) = false) : ∀ d, nd g p (c + d) = c
  | 0 => h
  | d + 1 => by
    rw [show c + (d + 1) = c + d + 1 from rfl, nd, nd_stop h h2 d]
    cases d with
    | zero => rw [show c + 0 = c from rfl, h2, Bool.and_false, cond_false]
    | succ d => rw [nBeq_lt (show c < c + (d + 1) by omega), Bool.false_and, cond_false]
theorem isd_of {x : Int32} (h : isd x = true) : ∃ k, x = nI k ∧ 48 ≤ k ∧ k ≤ 57 := inI_of (by decide) h (by decide)
def pNum (g : Nat → Int32) (D M p : Nat) : Nat ⊕ (Nat × Nat) := bif Nat.beq (nd g p D) 0 || isd (g (p + nd g p D)) then .inl (p + nd g p D) else bif decide (1 ≤ nv g p (nd g p D)) && decide (nv g p (nd g p D) ≤ M) then .inr (nv g p (nd g p D), p + nd g p D) else .inl p
def pTail (g : Nat → Int32) (a b D M p : Nat) : Nat ⊕ (Nat × Nat × Nat × Nat) := match pNum g D M p with
  | .inl e => .inl e
  | .inr (v, q) => .inr (a, b, v, q)
def isP (x : Int32) : Bool := inI x (nI 48) (nI 55)
def pBl (g : Nat → Int32) (p q : Nat) : Nat ⊕ (Nat × Nat × Nat × Nat) := bif isP (g (p + 1)) then (if g (p + 2) = nI 120 then pTail g q (qn g (p + 1) - 48) 2 60 (p + 3) else .inr (q, qn g (p + 1) - 48, 1, p + 2)) else .inl (p + 1)
def pCu (g : Nat → Int32) (p : Nat) : Nat ⊕ (Nat × Nat × Nat × Nat) := bif isP (g (p + 1)) then (if g (p + 2) = nI 44 then pTail g 4 (qn g (p + 1) - 48) 4 9999 (p + 3) else .inl (p + 2)) else .inl (p + 1)
def pRd (g : Nat → Int32) (p : Nat) : Nat ⊕ (Nat × Nat × Nat × Nat) := if g p = nI 104 then .inr (3, 0, 0, p + 1) else if g p = nI 99 then pCu g p else if g p = nI 100 then pBl g p 0 else if g p = nI 116 then pBl g p 1 else if g p = nI 117 then pBl g p 2 else .inl p
def pOrd (g : Nat → Int32) (p : Nat) : Nat ⊕ (Nat × Nat × Nat × Nat) := match pRd g p with
  | .inl e => .inl e
  | .inr (a, b, c, q) => if g q = nI 59 then .inr (a, b, c, q + 1) else .inl q
/-! the class reads -/
theorem xrw_134 : xrw 134 90 := ⟨by decide, fun _ _ _ => rfl, fun _ _ _ => rfl⟩
theorem xrw_136 : xrw 136 90 := ⟨by decide, fun _ _ _ => rfl, fun _ _ _ => rfl⟩
theorem xrw_138 : xrw 138 90 := ⟨by decide, fun _ _ _ => rfl, fun _ _ _ => rfl⟩
theorem xrw_140 : xrw 140 90 := ⟨by decide, fun _ _ _ => rfl, fun _ _ _ => rfl⟩
def cT (s : xs) (g : Nat → Int32) (L p o : Nat) : Prop := s.1 133 0 = nI L ∧ s.1 133 6 = nI p ∧ s.1 133 1 = nI o ∧ L ≤ 90 ∧ p < 1000 ∧ o < 90 ∧ ∀ i, (if i < L then s.1 141 i else -1) = g i
theorem e2_byteAt {s : xs} {g : Nat → Int32} {L p o i : Nat} (h : cT s g L p o) (hi : i < 2000) : Ev_X2_byteAt [.ref 133, .int (nI i)] (wd s) (.inl (some (.int (g i)))) (wd s) := by
  obtain ⟨h0, h6, h1, hL, hp, ho, hg⟩ := h
  refine ⟨Nat.le_of_ble_eq_true rfl, Nat.le_refl _, Or.inl rfl, ?_⟩
  by_cases hlt : i < L
  · refine R1 (g' := (1, _, _, _, _, _)) rfl rfl ?_
    refine R_lt 23 rfl rfl (fun h => by exact absurd h (nI_pos (by omega))) (fun h1 => ?_)
    refine R1 (g' := (5, _, _, _, _, _)) rfl rfl ?_
    refine R1 (g' := (6, _, _, _, _, _)) rfl rfl ?_
    refine R_getf rfl rfl (Nat.le_of_ble_eq_true rfl) rfl rfl ?_
    refine R_cgeN 23 (i) (L) rfl rfl (rfl) (h0) (by omega) (by omega) (fun h => by omega) (fun h9 => ?_)
    refine R1 (g' := (13, _, _, _, _, _)) rfl rfl ?_
    refine R_getf rfl rfl (Nat.le_of_ble_eq_true rfl) rfl rfl ?_
    refine R1 (g' := (17, _, _, _, _, _)) rfl rfl ?_
    refine R_call2 (Or.inr (Or.inl ⟨rfl, rfl⟩)) rfl rfl ⟨Nat.le_of_ble_eq_true rfl, Nat.le_of_ble_eq_true rfl⟩ (Nat.le_of_ble_eq_true rfl) ⟨rfl, rfl⟩ (⟨⟨_, _, _, rfl, (Nat.le_of_ble_eq_true rfl), rfl⟩, e_Row_get xrw_140 (by decide) (by omega)⟩) ?_
    refine R1 (g' := (24, _, _, _, _, _)) rfl rfl ?_
    refine R_iret rfl ?_
    exact ⟨o_i (by rw [← hg i, if_pos hlt]), rfl⟩
  · refine R1 (g' := (1, _, _, _, _, _)) rfl rfl ?_
    refine R_lt 23 rfl rfl (fun h => by exact absurd h (nI_pos (by omega))) (fun h1 => ?_)
    refine R1 (g' := (5, _, _, _, _, _)) rfl rfl ?_
    refine R1 (g' := (6, _, _, _, _, _)) rfl rfl ?_
    refine R_getf rfl rfl (Nat.le_of_ble_eq_true rfl) rfl rfl ?_
    refine R_cgeN 23 (i) (L) rfl rfl (rfl) (h0) (by omega) (by omega) (fun h9 => ?_) (fun h => by omega)
    refine R1 (g' := (24, _, .int (-1) :: _, _, _, _)) rfl rfl ?_
    refine R_iret rfl ?_
    exact ⟨o_i (by rw [← hg i, if_neg hlt]), rfl⟩
theorem e2_isDigit {s : xs} {x : Int32} : Ev_X2_isDigit [.int x] (wd s) (.inl (some (.int (bI (isd x))))) (wd s) := by
  refine ⟨Nat.le_of_ble_eq_true rfl, Nat.le_refl _, Or.inr ⟨rfl, bI_01 _⟩, ?_⟩
  refine R1 (g' := (1, _, _, _, _, _)) rfl rfl ?_
  refine R1 (g' := (3, _, .int (nI 48) :: _, _, _, _)) rfl rfl ?_
  refine R_clt 16 rfl rfl (fun h3 => ?_) (fun h3 => ?_)
  · refine R1 (g' := (17, _, .int (nI 0) :: _, _, _, _)) rfl rfl ?_
    refine R_iret rfl ?_
    exact ⟨o_i (by first | exact (bI_t (by simp only [isd, inI, Bool.and_eq_true, decide_eq_true_eq]; exact ⟨Int32.not_lt.mp h3, Int32.not_lt.mp h9⟩)).symm | exact (bI_f (by simp only [isd, inI, Bool.and_eq_false_iff, decide_eq_false_iff_not]; first | exact Or.inl (Int32.not_le.mpr h3) | exact Or.inr (Int32.not_le.mpr h9))).symm), rfl⟩
  · refine R1 (g' := (7, _, _, _, _, _)) rfl rfl ?_
    refine R1 (g' := (9, _, .int (nI 57) :: _, _, _, _)) rfl rfl ?_
    refine R_cgt 16 rfl rfl (fun h9 => ?_) (fun h9 => ?_)
    · refine R1 (g' := (17, _, .int (nI 0) :: _, _, _, _)) rfl rfl ?_
      refine R_iret rfl ?_
      exact ⟨o_i (by first | exact (bI_t (by simp only [isd, inI, Bool.and_eq_true, decide_eq_true_eq]; exact ⟨Int32.not_lt.mp h3, Int32.not_lt.mp h9⟩)).symm | exact (bI_f (by simp only [isd, inI, Bool.and_eq_false_iff, decide_eq_false_iff_not]; first | exact Or.inl (Int32.not_le.mpr h3) | exact Or.inr (Int32.not_le.mpr h9))).symm), rfl⟩
    · refine R1 (g' := (13, _, .int (nI 1) :: _, _, _, _)) rfl rfl ?_
      refine R1 (g' := (17, _, _, _, _, _)) rfl rfl ?_
      refine R_iret rfl ?_
      exact ⟨o_i (by first | exact (bI_t (by simp only [isd, inI, Bool.and_eq_true, decide_eq_true_eq]; exact ⟨Int32.not_lt.mp h3, Int32.not_lt.mp h9⟩)).symm | exact (bI_f (by simp only [isd, inI, Bool.and_eq_false_iff, decide_eq_false_iff_not]; first | exact Or.inl (Int32.not_le.mpr h3) | exact Or.inr (Int32.not_le.mpr h9))).symm), rfl⟩
theorem e2_fail {s : xs} {x : Int32} : Ev_X2_fail [.ref 133, .int x] (wd s) (.inl (some (.int (bI false)))) (wd (put s 133 7 x)) := by
  refine ⟨Nat.le_of_ble_eq_true rfl, Nat.le_refl _, Or.inr ⟨rfl, bI_01 _⟩, ?_⟩
  refine R1 (g' := (1, _, _, _, _, _)) rfl rfl ?_
  refine R1 (g' := (2, _, _, _, _, _)) rfl rfl ?_
  refine R_put rfl rfl (Nat.le_of_ble_eq_true rfl) rfl (Nat.le_of_ble_eq_true rfl) ⟨_, rfl, Or.inl rfl, _, rfl, rfl⟩ rfl ?_
  refine R1 (g' := (6, _, .int (nI 0) :: _, _, _, _)) rfl rfl ?_
  refine R_iret rfl ?_
  exact ⟨rfl, rfl⟩
theorem e2_acceptT {s : xs} {g : Nat → Int32} {L p o : Nat} {c : Int32} (h : cT s g L p o) (hc : g p = c) : Ev_X2_accept [.ref 133, .int c] (wd s) (.inl (some (.int (bI true)))) (wd (put s 133 6 (nI (p + 1)))) := by
  have h6 := h.2.1
  have hp := h.2.2.2.2.1
  refine ⟨Nat.le_of_ble_eq_true rfl, Nat.le_refl _, Or.inr ⟨rfl, bI_01 _⟩, ?_⟩
  refine R1 (g' := (1, _, _, _, _, _)) rfl rfl ?_
  refine R1 (g' := (2, _, _, _, _, _)) rfl rfl ?_
  refine R_getf rfl rfl (Nat.le_of_ble_eq_true rfl) rfl rfl ?_
  rw [h6]
  refine R_call2 (Or.inr (Or.inl ⟨rfl, rfl⟩)) rfl rfl ⟨Nat.le_of_ble_eq_true rfl, Nat.le_of_ble_eq_true rfl⟩ (Nat.le_of_ble_eq_true rfl) ⟨rfl, rfl⟩ (⟨⟨_, _, _, rfl, (Nat.le_of_ble_eq_true rfl), rfl⟩, e2_byteAt h (by omega)⟩) ?_
  refine R1 (g' := (9, _, _, _, _, _)) rfl rfl ?_
  refine R_ceq 21 rfl rfl (fun h9 => ?_) (fun h => by exact absurd hc h)
  refine R1 (g' := (22, _, _, _, _, _)) rfl rfl ?_
  refine R1 (g' := (23, _, _, _, _, _)) rfl rfl ?_
  refine R_getf rfl rfl (Nat.le_of_ble_eq_true rfl) rfl rfl ?_
  rw [h6]
  refine R1 (g' := (27, _, .int (nI 1) :: _, _, _, _)) rfl rfl ?_
  refine R1 (g' := (28, _, _, _, _, _)) rfl rfl ?_
  rw [nI_add]
  refine R_put rfl rfl (Nat.le_of_ble_eq_true rfl) rfl (Nat.le_of_ble_eq_true rfl) ⟨_, rfl, Or.inl rfl, _, rfl, rfl⟩ rfl ?_
  refine R1 (g' := (32, _, .int (nI 1) :: _, _, _, _)) rfl rfl ?_
  refine R_iret rfl ?_
  exact ⟨rfl, rfl⟩
theorem e2_acceptF {s : xs} {g : Nat → Int32} {L p o : Nat} {c : Int32} (h : cT s g L p o) (hc : g p ≠ c) : Ev_X2_accept [.ref 133, .int c] (wd s) (.inl (some (.int (bI false)))) (wd (put s 133 7 (nI p))) := by
  have h6 := h.2.1
  have hp := h.2.2.2.2.1
  refine ⟨Nat.le_of_ble_eq_true rfl, Nat.le_refl _, Or.inr ⟨rfl, bI_01 _⟩, ?_⟩
  refine R1 (g' := (1, _, _, _, _, _)) rfl rfl ?_
  refine R1 (g' := (2, _, _, _, _, _)) rfl rfl ?_
  refine R_getf rfl rfl (Nat.le_of_ble_eq_true rfl) rfl rfl ?_
  rw [h6]
  refine R_call2 (Or.inr (Or.inl ⟨rfl, rfl⟩)) rfl rfl ⟨Nat.le_of_ble_eq_true rfl, Nat.le_of_ble_eq_true rfl⟩ (Nat.le_of_ble_eq_true rfl) ⟨rfl, rfl⟩ (⟨⟨_, _, _, rfl, (Nat.le_of_ble_eq_true rfl), rfl⟩, e2_byteAt h (by omega)⟩) ?_
  refine R1 (g' := (9, _, _, _, _, _)) rfl rfl ?_
  refine R_ceq 21 rfl rfl (fun h => by exact absurd h hc) (fun h9 => ?_)
  refine R1 (g' := (13, _, _, _, _, _)) rfl rfl ?_
  refine R1 (g' := (14, _, _, _, _, _)) rfl rfl ?_
  refine R_getf rfl rfl (Nat.le_of_ble_eq_true rfl) rfl rfl ?_
  rw [h6]
  refine R_call2 (Or.inr (Or.inl ⟨rfl, rfl⟩)) rfl rfl ⟨Nat.le_of_ble_eq_true rfl, Nat.le_of_ble_eq_true rfl⟩ (Nat.le_of_ble_eq_true rfl) ⟨rfl, rfl⟩ (⟨⟨_, _, _, rfl, (Nat.le_of_ble_eq_true rfl), rfl⟩, e2_fail⟩) ?_
  refine R_iret rfl ?_
  exact ⟨rfl, rfl⟩
theorem isP_of {x : Int32} (h : isP x = true) : ∃ k, x = nI k ∧ 48 ≤ k ∧ k ≤ 55 := inI_of (by decide) h (by decide)
theorem e2_readPartT {s : xs} {g : Nat → Int32} {L p o k : Nat} (h : cT s g L p o) (hk : g p = nI (48 + k)) (hk8 : k < 8) : Ev_X2_readPart [.ref 133] (wd s) (.inl (some (.int (bI true)))) (wd (put (setP s 137 (upd (s.1 137) o (nI k))) 133 6 (nI (p + 1)))) := by
  have h6 := h.2.1
  have h1 := h.2.2.1
  have hp := h.2.2.2.2.1
  have ho := h.2.2.2.2.2.1
  refine ⟨Nat.le_of_ble_eq_true rfl, Nat.le_refl _, Or.inr ⟨rfl, bI_01 _⟩, ?_⟩
  refine R1 (g' := (1, _, _, _, _, _)) rfl rfl ?_
  refine R1 (g' := (2, _, _, _, _, _)) rfl rfl ?_
  refine R_getf rfl rfl (Nat.le_of_ble_eq_true rfl) rfl rfl ?_
  rw [h6]
  refine R_call2 (Or.inr (Or.inl ⟨rfl, rfl⟩)) rfl rfl ⟨Nat.le_of_ble_eq_true rfl, Nat.le_of_ble_eq_true rfl⟩ (Nat.le_of_ble_eq_true rfl) ⟨rfl, rfl⟩ (⟨⟨_, _, _, rfl, (Nat.le_of_ble_eq_true rfl), rfl⟩, e2_byteAt h (by omega)⟩) ?_
  refine R1 (g' := (10, _, .int (nI 48) :: _, _, _, _)) rfl rfl ?_
  rw [hk]
  refine R1 (g' := (11, _, _, _, _, _)) rfl rfl ?_
  rw [pk_sub (by omega), show 48 + k - 48 = k by omega]
  refine R1 (g' := (12, _, _, _, _, _)) rfl rfl ?_
  refine R1 (g' := (13, _, _, _, _, _)) rfl rfl ?_
  refine R_lt 22 rfl rfl (fun h => by exact absurd h (nI_pos (by omega))) (fun h13 => ?_)
  refine R1 (g' := (17, _, _, _, _, _)) rfl rfl ?_
  refine R1 (g' := (19, _, .int (nI 8) :: _, _, _, _)) rfl rfl ?_
  refine R_cltN 31 (k) (8) rfl rfl (rfl) (rfl) (by omega) (by omega) (fun h19 => ?_) (fun h => by omega)
  refine R1 (g' := (32, _, _, _, _, _)) rfl rfl ?_
  refine R_getf rfl rfl (Nat.le_of_ble_eq_true rfl) rfl rfl ?_
  refine R1 (g' := (36, _, _, _, _, _)) rfl rfl ?_
  refine R_getf rfl rfl (Nat.le_of_ble_eq_true rfl) rfl rfl ?_
  refine R1 (g' := (40, _, _, _, _, _)) rfl rfl ?_
  rw [h1]
  refine R_call3 (Or.inr (Or.inl ⟨rfl, rfl⟩)) rfl rfl ⟨Nat.le_of_ble_eq_true rfl, Nat.le_of_ble_eq_true rfl⟩ (Nat.le_of_ble_eq_true rfl) ⟨rfl, rfl⟩ (⟨⟨_, _, _, rfl, (Nat.le_of_ble_eq_true rfl), rfl⟩, e_Row_set xrw_136 (by decide) ho⟩) ?_
  refine R1 (g' := (44, _, _, _, _, _)) rfl rfl ?_
  refine R1 (g' := (45, _, _, _, _, _)) rfl rfl ?_
  refine R_getf rfl rfl (Nat.le_of_ble_eq_true rfl) rfl rfl ?_
  rw [setP_ne _ _ (by decide), h6]
  refine R1 (g' := (49, _, .int (nI 1) :: _, _, _, _)) rfl rfl ?_
  refine R1 (g' := (50, _, _, _, _, _)) rfl rfl ?_
  rw [nI_add]
  refine R_put rfl rfl (Nat.le_of_ble_eq_true rfl) rfl (Nat.le_of_ble_eq_true rfl) ⟨_, rfl, Or.inl rfl, _, rfl, rfl⟩ rfl ?_
  refine R1 (g' := (54, _, .int (nI 1) :: _, _, _, _)) rfl rfl ?_
  refine R_iret rfl ?_
  exact ⟨rfl, rfl⟩
theorem part_F {x : Int32} (h : isP x = false) : x - nI 48 < 0 ∨ ¬ x - nI 48 < nI 8 := by
  by_cases h1 : x - nI 48 < 0
  · exact Or.inl h1
  · refine Or.inr (fun h2 => ?_)
    obtain ⟨j, hj, e⟩ := nI_of h1
    have e8 : j < 8 := (nI_ltI hj (by decide)).mp (e ▸ h2)
    have ex : x = nI (48 + j) := by
      rw [show x = (x - nI 48) + nI 48 from (Int32.sub_add_cancel x (nI 48)).symm, e, nI_add, Nat.add_comm]
    rw [ex] at h
    rw [isP, inI_nI (by omega) (by decide) (by decide), decide_eq_true (by omega), decide_eq_true (by omega)] at h
    cases h
theorem e2_readPartF {s : xs} {g : Nat → Int32} {L p o : Nat} (h : cT s g L p o) (hk : isP (g p) = false) : Ev_X2_readPart [.ref 133] (wd s) (.inl (some (.int (bI false)))) (wd (put s 133 7 (nI p))) := by
  have h6 := h.2.1
  have hp := h.2.2.2.2.1
  have hF := part_F hk
  refine ⟨Nat.le_of_ble_eq_true rfl, Nat.le_refl _, Or.inr ⟨rfl, bI_01 _⟩, ?_⟩
  refine R1 (g' := (1, _, _, _, _, _)) rfl rfl ?_
  refine R1 (g' := (2, _, _, _, _, _)) rfl rfl ?_
  refine R_getf rfl rfl (Nat.le_of_ble_eq_true rfl) rfl rfl ?_
  rw [h6]
  refine R_call2 (Or.inr (Or.inl ⟨rfl, rfl⟩)) rfl rfl ⟨Nat.le_of_ble_eq_true rfl, Nat.le_of_ble_eq_true rfl⟩ (Nat.le_of_ble_eq_true rfl) ⟨rfl, rfl⟩ (⟨⟨_, _, _, rfl, (Nat.le_of_ble_eq_true rfl), rfl⟩, e2_byteAt h (by omega)⟩) ?_
  refine R1 (g' := (10, _, .int (nI 48) :: _, _, _, _)) rfl rfl ?_
  refine R1 (g' := (11, _, _, _, _, _)) rfl rfl ?_
  refine R1 (g' := (12, _, _, _, _, _)) rfl rfl ?_
  refine R1 (g' := (13, _, _, _, _, _)) rfl rfl ?_
  refine R_lt 22 rfl rfl (fun h13 => ?_) (fun h13 => ?_)
  · refine R1 (g' := (23, _, _, _, _, _)) rfl rfl ?_
    refine R1 (g' := (24, _, _, _, _, _)) rfl rfl ?_
    refine R_getf rfl rfl (Nat.le_of_ble_eq_true rfl) rfl rfl ?_
    rw [h6]
    refine R_call2 (Or.inr (Or.inl ⟨rfl, rfl⟩)) rfl rfl ⟨Nat.le_of_ble_eq_true rfl, Nat.le_of_ble_eq_true rfl⟩ (Nat.le_of_ble_eq_true rfl) ⟨rfl, rfl⟩ (⟨⟨_, _, _, rfl, (Nat.le_of_ble_eq_true rfl), rfl⟩, e2_fail⟩) ?_
    refine R_iret rfl ?_
    exact ⟨rfl, rfl⟩
  · refine R1 (g' := (17, _, _, _, _, _)) rfl rfl ?_
    refine R1 (g' := (19, _, .int (nI 8) :: _, _, _, _)) rfl rfl ?_
    refine R_clt 31 rfl rfl (fun h => by exact absurd h (hF.resolve_left (by assumption))) (fun h19 => ?_)
    refine R1 (g' := (23, _, _, _, _, _)) rfl rfl ?_
    refine R1 (g' := (24, _, _, _, _, _)) rfl rfl ?_
    refine R_getf rfl rfl (Nat.le_of_ble_eq_true rfl) rfl rfl ?_
    rw [h6]
    refine R_call2 (Or.inr (Or.inl ⟨rfl, rfl⟩)) rfl rfl ⟨Nat.le_of_ble_eq_true rfl, Nat.le_of_ble_eq_true rfl⟩ (Nat.le_of_ble_eq_true rfl) ⟨rfl, rfl⟩ (⟨⟨_, _, _, rfl, (Nat.le_of_ble_eq_true rfl), rfl⟩, e2_fail⟩) ?_
    refine R_iret rfl ?_
    exact ⟨rfl, rfl⟩
theorem cT_pos {s : xs} {g : Nat → Int32} {L p o q : Nat} (h : cT s g L p o) (hq : q < 1000) : cT (put s 133 6 (nI q)) g L q o := by
  obtain ⟨h0, h6, h1, hL, hp, ho, hg⟩ := h
  refine ⟨by rw [put_val, if_pos rfl, if_neg (by decide)]; exact h0, by rw [put_val, if_pos rfl, if_pos rfl], by rw [put_val, if_pos rfl, if_neg (by decide)]; exact h1, hL, hq, ho, ?_⟩
  rw [put_ne (q := 141) s (nI q) (by decide)]
  exact hg
theorem put_self {s : xs} {i k : Nat} {v : Int32} (h : s.1 i k = v) : put s i k v = s := by
  subst h
  unfold put
  rw [show upd (s.1 i) k (s.1 i k) = s.1 i from funext fun j => by
    unfold upd
    by_cases h : j = k
    · subst h
      rw [if_pos rfl]
    · rw [if_neg h], setP_self]
theorem put_put {s : xs} {i k : Nat} {u v : Int32} : put (put s i k u) i k v = put s i k v := by
  unfold put
  rw [setP_setP, setP_at, show upd (upd (s.1 i) k u) k v = upd (s.1 i) k v from funext fun j => by
    unfold upd
    by_cases h : j = k
    · rw [if_pos h, if_pos h]
    · rw [if_neg h, if_neg h, if_neg h]]
theorem nv_lt {g : Nat → Int32} {p D : Nat} : ∀ c, nd g p c = c → nv g p c < 10 ^ c
  | 0, _ => Nat.one_pos
  | c + 1, h => by
    have hl := nd_le g p c
    rw [nd] at h
    cases e : (Nat.beq (nd g p c) c && isd (g (p + c))) with
    | false =>
      rw [e, cond_false] at h
      omega
    | true =>
      rw [Bool.and_eq_true] at e
      have h1 := nv_lt (D := D) c (Nat.eq_of_beq_eq_true e.1)
      obtain ⟨k, e1, e2, e3⟩ := isd_of e.2
      rw [nv, nq e1 (by omega), Nat.pow_succ]
      omega
theorem nd_ne {g : Nat → Int32} {p c : Nat} (h : nd g p c ≠ c) : ∀ {D : Nat}, c ≤ D → nd g p D ≠ c
  | 0, hD => by
    have : c = 0 := by omega
    subst this
    exact absurd rfl h
  | D + 1, hD => by
    rcases Nat.lt_or_ge D c with z | z
    · rw [show D + 1 = c by omega]
      exact h
    · rw [nd]
      cases e : (Nat.beq (nd g p D) D && isd (g (p + D)))
      · rw [cond_false]
        exact nd_ne h z
      · rw [cond_true]
        omega
theorem rn_end {s : xs} {g : Nat → Int32} {L p o D M c : Nat} (h : cT s g L p o) (hp : p + 10 < 1000) (hD : D ≤ 4) (hM : M < 2 ^ 31) (hc : nd g p D = c) : xRun M_X2_readNumber (fun o1 w1 => (∃ e, pNum g D M p = .inl e ∧ o1 = .inl (some (.int (bI false))) ∧ w1 = wd (put (put s 133 6 (nI (p + nd g p D))) 133 7 (nI e))) ∨ ∃ v q, pNum g D M p = .inr (v, q) ∧ o1 = .inl (some (.int (bI true))) ∧ w1 = wd (setP (put s 133 6 (nI q)) 139 (upd (s.1 139) o (nI v)))) (64, [(4, .int (nI (nv g p c))), (3, .int (nI p)), (0, .ref 133), (1, .int (nI D)), (2, .int (nI M))], [], wd (put s 133 6 (nI (p + c))), 0, 0) := by
  have hcD : c ≤ D := hc ▸ nd_le g p D
  have hT := cT_pos (q := p + c) h (by omega)
  have h1 := h.2.2.1
  have ho := h.2.2.2.2.2.1
  have hcc : nd g p c = c := by
    rcases Nat.lt_or_ge c D with z | z
    · by_cases e : nd g p c = c
      · exact e
      · exact absurd hc (nd_ne e (by omega))
    · rw [show D = c by omega] at hc
      exact hc
  have hv := nv_lt (D := D) c hcc
  have hv2 : (10 : Nat) ^ c ≤ 10 ^ 4 := Nat.pow_le_pow_right (by decide) (by omega)
  have h6 : (put s 133 6 (nI (p + c))).1 133 6 = nI (p + c) := hT.2.1
  have hP : pNum g D M p = bif Nat.beq c 0 || isd (g (p + c)) then .inl (p + c) else bif decide (1 ≤ nv g p c) && decide (nv g p c ≤ M) then .inr (nv g p c, p + c) else .inl p := by unfold pNum; rw [hc]
  refine R1 (g' := (65, _, _, _, _, _)) rfl rfl ?_
  refine R_getf rfl rfl (Nat.le_of_ble_eq_true rfl) rfl rfl ?_
  refine R1 (g' := (69, _, _, _, _, _)) rfl rfl ?_
  refine R_ceqN 86 (p + c) (p) rfl rfl (h6) (rfl) (by omega) (by omega) (fun h69 => ?_) (fun h69 => ?_)
  · refine R1 (g' := (87, _, _, _, _, _)) rfl rfl ?_
    refine R1 (g' := (88, _, _, _, _, _)) rfl rfl ?_
    refine R_getf rfl rfl (Nat.le_of_ble_eq_true rfl) rfl rfl ?_
    rw [h6]
    refine R_call2 (Or.inr (Or.inl ⟨rfl, rfl⟩)) rfl rfl ⟨Nat.le_of_ble_eq_true rfl, Nat.le_of_ble_eq_true rfl⟩ (Nat.le_of_ble_eq_true rfl) ⟨rfl, rfl⟩ (⟨⟨_, _, _, rfl, (Nat.le_of_ble_eq_true rfl), rfl⟩, e2_fail⟩) ?_
    refine R_iret rfl ?_
    first
      | exact Or.inl ⟨p + c, by rw [hP, show c = 0 by omega]; rfl, rfl, by rw [hc]⟩
      | exact Or.inl ⟨p + c, by rw [hP, bI_n h83, Bool.or_true, cond_true], rfl, by rw [hc]⟩
      | exact Or.inl ⟨p, by rw [hP, bI_e h83, nBeq_0 (by omega), Bool.or_false, cond_false, decide_eq_false (show ¬ 1 ≤ nv g p c by omega), Bool.false_and, cond_false], rfl, by rw [hc]⟩
      | exact Or.inl ⟨p, by rw [hP, bI_e h83, nBeq_0 (by omega), Bool.or_false, cond_false, decide_eq_false (show ¬ nv g p c ≤ M by omega), Bool.and_false, cond_false], rfl, by rw [hc]⟩
      | exact Or.inr ⟨nv g p c, p + c, by rw [hP, bI_e h83, nBeq_0 (by omega), Bool.or_false, cond_false, decide_eq_true (show 1 ≤ nv g p c by omega), decide_eq_true (show nv g p c ≤ M by omega)]; rfl, rfl, by rw [put_ne (q := 139) s (nI (p + c)) (by decide)]⟩
  · refine R1 (g' := (73, _, _, _, _, _)) rfl rfl ?_
    refine R1 (g' := (74, _, _, _, _, _)) rfl rfl ?_
    refine R_getf rfl rfl (Nat.le_of_ble_eq_true rfl) rfl rfl ?_
    rw [h6]
    refine R_call2 (Or.inr (Or.inl ⟨rfl, rfl⟩)) rfl rfl ⟨Nat.le_of_ble_eq_true rfl, Nat.le_of_ble_eq_true rfl⟩ (Nat.le_of_ble_eq_true rfl) ⟨rfl, rfl⟩ (⟨⟨_, _, _, rfl, (Nat.le_of_ble_eq_true rfl), rfl⟩, e2_byteAt hT (by omega)⟩) ?_
    refine R_call1 (Or.inl ⟨rfl, rfl⟩) rfl rfl ⟨Nat.le_of_ble_eq_true rfl, Nat.le_of_ble_eq_true rfl⟩ (Nat.le_of_ble_eq_true rfl) ⟨rfl, rfl⟩ (e2_isDigit) ?_
    refine R_eq 95 rfl rfl (fun h83 => ?_) (fun h83 => ?_)
    · refine R1 (g' := (97, _, _, _, _, _)) rfl rfl ?_
      refine R1 (g' := (98, _, .int (nI 1) :: _, _, _, _)) rfl rfl ?_
      refine R_cltN 107 (nv g p c) (1) rfl rfl (rfl) (rfl) (by omega) (by omega) (fun h98 => ?_) (fun h98 => ?_)
      · refine R1 (g' := (108, _, _, _, _, _)) rfl rfl ?_
        refine R1 (g' := (109, _, _, _, _, _)) rfl rfl ?_
        refine R_call2 (Or.inr (Or.inl ⟨rfl, rfl⟩)) rfl rfl ⟨Nat.le_of_ble_eq_true rfl, Nat.le_of_ble_eq_true rfl⟩ (Nat.le_of_ble_eq_true rfl) ⟨rfl, rfl⟩ (⟨⟨_, _, _, rfl, (Nat.le_of_ble_eq_true rfl), rfl⟩, e2_fail⟩) ?_
        refine R_iret rfl ?_
        first
          | exact Or.inl ⟨p + c, by rw [hP, show c = 0 by omega]; rfl, rfl, by rw [hc]⟩
          | exact Or.inl ⟨p + c, by rw [hP, bI_n h83, Bool.or_true, cond_true], rfl, by rw [hc]⟩
          | exact Or.inl ⟨p, by rw [hP, bI_e h83, nBeq_0 (by omega), Bool.or_false, cond_false, decide_eq_false (show ¬ 1 ≤ nv g p c by omega), Bool.false_and, cond_false], rfl, by rw [hc]⟩
          | exact Or.inl ⟨p, by rw [hP, bI_e h83, nBeq_0 (by omega), Bool.or_false, cond_false, decide_eq_false (show ¬ nv g p c ≤ M by omega), Bool.and_false, cond_false], rfl, by rw [hc]⟩
          | exact Or.inr ⟨nv g p c, p + c, by rw [hP, bI_e h83, nBeq_0 (by omega), Bool.or_false, cond_false, decide_eq_true (show 1 ≤ nv g p c by omega), decide_eq_true (show nv g p c ≤ M by omega)]; rfl, rfl, by rw [put_ne (q := 139) s (nI (p + c)) (by decide)]⟩
      · refine R1 (g' := (103, _, _, _, _, _)) rfl rfl ?_
        refine R1 (g' := (104, _, _, _, _, _)) rfl rfl ?_
        refine R_cleN 113 (nv g p c) (M) rfl rfl (rfl) (rfl) (by omega) (by omega) (fun h104 => ?_) (fun h104 => ?_)
        · refine R1 (g' := (114, _, _, _, _, _)) rfl rfl ?_
          refine R_getf rfl rfl (Nat.le_of_ble_eq_true rfl) rfl rfl ?_
          refine R1 (g' := (118, _, _, _, _, _)) rfl rfl ?_
          refine R_getf rfl rfl (Nat.le_of_ble_eq_true rfl) rfl rfl ?_
          refine R1 (g' := (123, _, _, _, _, _)) rfl rfl ?_
          rw [put_val, if_pos rfl, if_neg (by decide), h1]
          refine R_call3 (Or.inr (Or.inl ⟨rfl, rfl⟩)) rfl rfl ⟨Nat.le_of_ble_eq_true rfl, Nat.le_of_ble_eq_true rfl⟩ (Nat.le_of_ble_eq_true rfl) ⟨rfl, rfl⟩ (⟨⟨_, _, _, rfl, (Nat.le_of_ble_eq_true rfl), rfl⟩, e_Row_set xrw_138 (by decide) ho⟩) ?_
          refine R1 (g' := (127, _, .int (nI 1) :: _, _, _, _)) rfl rfl ?_
          refine R_iret rfl ?_
          first
            | exact Or.inl ⟨p + c, by rw [hP, show c = 0 by omega]; rfl, rfl, by rw [hc]⟩
            | exact Or.inl ⟨p + c, by rw [hP, bI_n h83, Bool.or_true, cond_true], rfl, by rw [hc]⟩
            | exact Or.inl ⟨p, by rw [hP, bI_e h83, nBeq_0 (by omega), Bool.or_false, cond_false, decide_eq_false (show ¬ 1 ≤ nv g p c by omega), Bool.false_and, cond_false], rfl, by rw [hc]⟩
            | exact Or.inl ⟨p, by rw [hP, bI_e h83, nBeq_0 (by omega), Bool.or_false, cond_false, decide_eq_false (show ¬ nv g p c ≤ M by omega), Bool.and_false, cond_false], rfl, by rw [hc]⟩
            | exact Or.inr ⟨nv g p c, p + c, by rw [hP, bI_e h83, nBeq_0 (by omega), Bool.or_false, cond_false, decide_eq_true (show 1 ≤ nv g p c by omega), decide_eq_true (show nv g p c ≤ M by omega)]; rfl, rfl, by rw [put_ne (q := 139) s (nI (p + c)) (by decide)]⟩
        · refine R1 (g' := (108, _, _, _, _, _)) rfl rfl ?_
          refine R1 (g' := (109, _, _, _, _, _)) rfl rfl ?_
          refine R_call2 (Or.inr (Or.inl ⟨rfl, rfl⟩)) rfl rfl ⟨Nat.le_of_ble_eq_true rfl, Nat.le_of_ble_eq_true rfl⟩ (Nat.le_of_ble_eq_true rfl) ⟨rfl, rfl⟩ (⟨⟨_, _, _, rfl, (Nat.le_of_ble_eq_true rfl), rfl⟩, e2_fail⟩) ?_
          refine R_iret rfl ?_
          first
            | exact Or.inl ⟨p + c, by rw [hP, show c = 0 by omega]; rfl, rfl, by rw [hc]⟩
            | exact Or.inl ⟨p + c, by rw [hP, bI_n h83, Bool.or_true, cond_true], rfl, by rw [hc]⟩
            | exact Or.inl ⟨p, by rw [hP, bI_e h83, nBeq_0 (by omega), Bool.or_false, cond_false, decide_eq_false (show ¬ 1 ≤ nv g p c by omega), Bool.false_and, cond_false], rfl, by rw [hc]⟩
            | exact Or.inl ⟨p, by rw [hP, bI_e h83, nBeq_0 (by omega), Bool.or_false, cond_false, decide_eq_false (show ¬ nv g p c ≤ M by omega), Bool.and_false, cond_false], rfl, by rw [hc]⟩
            | exact Or.inr ⟨nv g p c, p + c, by rw [hP, bI_e h83, nBeq_0 (by omega), Bool.or_false, cond_false, decide_eq_true (show 1 ≤ nv g p c by omega), decide_eq_true (show nv g p c ≤ M by omega)]; rfl, rfl, by rw [put_ne (q := 139) s (nI (p + c)) (by decide)]⟩
    · refine R1 (g' := (87, _, _, _, _, _)) rfl rfl ?_
      refine R1 (g' := (88, _, _, _, _, _)) rfl rfl ?_
      refine R_getf rfl rfl (Nat.le_of_ble_eq_true rfl) rfl rfl ?_
      rw [h6]
      refine R_call2 (Or.inr (Or.inl ⟨rfl, rfl⟩)) rfl rfl ⟨Nat.le_of_ble_eq_true rfl, Nat.le_of_ble_eq_true rfl⟩ (Nat.le_of_ble_eq_true rfl) ⟨rfl, rfl⟩ (⟨⟨_, _, _, rfl, (Nat.le_of_ble_eq_true rfl), rfl⟩, e2_fail⟩) ?_
      refine R_iret rfl ?_
      first
        | exact Or.inl ⟨p + c, by rw [hP, show c = 0 by omega]; rfl, rfl, by rw [hc]⟩
        | exact Or.inl ⟨p + c, by rw [hP, bI_n h83, Bool.or_true, cond_true], rfl, by rw [hc]⟩
        | exact Or.inl ⟨p, by rw [hP, bI_e h83, nBeq_0 (by omega), Bool.or_false, cond_false, decide_eq_false (show ¬ 1 ≤ nv g p c by omega), Bool.false_and, cond_false], rfl, by rw [hc]⟩
        | exact Or.inl ⟨p, by rw [hP, bI_e h83, nBeq_0 (by omega), Bool.or_false, cond_false, decide_eq_false (show ¬ nv g p c ≤ M by omega), Bool.and_false, cond_false], rfl, by rw [hc]⟩
        | exact Or.inr ⟨nv g p c, p + c, by rw [hP, bI_e h83, nBeq_0 (by omega), Bool.or_false, cond_false, decide_eq_true (show 1 ≤ nv g p c by omega), decide_eq_true (show nv g p c ≤ M by omega)]; rfl, rfl, by rw [put_ne (q := 139) s (nI (p + c)) (by decide)]⟩
theorem rn_loop {s : xs} {g : Nat → Int32} {L p o D M : Nat} (h : cT s g L p o) (hp : p + 10 < 1000) (hD : D ≤ 4) (hM : M < 2 ^ 31) : ∀ (d c : Nat), c + d = D → nd g p c = c → xRun M_X2_readNumber (fun o1 w1 => (∃ e, pNum g D M p = .inl e ∧ o1 = .inl (some (.int (bI false))) ∧ w1 = wd (put (put s 133 6 (nI (p + nd g p D))) 133 7 (nI e))) ∨ ∃ v q, pNum g D M p = .inr (v, q) ∧ o1 = .inl (some (.int (bI true))) ∧ w1 = wd (setP (put s 133 6 (nI q)) 139 (upd (s.1 139) o (nI v)))) (8, [(4, .int (nI (nv g p c))), (3, .int (nI p)), (0, .ref 133), (1, .int (nI D)), (2, .int (nI M))], [], wd (put s 133 6 (nI (p + c))), 0, 0) := by
  intro d
  induction d with
  | zero =>
    intro c hc hn
    have hc : c = D := by omega
    subst hc
    have h6 : (put s 133 6 (nI (p + c))).1 133 6 = nI (p + c) := by rw [put_val, if_pos rfl, if_pos rfl]
    refine R1 (g' := (9, _, _, _, _, _)) rfl rfl ?_
    refine R_getf rfl rfl (Nat.le_of_ble_eq_true rfl) rfl rfl ?_
    refine R1 (g' := (13, _, _, _, _, _)) rfl rfl ?_
    refine R1 (g' := (14, _, _, _, _, _)) rfl rfl ?_
    refine R1 (g' := (15, _, _, _, _, _)) rfl rfl ?_
    rw [h6, nI_add]
    refine R_cgeN 64 (p + c) (p + c) rfl rfl (rfl) (rfl) (by omega) (by omega) (fun h15 => ?_) (fun h => by omega)
    exact rn_end h hp hD hM hn
  | succ d ih =>
    intro c hc hn
    have h6 : (put s 133 6 (nI (p + c))).1 133 6 = nI (p + c) := by rw [put_val, if_pos rfl, if_pos rfl]
    have hT := cT_pos (q := p + c) h (by omega)
    cases hd : isd (g (p + c)) with
    | false =>
      refine R1 (g' := (9, _, _, _, _, _)) rfl rfl ?_
      refine R_getf rfl rfl (Nat.le_of_ble_eq_true rfl) rfl rfl ?_
      refine R1 (g' := (13, _, _, _, _, _)) rfl rfl ?_
      refine R1 (g' := (14, _, _, _, _, _)) rfl rfl ?_
      refine R1 (g' := (15, _, _, _, _, _)) rfl rfl ?_
      rw [h6, nI_add]
      refine R_cgeN 64 (p + c) (p + D) rfl rfl (rfl) (rfl) (by omega) (by omega) (fun h => by omega) (fun h15 => ?_)
      refine R1 (g' := (19, _, _, _, _, _)) rfl rfl ?_
      refine R1 (g' := (20, _, _, _, _, _)) rfl rfl ?_
      refine R_getf rfl rfl (Nat.le_of_ble_eq_true rfl) rfl rfl ?_
      rw [h6]
      refine R_call2 (Or.inr (Or.inl ⟨rfl, rfl⟩)) rfl rfl ⟨Nat.le_of_ble_eq_true rfl, Nat.le_of_ble_eq_true rfl⟩ (Nat.le_of_ble_eq_true rfl) ⟨rfl, rfl⟩ (⟨⟨_, _, _, rfl, (Nat.le_of_ble_eq_true rfl), rfl⟩, e2_byteAt hT (by omega)⟩) ?_
      refine R_call1 (Or.inl ⟨rfl, rfl⟩) rfl rfl ⟨Nat.le_of_ble_eq_true rfl, Nat.le_of_ble_eq_true rfl⟩ (Nat.le_of_ble_eq_true rfl) ⟨rfl, rfl⟩ (e2_isDigit) ?_
      rw [hd]
      refine R_eq 64 rfl rfl (fun h29 => ?_) (fun h => by exact absurd rfl h)
      exact rn_end h hp hD hM (by rw [← hc]; exact nd_stop hn hd (d + 1))
    | true =>
      obtain ⟨k, e1, e2, e3⟩ := isd_of hd
      have hv := nv_lt (D := D) c hn
      have hv2 : (10 : Nat) ^ c ≤ 10 ^ 4 := Nat.pow_le_pow_right (by decide) (by omega)
      have hnv : nv g p (c + 1) = nv g p c * 10 + k - 48 := by rw [nv, nq e1 (by omega)]; omega
      have hst := ih (c + 1) (by omega) (nd_go hn hd)
      refine R1 (g' := (9, _, _, _, _, _)) rfl rfl ?_
      refine R_getf rfl rfl (Nat.le_of_ble_eq_true rfl) rfl rfl ?_
      refine R1 (g' := (13, _, _, _, _, _)) rfl rfl ?_
      refine R1 (g' := (14, _, _, _, _, _)) rfl rfl ?_
      refine R1 (g' := (15, _, _, _, _, _)) rfl rfl ?_
      rw [h6, nI_add]
      refine R_cgeN 64 (p + c) (p + D) rfl rfl (rfl) (rfl) (by omega) (by omega) (fun h => by omega) (fun h15 => ?_)
      refine R1 (g' := (19, _, _, _, _, _)) rfl rfl ?_
      refine R1 (g' := (20, _, _, _, _, _)) rfl rfl ?_
      refine R_getf rfl rfl (Nat.le_of_ble_eq_true rfl) rfl rfl ?_
      rw [h6]
      refine R_call2 (Or.inr (Or.inl ⟨rfl, rfl⟩)) rfl rfl ⟨Nat.le_of_ble_eq_true rfl, Nat.le_of_ble_eq_true rfl⟩ (Nat.le_of_ble_eq_true rfl) ⟨rfl, rfl⟩ (⟨⟨_, _, _, rfl, (Nat.le_of_ble_eq_true rfl), rfl⟩, e2_byteAt hT (by omega)⟩) ?_
      refine R_call1 (Or.inl ⟨rfl, rfl⟩) rfl rfl ⟨Nat.le_of_ble_eq_true rfl, Nat.le_of_ble_eq_true rfl⟩ (Nat.le_of_ble_eq_true rfl) ⟨rfl, rfl⟩ (e2_isDigit) ?_
      rw [hd]
      refine R_eq 64 rfl rfl (fun h => by exact absurd h (by decide)) (fun h29 => ?_)
      refine R1 (g' := (34, _, _, _, _, _)) rfl rfl ?_
      refine R1 (g' := (36, _, .int (nI 10) :: _, _, _, _)) rfl rfl ?_
      refine R1 (g' := (37, _, _, _, _, _)) rfl rfl ?_
      rw [pk_mul]
      refine R1 (g' := (38, _, _, _, _, _)) rfl rfl ?_
      refine R1 (g' := (39, _, _, _, _, _)) rfl rfl ?_
      refine R_getf rfl rfl (Nat.le_of_ble_eq_true rfl) rfl rfl ?_
      rw [h6]
      refine R_call2 (Or.inr (Or.inl ⟨rfl, rfl⟩)) rfl rfl ⟨Nat.le_of_ble_eq_true rfl, Nat.le_of_ble_eq_true rfl⟩ (Nat.le_of_ble_eq_true rfl) ⟨rfl, rfl⟩ (⟨⟨_, _, _, rfl, (Nat.le_of_ble_eq_true rfl), rfl⟩, e2_byteAt hT (by omega)⟩) ?_
      rw [e1]
      refine R1 (g' := (46, _, _, _, _, _)) rfl rfl ?_
      rw [nI_add]
      refine R1 (g' := (48, _, .int (nI 48) :: _, _, _, _)) rfl rfl ?_
      refine R1 (g' := (49, _, _, _, _, _)) rfl rfl ?_
      rw [pk_sub (by omega), ← hnv]
      refine R1 (g' := (51, _, _, _, _, _)) rfl rfl ?_
      refine R1 (g' := (52, _, _, _, _, _)) rfl rfl ?_
      refine R1 (g' := (53, _, _, _, _, _)) rfl rfl ?_
      refine R_getf rfl rfl (Nat.le_of_ble_eq_true rfl) rfl rfl ?_
      rw [h6]
      refine R1 (g' := (57, _, .int (nI 1) :: _, _, _, _)) rfl rfl ?_
      refine R1 (g' := (58, _, _, _, _, _)) rfl rfl ?_
      rw [nI_add, show p + c + 1 = p + (c + 1) from rfl]
      refine R_put rfl rfl (Nat.le_of_ble_eq_true rfl) rfl (Nat.le_of_ble_eq_true rfl) ⟨_, rfl, Or.inl rfl, _, rfl, rfl⟩ rfl ?_
      refine R1 (g' := (8, _, _, _, _, _)) rfl rfl ?_
      change xRun _ _ (8, _, _, wd (put (put s 133 6 (nI (p + c))) 133 6 (nI (p + (c + 1)))), _, _)
      rw [put_put]
      exact R_lv [(4, .int (nI (nv g p (c + 1)))), (3, .int (nI p)), (0, .ref 133), (1, .int (nI D)), (2, .int (nI M))] rfl (List.forall_mem_cons.mpr ⟨rfl, List.forall_mem_cons.mpr ⟨rfl, List.forall_mem_cons.mpr ⟨rfl, List.forall_mem_cons.mpr ⟨rfl, List.forall_mem_cons.mpr ⟨rfl, fun _ h => absurd h List.not_mem_nil⟩⟩⟩⟩⟩) ⟨rfl, rfl⟩ hst
theorem e2_readNumber {s : xs} {g : Nat → Int32} {L p o D M : Nat} (h : cT s g L p o) (hp : p + 10 < 1000) (hD : D ≤ 4) (hM : M < 2 ^ 31) : ∃ o1 w1, (fun o1 w1 => (∃ e, pNum g D M p = .inl e ∧ o1 = .inl (some (.int (bI false))) ∧ w1 = wd (put (put s 133 6 (nI (p + nd g p D))) 133 7 (nI e))) ∨ ∃ v q, pNum g D M p = .inr (v, q) ∧ o1 = .inl (some (.int (bI true))) ∧ w1 = wd (setP (put s 133 6 (nI q)) 139 (upd (s.1 139) o (nI v)))) o1 w1 ∧ Ev_X2_readNumber [.ref 133, .int (nI D), .int (nI M)] (wd s) o1 w1 := by
  have h6 := h.2.1
  have hr := rn_loop h hp hD hM D 0 (Nat.zero_add _) rfl
  rw [Nat.add_zero, put_self h6] at hr
  refine xEv_ex (Nat.le_of_ble_eq_true rfl) (fun o1 w1 k => ?_) ?_
  · rcases k with ⟨e, _, rfl, rfl⟩ | ⟨v, q, _, rfl, rfl⟩
    · exact ⟨Nat.le_refl _, Or.inr ⟨rfl, bI_01 _⟩⟩
    · exact ⟨Nat.le_refl _, Or.inr ⟨rfl, bI_01 _⟩⟩
  refine R1 (g' := (1, _, _, _, _, _)) rfl rfl ?_
  refine R_getf rfl rfl (Nat.le_of_ble_eq_true rfl) rfl rfl ?_
  rw [h6]
  refine R1 (g' := (5, _, _, _, _, _)) rfl rfl ?_
  refine R1 (g' := (6, _, .int (nI 0) :: _, _, _, _)) rfl rfl ?_
  refine R1 (g' := (8, _, _, _, _, _)) rfl rfl ?_
  exact R_lv [(4, .int (nI 0)), (3, .int (nI p)), (0, .ref 133), (1, .int (nI D)), (2, .int (nI M))] rfl (List.forall_mem_cons.mpr ⟨rfl, List.forall_mem_cons.mpr ⟨rfl, List.forall_mem_cons.mpr ⟨rfl, List.forall_mem_cons.mpr ⟨rfl, List.forall_mem_cons.mpr ⟨rfl, fun _ h => absurd h List.not_mem_nil⟩⟩⟩⟩⟩) ⟨rfl, rfl⟩ hr
