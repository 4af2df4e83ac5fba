def tlPo (s : xs) (r : Nat ⊕ (Nat × Nat)) (o1 : xO) (w1 : xw) : Prop := ∃ s', w1 = wd s' ∧ rX s s' ∧ s'.1 142 14 = s.1 142 14 ∧ s'.1 142 15 = s.1 142 15 ∧ match r with
  | .inl e => o1 = .inl (some (.int (bI false))) ∧ s'.1 142 13 = nI e
  | .inr (v, q) => o1 = .inl (some (.int (bI true))) ∧ s'.1 142 13 = nI q ∧ s'.1 142 16 = nI v
theorem tlPo_ro {s : xs} {r : Nat ⊕ (Nat × Nat)} {o1 : xO} {w1 : xw} (h : tlPo s r o1 w1) : (wd s).1 ≤ w1.1 ∧ xro (some .boolean) o1 := by
  obtain ⟨s', rfl, _, _, _, h⟩ := h
  refine ⟨Nat.le_refl _, ?_⟩
  match r, h with
  | .inl e, h => rw [h.1]; exact Or.inr ⟨rfl, bI_01 _⟩
  | .inr (a, b), h => rw [h.1]; exact Or.inr ⟨rfl, bI_01 _⟩
def cutT (g : Nat → Int32) (r : Nat) : Nat ⊕ (Nat × Nat) := if g r = nI 44 then pNum g 4 9999 (r + 1) else .inl r
def blT (g : Nat → Int32) (r : Nat) : Nat ⊕ (Nat × Nat) := if g r = nI 120 then pNum g 2 60 (r + 1) else .inr (1, r)
theorem e9_readCut {s : xs} {g : Nat → Int32} {L r : Nat} (h : rT s g L r) (hp : r + 20 < 1000) : ∃ o1 w1, tlPo s (cutT g r) o1 w1 ∧ Ev_X9_readCut [.ref 142] (wd s) o1 w1 := by
  have hpos := h.2.1
  refine xEv_ex (Nat.le_of_ble_eq_true rfl) (fun o1 w1 k => tlPo_ro k) ?_
  by_cases hx : g r = nI 44
  · rw [show cutT g r = pNum g 4 9999 (r + 1) from if_pos hx]
    obtain ⟨o1, w1, ⟨s', rfl, c1, c2, c3, hk⟩, hev⟩ := e9_readNumber (D := 4) (M := 9999) (rT_pos h (q := r + 1) (by omega)) (by omega) (by decide) (by decide)
    have cX := rX_tr (rX_put (v := nI (r + 1)) (rX_rf (s := s)) (show 13 ≤ 13 by decide) (show 13 ≤ 16 by decide)) c1
    rw [putn (k := 13) (by decide)] at c2 c3
    rcases hk with ⟨e, e1, rfl, e2⟩ | ⟨v, q, e1, rfl, e2, e3⟩
    · rw [e1]
      refine R1 (g' := (1, _, _, _, _, _)) rfl rfl ?_
      refine R_call1 (Or.inr (Or.inl ⟨rfl, rfl⟩)) rfl rfl ⟨Nat.le_of_ble_eq_true rfl, Nat.le_of_ble_eq_true rfl⟩ (Nat.le_of_ble_eq_true rfl) ⟨rfl, rfl⟩ (⟨⟨_, _, _, rfl, (Nat.le_of_ble_eq_true rfl), rfl⟩, e9_here h⟩) ?_
      refine R1 (g' := (6, _, .int (nI 44) :: _, _, _, _)) rfl rfl ?_
      refine R_ceq 11 rfl rfl (fun h6 => ?_) (fun h => by exact absurd hx h)
      refine R1 (g' := (12, _, _, _, _, _)) rfl rfl ?_
      refine R1 (g' := (13, _, _, _, _, _)) rfl rfl ?_
      refine R_getf rfl rfl (Nat.le_of_ble_eq_true rfl) rfl rfl ?_
      rw [hpos]
      refine R1 (g' := (17, _, .int (nI 1) :: _, _, _, _)) rfl rfl ?_
      refine R1 (g' := (18, _, _, _, _, _)) rfl rfl ?_
      rw [nI_add]
      refine R_put rfl rfl (Nat.le_of_ble_eq_true rfl) rfl (Nat.le_of_ble_eq_true rfl) ⟨_, rfl, Or.inl rfl, _, rfl, rfl⟩ rfl ?_
      change xRun _ _ (21, _, _, wd (put s 142 13 (nI (r + 1))), _, _)
      refine R1 (g' := (22, _, _, _, _, _)) rfl rfl ?_
      refine R1 (g' := (23, _, .int (nI 4) :: _, _, _, _)) rfl rfl ?_
      refine R1 (g' := (26, _, .int (nI 9999) :: _, _, _, _)) rfl rfl ?_
      refine R_call3 (Or.inr (Or.inl ⟨rfl, rfl⟩)) rfl rfl ⟨Nat.le_of_ble_eq_true rfl, Nat.le_of_ble_eq_true rfl⟩ (Nat.le_of_ble_eq_true rfl) ⟨rfl, rfl⟩ (⟨⟨_, _, _, rfl, (Nat.le_of_ble_eq_true rfl), rfl⟩, hev⟩) ?_
      refine R_iret rfl ?_
      exact ⟨s', rfl, cX, c2, c3, rfl, e2⟩
    · rw [e1]
      refine R1 (g' := (1, _, _, _, _, _)) rfl rfl ?_
      refine R_call1 (Or.inr (Or.inl ⟨rfl, rfl⟩)) rfl rfl ⟨Nat.le_of_ble_eq_true rfl, Nat.le_of_ble_eq_true rfl⟩ (Nat.le_of_ble_eq_true rfl) ⟨rfl, rfl⟩ (⟨⟨_, _, _, rfl, (Nat.le_of_ble_eq_true rfl), rfl⟩, e9_here h⟩) ?_
      refine R1 (g' := (6, _, .int (nI 44) :: _, _, _, _)) rfl rfl ?_
      refine R_ceq 11 rfl rfl (fun h6 => ?_) (fun h => by exact absurd hx h)
      refine R1 (g' := (12, _, _, _, _, _)) rfl rfl ?_
      refine R1 (g' := (13, _, _, _, _, _)) rfl rfl ?_
      refine R_getf rfl rfl (Nat.le_of_ble_eq_true rfl) rfl rfl ?_
      rw [hpos]
      refine R1 (g' := (17, _, .int (nI 1) :: _, _, _, _)) rfl rfl ?_
      refine R1 (g' := (18, _, _, _, _, _)) rfl rfl ?_
      rw [nI_add]
      refine R_put rfl rfl (Nat.le_of_ble_eq_true rfl) rfl (Nat.le_of_ble_eq_true rfl) ⟨_, rfl, Or.inl rfl, _, rfl, rfl⟩ rfl ?_
      change xRun _ _ (21, _, _, wd (put s 142 13 (nI (r + 1))), _, _)
      refine R1 (g' := (22, _, _, _, _, _)) rfl rfl ?_
      refine R1 (g' := (23, _, .int (nI 4) :: _, _, _, _)) rfl rfl ?_
      refine R1 (g' := (26, _, .int (nI 9999) :: _, _, _, _)) rfl rfl ?_
      refine R_call3 (Or.inr (Or.inl ⟨rfl, rfl⟩)) rfl rfl ⟨Nat.le_of_ble_eq_true rfl, Nat.le_of_ble_eq_true rfl⟩ (Nat.le_of_ble_eq_true rfl) ⟨rfl, rfl⟩ (⟨⟨_, _, _, rfl, (Nat.le_of_ble_eq_true rfl), rfl⟩, hev⟩) ?_
      refine R_iret rfl ?_
      exact ⟨s', rfl, cX, c2, c3, rfl, e2, e3⟩
  · rw [show cutT g r = .inl r from if_neg hx]
    refine R1 (g' := (1, _, _, _, _, _)) rfl rfl ?_
    refine R_call1 (Or.inr (Or.inl ⟨rfl, rfl⟩)) rfl rfl ⟨Nat.le_of_ble_eq_true rfl, Nat.le_of_ble_eq_true rfl⟩ (Nat.le_of_ble_eq_true rfl) ⟨rfl, rfl⟩ (⟨⟨_, _, _, rfl, (Nat.le_of_ble_eq_true rfl), rfl⟩, e9_here h⟩) ?_
    refine R1 (g' := (6, _, .int (nI 44) :: _, _, _, _)) rfl rfl ?_
    refine R_ceq 11 rfl rfl (fun h => by exact absurd h hx) (fun h6 => ?_)
    refine R1 (g' := (10, _, .int (nI 0) :: _, _, _, _)) rfl rfl ?_
    refine R_iret rfl ?_
    exact ⟨s, rfl, rX_rf, rfl, rfl, rfl, hpos⟩
theorem e9_readBlows {s : xs} {g : Nat → Int32} {L r : Nat} (h : rT s g L r) (hp : r + 20 < 1000) : ∃ o1 w1, tlPo s (blT g r) o1 w1 ∧ Ev_X9_readBlows [.ref 142] (wd s) o1 w1 := by
  have h6 := h.2.1
  have cA : rX s (put s 142 16 (nI 1)) := rX_put rX_rf (by decide) (by decide)
  have h6A : (put s 142 16 (nI 1)).1 142 13 = nI r := (putn (by decide)).trans h6
  have hA : rT (put s 142 16 (nI 1)) g L r := rT_X h cA h6A (by omega)
  refine xEv_ex (Nat.le_of_ble_eq_true rfl) (fun o1 w1 k => tlPo_ro k) ?_
  by_cases hx : g r = nI 120
  · rw [show blT g r = pNum g 2 60 (r + 1) from if_pos hx]
    obtain ⟨o1, w1, ⟨s', rfl, c1, c2, c3, hk⟩, hev⟩ := e9_readNumber (D := 2) (M := 60) (rT_pos hA (q := r + 1) (by omega)) (by omega) (by decide) (by decide)
    have cX := rX_tr (rX_put (v := nI (r + 1)) cA (show 13 ≤ 13 by decide) (show 13 ≤ 16 by decide)) c1
    rw [putn (k := 13) (by decide), putn (k := 16) (by decide)] at c2 c3
    rcases hk with ⟨e, e1, rfl, e2⟩ | ⟨v, q, e1, rfl, e2, e3⟩
    · rw [e1]
      refine R1 (g' := (1, _, _, _, _, _)) rfl rfl ?_
      refine R1 (g' := (2, _, .int (nI 1) :: _, _, _, _)) rfl rfl ?_
      refine R_put rfl rfl (Nat.le_of_ble_eq_true rfl) rfl (Nat.le_of_ble_eq_true rfl) ⟨_, rfl, Or.inl rfl, _, rfl, rfl⟩ rfl ?_
      change xRun _ _ (5, _, _, wd (put s 142 16 (nI 1)), _, _)
      refine R1 (g' := (6, _, _, _, _, _)) rfl rfl ?_
      refine R_call1 (Or.inr (Or.inl ⟨rfl, rfl⟩)) rfl rfl ⟨Nat.le_of_ble_eq_true rfl, Nat.le_of_ble_eq_true rfl⟩ (Nat.le_of_ble_eq_true rfl) ⟨rfl, rfl⟩ (⟨⟨_, _, _, rfl, (Nat.le_of_ble_eq_true rfl), rfl⟩, e9_here hA⟩) ?_
      refine R1 (g' := (11, _, .int (nI 120) :: _, _, _, _)) rfl rfl ?_
      refine R_ceq 16 rfl rfl (fun h11 => ?_) (fun h => by exact absurd hx h)
      refine R1 (g' := (17, _, _, _, _, _)) rfl rfl ?_
      refine R1 (g' := (18, _, _, _, _, _)) rfl rfl ?_
      refine R_getf rfl rfl (Nat.le_of_ble_eq_true rfl) rfl rfl ?_
      rw [h6A]
      refine R1 (g' := (22, _, .int (nI 1) :: _, _, _, _)) rfl rfl ?_
      refine R1 (g' := (23, _, _, _, _, _)) rfl rfl ?_
      rw [nI_add]
      refine R_put rfl rfl (Nat.le_of_ble_eq_true rfl) rfl (Nat.le_of_ble_eq_true rfl) ⟨_, rfl, Or.inl rfl, _, rfl, rfl⟩ rfl ?_
      change xRun _ _ (26, _, _, wd (put (put s 142 16 (nI 1)) 142 13 (nI (r + 1))), _, _)
      refine R1 (g' := (27, _, _, _, _, _)) rfl rfl ?_
      refine R1 (g' := (28, _, .int (nI 2) :: _, _, _, _)) rfl rfl ?_
      refine R1 (g' := (30, _, .int (nI 60) :: _, _, _, _)) rfl rfl ?_
      refine R_call3 (Or.inr (Or.inl ⟨rfl, rfl⟩)) rfl rfl ⟨Nat.le_of_ble_eq_true rfl, Nat.le_of_ble_eq_true rfl⟩ (Nat.le_of_ble_eq_true rfl) ⟨rfl, rfl⟩ (⟨⟨_, _, _, rfl, (Nat.le_of_ble_eq_true rfl), rfl⟩, hev⟩) ?_
      refine R_iret rfl ?_
      exact ⟨s', rfl, cX, c2, c3, rfl, e2⟩
    · rw [e1]
      refine R1 (g' := (1, _, _, _, _, _)) rfl rfl ?_
      refine R1 (g' := (2, _, .int (nI 1) :: _, _, _, _)) rfl rfl ?_
      refine R_put rfl rfl (Nat.le_of_ble_eq_true rfl) rfl (Nat.le_of_ble_eq_true rfl) ⟨_, rfl, Or.inl rfl, _, rfl, rfl⟩ rfl ?_
      change xRun _ _ (5, _, _, wd (put s 142 16 (nI 1)), _, _)
      refine R1 (g' := (6, _, _, _, _, _)) rfl rfl ?_
      refine R_call1 (Or.inr (Or.inl ⟨rfl, rfl⟩)) rfl rfl ⟨Nat.le_of_ble_eq_true rfl, Nat.le_of_ble_eq_true rfl⟩ (Nat.le_of_ble_eq_true rfl) ⟨rfl, rfl⟩ (⟨⟨_, _, _, rfl, (Nat.le_of_ble_eq_true rfl), rfl⟩, e9_here hA⟩) ?_
      refine R1 (g' := (11, _, .int (nI 120) :: _, _, _, _)) rfl rfl ?_
      refine R_ceq 16 rfl rfl (fun h11 => ?_) (fun h => by exact absurd hx h)
      refine R1 (g' := (17, _, _, _, _, _)) rfl rfl ?_
      refine R1 (g' := (18, _, _, _, _, _)) rfl rfl ?_
      refine R_getf rfl rfl (Nat.le_of_ble_eq_true rfl) rfl rfl ?_
      rw [h6A]
      refine R1 (g' := (22, _, .int (nI 1) :: _, _, _, _)) rfl rfl ?_
      refine R1 (g' := (23, _, _, _, _, _)) rfl rfl ?_
      rw [nI_add]
      refine R_put rfl rfl (Nat.le_of_ble_eq_true rfl) rfl (Nat.le_of_ble_eq_true rfl) ⟨_, rfl, Or.inl rfl, _, rfl, rfl⟩ rfl ?_
      change xRun _ _ (26, _, _, wd (put (put s 142 16 (nI 1)) 142 13 (nI (r + 1))), _, _)
      refine R1 (g' := (27, _, _, _, _, _)) rfl rfl ?_
      refine R1 (g' := (28, _, .int (nI 2) :: _, _, _, _)) rfl rfl ?_
      refine R1 (g' := (30, _, .int (nI 60) :: _, _, _, _)) rfl rfl ?_
      refine R_call3 (Or.inr (Or.inl ⟨rfl, rfl⟩)) rfl rfl ⟨Nat.le_of_ble_eq_true rfl, Nat.le_of_ble_eq_true rfl⟩ (Nat.le_of_ble_eq_true rfl) ⟨rfl, rfl⟩ (⟨⟨_, _, _, rfl, (Nat.le_of_ble_eq_true rfl), rfl⟩, hev⟩) ?_
      refine R_iret rfl ?_
      exact ⟨s', rfl, cX, c2, c3, rfl, e2, e3⟩
  · rw [show blT g r = .inr (1, r) from if_neg hx]
    refine R1 (g' := (1, _, _, _, _, _)) rfl rfl ?_
    refine R1 (g' := (2, _, .int (nI 1) :: _, _, _, _)) rfl rfl ?_
    refine R_put rfl rfl (Nat.le_of_ble_eq_true rfl) rfl (Nat.le_of_ble_eq_true rfl) ⟨_, rfl, Or.inl rfl, _, rfl, rfl⟩ rfl ?_
    change xRun _ _ (5, _, _, wd (put s 142 16 (nI 1)), _, _)
    refine R1 (g' := (6, _, _, _, _, _)) rfl rfl ?_
    refine R_call1 (Or.inr (Or.inl ⟨rfl, rfl⟩)) rfl rfl ⟨Nat.le_of_ble_eq_true rfl, Nat.le_of_ble_eq_true rfl⟩ (Nat.le_of_ble_eq_true rfl) ⟨rfl, rfl⟩ (⟨⟨_, _, _, rfl, (Nat.le_of_ble_eq_true rfl), rfl⟩, e9_here hA⟩) ?_
    refine R1 (g' := (11, _, .int (nI 120) :: _, _, _, _)) rfl rfl ?_
    refine R_ceq 16 rfl rfl (fun h => by exact absurd h hx) (fun h11 => ?_)
    refine R1 (g' := (15, _, .int (nI 1) :: _, _, _, _)) rfl rfl ?_
    refine R_iret rfl ?_
    exact ⟨_, rfl, cA, putn (by decide), putn (by decide), rfl, h6A, putv⟩
def och (a : Nat) : Nat := if a = 3 then 104 else if a = 4 then 99 else if a = 0 then 100 else if a = 1 then 116 else 117
def roPo (s : xs) (r : Nat ⊕ (Nat × Nat × Nat × Nat)) (o1 : xO) (w1 : xw) : Prop := ∃ s', w1 = wd s' ∧ rX s s' ∧ match r with
  | .inl e => o1 = .inl (some (.int (bI false))) ∧ s'.1 142 13 = nI e
  | .inr (a, b, c, q) => o1 = .inl (some (.int (bI true))) ∧ s'.1 142 13 = nI q ∧ s'.1 142 14 = nI (och a) ∧ (a ≠ 3 → s'.1 142 15 = nI b ∧ s'.1 142 16 = nI c)
theorem roPo_ro {s : xs} {r : Nat ⊕ (Nat × Nat × Nat × Nat)} {o1 : xO} {w1 : xw} (h : roPo s r o1 w1) : (wd s).1 ≤ w1.1 ∧ xro (some .boolean) o1 := by
  obtain ⟨s', rfl, _, h⟩ := h
  refine ⟨Nat.le_refl _, ?_⟩
  match r, h with
  | .inl e, h => rw [h.1]; exact Or.inr ⟨rfl, bI_01 _⟩
  | .inr (a, b, c, q), h => rw [h.1]; exact Or.inr ⟨rfl, bI_01 _⟩
theorem ro_T {s s2 : xs} {g : Nat → Int32} {L a b c q : Nat} (hX : rX s s2) (h : rT s2 g L q) (h14 : s2.1 142 14 = nI (och a)) (hbc : a ≠ 3 → s2.1 142 15 = nI b ∧ s2.1 142 16 = nI c) (hq : q + 1 < 1000) : xRun M_X9_readOrder (roPo s (if g q = nI 59 then .inr (a, b, c, q + 1) else .inl q)) (129, [(1, .int (nI 1)), (0, .ref 142)], [], wd s2, 0, 0) := by
  have h6 := h.2.1
  by_cases hx : g q = nI 59
  · rw [if_pos hx]
    refine R1 (g' := (130, _, _, _, _, _)) rfl rfl ?_
    refine R_eq 146 rfl rfl (fun h => by exact absurd h (by decide)) (fun h130 => ?_)
    refine R1 (g' := (134, _, _, _, _, _)) rfl rfl ?_
    refine R_call1 (Or.inr (Or.inl ⟨rfl, rfl⟩)) rfl rfl ⟨Nat.le_of_ble_eq_true rfl, Nat.le_of_ble_eq_true rfl⟩ (Nat.le_of_ble_eq_true rfl) ⟨rfl, rfl⟩ (⟨⟨_, _, _, rfl, (Nat.le_of_ble_eq_true rfl), rfl⟩, e9_here h⟩) ?_
    refine R1 (g' := (139, _, .int (nI 59) :: _, _, _, _)) rfl rfl ?_
    refine R_cne 146 rfl rfl (fun h => by exact absurd hx h) (fun h139 => ?_)
    refine R1 (g' := (143, _, .int (nI 1) :: _, _, _, _)) rfl rfl ?_
    refine R1 (g' := (147, _, _, _, _, _)) rfl rfl ?_
    refine R1 (g' := (148, _, _, _, _, _)) rfl rfl ?_
    refine R1 (g' := (149, _, _, _, _, _)) rfl rfl ?_
    refine R1 (g' := (150, _, _, _, _, _)) rfl rfl ?_
    refine R_getf rfl rfl (Nat.le_of_ble_eq_true rfl) rfl rfl ?_
    rw [h6]
    refine R1 (g' := (154, _, _, _, _, _)) rfl rfl ?_
    refine R_eq 161 rfl rfl (fun h => by exact absurd h (by decide)) (fun h154 => ?_)
    refine R1 (g' := (158, _, .int (nI 1) :: _, _, _, _)) rfl rfl ?_
    refine R1 (g' := (162, _, _, _, _, _)) rfl rfl ?_
    skip
    refine R1 (g' := (163, _, _, _, _, _)) rfl rfl ?_
    rw [nI_add]
    refine R_put rfl rfl (Nat.le_of_ble_eq_true rfl) rfl (Nat.le_of_ble_eq_true rfl) ⟨_, rfl, Or.inl rfl, _, rfl, rfl⟩ rfl ?_
    refine R1 (g' := (167, _, _, _, _, _)) rfl rfl ?_
    refine R_iret rfl ?_
    exact ⟨_, rfl, rX_put hX (by decide) (by decide), rfl, putv, (putn (by decide)).trans h14, fun z => ⟨(putn (by decide)).trans (hbc z).1, (putn (by decide)).trans (hbc z).2⟩⟩
  · rw [if_neg hx]
    refine R1 (g' := (130, _, _, _, _, _)) rfl rfl ?_
    refine R_eq 146 rfl rfl (fun h => by exact absurd h (by decide)) (fun h130 => ?_)
    refine R1 (g' := (134, _, _, _, _, _)) rfl rfl ?_
    refine R_call1 (Or.inr (Or.inl ⟨rfl, rfl⟩)) rfl rfl ⟨Nat.le_of_ble_eq_true rfl, Nat.le_of_ble_eq_true rfl⟩ (Nat.le_of_ble_eq_true rfl) ⟨rfl, rfl⟩ (⟨⟨_, _, _, rfl, (Nat.le_of_ble_eq_true rfl), rfl⟩, e9_here h⟩) ?_
    refine R1 (g' := (139, _, .int (nI 59) :: _, _, _, _)) rfl rfl ?_
    refine R_cne 146 rfl rfl (fun h139 => ?_) (fun h => by exact absurd h hx)
    refine R1 (g' := (147, _, .int (nI 0) :: _, _, _, _)) rfl rfl ?_
    refine R1 (g' := (148, _, _, _, _, _)) rfl rfl ?_
    refine R1 (g' := (149, _, _, _, _, _)) rfl rfl ?_
    refine R1 (g' := (150, _, _, _, _, _)) rfl rfl ?_
    refine R_getf rfl rfl (Nat.le_of_ble_eq_true rfl) rfl rfl ?_
    rw [h6]
    refine R1 (g' := (154, _, _, _, _, _)) rfl rfl ?_
    refine R_eq 161 rfl rfl (fun h154 => ?_) (fun h => by exact absurd (by decide) h)
    refine R1 (g' := (162, _, .int (nI 0) :: _, _, _, _)) rfl rfl ?_
    refine R1 (g' := (163, _, _, _, _, _)) rfl rfl ?_
    rw [nI_add, Nat.add_zero]
    refine R_put rfl rfl (Nat.le_of_ble_eq_true rfl) rfl (Nat.le_of_ble_eq_true rfl) ⟨_, rfl, Or.inl rfl, _, rfl, rfl⟩ rfl ?_
    refine R1 (g' := (167, _, _, _, _, _)) rfl rfl ?_
    refine R_iret rfl ?_
    exact ⟨_, rfl, rX_put hX (by decide) (by decide), rfl, putv⟩
theorem ro_F {s s2 : xs} {e : Nat} (hX : rX s s2) (h6 : s2.1 142 13 = nI e) : xRun M_X9_readOrder (roPo s (.inl e)) (129, [(1, .int (nI 0)), (0, .ref 142)], [], wd s2, 0, 0) := by
  refine R1 (g' := (130, _, _, _, _, _)) rfl rfl ?_
  refine R_eq 146 rfl rfl (fun h130 => ?_) (fun h => by exact absurd (by decide) h)
  refine R1 (g' := (147, _, .int (nI 0) :: _, _, _, _)) rfl rfl ?_
  refine R1 (g' := (148, _, _, _, _, _)) rfl rfl ?_
  refine R1 (g' := (149, _, _, _, _, _)) rfl rfl ?_
  refine R1 (g' := (150, _, _, _, _, _)) rfl rfl ?_
  refine R_getf rfl rfl (Nat.le_of_ble_eq_true rfl) rfl rfl ?_
  rw [h6]
  refine R1 (g' := (154, _, _, _, _, _)) rfl rfl ?_
  refine R_eq 161 rfl rfl (fun h154 => ?_) (fun h => by exact absurd (by decide) h)
  refine R1 (g' := (162, _, .int (nI 0) :: _, _, _, _)) rfl rfl ?_
  refine R1 (g' := (163, _, _, _, _, _)) rfl rfl ?_
  rw [nI_add, Nat.add_zero]
  refine R_put rfl rfl (Nat.le_of_ble_eq_true rfl) rfl (Nat.le_of_ble_eq_true rfl) ⟨_, rfl, Or.inl rfl, _, rfl, rfl⟩ rfl ?_
  refine R1 (g' := (167, _, _, _, _, _)) rfl rfl ?_
  refine R_iret rfl ?_
  exact ⟨_, rfl, rX_put hX (by decide) (by decide), rfl, putv⟩
theorem pCu_eq (g : Nat → Int32) (p : Nat) : pCu g p = bif isP (g (p + 1)) then (match cutT g (p + 2) with | .inl e => .inl e | .inr (v, q) => .inr (4, qn g (p + 1) - 48, v, q)) else .inl (p + 1) := by
  unfold pCu cutT pTail
  cases isP (g (p + 1))
  · rfl
  · by_cases h : g (p + 2) = nI 44
    · rw [if_pos h, if_pos h]
      rfl
    · rw [if_neg h, if_neg h]
theorem pBl_eq (g : Nat → Int32) (p q : Nat) : pBl g p q = bif isP (g (p + 1)) then (match blT g (p + 2) with | .inl e => .inl e | .inr (v, z) => .inr (q, qn g (p + 1) - 48, v, z)) else .inl (p + 1) := by
  unfold pBl blT pTail
  cases isP (g (p + 1))
  · rfl
  · by_cases h : g (p + 2) = nI 120
    · rw [if_pos h, if_pos h]
      rfl
    · rw [if_neg h, if_neg h]
