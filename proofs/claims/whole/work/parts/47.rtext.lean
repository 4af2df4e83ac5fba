def rX (s s' : xs) : Prop := (∀ i, i ≠ 142 → s'.1 i = s.1 i) ∧ (∀ j, j < 13 ∨ 16 < j → s'.1 142 j = s.1 142 j) ∧ s'.2 = s.2
theorem rX_rf {s : xs} : rX s s := ⟨fun _ _ => rfl, fun _ _ => rfl, rfl⟩
theorem rX_tr {s s' s2 : xs} (h : rX s s') (g : rX s' s2) : rX s s2 := ⟨fun i a => (g.1 i a).trans (h.1 i a), fun j a => (g.2.1 j a).trans (h.2.1 j a), g.2.2.trans h.2.2⟩
theorem rX_put {s s' : xs} {k : Nat} {v : Int32} (h : rX s s') (h1 : 13 ≤ k) (h2 : k ≤ 16) : rX s (put s' 142 k v) := rX_tr h ⟨fun i a => put_ne _ _ a, fun j a => by rw [put_val, if_pos rfl, if_neg (by omega)], rfl⟩
def rT (s : xs) (g : Nat → Int32) (L p : Nat) : Prop := s.1 142 5 = nI L ∧ s.1 142 13 = nI p ∧ L ≤ 90 ∧ p < 1000 ∧ ∀ i, (if i < L then s.1 146 i else -1) = g i
theorem rT_X {s s' : xs} {g : Nat → Int32} {L p q : Nat} (h : rT s g L p) (c : rX s s') (h6 : s'.1 142 13 = nI q) (hq : q < 1000) : rT s' g L q := by
  obtain ⟨h0, _, hL, hp, hg⟩ := h
  refine ⟨(c.2.1 5 (by decide)).trans h0, h6, hL, hq, ?_⟩
  rw [c.1 146 (by decide)]
  exact hg
theorem putv {s : xs} {k : Nat} {v : Int32} : (put s 142 k v).1 142 k = v := by rw [put_val, if_pos rfl, if_pos rfl]
theorem putn {s : xs} {k j : Nat} {v : Int32} (h : j ≠ k) : (put s 142 k v).1 142 j = s.1 142 j := by rw [put_val, if_pos rfl, if_neg h]
theorem rT_pos {s : xs} {g : Nat → Int32} {L p q : Nat} (h : rT s g L p) (hq : q < 1000) : rT (put s 142 13 (nI q)) g L q := rT_X h (rX_put rX_rf (by decide) (by decide)) putv hq
theorem e9_here {s : xs} {g : Nat → Int32} {L p : Nat} (h : rT s g L p) : Ev_X9_here [.ref 142] (wd s) (.inl (some (.int (g p)))) (wd s) := by
  obtain ⟨h0, h6, hL, hp, hg⟩ := h
  refine ⟨Nat.le_of_ble_eq_true rfl, Nat.le_refl _, Or.inl rfl, ?_⟩
  by_cases hlt : p < L
  · refine R1 (g' := (1, _, _, _, _, _)) rfl rfl ?_
    refine R_getf rfl rfl (Nat.le_of_ble_eq_true rfl) rfl rfl ?_
    refine R1 (g' := (5, _, _, _, _, _)) rfl rfl ?_
    refine R_getf rfl rfl (Nat.le_of_ble_eq_true rfl) rfl rfl ?_
    refine R_cgeN 23 (p) (L) rfl rfl (h6) (h0) (by omega) (by omega) (fun h => by omega) (fun h8 => ?_)
    refine R1 (g' := (12, _, _, _, _, _)) rfl rfl ?_
    refine R_getf rfl rfl (Nat.le_of_ble_eq_true rfl) rfl rfl ?_
    refine R1 (g' := (16, _, _, _, _, _)) rfl rfl ?_
    refine R_getf rfl rfl (Nat.le_of_ble_eq_true rfl) rfl rfl ?_
    refine R_iald p rfl (Nat.le_of_ble_eq_true rfl) rfl (by omega) (by decide) h6 ?_
    refine R1 (g' := (24, _, _, _, _, _)) rfl rfl ?_
    refine R_iret rfl ?_
    exact ⟨o_i (by rw [← hg p, if_pos hlt]), rfl⟩
  · refine R1 (g' := (1, _, _, _, _, _)) rfl rfl ?_
    refine R_getf rfl rfl (Nat.le_of_ble_eq_true rfl) rfl rfl ?_
    refine R1 (g' := (5, _, _, _, _, _)) rfl rfl ?_
    refine R_getf rfl rfl (Nat.le_of_ble_eq_true rfl) rfl rfl ?_
    refine R_cgeN 23 (p) (L) rfl rfl (h6) (h0) (by omega) (by omega) (fun h8 => ?_) (fun h => by omega)
    refine R1 (g' := (24, _, .int (-1) :: _, _, _, _)) rfl rfl ?_
    refine R_iret rfl ?_
    exact ⟨o_i (by rw [← hg p, if_neg hlt]), rfl⟩
theorem rn9_end {s : xs} {g : Nat → Int32} {L p D M c : Nat} (h : rT s g L p) (hp : p + 10 < 1000) (hD : D ≤ 4) (hM : M < 2 ^ 31) (hc : nd g p D = c) : xRun M_X9_readNumber (fun o1 w1 => ∃ s', w1 = wd s' ∧ rX s s' ∧ s'.1 142 14 = s.1 142 14 ∧ s'.1 142 15 = s.1 142 15 ∧ ((∃ e, pNum g D M p = .inl e ∧ o1 = .inl (some (.int (bI false))) ∧ s'.1 142 13 = nI e) ∨ ∃ v q, pNum g D M p = .inr (v, q) ∧ o1 = .inl (some (.int (bI true))) ∧ s'.1 142 13 = nI q ∧ s'.1 142 16 = nI v)) (66, [(3, .int (nI p)), (0, .ref 142), (1, .int (nI D)), (2, .int (nI M))], [], wd (put (put s 142 16 (nI (nv g p c))) 142 13 (nI (p + c))), 0, 0) := by
  have hcD : c ≤ D := hc ▸ nd_le g p D
  have hX : rX s (put (put s 142 16 (nI (nv g p c))) 142 13 (nI (p + c))) := rX_put (rX_put rX_rf (by decide) (by decide)) (by decide) (by decide)
  have h6 : ((put (put s 142 16 (nI (nv g p c))) 142 13 (nI (p + c)))).1 142 13 = nI (p + c) := putv
  have h16 : ((put (put s 142 16 (nI (nv g p c))) 142 13 (nI (p + c)))).1 142 16 = nI (nv g p c) := by rw [putn (by decide), putv]
  have h14 : ((put (put s 142 16 (nI (nv g p c))) 142 13 (nI (p + c)))).1 142 14 = s.1 142 14 := by rw [putn (by decide), putn (by decide)]
  have h15 : ((put (put s 142 16 (nI (nv g p c))) 142 13 (nI (p + c)))).1 142 15 = s.1 142 15 := by rw [putn (by decide), putn (by decide)]
  have hT : rT (put (put s 142 16 (nI (nv g p c))) 142 13 (nI (p + c))) g L (p + c) := rT_X h hX h6 (by omega)
  have hcc : nd g p c = c := by
    rcases Nat.lt_or_ge c D with z | z
    · by_cases e : nd g p c = c
      · exact e
      · exact absurd hc (nd_ne e (by omega))
    · rw [show D = c by omega] at hc
      exact hc
  have hv := nv_lt (D := D) c hcc
  have hv2 : (10 : Nat) ^ c ≤ 10 ^ 4 := Nat.pow_le_pow_right (by decide) (by omega)
  have hP : pNum g D M p = bif Nat.beq c 0 || isd (g (p + c)) then .inl (p + c) else bif decide (1 ≤ nv g p c) && decide (nv g p c ≤ M) then .inr (nv g p c, p + c) else .inl p := by unfold pNum; rw [hc]
  by_cases c0 : c = 0
  · subst c0
    refine R1 (g' := (67, _, _, _, _, _)) rfl rfl ?_
    refine R_getf rfl rfl (Nat.le_of_ble_eq_true rfl) rfl rfl ?_
    refine R1 (g' := (71, _, _, _, _, _)) rfl rfl ?_
    refine R_ceqN 88 (p + 0) (p) rfl rfl (h6) (rfl) (by omega) (by omega) (fun h71 => ?_) (fun h => by omega)
    refine R1 (g' := (89, _, .int (nI 0) :: _, _, _, _)) rfl rfl ?_
    refine R_iret rfl ?_
    exact ⟨_, rfl, hX, h14, h15, Or.inl ⟨p + 0, by rw [hP]; rfl, rfl, h6⟩⟩
  · cases hd : isd (g (p + c)) with
    | true =>
      have hd' : inI (g (p + c)) (nI 48) (nI 57) = true := hd
      refine R1 (g' := (67, _, _, _, _, _)) rfl rfl ?_
      refine R_getf rfl rfl (Nat.le_of_ble_eq_true rfl) rfl rfl ?_
      refine R1 (g' := (71, _, _, _, _, _)) rfl rfl ?_
      refine R_ceqN 88 (p + c) (p) rfl rfl (h6) (rfl) (by omega) (by omega) (fun h => by omega) (fun h71 => ?_)
      refine R1 (g' := (75, _, _, _, _, _)) rfl rfl ?_
      refine R_call1 (Or.inr (Or.inl ⟨rfl, rfl⟩)) rfl rfl ⟨Nat.le_of_ble_eq_true rfl, Nat.le_of_ble_eq_true rfl⟩ (Nat.le_of_ble_eq_true rfl) ⟨rfl, rfl⟩ (⟨⟨_, _, _, rfl, (Nat.le_of_ble_eq_true rfl), rfl⟩, e9_here hT⟩) ?_
      refine R1 (g' := (80, _, .int (nI 48) :: _, _, _, _)) rfl rfl ?_
      refine R1 (g' := (82, _, .int (nI 57) :: _, _, _, _)) rfl rfl ?_
      refine R_call3 (Or.inl ⟨rfl, rfl⟩) rfl rfl ⟨Nat.le_of_ble_eq_true rfl, Nat.le_of_ble_eq_true rfl⟩ (Nat.le_of_ble_eq_true rfl) ⟨rfl, rfl⟩ (e9_in) ?_
      rw [hd']
      refine R_eq 90 rfl rfl (fun h => by exact absurd h (by decide)) (fun h85 => ?_)
      refine R1 (g' := (89, _, .int (nI 0) :: _, _, _, _)) rfl rfl ?_
      refine R_iret rfl ?_
      exact ⟨_, rfl, hX, h14, h15, Or.inl ⟨p + c, by rw [hP, hd, Bool.or_true, cond_true], rfl, h6⟩⟩
    | false =>
      have hd' : inI (g (p + c)) (nI 48) (nI 57) = false := hd
      cases hi : (decide (1 ≤ nv g p c) && decide (nv g p c ≤ M)) with
      | true =>
        refine R1 (g' := (67, _, _, _, _, _)) rfl rfl ?_
        refine R_getf rfl rfl (Nat.le_of_ble_eq_true rfl) rfl rfl ?_
        refine R1 (g' := (71, _, _, _, _, _)) rfl rfl ?_
        refine R_ceqN 88 (p + c) (p) rfl rfl (h6) (rfl) (by omega) (by omega) (fun h => by omega) (fun h71 => ?_)
        refine R1 (g' := (75, _, _, _, _, _)) rfl rfl ?_
        refine R_call1 (Or.inr (Or.inl ⟨rfl, rfl⟩)) rfl rfl ⟨Nat.le_of_ble_eq_true rfl, Nat.le_of_ble_eq_true rfl⟩ (Nat.le_of_ble_eq_true rfl) ⟨rfl, rfl⟩ (⟨⟨_, _, _, rfl, (Nat.le_of_ble_eq_true rfl), rfl⟩, e9_here hT⟩) ?_
        refine R1 (g' := (80, _, .int (nI 48) :: _, _, _, _)) rfl rfl ?_
        refine R1 (g' := (82, _, .int (nI 57) :: _, _, _, _)) rfl rfl ?_
        refine R_call3 (Or.inl ⟨rfl, rfl⟩) rfl rfl ⟨Nat.le_of_ble_eq_true rfl, Nat.le_of_ble_eq_true rfl⟩ (Nat.le_of_ble_eq_true rfl) ⟨rfl, rfl⟩ (e9_in) ?_
        rw [hd']
        refine R_eq 90 rfl rfl (fun h85 => ?_) (fun h => by exact absurd rfl h)
        refine R1 (g' := (91, _, _, _, _, _)) rfl rfl ?_
        refine R_getf rfl rfl (Nat.le_of_ble_eq_true rfl) rfl rfl ?_
        refine R1 (g' := (95, _, .int (nI 1) :: _, _, _, _)) rfl rfl ?_
        refine R1 (g' := (96, _, _, _, _, _)) rfl rfl ?_
        refine R_call3 (Or.inl ⟨rfl, rfl⟩) rfl rfl ⟨Nat.le_of_ble_eq_true rfl, Nat.le_of_ble_eq_true rfl⟩ (Nat.le_of_ble_eq_true rfl) ⟨rfl, rfl⟩ (e9_in) ?_
        rw [h16, inI_nI (by omega) (by decide) hM, hi]
        refine R1 (g' := (101, _, _, _, _, _)) rfl rfl ?_
        refine R1 (g' := (102, _, _, _, _, _)) rfl rfl ?_
        refine R1 (g' := (104, _, _, _, _, _)) rfl rfl ?_
        refine R_eq 114 rfl rfl (fun h => by exact absurd h (by decide)) (fun h104 => ?_)
        refine R1 (g' := (108, _, _, _, _, _)) rfl rfl ?_
        refine R_getf rfl rfl (Nat.le_of_ble_eq_true rfl) rfl rfl ?_
        refine R1 (g' := (115, _, _, _, _, _)) rfl rfl ?_
        refine R_put rfl rfl (Nat.le_of_ble_eq_true rfl) rfl (Nat.le_of_ble_eq_true rfl) ⟨_, rfl, Or.inl rfl, _, rfl, rfl⟩ rfl ?_
        refine R1 (g' := (120, _, _, _, _, _)) rfl rfl ?_
        refine R_iret rfl ?_
        exact ⟨_, rfl, rX_put hX (by decide) (by decide), (putn (by decide)).trans h14, (putn (by decide)).trans h15, Or.inr ⟨nv g p c, p + c, by rw [hP, hd, nBeq_0 c0, Bool.or_false, cond_false, hi, cond_true], rfl, putv.trans h6, (putn (by decide)).trans h16⟩⟩
      | false =>
        refine R1 (g' := (67, _, _, _, _, _)) rfl rfl ?_
        refine R_getf rfl rfl (Nat.le_of_ble_eq_true rfl) rfl rfl ?_
        refine R1 (g' := (71, _, _, _, _, _)) rfl rfl ?_
        refine R_ceqN 88 (p + c) (p) rfl rfl (h6) (rfl) (by omega) (by omega) (fun h => by omega) (fun h71 => ?_)
        refine R1 (g' := (75, _, _, _, _, _)) rfl rfl ?_
        refine R_call1 (Or.inr (Or.inl ⟨rfl, rfl⟩)) rfl rfl ⟨Nat.le_of_ble_eq_true rfl, Nat.le_of_ble_eq_true rfl⟩ (Nat.le_of_ble_eq_true rfl) ⟨rfl, rfl⟩ (⟨⟨_, _, _, rfl, (Nat.le_of_ble_eq_true rfl), rfl⟩, e9_here hT⟩) ?_
        refine R1 (g' := (80, _, .int (nI 48) :: _, _, _, _)) rfl rfl ?_
        refine R1 (g' := (82, _, .int (nI 57) :: _, _, _, _)) rfl rfl ?_
        refine R_call3 (Or.inl ⟨rfl, rfl⟩) rfl rfl ⟨Nat.le_of_ble_eq_true rfl, Nat.le_of_ble_eq_true rfl⟩ (Nat.le_of_ble_eq_true rfl) ⟨rfl, rfl⟩ (e9_in) ?_
        rw [hd']
        refine R_eq 90 rfl rfl (fun h85 => ?_) (fun h => by exact absurd rfl h)
        refine R1 (g' := (91, _, _, _, _, _)) rfl rfl ?_
        refine R_getf rfl rfl (Nat.le_of_ble_eq_true rfl) rfl rfl ?_
        refine R1 (g' := (95, _, .int (nI 1) :: _, _, _, _)) rfl rfl ?_
        refine R1 (g' := (96, _, _, _, _, _)) rfl rfl ?_
        refine R_call3 (Or.inl ⟨rfl, rfl⟩) rfl rfl ⟨Nat.le_of_ble_eq_true rfl, Nat.le_of_ble_eq_true rfl⟩ (Nat.le_of_ble_eq_true rfl) ⟨rfl, rfl⟩ (e9_in) ?_
        rw [h16, inI_nI (by omega) (by decide) hM, hi]
        refine R1 (g' := (101, _, _, _, _, _)) rfl rfl ?_
        refine R1 (g' := (102, _, _, _, _, _)) rfl rfl ?_
        refine R1 (g' := (104, _, _, _, _, _)) rfl rfl ?_
        refine R_eq 114 rfl rfl (fun h104 => ?_) (fun h => by exact absurd rfl h)
        refine R1 (g' := (115, _, _, _, _, _)) rfl rfl ?_
        refine R_put rfl rfl (Nat.le_of_ble_eq_true rfl) rfl (Nat.le_of_ble_eq_true rfl) ⟨_, rfl, Or.inl rfl, _, rfl, rfl⟩ rfl ?_
        refine R1 (g' := (120, _, _, _, _, _)) rfl rfl ?_
        refine R_iret rfl ?_
        exact ⟨_, rfl, rX_put hX (by decide) (by decide), (putn (by decide)).trans h14, (putn (by decide)).trans h15, Or.inl ⟨p, by rw [hP, hd, nBeq_0 c0, Bool.or_false, cond_false, hi, cond_false], rfl, putv⟩⟩
theorem rn9_loop {s : xs} {g : Nat → Int32} {L p D M : Nat} (h : rT s g L p) (hp : p + 10 < 1000) (hD : D ≤ 4) (hM : M < 2 ^ 31) : ∀ (d c : Nat), c + d = D → nd g p c = c → xRun M_X9_readNumber (fun o1 w1 => ∃ s', w1 = wd s' ∧ rX s s' ∧ s'.1 142 14 = s.1 142 14 ∧ s'.1 142 15 = s.1 142 15 ∧ ((∃ e, pNum g D M p = .inl e ∧ o1 = .inl (some (.int (bI false))) ∧ s'.1 142 13 = nI e) ∨ ∃ v q, pNum g D M p = .inr (v, q) ∧ o1 = .inl (some (.int (bI true))) ∧ s'.1 142 13 = nI q ∧ s'.1 142 16 = nI v)) (10, [(3, .int (nI p)), (0, .ref 142), (1, .int (nI D)), (2, .int (nI M))], [], wd (put (put s 142 16 (nI (nv g p c))) 142 13 (nI (p + c))), 0, 0) := by
  intro d
  induction d with
  | zero =>
    intro c hc hn
    have hc : c = D := by omega
    subst hc
    have h6 : ((put (put s 142 16 (nI (nv g p c))) 142 13 (nI (p + c)))).1 142 13 = nI (p + c) := putv
    refine R1 (g' := (11, _, _, _, _, _)) rfl rfl ?_
    refine R_getf rfl rfl (Nat.le_of_ble_eq_true rfl) rfl rfl ?_
    refine R1 (g' := (15, _, _, _, _, _)) rfl rfl ?_
    refine R1 (g' := (16, _, _, _, _, _)) rfl rfl ?_
    refine R1 (g' := (17, _, _, _, _, _)) rfl rfl ?_
    rw [h6, nI_add]
    refine R_cgeN 66 (p + c) (p + c) rfl rfl (rfl) (rfl) (by omega) (by omega) (fun h17 => ?_) (fun h => by omega)
    exact rn9_end h hp hD hM hn
  | succ d ih =>
    intro c hc hn
    have hX : rX s (put (put s 142 16 (nI (nv g p c))) 142 13 (nI (p + c))) := rX_put (rX_put rX_rf (by decide) (by decide)) (by decide) (by decide)
    have h6 : ((put (put s 142 16 (nI (nv g p c))) 142 13 (nI (p + c)))).1 142 13 = nI (p + c) := putv
    have h16 : ((put (put s 142 16 (nI (nv g p c))) 142 13 (nI (p + c)))).1 142 16 = nI (nv g p c) := by rw [putn (by decide), putv]
    have hT : rT (put (put s 142 16 (nI (nv g p c))) 142 13 (nI (p + c))) g L (p + c) := rT_X h hX h6 (by omega)
    cases hd : isd (g (p + c)) with
    | false =>
      have hd' : inI (g (p + c)) (nI 48) (nI 57) = false := hd
      refine R1 (g' := (11, _, _, _, _, _)) rfl rfl ?_
      refine R_getf rfl rfl (Nat.le_of_ble_eq_true rfl) rfl rfl ?_
      refine R1 (g' := (15, _, _, _, _, _)) rfl rfl ?_
      refine R1 (g' := (16, _, _, _, _, _)) rfl rfl ?_
      refine R1 (g' := (17, _, _, _, _, _)) rfl rfl ?_
      rw [h6, nI_add]
      refine R_cgeN 66 (p + c) (p + D) rfl rfl (rfl) (rfl) (by omega) (by omega) (fun h => by omega) (fun h17 => ?_)
      refine R1 (g' := (21, _, _, _, _, _)) rfl rfl ?_
      refine R_call1 (Or.inr (Or.inl ⟨rfl, rfl⟩)) rfl rfl ⟨Nat.le_of_ble_eq_true rfl, Nat.le_of_ble_eq_true rfl⟩ (Nat.le_of_ble_eq_true rfl) ⟨rfl, rfl⟩ (⟨⟨_, _, _, rfl, (Nat.le_of_ble_eq_true rfl), rfl⟩, e9_here hT⟩) ?_
      refine R1 (g' := (26, _, .int (nI 48) :: _, _, _, _)) rfl rfl ?_
      refine R1 (g' := (28, _, .int (nI 57) :: _, _, _, _)) rfl rfl ?_
      refine R_call3 (Or.inl ⟨rfl, rfl⟩) rfl rfl ⟨Nat.le_of_ble_eq_true rfl, Nat.le_of_ble_eq_true rfl⟩ (Nat.le_of_ble_eq_true rfl) ⟨rfl, rfl⟩ (e9_in) ?_
      rw [hd']
      refine R_eq 66 rfl rfl (fun h31 => ?_) (fun h => by exact absurd rfl h)
      exact rn9_end h hp hD hM (by rw [← hc]; exact nd_stop hn hd (d + 1))
    | true =>
      have hd' : inI (g (p + c)) (nI 48) (nI 57) = true := hd
      obtain ⟨k, e1, e2, e3⟩ := isd_of hd
      have hv := nv_lt (D := D) c hn
      have hv2 : (10 : Nat) ^ c ≤ 10 ^ 4 := Nat.pow_le_pow_right (by decide) (by omega)
      have hnv : nv g p (c + 1) = 10 * nv g p c + k - 48 := by rw [nv, nq e1 (by omega)]; omega
      have hst := ih (c + 1) (by omega) (nd_go hn hd)
      have hS : put (put (put (put s 142 16 (nI (nv g p c))) 142 13 (nI (p + c))) 142 16 (nI (nv g p (c + 1)))) 142 13 (nI (p + (c + 1))) = put (put s 142 16 (nI (nv g p (c + 1)))) 142 13 (nI (p + (c + 1))) := by
        simp only [put, setP_setP, setP_at]
        congr 1
        funext j
        simp only [upd]
        by_cases h13 : j = 13
        · simp [h13]
        · by_cases h16 : j = 16
          · simp [h16]
          · simp [h13, h16]
      refine R1 (g' := (11, _, _, _, _, _)) rfl rfl ?_
      refine R_getf rfl rfl (Nat.le_of_ble_eq_true rfl) rfl rfl ?_
      refine R1 (g' := (15, _, _, _, _, _)) rfl rfl ?_
      refine R1 (g' := (16, _, _, _, _, _)) rfl rfl ?_
      refine R1 (g' := (17, _, _, _, _, _)) rfl rfl ?_
      rw [h6, nI_add]
      refine R_cgeN 66 (p + c) (p + D) rfl rfl (rfl) (rfl) (by omega) (by omega) (fun h => by omega) (fun h17 => ?_)
      refine R1 (g' := (21, _, _, _, _, _)) rfl rfl ?_
      refine R_call1 (Or.inr (Or.inl ⟨rfl, rfl⟩)) rfl rfl ⟨Nat.le_of_ble_eq_true rfl, Nat.le_of_ble_eq_true rfl⟩ (Nat.le_of_ble_eq_true rfl) ⟨rfl, rfl⟩ (⟨⟨_, _, _, rfl, (Nat.le_of_ble_eq_true rfl), rfl⟩, e9_here hT⟩) ?_
      refine R1 (g' := (26, _, .int (nI 48) :: _, _, _, _)) rfl rfl ?_
      refine R1 (g' := (28, _, .int (nI 57) :: _, _, _, _)) rfl rfl ?_
      refine R_call3 (Or.inl ⟨rfl, rfl⟩) rfl rfl ⟨Nat.le_of_ble_eq_true rfl, Nat.le_of_ble_eq_true rfl⟩ (Nat.le_of_ble_eq_true rfl) ⟨rfl, rfl⟩ (e9_in) ?_
      rw [hd']
      refine R_eq 66 rfl rfl (fun h => by exact absurd h (by decide)) (fun h31 => ?_)
      refine R1 (g' := (35, _, _, _, _, _)) rfl rfl ?_
      refine R1 (g' := (37, _, .int (nI 10) :: _, _, _, _)) rfl rfl ?_
      refine R1 (g' := (38, _, _, _, _, _)) rfl rfl ?_
      refine R_getf rfl rfl (Nat.le_of_ble_eq_true rfl) rfl rfl ?_
      rw [h16]
      refine R1 (g' := (42, _, _, _, _, _)) rfl rfl ?_
      rw [pk_mul]
      refine R1 (g' := (43, _, _, _, _, _)) rfl rfl ?_
      refine R_call1 (Or.inr (Or.inl ⟨rfl, rfl⟩)) rfl rfl ⟨Nat.le_of_ble_eq_true rfl, Nat.le_of_ble_eq_true rfl⟩ (Nat.le_of_ble_eq_true rfl) ⟨rfl, rfl⟩ (⟨⟨_, _, _, rfl, (Nat.le_of_ble_eq_true rfl), rfl⟩, e9_here hT⟩) ?_
      rw [e1]
      refine R1 (g' := (47, _, _, _, _, _)) rfl rfl ?_
      rw [nI_add]
      refine R1 (g' := (49, _, .int (nI 48) :: _, _, _, _)) rfl rfl ?_
      refine R1 (g' := (50, _, _, _, _, _)) rfl rfl ?_
      rw [pk_sub (by omega), ← hnv]
      refine R_put rfl rfl (Nat.le_of_ble_eq_true rfl) rfl (Nat.le_of_ble_eq_true rfl) ⟨_, rfl, Or.inl rfl, _, rfl, rfl⟩ rfl ?_
      change xRun _ _ (53, _, _, wd (put (put (put s 142 16 (nI (nv g p c))) 142 13 (nI (p + c))) 142 16 (nI (nv g p (c + 1)))), _, _)
      refine R1 (g' := (54, _, _, _, _, _)) rfl rfl ?_
      refine R1 (g' := (55, _, _, _, _, _)) rfl rfl ?_
      refine R_getf rfl rfl (Nat.le_of_ble_eq_true rfl) rfl rfl ?_
      rw [putn (k := 16) (by decide), h6]
      refine R1 (g' := (59, _, .int (nI 1) :: _, _, _, _)) rfl rfl ?_
      refine R1 (g' := (60, _, _, _, _, _)) rfl rfl ?_
      rw [nI_add, show p + c + 1 = p + (c + 1) from rfl]
      refine R_put rfl rfl (Nat.le_of_ble_eq_true rfl) rfl (Nat.le_of_ble_eq_true rfl) ⟨_, rfl, Or.inl rfl, _, rfl, rfl⟩ rfl ?_
      refine R1 (g' := (10, _, _, _, _, _)) rfl rfl ?_
      change xRun _ _ (10, _, _, wd (put (put (put (put s 142 16 (nI (nv g p c))) 142 13 (nI (p + c))) 142 16 (nI (nv g p (c + 1)))) 142 13 (nI (p + (c + 1)))), _, _)
      rw [hS]
      exact hst
theorem e9_readNumber {s : xs} {g : Nat → Int32} {L p D M : Nat} (h : rT s g L p) (hp : p + 10 < 1000) (hD : D ≤ 4) (hM : M < 2 ^ 31) : ∃ o1 w1, (fun o1 w1 => ∃ s', w1 = wd s' ∧ rX s s' ∧ s'.1 142 14 = s.1 142 14 ∧ s'.1 142 15 = s.1 142 15 ∧ ((∃ e, pNum g D M p = .inl e ∧ o1 = .inl (some (.int (bI false))) ∧ s'.1 142 13 = nI e) ∨ ∃ v q, pNum g D M p = .inr (v, q) ∧ o1 = .inl (some (.int (bI true))) ∧ s'.1 142 13 = nI q ∧ s'.1 142 16 = nI v)) o1 w1 ∧ Ev_X9_readNumber [.ref 142, .int (nI D), .int (nI M)] (wd s) o1 w1 := by
  have h6 := h.2.1
  have hr := rn9_loop h hp hD hM D 0 (Nat.zero_add _) rfl
  rw [Nat.add_zero, show put (put s 142 16 (nI (nv g p 0))) 142 13 (nI p) = put s 142 16 (nI 0) from put_self ((putn (by decide)).trans h6)] at hr
  refine xEv_ex (Nat.le_of_ble_eq_true rfl) (fun o1 w1 k => ?_) ?_
  · obtain ⟨s', rfl, _, _, _, ⟨e, _, rfl, _⟩ | ⟨v, q, _, rfl, _⟩⟩ := k
    · exact ⟨Nat.le_refl _, Or.inr ⟨rfl, bI_01 _⟩⟩
    · exact ⟨Nat.le_refl _, Or.inr ⟨rfl, bI_01 _⟩⟩
  refine R1 (g' := (1, _, _, _, _, _)) rfl rfl ?_
  refine R_getf rfl rfl (Nat.le_of_ble_eq_true rfl) rfl rfl ?_
  rw [h6]
  refine R1 (g' := (5, _, _, _, _, _)) rfl rfl ?_
  refine R1 (g' := (6, _, _, _, _, _)) rfl rfl ?_
  refine R1 (g' := (7, _, .int (nI 0) :: _, _, _, _)) rfl rfl ?_
  refine R_put rfl rfl (Nat.le_of_ble_eq_true rfl) rfl (Nat.le_of_ble_eq_true rfl) ⟨_, rfl, Or.inl rfl, _, rfl, rfl⟩ rfl ?_
  change xRun _ _ (10, _, _, wd (put s 142 16 (nI 0)), _, _)
  exact R_lv [(3, .int (nI p)), (0, .ref 142), (1, .int (nI D)), (2, .int (nI M))] rfl (List.forall_mem_cons.mpr ⟨rfl, List.forall_mem_cons.mpr ⟨rfl, List.forall_mem_cons.mpr ⟨rfl, List.forall_mem_cons.mpr ⟨rfl, fun _ h => absurd h List.not_mem_nil⟩⟩⟩⟩) ⟨rfl, rfl⟩ hr
theorem e9_readPartT {s : xs} {g : Nat → Int32} {L p k : Nat} (h : rT s g L p) (hk : g p = nI (48 + k)) (hk8 : k < 8) : Ev_X9_readPart [.ref 142] (wd s) (.inl (some (.int (bI true)))) (wd (put (put s 142 15 (nI k)) 142 13 (nI (p + 1)))) := by
  have h6 := h.2.1
  have hi : inI (nI (48 + k)) (nI 48) (nI 55) = true := by rw [inI_nI (by omega) (by decide) (by decide), decide_eq_true (by omega), decide_eq_true (by omega)]; rfl
  refine ⟨Nat.le_of_ble_eq_true rfl, Nat.le_refl _, Or.inr ⟨rfl, bI_01 _⟩, ?_⟩
  refine R1 (g' := (1, _, _, _, _, _)) rfl rfl ?_
  refine R_call1 (Or.inr (Or.inl ⟨rfl, rfl⟩)) rfl rfl ⟨Nat.le_of_ble_eq_true rfl, Nat.le_of_ble_eq_true rfl⟩ (Nat.le_of_ble_eq_true rfl) ⟨rfl, rfl⟩ (⟨⟨_, _, _, rfl, (Nat.le_of_ble_eq_true rfl), rfl⟩, e9_here h⟩) ?_
  refine R1 (g' := (6, _, .int (nI 48) :: _, _, _, _)) rfl rfl ?_
  refine R1 (g' := (8, _, .int (nI 55) :: _, _, _, _)) rfl rfl ?_
  rw [hk]
  refine R_call3 (Or.inl ⟨rfl, rfl⟩) rfl rfl ⟨Nat.le_of_ble_eq_true rfl, Nat.le_of_ble_eq_true rfl⟩ (Nat.le_of_ble_eq_true rfl) ⟨rfl, rfl⟩ (e9_in) ?_
  rw [hi]
  refine R_ne 16 rfl rfl (fun h11 => ?_) (fun h => by exact absurd h (by decide))
  refine R1 (g' := (17, _, _, _, _, _)) rfl rfl ?_
  refine R1 (g' := (18, _, _, _, _, _)) rfl rfl ?_
  refine R_call1 (Or.inr (Or.inl ⟨rfl, rfl⟩)) rfl rfl ⟨Nat.le_of_ble_eq_true rfl, Nat.le_of_ble_eq_true rfl⟩ (Nat.le_of_ble_eq_true rfl) ⟨rfl, rfl⟩ (⟨⟨_, _, _, rfl, (Nat.le_of_ble_eq_true rfl), rfl⟩, e9_here h⟩) ?_
  refine R1 (g' := (23, _, .int (nI 48) :: _, _, _, _)) rfl rfl ?_
  refine R1 (g' := (24, _, _, _, _, _)) rfl rfl ?_
  rw [hk, pk_sub (by omega), show 48 + k - 48 = k by omega]
  refine R_put rfl rfl (Nat.le_of_ble_eq_true rfl) rfl (Nat.le_of_ble_eq_true rfl) ⟨_, rfl, Or.inl rfl, _, rfl, rfl⟩ rfl ?_
  change xRun _ _ (27, _, _, wd (put s 142 15 (nI k)), _, _)
  refine R1 (g' := (28, _, _, _, _, _)) rfl rfl ?_
  refine R1 (g' := (29, _, _, _, _, _)) rfl rfl ?_
  refine R_getf rfl rfl (Nat.le_of_ble_eq_true rfl) rfl rfl ?_
  rw [putn (k := 15) (by decide), h6]
  refine R1 (g' := (33, _, .int (nI 1) :: _, _, _, _)) rfl rfl ?_
  refine R1 (g' := (34, _, _, _, _, _)) rfl rfl ?_
  rw [nI_add]
  refine R_put rfl rfl (Nat.le_of_ble_eq_true rfl) rfl (Nat.le_of_ble_eq_true rfl) ⟨_, rfl, Or.inl rfl, _, rfl, rfl⟩ rfl ?_
  refine R1 (g' := (38, _, .int (nI 1) :: _, _, _, _)) rfl rfl ?_
  refine R_iret rfl ?_
  exact ⟨rfl, rfl⟩
theorem e9_readPartF {s : xs} {g : Nat → Int32} {L p : Nat} (h : rT s g L p) (hk : isP (g p) = false) : Ev_X9_readPart [.ref 142] (wd s) (.inl (some (.int (bI false)))) (wd s) := by
  have hi : inI (g p) (nI 48) (nI 55) = false := hk
  refine ⟨Nat.le_of_ble_eq_true rfl, Nat.le_refl _, Or.inr ⟨rfl, bI_01 _⟩, ?_⟩
  refine R1 (g' := (1, _, _, _, _, _)) rfl rfl ?_
  refine R_call1 (Or.inr (Or.inl ⟨rfl, rfl⟩)) rfl rfl ⟨Nat.le_of_ble_eq_true rfl, Nat.le_of_ble_eq_true rfl⟩ (Nat.le_of_ble_eq_true rfl) ⟨rfl, rfl⟩ (⟨⟨_, _, _, rfl, (Nat.le_of_ble_eq_true rfl), rfl⟩, e9_here h⟩) ?_
  refine R1 (g' := (6, _, .int (nI 48) :: _, _, _, _)) rfl rfl ?_
  refine R1 (g' := (8, _, .int (nI 55) :: _, _, _, _)) rfl rfl ?_
  refine R_call3 (Or.inl ⟨rfl, rfl⟩) rfl rfl ⟨Nat.le_of_ble_eq_true rfl, Nat.le_of_ble_eq_true rfl⟩ (Nat.le_of_ble_eq_true rfl) ⟨rfl, rfl⟩ (e9_in) ?_
  rw [hi]
  refine R_ne 16 rfl rfl (fun h => by exact absurd rfl h) (fun h11 => ?_)
  refine R1 (g' := (15, _, .int (nI 0) :: _, _, _, _)) rfl rfl ?_
  refine R_iret rfl ?_
  exact ⟨rfl, rfl⟩
