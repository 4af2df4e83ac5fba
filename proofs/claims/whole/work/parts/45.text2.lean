def cO (s s' : xs) (o : Nat) : Prop := (∀ i, i ≠ 133 → i ≠ 135 → i ≠ 137 → i ≠ 139 → s'.1 i = s.1 i) ∧ (∀ j, j ≠ 6 → j ≠ 7 → s'.1 133 j = s.1 133 j) ∧ (∀ j, j ≠ o → s'.1 135 j = s.1 135 j ∧ s'.1 137 j = s.1 137 j ∧ s'.1 139 j = s.1 139 j) ∧ s'.2 = s.2
theorem cO_rf {s : xs} {o : Nat} : cO s s o := ⟨fun _ _ _ _ _ => rfl, fun _ _ _ => rfl, fun _ _ => ⟨rfl, rfl, rfl⟩, rfl⟩
theorem cO_tr {s s' s2 : xs} {o : Nat} (h : cO s s' o) (g : cO s' s2 o) : cO s s2 o := ⟨fun i a b c d => (g.1 i a b c d).trans (h.1 i a b c d), fun j a b => (g.2.1 j a b).trans (h.2.1 j a b), fun j a => ⟨(g.2.2.1 j a).1.trans (h.2.2.1 j a).1, (g.2.2.1 j a).2.1.trans (h.2.2.1 j a).2.1, (g.2.2.1 j a).2.2.trans (h.2.2.1 j a).2.2⟩, g.2.2.2.trans h.2.2.2⟩
theorem cO_put {s s' : xs} {o k : Nat} {v : Int32} (h : cO s s' o) (hk : k = 6 ∨ k = 7) : cO s (put s' 133 k v) o := by
  refine cO_tr h ⟨fun i a _ _ _ => put_ne _ _ a, fun j a b => ?_, fun j a => ⟨?_, ?_, ?_⟩, rfl⟩
  · rw [put_val, if_pos rfl, if_neg (by omega)]
  · rw [put_ne _ _ (by decide)]
  · rw [put_ne _ _ (by decide)]
  · rw [put_ne _ _ (by decide)]
theorem cO_row {s s' : xs} {o i : Nat} {v : Int32} (h : cO s s' o) (hi : i = 135 ∨ i = 137 ∨ i = 139) : cO s (setP s' i (upd (s'.1 i) o v)) o := by
  refine cO_tr h ⟨fun j a b c d => setP_ne _ _ (by omega), fun j a b => by rw [setP_ne _ _ (by omega)], fun j a => ?_, rfl⟩
  have e : ∀ r, (setP s' i (upd (s'.1 i) o v)).1 r j = s'.1 r j := by
    intro r
    rw [setP_val]
    by_cases z : r = i
    · subst z
      rw [if_pos rfl, pk_un a]
    · rw [if_neg z]
  exact ⟨e _, e _, e _⟩
theorem cT_cO {s s' : xs} {g : Nat → Int32} {L p q o : Nat} (h : cT s g L p o) (c : cO s s' o) (h6 : s'.1 133 6 = nI q) (hq : q < 1000) : cT s' g L q o := by
  obtain ⟨h0, _, h1, hL, hp, ho, hg⟩ := h
  refine ⟨(c.2.1 0 (by decide) (by decide)).trans h0, h6, (c.2.1 1 (by decide) (by decide)).trans h1, hL, hq, ho, ?_⟩
  rw [c.1 141 (by decide) (by decide) (by decide) (by decide)]
  exact hg
def rdPo (s : xs) (o : Nat) (r : Nat ⊕ (Nat × Nat × Nat × Nat)) (o1 : xO) (w1 : xw) : Prop := ∃ s', w1 = wd s' ∧ cO s s' o ∧ match r with
  | .inl e => o1 = .inl (some (.int (bI false))) ∧ s'.1 133 7 = nI e
  | .inr (a, b, c, q) => o1 = .inl (some (.int (bI true))) ∧ s'.1 133 6 = nI q ∧ s'.1 135 o = nI a ∧ (a ≠ 3 → s'.1 137 o = nI b ∧ s'.1 139 o = nI c)
theorem rdPo_ro {s : xs} {o : Nat} {r : Nat ⊕ (Nat × Nat × Nat × Nat)} {o1 : xO} {w1 : xw} (h : rdPo s o r o1 w1) : (wd s).1 ≤ w1.1 ∧ xro (some .boolean) o1 := by
  obtain ⟨s', rfl, _, h⟩ := h
  refine ⟨Nat.le_refl _, ?_⟩
  match r, h with
  | .inl e, h => rw [h.1]; exact Or.inr ⟨rfl, bI_01 _⟩
  | .inr (a, b, c, q), h => rw [h.1]; exact Or.inr ⟨rfl, bI_01 _⟩
theorem row_o {s : xs} {i o : Nat} {f : Nat → Int32} {v : Int32} : (setP s i (upd f o v)).1 i o = v := by rw [setP_at, pk_us]
theorem e2_readBlows {s : xs} {g : Nat → Int32} {L p o q : Nat} (h : cT s g L p o) (hp : p + 20 < 1000) : ∃ o1 w1, rdPo s o (pBl g p q) o1 w1 ∧ Ev_X2_readBlows [.ref 133, .int (nI q)] (wd s) o1 w1 := by
  have h6 := h.2.1
  have h1 := h.2.2.1
  have ho := h.2.2.2.2.2.1
  have c3 : cO s (put (setP (setP s 135 (upd (s.1 135) o (nI q))) 139 (upd (s.1 139) o (nI 1))) 133 6 (nI (p + 1))) o := cO_put (by have := cO_row (o := o) (v := nI 1) (cO_row (o := o) (v := nI q) (cO_rf (s := s)) (Or.inl (Eq.refl 135))) (Or.inr (Or.inr (Eq.refl 139))); rw [setP_ne (i := 135) (j := 139) _ _ (by decide)] at this; exact this) (Or.inl rfl)
  have t3 : cT (put (setP (setP s 135 (upd (s.1 135) o (nI q))) 139 (upd (s.1 139) o (nI 1))) 133 6 (nI (p + 1))) g L (p + 1) o := cT_cO h c3 (by rw [put_val, if_pos rfl, if_pos rfl]) (by omega)
  refine xEv_ex (Nat.le_of_ble_eq_true rfl) (fun o1 w1 k => rdPo_ro k) ?_
  cases hP : isP (g (p + 1)) with
  | false =>
    have hr : pBl g p q = .inl (p + 1) := by unfold pBl; rw [hP, cond_false]
    rw [hr]
    refine R1 (g' := (1, _, _, _, _, _)) rfl rfl ?_
    refine R_getf rfl rfl (Nat.le_of_ble_eq_true rfl) rfl rfl ?_
    refine R1 (g' := (5, _, _, _, _, _)) rfl rfl ?_
    refine R_getf rfl rfl (Nat.le_of_ble_eq_true rfl) rfl rfl ?_
    refine R1 (g' := (9, _, _, _, _, _)) rfl rfl ?_
    rw [h1]
    refine R_call3 (Or.inr (Or.inl ⟨rfl, rfl⟩)) rfl rfl ⟨Nat.le_of_ble_eq_true rfl, Nat.le_of_ble_eq_true rfl⟩ (Nat.le_of_ble_eq_true rfl) ⟨rfl, rfl⟩ (⟨⟨_, _, _, rfl, (Nat.le_of_ble_eq_true rfl), rfl⟩, e_Row_set xrw_134 (by decide) ho⟩) ?_
    refine R1 (g' := (13, _, _, _, _, _)) rfl rfl ?_
    refine R_getf rfl rfl (Nat.le_of_ble_eq_true rfl) rfl rfl ?_
    refine R1 (g' := (17, _, _, _, _, _)) rfl rfl ?_
    refine R_getf rfl rfl (Nat.le_of_ble_eq_true rfl) rfl rfl ?_
    refine R1 (g' := (21, _, .int (nI 1) :: _, _, _, _)) rfl rfl ?_
    rw [setP_ne _ _ (by decide), h1]
    refine R_call3 (Or.inr (Or.inl ⟨rfl, rfl⟩)) rfl rfl ⟨Nat.le_of_ble_eq_true rfl, Nat.le_of_ble_eq_true rfl⟩ (Nat.le_of_ble_eq_true rfl) ⟨rfl, rfl⟩ (⟨⟨_, _, _, rfl, (Nat.le_of_ble_eq_true rfl), rfl⟩, e_Row_set xrw_138 (by decide) ho⟩) ?_
    rw [setP_ne (i := 135) (j := 139) _ _ (by decide)]
    refine R1 (g' := (25, _, _, _, _, _)) rfl rfl ?_
    refine R1 (g' := (26, _, _, _, _, _)) rfl rfl ?_
    refine R_getf rfl rfl (Nat.le_of_ble_eq_true rfl) rfl rfl ?_
    rw [setP_ne _ _ (by decide), setP_ne _ _ (by decide), h6]
    refine R1 (g' := (30, _, .int (nI 1) :: _, _, _, _)) rfl rfl ?_
    refine R1 (g' := (31, _, _, _, _, _)) rfl rfl ?_
    rw [nI_add]
    refine R_put rfl rfl (Nat.le_of_ble_eq_true rfl) rfl (Nat.le_of_ble_eq_true rfl) ⟨_, rfl, Or.inl rfl, _, rfl, rfl⟩ rfl ?_
    change xRun _ _ (34, _, _, wd (put (setP (setP s 135 (upd (s.1 135) o (nI q))) 139 (upd (s.1 139) o (nI 1))) 133 6 (nI (p + 1))), _, _)
    refine R1 (g' := (35, _, _, _, _, _)) rfl rfl ?_
    refine R_call1 (Or.inr (Or.inl ⟨rfl, rfl⟩)) rfl rfl ⟨Nat.le_of_ble_eq_true rfl, Nat.le_of_ble_eq_true rfl⟩ (Nat.le_of_ble_eq_true rfl) ⟨rfl, rfl⟩ (⟨⟨_, _, _, rfl, (Nat.le_of_ble_eq_true rfl), rfl⟩, e2_readPartF t3 hP⟩) ?_
    refine R_ne 43 rfl rfl (fun h => by exact absurd rfl h) (fun h38 => ?_)
    refine R1 (g' := (42, _, .int (nI 0) :: _, _, _, _)) rfl rfl ?_
    refine R_iret rfl ?_
    exact ⟨_, rfl, cO_put c3 (Or.inr rfl), rfl, by rw [put_val, if_pos rfl, if_pos rfl]⟩
  | true =>
    obtain ⟨k', e1, e2, e3⟩ := isP_of hP
    obtain ⟨k, rfl⟩ : ∃ k, k' = 48 + k := ⟨k' - 48, by omega⟩
    have hq : qn g (p + 1) - 48 = k := by rw [nq e1 (by omega)]; omega
    have c4 : cO s (put (setP (put (setP (setP s 135 (upd (s.1 135) o (nI q))) 139 (upd (s.1 139) o (nI 1))) 133 6 (nI (p + 1))) 137 (upd ((put (setP (setP s 135 (upd (s.1 135) o (nI q))) 139 (upd (s.1 139) o (nI 1))) 133 6 (nI (p + 1))).1 137) o (nI k))) 133 6 (nI (p + 2))) o := cO_put (cO_row c3 (Or.inr (Or.inl rfl))) (Or.inl rfl)
    have t4 : cT (put (setP (put (setP (setP s 135 (upd (s.1 135) o (nI q))) 139 (upd (s.1 139) o (nI 1))) 133 6 (nI (p + 1))) 137 (upd ((put (setP (setP s 135 (upd (s.1 135) o (nI q))) 139 (upd (s.1 139) o (nI 1))) 133 6 (nI (p + 1))).1 137) o (nI k))) 133 6 (nI (p + 2))) g L (p + 2) o := cT_cO h c4 (by rw [put_val, if_pos rfl, if_pos rfl]) (by omega)
    have a4 : (put (setP (put (setP (setP s 135 (upd (s.1 135) o (nI q))) 139 (upd (s.1 139) o (nI 1))) 133 6 (nI (p + 1))) 137 (upd ((put (setP (setP s 135 (upd (s.1 135) o (nI q))) 139 (upd (s.1 139) o (nI 1))) 133 6 (nI (p + 1))).1 137) o (nI k))) 133 6 (nI (p + 2))).1 135 o = nI q := by rw [put_ne _ _ (by decide), setP_ne _ _ (by decide), put_ne _ _ (by decide), setP_ne _ _ (by decide), setP_at, pk_us]
    have b4 : (put (setP (put (setP (setP s 135 (upd (s.1 135) o (nI q))) 139 (upd (s.1 139) o (nI 1))) 133 6 (nI (p + 1))) 137 (upd ((put (setP (setP s 135 (upd (s.1 135) o (nI q))) 139 (upd (s.1 139) o (nI 1))) 133 6 (nI (p + 1))).1 137) o (nI k))) 133 6 (nI (p + 2))).1 137 o = nI k := by rw [put_ne _ _ (by decide), setP_at, pk_us]
    have n4 : (put (setP (put (setP (setP s 135 (upd (s.1 135) o (nI q))) 139 (upd (s.1 139) o (nI 1))) 133 6 (nI (p + 1))) 137 (upd ((put (setP (setP s 135 (upd (s.1 135) o (nI q))) 139 (upd (s.1 139) o (nI 1))) 133 6 (nI (p + 1))).1 137) o (nI k))) 133 6 (nI (p + 2))).1 139 o = nI 1 := by rw [put_ne _ _ (by decide), setP_ne _ _ (by decide), put_ne _ _ (by decide), setP_at, pk_us]
    have p4 : (put (setP (put (setP (setP s 135 (upd (s.1 135) o (nI q))) 139 (upd (s.1 139) o (nI 1))) 133 6 (nI (p + 1))) 137 (upd ((put (setP (setP s 135 (upd (s.1 135) o (nI q))) 139 (upd (s.1 139) o (nI 1))) 133 6 (nI (p + 1))).1 137) o (nI k))) 133 6 (nI (p + 2))).1 133 6 = nI (p + 2) := by rw [put_val, if_pos rfl, if_pos rfl]
    by_cases hx : g (p + 2) = nI 120
    · have c5 : cO s (put (put (setP (put (setP (setP s 135 (upd (s.1 135) o (nI q))) 139 (upd (s.1 139) o (nI 1))) 133 6 (nI (p + 1))) 137 (upd ((put (setP (setP s 135 (upd (s.1 135) o (nI q))) 139 (upd (s.1 139) o (nI 1))) 133 6 (nI (p + 1))).1 137) o (nI k))) 133 6 (nI (p + 2))) 133 6 (nI (p + 3))) o := cO_put c4 (Or.inl rfl)
      have t5 : cT (put (put (setP (put (setP (setP s 135 (upd (s.1 135) o (nI q))) 139 (upd (s.1 139) o (nI 1))) 133 6 (nI (p + 1))) 137 (upd ((put (setP (setP s 135 (upd (s.1 135) o (nI q))) 139 (upd (s.1 139) o (nI 1))) 133 6 (nI (p + 1))).1 137) o (nI k))) 133 6 (nI (p + 2))) 133 6 (nI (p + 3))) g L (p + 3) o := cT_cO h c5 (by rw [put_val, if_pos rfl, if_pos rfl]) (by omega)
      obtain ⟨o1, w1, hk1, hev⟩ := e2_readNumber (D := 2) (M := 60) t5 (by omega) (by decide) (by decide)
      rcases hk1 with ⟨e, z1, rfl, rfl⟩ | ⟨v, q2, z1, rfl, rfl⟩
      · have hr : pBl g p q = .inl e := by unfold pBl; rw [hP, cond_true, if_pos hx]; unfold pTail; rw [z1]
        rw [hr]
        refine R1 (g' := (1, _, _, _, _, _)) rfl rfl ?_
        refine R_getf rfl rfl (Nat.le_of_ble_eq_true rfl) rfl rfl ?_
        refine R1 (g' := (5, _, _, _, _, _)) rfl rfl ?_
        refine R_getf rfl rfl (Nat.le_of_ble_eq_true rfl) rfl rfl ?_
        refine R1 (g' := (9, _, _, _, _, _)) rfl rfl ?_
        rw [h1]
        refine R_call3 (Or.inr (Or.inl ⟨rfl, rfl⟩)) rfl rfl ⟨Nat.le_of_ble_eq_true rfl, Nat.le_of_ble_eq_true rfl⟩ (Nat.le_of_ble_eq_true rfl) ⟨rfl, rfl⟩ (⟨⟨_, _, _, rfl, (Nat.le_of_ble_eq_true rfl), rfl⟩, e_Row_set xrw_134 (by decide) ho⟩) ?_
        refine R1 (g' := (13, _, _, _, _, _)) rfl rfl ?_
        refine R_getf rfl rfl (Nat.le_of_ble_eq_true rfl) rfl rfl ?_
        refine R1 (g' := (17, _, _, _, _, _)) rfl rfl ?_
        refine R_getf rfl rfl (Nat.le_of_ble_eq_true rfl) rfl rfl ?_
        refine R1 (g' := (21, _, .int (nI 1) :: _, _, _, _)) rfl rfl ?_
        rw [setP_ne _ _ (by decide), h1]
        refine R_call3 (Or.inr (Or.inl ⟨rfl, rfl⟩)) rfl rfl ⟨Nat.le_of_ble_eq_true rfl, Nat.le_of_ble_eq_true rfl⟩ (Nat.le_of_ble_eq_true rfl) ⟨rfl, rfl⟩ (⟨⟨_, _, _, rfl, (Nat.le_of_ble_eq_true rfl), rfl⟩, e_Row_set xrw_138 (by decide) ho⟩) ?_
        rw [setP_ne (i := 135) (j := 139) _ _ (by decide)]
        refine R1 (g' := (25, _, _, _, _, _)) rfl rfl ?_
        refine R1 (g' := (26, _, _, _, _, _)) rfl rfl ?_
        refine R_getf rfl rfl (Nat.le_of_ble_eq_true rfl) rfl rfl ?_
        rw [setP_ne _ _ (by decide), setP_ne _ _ (by decide), h6]
        refine R1 (g' := (30, _, .int (nI 1) :: _, _, _, _)) rfl rfl ?_
        refine R1 (g' := (31, _, _, _, _, _)) rfl rfl ?_
        rw [nI_add]
        refine R_put rfl rfl (Nat.le_of_ble_eq_true rfl) rfl (Nat.le_of_ble_eq_true rfl) ⟨_, rfl, Or.inl rfl, _, rfl, rfl⟩ rfl ?_
        change xRun _ _ (34, _, _, wd (put (setP (setP s 135 (upd (s.1 135) o (nI q))) 139 (upd (s.1 139) o (nI 1))) 133 6 (nI (p + 1))), _, _)
        refine R1 (g' := (35, _, _, _, _, _)) rfl rfl ?_
        refine R_call1 (Or.inr (Or.inl ⟨rfl, rfl⟩)) rfl rfl ⟨Nat.le_of_ble_eq_true rfl, Nat.le_of_ble_eq_true rfl⟩ (Nat.le_of_ble_eq_true rfl) ⟨rfl, rfl⟩ (⟨⟨_, _, _, rfl, (Nat.le_of_ble_eq_true rfl), rfl⟩, e2_readPartT t3 e1 (by omega)⟩) ?_
        refine R_ne 43 rfl rfl (fun h38 => ?_) (fun h => by exact absurd h (by decide))
        refine R1 (g' := (44, _, _, _, _, _)) rfl rfl ?_
        refine R1 (g' := (45, _, _, _, _, _)) rfl rfl ?_
        refine R_getf rfl rfl (Nat.le_of_ble_eq_true rfl) rfl rfl ?_
        rw [p4]
        refine R_call2 (Or.inr (Or.inl ⟨rfl, rfl⟩)) rfl rfl ⟨Nat.le_of_ble_eq_true rfl, Nat.le_of_ble_eq_true rfl⟩ (Nat.le_of_ble_eq_true rfl) ⟨rfl, rfl⟩ (⟨⟨_, _, _, rfl, (Nat.le_of_ble_eq_true rfl), rfl⟩, e2_byteAt t4 (by omega)⟩) ?_
        refine R1 (g' := (53, _, .int (nI 120) :: _, _, _, _)) rfl rfl ?_
        refine R_ceq 58 rfl rfl (fun h53 => ?_) (fun h => by exact absurd hx h)
        refine R1 (g' := (59, _, _, _, _, _)) rfl rfl ?_
        refine R1 (g' := (60, _, _, _, _, _)) rfl rfl ?_
        refine R_getf rfl rfl (Nat.le_of_ble_eq_true rfl) rfl rfl ?_
        rw [p4]
        refine R1 (g' := (64, _, .int (nI 1) :: _, _, _, _)) rfl rfl ?_
        refine R1 (g' := (65, _, _, _, _, _)) rfl rfl ?_
        rw [nI_add]
        refine R_put rfl rfl (Nat.le_of_ble_eq_true rfl) rfl (Nat.le_of_ble_eq_true rfl) ⟨_, rfl, Or.inl rfl, _, rfl, rfl⟩ rfl ?_
        change xRun _ _ (68, _, _, wd (put (put (setP (put (setP (setP s 135 (upd (s.1 135) o (nI q))) 139 (upd (s.1 139) o (nI 1))) 133 6 (nI (p + 1))) 137 (upd ((put (setP (setP s 135 (upd (s.1 135) o (nI q))) 139 (upd (s.1 139) o (nI 1))) 133 6 (nI (p + 1))).1 137) o (nI k))) 133 6 (nI (p + 2))) 133 6 (nI (p + 3))), _, _)
        refine R1 (g' := (69, _, _, _, _, _)) rfl rfl ?_
        refine R1 (g' := (70, _, .int (nI 2) :: _, _, _, _)) rfl rfl ?_
        refine R1 (g' := (72, _, .int (nI 60) :: _, _, _, _)) rfl rfl ?_
        refine R_call3 (Or.inr (Or.inl ⟨rfl, rfl⟩)) rfl rfl ⟨Nat.le_of_ble_eq_true rfl, Nat.le_of_ble_eq_true rfl⟩ (Nat.le_of_ble_eq_true rfl) ⟨rfl, rfl⟩ (⟨⟨_, _, _, rfl, (Nat.le_of_ble_eq_true rfl), rfl⟩, hev⟩) ?_
        refine R_iret rfl ?_
        exact ⟨_, rfl, cO_put (cO_put c5 (Or.inl rfl)) (Or.inr rfl), rfl, by rw [put_val, if_pos rfl, if_pos rfl]⟩
      · have hr : pBl g p q = .inr (q, k, v, q2) := by unfold pBl; rw [hP, cond_true, if_pos hx, hq]; unfold pTail; rw [z1]
        rw [hr]
        refine R1 (g' := (1, _, _, _, _, _)) rfl rfl ?_
        refine R_getf rfl rfl (Nat.le_of_ble_eq_true rfl) rfl rfl ?_
        refine R1 (g' := (5, _, _, _, _, _)) rfl rfl ?_
        refine R_getf rfl rfl (Nat.le_of_ble_eq_true rfl) rfl rfl ?_
        refine R1 (g' := (9, _, _, _, _, _)) rfl rfl ?_
        rw [h1]
        refine R_call3 (Or.inr (Or.inl ⟨rfl, rfl⟩)) rfl rfl ⟨Nat.le_of_ble_eq_true rfl, Nat.le_of_ble_eq_true rfl⟩ (Nat.le_of_ble_eq_true rfl) ⟨rfl, rfl⟩ (⟨⟨_, _, _, rfl, (Nat.le_of_ble_eq_true rfl), rfl⟩, e_Row_set xrw_134 (by decide) ho⟩) ?_
        refine R1 (g' := (13, _, _, _, _, _)) rfl rfl ?_
        refine R_getf rfl rfl (Nat.le_of_ble_eq_true rfl) rfl rfl ?_
        refine R1 (g' := (17, _, _, _, _, _)) rfl rfl ?_
        refine R_getf rfl rfl (Nat.le_of_ble_eq_true rfl) rfl rfl ?_
        refine R1 (g' := (21, _, .int (nI 1) :: _, _, _, _)) rfl rfl ?_
        rw [setP_ne _ _ (by decide), h1]
        refine R_call3 (Or.inr (Or.inl ⟨rfl, rfl⟩)) rfl rfl ⟨Nat.le_of_ble_eq_true rfl, Nat.le_of_ble_eq_true rfl⟩ (Nat.le_of_ble_eq_true rfl) ⟨rfl, rfl⟩ (⟨⟨_, _, _, rfl, (Nat.le_of_ble_eq_true rfl), rfl⟩, e_Row_set xrw_138 (by decide) ho⟩) ?_
        rw [setP_ne (i := 135) (j := 139) _ _ (by decide)]
        refine R1 (g' := (25, _, _, _, _, _)) rfl rfl ?_
        refine R1 (g' := (26, _, _, _, _, _)) rfl rfl ?_
        refine R_getf rfl rfl (Nat.le_of_ble_eq_true rfl) rfl rfl ?_
        rw [setP_ne _ _ (by decide), setP_ne _ _ (by decide), h6]
        refine R1 (g' := (30, _, .int (nI 1) :: _, _, _, _)) rfl rfl ?_
        refine R1 (g' := (31, _, _, _, _, _)) rfl rfl ?_
        rw [nI_add]
        refine R_put rfl rfl (Nat.le_of_ble_eq_true rfl) rfl (Nat.le_of_ble_eq_true rfl) ⟨_, rfl, Or.inl rfl, _, rfl, rfl⟩ rfl ?_
        change xRun _ _ (34, _, _, wd (put (setP (setP s 135 (upd (s.1 135) o (nI q))) 139 (upd (s.1 139) o (nI 1))) 133 6 (nI (p + 1))), _, _)
        refine R1 (g' := (35, _, _, _, _, _)) rfl rfl ?_
        refine R_call1 (Or.inr (Or.inl ⟨rfl, rfl⟩)) rfl rfl ⟨Nat.le_of_ble_eq_true rfl, Nat.le_of_ble_eq_true rfl⟩ (Nat.le_of_ble_eq_true rfl) ⟨rfl, rfl⟩ (⟨⟨_, _, _, rfl, (Nat.le_of_ble_eq_true rfl), rfl⟩, e2_readPartT t3 e1 (by omega)⟩) ?_
        refine R_ne 43 rfl rfl (fun h38 => ?_) (fun h => by exact absurd h (by decide))
        refine R1 (g' := (44, _, _, _, _, _)) rfl rfl ?_
        refine R1 (g' := (45, _, _, _, _, _)) rfl rfl ?_
        refine R_getf rfl rfl (Nat.le_of_ble_eq_true rfl) rfl rfl ?_
        rw [p4]
        refine R_call2 (Or.inr (Or.inl ⟨rfl, rfl⟩)) rfl rfl ⟨Nat.le_of_ble_eq_true rfl, Nat.le_of_ble_eq_true rfl⟩ (Nat.le_of_ble_eq_true rfl) ⟨rfl, rfl⟩ (⟨⟨_, _, _, rfl, (Nat.le_of_ble_eq_true rfl), rfl⟩, e2_byteAt t4 (by omega)⟩) ?_
        refine R1 (g' := (53, _, .int (nI 120) :: _, _, _, _)) rfl rfl ?_
        refine R_ceq 58 rfl rfl (fun h53 => ?_) (fun h => by exact absurd hx h)
        refine R1 (g' := (59, _, _, _, _, _)) rfl rfl ?_
        refine R1 (g' := (60, _, _, _, _, _)) rfl rfl ?_
        refine R_getf rfl rfl (Nat.le_of_ble_eq_true rfl) rfl rfl ?_
        rw [p4]
        refine R1 (g' := (64, _, .int (nI 1) :: _, _, _, _)) rfl rfl ?_
        refine R1 (g' := (65, _, _, _, _, _)) rfl rfl ?_
        rw [nI_add]
        refine R_put rfl rfl (Nat.le_of_ble_eq_true rfl) rfl (Nat.le_of_ble_eq_true rfl) ⟨_, rfl, Or.inl rfl, _, rfl, rfl⟩ rfl ?_
        change xRun _ _ (68, _, _, wd (put (put (setP (put (setP (setP s 135 (upd (s.1 135) o (nI q))) 139 (upd (s.1 139) o (nI 1))) 133 6 (nI (p + 1))) 137 (upd ((put (setP (setP s 135 (upd (s.1 135) o (nI q))) 139 (upd (s.1 139) o (nI 1))) 133 6 (nI (p + 1))).1 137) o (nI k))) 133 6 (nI (p + 2))) 133 6 (nI (p + 3))), _, _)
        refine R1 (g' := (69, _, _, _, _, _)) rfl rfl ?_
        refine R1 (g' := (70, _, .int (nI 2) :: _, _, _, _)) rfl rfl ?_
        refine R1 (g' := (72, _, .int (nI 60) :: _, _, _, _)) rfl rfl ?_
        refine R_call3 (Or.inr (Or.inl ⟨rfl, rfl⟩)) rfl rfl ⟨Nat.le_of_ble_eq_true rfl, Nat.le_of_ble_eq_true rfl⟩ (Nat.le_of_ble_eq_true rfl) ⟨rfl, rfl⟩ (⟨⟨_, _, _, rfl, (Nat.le_of_ble_eq_true rfl), rfl⟩, hev⟩) ?_
        refine R_iret rfl ?_
        have c6 := cO_put (v := nI q2) c5 (Or.inl (Eq.refl 6))
        have c7 := cO_row (v := nI v) c6 (Or.inr (Or.inr (Eq.refl 139)))
        rw [put_ne (q := 139) _ _ (by decide)] at c7
        exact ⟨_, rfl, c7, rfl, by rw [setP_ne _ _ (by decide), put_val, if_pos rfl, if_pos rfl], by rw [setP_ne _ _ (by decide), put_ne _ _ (by decide), put_ne _ _ (by decide)]; exact a4, fun _ => ⟨by rw [setP_ne _ _ (by decide), put_ne _ _ (by decide), put_ne _ _ (by decide)]; exact b4, by rw [setP_at, pk_us]⟩⟩
    · have hr : pBl g p q = .inr (q, k, 1, p + 2) := by unfold pBl; rw [hP, cond_true, if_neg hx, hq]
      rw [hr]
      refine R1 (g' := (1, _, _, _, _, _)) rfl rfl ?_
      refine R_getf rfl rfl (Nat.le_of_ble_eq_true rfl) rfl rfl ?_
      refine R1 (g' := (5, _, _, _, _, _)) rfl rfl ?_
      refine R_getf rfl rfl (Nat.le_of_ble_eq_true rfl) rfl rfl ?_
      refine R1 (g' := (9, _, _, _, _, _)) rfl rfl ?_
      rw [h1]
      refine R_call3 (Or.inr (Or.inl ⟨rfl, rfl⟩)) rfl rfl ⟨Nat.le_of_ble_eq_true rfl, Nat.le_of_ble_eq_true rfl⟩ (Nat.le_of_ble_eq_true rfl) ⟨rfl, rfl⟩ (⟨⟨_, _, _, rfl, (Nat.le_of_ble_eq_true rfl), rfl⟩, e_Row_set xrw_134 (by decide) ho⟩) ?_
      refine R1 (g' := (13, _, _, _, _, _)) rfl rfl ?_
      refine R_getf rfl rfl (Nat.le_of_ble_eq_true rfl) rfl rfl ?_
      refine R1 (g' := (17, _, _, _, _, _)) rfl rfl ?_
      refine R_getf rfl rfl (Nat.le_of_ble_eq_true rfl) rfl rfl ?_
      refine R1 (g' := (21, _, .int (nI 1) :: _, _, _, _)) rfl rfl ?_
      rw [setP_ne _ _ (by decide), h1]
      refine R_call3 (Or.inr (Or.inl ⟨rfl, rfl⟩)) rfl rfl ⟨Nat.le_of_ble_eq_true rfl, Nat.le_of_ble_eq_true rfl⟩ (Nat.le_of_ble_eq_true rfl) ⟨rfl, rfl⟩ (⟨⟨_, _, _, rfl, (Nat.le_of_ble_eq_true rfl), rfl⟩, e_Row_set xrw_138 (by decide) ho⟩) ?_
      rw [setP_ne (i := 135) (j := 139) _ _ (by decide)]
      refine R1 (g' := (25, _, _, _, _, _)) rfl rfl ?_
      refine R1 (g' := (26, _, _, _, _, _)) rfl rfl ?_
      refine R_getf rfl rfl (Nat.le_of_ble_eq_true rfl) rfl rfl ?_
      rw [setP_ne _ _ (by decide), setP_ne _ _ (by decide), h6]
      refine R1 (g' := (30, _, .int (nI 1) :: _, _, _, _)) rfl rfl ?_
      refine R1 (g' := (31, _, _, _, _, _)) rfl rfl ?_
      rw [nI_add]
      refine R_put rfl rfl (Nat.le_of_ble_eq_true rfl) rfl (Nat.le_of_ble_eq_true rfl) ⟨_, rfl, Or.inl rfl, _, rfl, rfl⟩ rfl ?_
      change xRun _ _ (34, _, _, wd (put (setP (setP s 135 (upd (s.1 135) o (nI q))) 139 (upd (s.1 139) o (nI 1))) 133 6 (nI (p + 1))), _, _)
      refine R1 (g' := (35, _, _, _, _, _)) rfl rfl ?_
      refine R_call1 (Or.inr (Or.inl ⟨rfl, rfl⟩)) rfl rfl ⟨Nat.le_of_ble_eq_true rfl, Nat.le_of_ble_eq_true rfl⟩ (Nat.le_of_ble_eq_true rfl) ⟨rfl, rfl⟩ (⟨⟨_, _, _, rfl, (Nat.le_of_ble_eq_true rfl), rfl⟩, e2_readPartT t3 e1 (by omega)⟩) ?_
      refine R_ne 43 rfl rfl (fun h38 => ?_) (fun h => by exact absurd h (by decide))
      refine R1 (g' := (44, _, _, _, _, _)) rfl rfl ?_
      refine R1 (g' := (45, _, _, _, _, _)) rfl rfl ?_
      refine R_getf rfl rfl (Nat.le_of_ble_eq_true rfl) rfl rfl ?_
      rw [p4]
      refine R_call2 (Or.inr (Or.inl ⟨rfl, rfl⟩)) rfl rfl ⟨Nat.le_of_ble_eq_true rfl, Nat.le_of_ble_eq_true rfl⟩ (Nat.le_of_ble_eq_true rfl) ⟨rfl, rfl⟩ (⟨⟨_, _, _, rfl, (Nat.le_of_ble_eq_true rfl), rfl⟩, e2_byteAt t4 (by omega)⟩) ?_
      refine R1 (g' := (53, _, .int (nI 120) :: _, _, _, _)) rfl rfl ?_
      refine R_ceq 58 rfl rfl (fun h => by exact absurd h hx) (fun h53 => ?_)
      refine R1 (g' := (57, _, .int (nI 1) :: _, _, _, _)) rfl rfl ?_
      refine R_iret rfl ?_
      exact ⟨_, rfl, c4, rfl, p4, a4, fun _ => ⟨b4, n4⟩⟩
theorem e2_readCut {s : xs} {g : Nat → Int32} {L p o : Nat} (h : cT s g L p o) (hp : p + 20 < 1000) : ∃ o1 w1, rdPo s o (pCu g p) o1 w1 ∧ Ev_X2_readCut [.ref 133] (wd s) o1 w1 := by
  have h6 := h.2.1
  have h1 := h.2.2.1
  have ho := h.2.2.2.2.2.1
  have c3 : cO s (put (setP s 135 (upd (s.1 135) o (nI 4))) 133 6 (nI (p + 1))) o := cO_put (cO_row cO_rf (Or.inl rfl)) (Or.inl rfl)
  have t3 : cT (put (setP s 135 (upd (s.1 135) o (nI 4))) 133 6 (nI (p + 1))) g L (p + 1) o := cT_cO h c3 (by rw [put_val, if_pos rfl, if_pos rfl]) (by omega)
  refine xEv_ex (Nat.le_of_ble_eq_true rfl) (fun o1 w1 k => rdPo_ro k) ?_
  cases hP : isP (g (p + 1)) with
  | false =>
    have hr : pCu g p = .inl (p + 1) := by unfold pCu; rw [hP, cond_false]
    rw [hr]
    refine R1 (g' := (1, _, _, _, _, _)) rfl rfl ?_
    refine R_getf rfl rfl (Nat.le_of_ble_eq_true rfl) rfl rfl ?_
    refine R1 (g' := (5, _, _, _, _, _)) rfl rfl ?_
    refine R_getf rfl rfl (Nat.le_of_ble_eq_true rfl) rfl rfl ?_
    refine R1 (g' := (9, _, .int (nI 4) :: _, _, _, _)) rfl rfl ?_
    rw [h1]
    refine R_call3 (Or.inr (Or.inl ⟨rfl, rfl⟩)) rfl rfl ⟨Nat.le_of_ble_eq_true rfl, Nat.le_of_ble_eq_true rfl⟩ (Nat.le_of_ble_eq_true rfl) ⟨rfl, rfl⟩ (⟨⟨_, _, _, rfl, (Nat.le_of_ble_eq_true rfl), rfl⟩, e_Row_set xrw_134 (by decide) ho⟩) ?_
    refine R1 (g' := (13, _, _, _, _, _)) rfl rfl ?_
    refine R1 (g' := (14, _, _, _, _, _)) rfl rfl ?_
    refine R_getf rfl rfl (Nat.le_of_ble_eq_true rfl) rfl rfl ?_
    rw [setP_ne _ _ (by decide), h6]
    refine R1 (g' := (18, _, .int (nI 1) :: _, _, _, _)) rfl rfl ?_
    refine R1 (g' := (19, _, _, _, _, _)) rfl rfl ?_
    rw [nI_add]
    refine R_put rfl rfl (Nat.le_of_ble_eq_true rfl) rfl (Nat.le_of_ble_eq_true rfl) ⟨_, rfl, Or.inl rfl, _, rfl, rfl⟩ rfl ?_
    change xRun _ _ (22, _, _, wd (put (setP s 135 (upd (s.1 135) o (nI 4))) 133 6 (nI (p + 1))), _, _)
    refine R1 (g' := (23, _, _, _, _, _)) rfl rfl ?_
    refine R_call1 (Or.inr (Or.inl ⟨rfl, rfl⟩)) rfl rfl ⟨Nat.le_of_ble_eq_true rfl, Nat.le_of_ble_eq_true rfl⟩ (Nat.le_of_ble_eq_true rfl) ⟨rfl, rfl⟩ (⟨⟨_, _, _, rfl, (Nat.le_of_ble_eq_true rfl), rfl⟩, e2_readPartF t3 hP⟩) ?_
    refine R_eq 53 rfl rfl (fun h26 => ?_) (fun h => by exact absurd rfl h)
    refine R1 (g' := (54, _, .int (nI 0) :: _, _, _, _)) rfl rfl ?_
    refine R_iret rfl ?_
    exact ⟨_, rfl, cO_put c3 (Or.inr rfl), rfl, by rw [put_val, if_pos rfl, if_pos rfl]⟩
  | true =>
    obtain ⟨k', e1, e2, e3⟩ := isP_of hP
    obtain ⟨k, rfl⟩ : ∃ k, k' = 48 + k := ⟨k' - 48, by omega⟩
    have hq : qn g (p + 1) - 48 = k := by rw [nq e1 (by omega)]; omega
    have c4 : cO s (put (setP (put (setP s 135 (upd (s.1 135) o (nI 4))) 133 6 (nI (p + 1))) 137 (upd ((put (setP s 135 (upd (s.1 135) o (nI 4))) 133 6 (nI (p + 1))).1 137) o (nI k))) 133 6 (nI (p + 2))) o := cO_put (cO_row c3 (Or.inr (Or.inl rfl))) (Or.inl rfl)
    have t4 : cT (put (setP (put (setP s 135 (upd (s.1 135) o (nI 4))) 133 6 (nI (p + 1))) 137 (upd ((put (setP s 135 (upd (s.1 135) o (nI 4))) 133 6 (nI (p + 1))).1 137) o (nI k))) 133 6 (nI (p + 2))) g L (p + 2) o := cT_cO h c4 (by rw [put_val, if_pos rfl, if_pos rfl]) (by omega)
    have a4 : (put (setP (put (setP s 135 (upd (s.1 135) o (nI 4))) 133 6 (nI (p + 1))) 137 (upd ((put (setP s 135 (upd (s.1 135) o (nI 4))) 133 6 (nI (p + 1))).1 137) o (nI k))) 133 6 (nI (p + 2))).1 135 o = nI 4 := by rw [put_ne _ _ (by decide), setP_ne _ _ (by decide), put_ne _ _ (by decide), setP_at, pk_us]
    have b4 : (put (setP (put (setP s 135 (upd (s.1 135) o (nI 4))) 133 6 (nI (p + 1))) 137 (upd ((put (setP s 135 (upd (s.1 135) o (nI 4))) 133 6 (nI (p + 1))).1 137) o (nI k))) 133 6 (nI (p + 2))).1 137 o = nI k := by rw [put_ne _ _ (by decide), setP_at, pk_us]
    by_cases hx : g (p + 2) = nI 44
    · have c5 : cO s (put (put (setP (put (setP s 135 (upd (s.1 135) o (nI 4))) 133 6 (nI (p + 1))) 137 (upd ((put (setP s 135 (upd (s.1 135) o (nI 4))) 133 6 (nI (p + 1))).1 137) o (nI k))) 133 6 (nI (p + 2))) 133 6 (nI (p + 3))) o := cO_put c4 (Or.inl rfl)
      have t5 : cT (put (put (setP (put (setP s 135 (upd (s.1 135) o (nI 4))) 133 6 (nI (p + 1))) 137 (upd ((put (setP s 135 (upd (s.1 135) o (nI 4))) 133 6 (nI (p + 1))).1 137) o (nI k))) 133 6 (nI (p + 2))) 133 6 (nI (p + 3))) g L (p + 3) o := cT_cO h c5 (by rw [put_val, if_pos rfl, if_pos rfl]) (by omega)
      obtain ⟨o1, w1, hk1, hev⟩ := e2_readNumber (D := 4) (M := 9999) t5 (by omega) (by decide) (by decide)
      rcases hk1 with ⟨e, z1, rfl, rfl⟩ | ⟨v, q2, z1, rfl, rfl⟩
      · have hr : pCu g p = .inl e := by unfold pCu; rw [hP, cond_true, if_pos hx]; unfold pTail; rw [z1]
        rw [hr]
        refine R1 (g' := (1, _, _, _, _, _)) rfl rfl ?_
        refine R_getf rfl rfl (Nat.le_of_ble_eq_true rfl) rfl rfl ?_
        refine R1 (g' := (5, _, _, _, _, _)) rfl rfl ?_
        refine R_getf rfl rfl (Nat.le_of_ble_eq_true rfl) rfl rfl ?_
        refine R1 (g' := (9, _, .int (nI 4) :: _, _, _, _)) rfl rfl ?_
        rw [h1]
        refine R_call3 (Or.inr (Or.inl ⟨rfl, rfl⟩)) rfl rfl ⟨Nat.le_of_ble_eq_true rfl, Nat.le_of_ble_eq_true rfl⟩ (Nat.le_of_ble_eq_true rfl) ⟨rfl, rfl⟩ (⟨⟨_, _, _, rfl, (Nat.le_of_ble_eq_true rfl), rfl⟩, e_Row_set xrw_134 (by decide) ho⟩) ?_
        refine R1 (g' := (13, _, _, _, _, _)) rfl rfl ?_
        refine R1 (g' := (14, _, _, _, _, _)) rfl rfl ?_
        refine R_getf rfl rfl (Nat.le_of_ble_eq_true rfl) rfl rfl ?_
        rw [setP_ne _ _ (by decide), h6]
        refine R1 (g' := (18, _, .int (nI 1) :: _, _, _, _)) rfl rfl ?_
        refine R1 (g' := (19, _, _, _, _, _)) rfl rfl ?_
        rw [nI_add]
        refine R_put rfl rfl (Nat.le_of_ble_eq_true rfl) rfl (Nat.le_of_ble_eq_true rfl) ⟨_, rfl, Or.inl rfl, _, rfl, rfl⟩ rfl ?_
        change xRun _ _ (22, _, _, wd (put (setP s 135 (upd (s.1 135) o (nI 4))) 133 6 (nI (p + 1))), _, _)
        refine R1 (g' := (23, _, _, _, _, _)) rfl rfl ?_
        refine R_call1 (Or.inr (Or.inl ⟨rfl, rfl⟩)) rfl rfl ⟨Nat.le_of_ble_eq_true rfl, Nat.le_of_ble_eq_true rfl⟩ (Nat.le_of_ble_eq_true rfl) ⟨rfl, rfl⟩ (⟨⟨_, _, _, rfl, (Nat.le_of_ble_eq_true rfl), rfl⟩, e2_readPartT t3 e1 (by omega)⟩) ?_
        refine R_eq 53 rfl rfl (fun h => by exact absurd h (by decide)) (fun h26 => ?_)
        refine R1 (g' := (30, _, _, _, _, _)) rfl rfl ?_
        refine R1 (g' := (32, _, .int (nI 44) :: _, _, _, _)) rfl rfl ?_
        refine R_call2 (Or.inr (Or.inl ⟨rfl, rfl⟩)) rfl rfl ⟨Nat.le_of_ble_eq_true rfl, Nat.le_of_ble_eq_true rfl⟩ (Nat.le_of_ble_eq_true rfl) ⟨rfl, rfl⟩ (⟨⟨_, _, _, rfl, (Nat.le_of_ble_eq_true rfl), rfl⟩, e2_acceptT t4 hx⟩) ?_
        refine R_eq 53 rfl rfl (fun h => by exact absurd h (by decide)) (fun h35 => ?_)
        refine R1 (g' := (39, _, _, _, _, _)) rfl rfl ?_
        refine R1 (g' := (40, _, .int (nI 4) :: _, _, _, _)) rfl rfl ?_
        refine R1 (g' := (43, _, .int (nI 9999) :: _, _, _, _)) rfl rfl ?_
        refine R_call3 (Or.inr (Or.inl ⟨rfl, rfl⟩)) rfl rfl ⟨Nat.le_of_ble_eq_true rfl, Nat.le_of_ble_eq_true rfl⟩ (Nat.le_of_ble_eq_true rfl) ⟨rfl, rfl⟩ (⟨⟨_, _, _, rfl, (Nat.le_of_ble_eq_true rfl), rfl⟩, hev⟩) ?_
        refine R_eq 53 rfl rfl (fun h46 => ?_) (fun h => by exact absurd rfl h)
        refine R1 (g' := (54, _, .int (nI 0) :: _, _, _, _)) rfl rfl ?_
        refine R_iret rfl ?_
        exact ⟨_, rfl, cO_put (cO_put c5 (Or.inl rfl)) (Or.inr rfl), rfl, by rw [put_val, if_pos rfl, if_pos rfl]⟩
      · have hr : pCu g p = .inr (4, k, v, q2) := by unfold pCu; rw [hP, cond_true, if_pos hx, hq]; unfold pTail; rw [z1]
        rw [hr]
        refine R1 (g' := (1, _, _, _, _, _)) rfl rfl ?_
        refine R_getf rfl rfl (Nat.le_of_ble_eq_true rfl) rfl rfl ?_
        refine R1 (g' := (5, _, _, _, _, _)) rfl rfl ?_
        refine R_getf rfl rfl (Nat.le_of_ble_eq_true rfl) rfl rfl ?_
        refine R1 (g' := (9, _, .int (nI 4) :: _, _, _, _)) rfl rfl ?_
        rw [h1]
        refine R_call3 (Or.inr (Or.inl ⟨rfl, rfl⟩)) rfl rfl ⟨Nat.le_of_ble_eq_true rfl, Nat.le_of_ble_eq_true rfl⟩ (Nat.le_of_ble_eq_true rfl) ⟨rfl, rfl⟩ (⟨⟨_, _, _, rfl, (Nat.le_of_ble_eq_true rfl), rfl⟩, e_Row_set xrw_134 (by decide) ho⟩) ?_
        refine R1 (g' := (13, _, _, _, _, _)) rfl rfl ?_
        refine R1 (g' := (14, _, _, _, _, _)) rfl rfl ?_
        refine R_getf rfl rfl (Nat.le_of_ble_eq_true rfl) rfl rfl ?_
        rw [setP_ne _ _ (by decide), h6]
        refine R1 (g' := (18, _, .int (nI 1) :: _, _, _, _)) rfl rfl ?_
        refine R1 (g' := (19, _, _, _, _, _)) rfl rfl ?_
        rw [nI_add]
        refine R_put rfl rfl (Nat.le_of_ble_eq_true rfl) rfl (Nat.le_of_ble_eq_true rfl) ⟨_, rfl, Or.inl rfl, _, rfl, rfl⟩ rfl ?_
        change xRun _ _ (22, _, _, wd (put (setP s 135 (upd (s.1 135) o (nI 4))) 133 6 (nI (p + 1))), _, _)
        refine R1 (g' := (23, _, _, _, _, _)) rfl rfl ?_
        refine R_call1 (Or.inr (Or.inl ⟨rfl, rfl⟩)) rfl rfl ⟨Nat.le_of_ble_eq_true rfl, Nat.le_of_ble_eq_true rfl⟩ (Nat.le_of_ble_eq_true rfl) ⟨rfl, rfl⟩ (⟨⟨_, _, _, rfl, (Nat.le_of_ble_eq_true rfl), rfl⟩, e2_readPartT t3 e1 (by omega)⟩) ?_
        refine R_eq 53 rfl rfl (fun h => by exact absurd h (by decide)) (fun h26 => ?_)
        refine R1 (g' := (30, _, _, _, _, _)) rfl rfl ?_
        refine R1 (g' := (32, _, .int (nI 44) :: _, _, _, _)) rfl rfl ?_
        refine R_call2 (Or.inr (Or.inl ⟨rfl, rfl⟩)) rfl rfl ⟨Nat.le_of_ble_eq_true rfl, Nat.le_of_ble_eq_true rfl⟩ (Nat.le_of_ble_eq_true rfl) ⟨rfl, rfl⟩ (⟨⟨_, _, _, rfl, (Nat.le_of_ble_eq_true rfl), rfl⟩, e2_acceptT t4 hx⟩) ?_
        refine R_eq 53 rfl rfl (fun h => by exact absurd h (by decide)) (fun h35 => ?_)
        refine R1 (g' := (39, _, _, _, _, _)) rfl rfl ?_
        refine R1 (g' := (40, _, .int (nI 4) :: _, _, _, _)) rfl rfl ?_
        refine R1 (g' := (43, _, .int (nI 9999) :: _, _, _, _)) rfl rfl ?_
        refine R_call3 (Or.inr (Or.inl ⟨rfl, rfl⟩)) rfl rfl ⟨Nat.le_of_ble_eq_true rfl, Nat.le_of_ble_eq_true rfl⟩ (Nat.le_of_ble_eq_true rfl) ⟨rfl, rfl⟩ (⟨⟨_, _, _, rfl, (Nat.le_of_ble_eq_true rfl), rfl⟩, hev⟩) ?_
        refine R_eq 53 rfl rfl (fun h => by exact absurd h (by decide)) (fun h46 => ?_)
        refine R1 (g' := (50, _, .int (nI 1) :: _, _, _, _)) rfl rfl ?_
        refine R1 (g' := (54, _, _, _, _, _)) rfl rfl ?_
        refine R_iret rfl ?_
        have c6 := cO_put (v := nI q2) c5 (Or.inl (Eq.refl 6))
        have c7 := cO_row (v := nI v) c6 (Or.inr (Or.inr (Eq.refl 139)))
        rw [put_ne (q := 139) _ _ (by decide)] at c7
        exact ⟨_, rfl, c7, rfl, by rw [setP_ne _ _ (by decide), put_val, if_pos rfl, if_pos rfl], by rw [setP_ne _ _ (by decide), put_ne _ _ (by decide), put_ne _ _ (by decide)]; exact a4, fun _ => ⟨by rw [setP_ne _ _ (by decide), put_ne _ _ (by decide), put_ne _ _ (by decide)]; exact b4, by rw [setP_at, pk_us]⟩⟩
    · have hr : pCu g p = .inl (p + 2) := by unfold pCu; rw [hP, cond_true, if_neg hx]
      rw [hr]
      refine R1 (g' := (1, _, _, _, _, _)) rfl rfl ?_
      refine R_getf rfl rfl (Nat.le_of_ble_eq_true rfl) rfl rfl ?_
      refine R1 (g' := (5, _, _, _, _, _)) rfl rfl ?_
      refine R_getf rfl rfl (Nat.le_of_ble_eq_true rfl) rfl rfl ?_
      refine R1 (g' := (9, _, .int (nI 4) :: _, _, _, _)) rfl rfl ?_
      rw [h1]
      refine R_call3 (Or.inr (Or.inl ⟨rfl, rfl⟩)) rfl rfl ⟨Nat.le_of_ble_eq_true rfl, Nat.le_of_ble_eq_true rfl⟩ (Nat.le_of_ble_eq_true rfl) ⟨rfl, rfl⟩ (⟨⟨_, _, _, rfl, (Nat.le_of_ble_eq_true rfl), rfl⟩, e_Row_set xrw_134 (by decide) ho⟩) ?_
      refine R1 (g' := (13, _, _, _, _, _)) rfl rfl ?_
      refine R1 (g' := (14, _, _, _, _, _)) rfl rfl ?_
      refine R_getf rfl rfl (Nat.le_of_ble_eq_true rfl) rfl rfl ?_
      rw [setP_ne _ _ (by decide), h6]
      refine R1 (g' := (18, _, .int (nI 1) :: _, _, _, _)) rfl rfl ?_
      refine R1 (g' := (19, _, _, _, _, _)) rfl rfl ?_
      rw [nI_add]
      refine R_put rfl rfl (Nat.le_of_ble_eq_true rfl) rfl (Nat.le_of_ble_eq_true rfl) ⟨_, rfl, Or.inl rfl, _, rfl, rfl⟩ rfl ?_
      change xRun _ _ (22, _, _, wd (put (setP s 135 (upd (s.1 135) o (nI 4))) 133 6 (nI (p + 1))), _, _)
      refine R1 (g' := (23, _, _, _, _, _)) rfl rfl ?_
      refine R_call1 (Or.inr (Or.inl ⟨rfl, rfl⟩)) rfl rfl ⟨Nat.le_of_ble_eq_true rfl, Nat.le_of_ble_eq_true rfl⟩ (Nat.le_of_ble_eq_true rfl) ⟨rfl, rfl⟩ (⟨⟨_, _, _, rfl, (Nat.le_of_ble_eq_true rfl), rfl⟩, e2_readPartT t3 e1 (by omega)⟩) ?_
      refine R_eq 53 rfl rfl (fun h => by exact absurd h (by decide)) (fun h26 => ?_)
      refine R1 (g' := (30, _, _, _, _, _)) rfl rfl ?_
      refine R1 (g' := (32, _, .int (nI 44) :: _, _, _, _)) rfl rfl ?_
      refine R_call2 (Or.inr (Or.inl ⟨rfl, rfl⟩)) rfl rfl ⟨Nat.le_of_ble_eq_true rfl, Nat.le_of_ble_eq_true rfl⟩ (Nat.le_of_ble_eq_true rfl) ⟨rfl, rfl⟩ (⟨⟨_, _, _, rfl, (Nat.le_of_ble_eq_true rfl), rfl⟩, e2_acceptF t4 hx⟩) ?_
      refine R_eq 53 rfl rfl (fun h35 => ?_) (fun h => by exact absurd rfl h)
      refine R1 (g' := (54, _, .int (nI 0) :: _, _, _, _)) rfl rfl ?_
      refine R_iret rfl ?_
      exact ⟨_, rfl, cO_put c4 (Or.inr rfl), rfl, by rw [put_val, if_pos rfl, if_pos rfl]⟩
