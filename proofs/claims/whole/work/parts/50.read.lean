theorem pNum_val {g : Nat → Int32} {D M p v q : Nat} (h : pNum g D M p = .inr (v, q)) : 1 ≤ v ∧ v ≤ M ∧ p ≤ q ∧ q ≤ p + D := by
  unfold pNum at h
  have hl := nd_le g p D
  cases e1 : (Nat.beq (nd g p D) 0 || isd (g (p + nd g p D))) with
  | true => rw [e1, cond_true] at h; cases h
  | false =>
    rw [e1, cond_false] at h
    cases e2 : (decide (1 ≤ nv g p (nd g p D)) && decide (nv g p (nd g p D) ≤ M)) with
    | true =>
      rw [e2, cond_true] at h
      cases h
      rw [Bool.and_eq_true] at e2
      exact ⟨of_decide_eq_true e2.1, of_decide_eq_true e2.2, by omega, by omega⟩
    | false => rw [e2, cond_false] at h; cases h
theorem cutT_val {g : Nat → Int32} {r v q : Nat} (h : cutT g r = .inr (v, q)) : 1 ≤ v ∧ v ≤ 9999 ∧ r ≤ q ∧ q ≤ r + 5 := by
  unfold cutT at h
  by_cases e : g r = nI 44
  · rw [if_pos e] at h
    have := pNum_val h
    omega
  · rw [if_neg e] at h
    cases h
theorem blT_val {g : Nat → Int32} {r v q : Nat} (h : blT g r = .inr (v, q)) : 1 ≤ v ∧ v ≤ 60 ∧ r ≤ q ∧ q ≤ r + 5 := by
  unfold blT at h
  by_cases e : g r = nI 120
  · rw [if_pos e] at h
    have := pNum_val h
    omega
  · rw [if_neg e] at h
    cases h
    omega
theorem pBl_val {g : Nat → Int32} {p z a b c q : Nat} (h : pBl g p z = .inr (a, b, c, q)) : a = z ∧ b < 8 ∧ 1 ≤ c ∧ c ≤ 60 ∧ p + 2 ≤ q ∧ q ≤ p + 7 := by
  rw [pBl_eq] at h
  cases hP : isP (g (p + 1)) with
  | false => rw [hP, cond_false] at h; cases h
  | true =>
    rw [hP, cond_true] at h
    obtain ⟨k, e1, e2, e3⟩ := isP_of hP
    cases hb : blT g (p + 2) with
    | inl e => rw [hb] at h; cases h
    | inr y =>
      obtain ⟨v, q2⟩ := y
      rw [hb] at h
      have := blT_val hb
      have hq : qn g (p + 1) = k := nq e1 (by omega)
      cases h
      rw [hq]
      omega
theorem pCu_val {g : Nat → Int32} {p a b c q : Nat} (h : pCu g p = .inr (a, b, c, q)) : a = 4 ∧ b < 8 ∧ 1 ≤ c ∧ c ≤ 9999 ∧ p + 2 ≤ q ∧ q ≤ p + 7 := by
  rw [pCu_eq] at h
  cases hP : isP (g (p + 1)) with
  | false => rw [hP, cond_false] at h; cases h
  | true =>
    rw [hP, cond_true] at h
    obtain ⟨k, e1, e2, e3⟩ := isP_of hP
    cases hb : cutT g (p + 2) with
    | inl e => rw [hb] at h; cases h
    | inr y =>
      obtain ⟨v, q2⟩ := y
      rw [hb] at h
      have := cutT_val hb
      have hq : qn g (p + 1) = k := nq e1 (by omega)
      cases h
      rw [hq]
      omega
theorem pRd_val {g : Nat → Int32} {p a b c q : Nat} (h : pRd g p = .inr (a, b, c, q)) : (a = 3 ∨ (a = 4 ∧ b < 8 ∧ 1 ≤ c ∧ c ≤ 9999) ∨ (a ≤ 2 ∧ b < 8 ∧ 1 ≤ c ∧ c ≤ 60)) ∧ p + 1 ≤ q ∧ q ≤ p + 7 := by
  unfold pRd at h
  by_cases x1 : g p = nI 104
  · rw [if_pos x1] at h
    cases h
    omega
  · rw [if_neg x1] at h
    by_cases x2 : g p = nI 99
    · rw [if_pos x2] at h
      have := pCu_val h
      omega
    · rw [if_neg x2] at h
      by_cases x3 : g p = nI 100
      · rw [if_pos x3] at h
        have := pBl_val h
        omega
      · rw [if_neg x3] at h
        by_cases x4 : g p = nI 116
        · rw [if_pos x4] at h
          have := pBl_val h
          omega
        · rw [if_neg x4] at h
          by_cases x5 : g p = nI 117
          · rw [if_pos x5] at h
            have := pBl_val h
            omega
          · rw [if_neg x5] at h
            cases h
theorem pOrd_val {g : Nat → Int32} {p a b c q : Nat} (h : pOrd g p = .inr (a, b, c, q)) : (a = 3 ∨ (a = 4 ∧ b < 8 ∧ 1 ≤ c ∧ c ≤ 9999) ∨ (a ≤ 2 ∧ b < 8 ∧ 1 ≤ c ∧ c ≤ 60)) ∧ p + 2 ≤ q ∧ q ≤ p + 8 := by
  unfold pOrd at h
  cases e : pRd g p with
  | inl x => rw [e] at h; cases h
  | inr y =>
    obtain ⟨a2, b2, c2, q2⟩ := y
    rw [e] at h
    have hv := pRd_val e
    by_cases z : g q2 = nI 59
    · have h2 : (Sum.inr (a2, b2, c2, q2 + 1) : Nat ⊕ (Nat × Nat × Nat × Nat)) = .inr (a, b, c, q) := (if_pos z).symm.trans h
      cases h2
      omega
    · have h2 : (Sum.inl q2 : Nat ⊕ (Nat × Nat × Nat × Nat)) = .inr (a, b, c, q) := (if_neg z).symm.trans h
      cases h2
def pNx (g : Nat → Int32) (p : Nat) : Nat := match pOrd g p with
  | .inl _ => p
  | .inr (_, _, _, q) => q
def pq (g : Nat → Int32) : Nat → Nat
  | 0 => 0
  | o + 1 => pNx g (pq g o)
def pok (g : Nat → Int32) (L o : Nat) : Prop := pq g o < L ∧ ∃ a b c q, pOrd g (pq g o) = .inr (a, b, c, q)
def tdone (g : Nat → Int32) (L n : Nat) : Prop := (∀ o, o < n → pok g L o) ∧ L ≤ pq g n
def tfail (g : Nat → Int32) (L n e : Nat) : Prop := (∀ o, o < n → pok g L o) ∧ pq g n < L ∧ pOrd g (pq g n) = .inl e
theorem pNx_of {g : Nat → Int32} {p a b c q : Nat} (h : pOrd g p = .inr (a, b, c, q)) : pNx g p = q := by unfold pNx; rw [h]
theorem pq_b {g : Nat → Int32} {L : Nat} : ∀ {n : Nat}, (∀ o, o < n → pok g L o) → 2 * n ≤ pq g n ∧ pq g n ≤ L + 8
  | 0, _ => ⟨Nat.le_refl _, Nat.zero_le _⟩
  | n + 1, h => by
    obtain ⟨h1, h2⟩ := pq_b (n := n) (fun o ho => h o (by omega))
    obtain ⟨k1, a, b, c, q, k2⟩ := h n (by omega)
    have := pOrd_val k2
    rw [pq, pNx_of k2]
    omega
theorem td_td {g : Nat → Int32} {L n m : Nat} (h : tdone g L n) (k : tdone g L m) : n = m := by
  rcases Nat.lt_trichotomy n m with z | z | z
  · have := (k.1 n z).1
    have := h.2
    omega
  · exact z
  · have := (h.1 m z).1
    have := k.2
    omega
theorem td_tf {g : Nat → Int32} {L n m e : Nat} (h : tdone g L n) (k : tfail g L m e) : False := by
  rcases Nat.lt_trichotomy n m with z | z | z
  · have := (k.1 n z).1
    have := h.2
    omega
  · subst z
    have := h.2
    have := k.2.1
    omega
  · obtain ⟨_, a, b, c, q, e2⟩ := h.1 m z
    rw [k.2.2] at e2
    cases e2
theorem tf_tf {g : Nat → Int32} {L n m e e2 : Nat} (h : tfail g L n e) (k : tfail g L m e2) : e = e2 := by
  rcases Nat.lt_trichotomy n m with z | z | z
  · obtain ⟨_, a, b, c, q, x⟩ := k.1 n z
    rw [h.2.2] at x
    cases x
  · subst z
    have x := h.2.2
    rw [k.2.2] at x
    cases x
    rfl
  · obtain ⟨_, a, b, c, q, x⟩ := h.1 m z
    rw [k.2.2] at x
    cases x
def cR (s s' : xs) : Prop := (∀ i, i ≠ 133 → i ≠ 135 → i ≠ 137 → i ≠ 139 → s'.1 i = s.1 i) ∧ s'.1 133 0 = s.1 133 0 ∧ s'.2 = s.2
theorem cR_tr {s s' s2 : xs} (h : cR s s') (g : cR s' s2) : cR s s2 := ⟨fun i a b c d => (g.1 i a b c d).trans (h.1 i a b c d), g.2.1.trans h.2.1, g.2.2.trans h.2.2⟩
theorem cR_cO {s s' : xs} {o : Nat} (h : cO s s' o) : cR s s' := ⟨h.1, h.2.1 0 (by decide) (by decide), h.2.2.2⟩
theorem cR_put {s : xs} {k : Nat} {v : Int32} (hk : k ≠ 0) : cR s (put s 133 k v) := ⟨fun i a _ _ _ => put_ne _ _ a, by rw [put_val, if_pos rfl, if_neg (Ne.symm hk)], rfl⟩
def trow (s : xs) (g : Nat → Int32) (n : Nat) : Prop := ∀ o a b c q, o < n → pOrd g (pq g o) = .inr (a, b, c, q) → s.1 135 o = nI a ∧ (a ≠ 3 → s.1 137 o = nI b ∧ s.1 139 o = nI c)
def rPo (s : xs) (g : Nat → Int32) (L : Nat) (o1 : xO) (w1 : xw) : Prop := ∃ s', w1 = wd s' ∧ cR s s' ∧ ((∃ n, tdone g L n ∧ o1 = .inl (some (.int (-1))) ∧ s'.1 133 1 = nI n ∧ trow s' g n) ∨ ∃ n e, tfail g L n e ∧ e < 1000 ∧ o1 = .inl (some (.int (nI e))))
theorem rPo_tr {s s' : xs} {g : Nat → Int32} {L : Nat} {o1 : xO} {w1 : xw} (h : cR s s') (k : rPo s' g L o1 w1) : rPo s g L o1 w1 := by
  obtain ⟨s2, e, h2, k⟩ := k
  exact ⟨s2, e, cR_tr h h2, k⟩
theorem putc {s : xs} {k : Nat} {v : Int32} : (put s 133 k v).1 133 k = v := by rw [put_val, if_pos rfl, if_pos rfl]
theorem putd {s : xs} {k j : Nat} {v : Int32} (h : j ≠ k) : (put s 133 k v).1 133 j = s.1 133 j := by rw [put_val, if_pos rfl, if_neg h]
theorem pNum_err {g : Nat → Int32} {D M p e : Nat} (h : pNum g D M p = .inl e) : e ≤ p + D := by
  unfold pNum at h
  have hl := nd_le g p D
  cases e1 : (Nat.beq (nd g p D) 0 || isd (g (p + nd g p D))) with
  | true => rw [e1, cond_true] at h; cases h; omega
  | false =>
    rw [e1, cond_false] at h
    cases e2 : (decide (1 ≤ nv g p (nd g p D)) && decide (nv g p (nd g p D) ≤ M)) with
    | true => rw [e2, cond_true] at h; cases h
    | false => rw [e2, cond_false] at h; cases h; omega
theorem pCu_err {g : Nat → Int32} {p e : Nat} (h : pCu g p = .inl e) : e ≤ p + 8 := by
  rw [pCu_eq] at h
  cases hP : isP (g (p + 1)) with
  | false => rw [hP, cond_false] at h; cases h; omega
  | true =>
    rw [hP, cond_true] at h
    cases hb : cutT g (p + 2) with
    | inl e2 =>
      rw [hb] at h
      cases h
      unfold cutT at hb
      by_cases z : g (p + 2) = nI 44
      · rw [if_pos z] at hb
        have := pNum_err hb
        omega
      · rw [if_neg z] at hb
        cases hb
        omega
    | inr y => obtain ⟨v, q2⟩ := y; rw [hb] at h; cases h
theorem pBl_err {g : Nat → Int32} {p z e : Nat} (h : pBl g p z = .inl e) : e ≤ p + 8 := by
  rw [pBl_eq] at h
  cases hP : isP (g (p + 1)) with
  | false => rw [hP, cond_false] at h; cases h; omega
  | true =>
    rw [hP, cond_true] at h
    cases hb : blT g (p + 2) with
    | inl e2 =>
      rw [hb] at h
      cases h
      unfold blT at hb
      by_cases z : g (p + 2) = nI 120
      · rw [if_pos z] at hb
        have := pNum_err hb
        omega
      · rw [if_neg z] at hb
        cases hb
    | inr y => obtain ⟨v, q2⟩ := y; rw [hb] at h; cases h
theorem pRd_err {g : Nat → Int32} {p e : Nat} (h : pRd g p = .inl e) : e ≤ p + 8 := by
  unfold pRd at h
  by_cases x1 : g p = nI 104
  · rw [if_pos x1] at h
    cases h
  · rw [if_neg x1] at h
    by_cases x2 : g p = nI 99
    · rw [if_pos x2] at h
      exact pCu_err h
    · rw [if_neg x2] at h
      by_cases x3 : g p = nI 100
      · rw [if_pos x3] at h
        exact pBl_err h
      · rw [if_neg x3] at h
        by_cases x4 : g p = nI 116
        · rw [if_pos x4] at h
          exact pBl_err h
        · rw [if_neg x4] at h
          by_cases x5 : g p = nI 117
          · rw [if_pos x5] at h
            exact pBl_err h
          · rw [if_neg x5] at h
            cases h
            omega
theorem read_loop {g : Nat → Int32} {L : Nat} : ∀ (d o : Nat) (s : xs), o + d = 60 → cT s g L (pq g o) o → (∀ j, j < o → pok g L j) → trow s g o → xRun M_X2_read (rPo s g L) (10, [(0, .ref 133)], [], wd s, 0, 0) := by
  intro d
  induction d with
  | zero =>
    intro o s hd h hk ht
    have := pq_b hk
    have := h.2.2.2.1
    omega
  | succ d ih =>
    intro o s hd h hk ht
    have hb := pq_b hk
    have hL := h.2.2.2.1
    have h0 := h.1
    have h6 := h.2.1
    have h1 := h.2.2.1
    by_cases hlt : pq g o < L
    · obtain ⟨o1, w1, ⟨s', rfl, hc, hm⟩, hev⟩ := e2_readOrder h (by omega)
      cases hr : pRd g (pq g o) with
      | inl e =>
        rw [hr] at hm
        obtain ⟨rfl, m7⟩ := hm
        have hf : pOrd g (pq g o) = .inl e := by unfold pOrd; rw [hr]
        have he : e < 1000 := by have := pRd_err hr; omega
        refine R1 (g' := (11, _, _, _, _, _)) rfl rfl ?_
        refine R_getf rfl rfl (Nat.le_of_ble_eq_true rfl) rfl rfl ?_
        refine R1 (g' := (16, _, .int (nI 90) :: _, _, _, _)) rfl rfl ?_
        refine R_cgeN 64 (o) (90) rfl rfl (h1) (rfl) (by omega) (by omega) (fun h => by omega) (fun h16 => ?_)
        refine R1 (g' := (20, _, _, _, _, _)) rfl rfl ?_
        refine R_getf rfl rfl (Nat.le_of_ble_eq_true rfl) rfl rfl ?_
        refine R1 (g' := (24, _, _, _, _, _)) rfl rfl ?_
        refine R_getf rfl rfl (Nat.le_of_ble_eq_true rfl) rfl rfl ?_
        refine R_cgeN 64 (pq g o) (L) rfl rfl (h6) (h0) (by omega) (by omega) (fun h => by omega) (fun h27 => ?_)
        refine R1 (g' := (31, _, _, _, _, _)) rfl rfl ?_
        refine R_call1 (Or.inr (Or.inl ⟨rfl, rfl⟩)) rfl rfl ⟨Nat.le_of_ble_eq_true rfl, Nat.le_of_ble_eq_true rfl⟩ (Nat.le_of_ble_eq_true rfl) ⟨rfl, rfl⟩ (⟨⟨_, _, _, rfl, (Nat.le_of_ble_eq_true rfl), rfl⟩, hev⟩) ?_
        refine R_eq 46 rfl rfl (fun h34 => ?_) (fun h => by exact absurd rfl h)
        refine R1 (g' := (47, _, _, _, _, _)) rfl rfl ?_
        refine R_getf rfl rfl (Nat.le_of_ble_eq_true rfl) rfl rfl ?_
        refine R_iret rfl ?_
        exact ⟨s', rfl, cR_cO hc, Or.inr ⟨o, e, ⟨hk, hlt, hf⟩, he, o_i m7⟩⟩
      | inr y =>
        obtain ⟨a, b, c, q⟩ := y
        rw [hr] at hm
        obtain ⟨rfl, m6, m1, m2⟩ := hm
        have hv := pRd_val hr
        have hT : cT s' g L q o := cT_cO h hc m6 (by omega)
        by_cases hq : g q = nI 59
        · have hf : pOrd g (pq g o) = .inr (a, b, c, q + 1) := by unfold pOrd; rw [hr]; exact if_pos hq
          have hn : pq g (o + 1) = q + 1 := by rw [pq, pNx_of hf]
          have hev2 := e2_acceptT hT hq
          have cS : cR s (put (put s' 133 6 (nI (q + 1))) 133 1 (nI (o + 1))) := cR_tr (cR_tr (cR_cO hc) (cR_put (by decide))) (cR_put (by decide))
          refine R1 (g' := (11, _, _, _, _, _)) rfl rfl ?_
          refine R_getf rfl rfl (Nat.le_of_ble_eq_true rfl) rfl rfl ?_
          refine R1 (g' := (16, _, .int (nI 90) :: _, _, _, _)) rfl rfl ?_
          refine R_cgeN 64 (o) (90) rfl rfl (h1) (rfl) (by omega) (by omega) (fun h => by omega) (fun h16 => ?_)
          refine R1 (g' := (20, _, _, _, _, _)) rfl rfl ?_
          refine R_getf rfl rfl (Nat.le_of_ble_eq_true rfl) rfl rfl ?_
          refine R1 (g' := (24, _, _, _, _, _)) rfl rfl ?_
          refine R_getf rfl rfl (Nat.le_of_ble_eq_true rfl) rfl rfl ?_
          refine R_cgeN 64 (pq g o) (L) rfl rfl (h6) (h0) (by omega) (by omega) (fun h => by omega) (fun h27 => ?_)
          refine R1 (g' := (31, _, _, _, _, _)) rfl rfl ?_
          refine R_call1 (Or.inr (Or.inl ⟨rfl, rfl⟩)) rfl rfl ⟨Nat.le_of_ble_eq_true rfl, Nat.le_of_ble_eq_true rfl⟩ (Nat.le_of_ble_eq_true rfl) ⟨rfl, rfl⟩ (⟨⟨_, _, _, rfl, (Nat.le_of_ble_eq_true rfl), rfl⟩, hev⟩) ?_
          refine R_eq 46 rfl rfl (fun h => by exact absurd h (by decide)) (fun h34 => ?_)
          refine R1 (g' := (38, _, _, _, _, _)) rfl rfl ?_
          refine R1 (g' := (40, _, .int (nI 59) :: _, _, _, _)) rfl rfl ?_
          refine R_call2 (Or.inr (Or.inl ⟨rfl, rfl⟩)) rfl rfl ⟨Nat.le_of_ble_eq_true rfl, Nat.le_of_ble_eq_true rfl⟩ (Nat.le_of_ble_eq_true rfl) ⟨rfl, rfl⟩ (⟨⟨_, _, _, rfl, (Nat.le_of_ble_eq_true rfl), rfl⟩, hev2⟩) ?_
          refine R_ne 51 rfl rfl (fun h43 => ?_) (fun h => by exact absurd h (by decide))
          refine R1 (g' := (52, _, _, _, _, _)) rfl rfl ?_
          refine R1 (g' := (53, _, _, _, _, _)) rfl rfl ?_
          refine R_getf rfl rfl (Nat.le_of_ble_eq_true rfl) rfl rfl ?_
          rw [putd (by decide), hT.2.2.1]
          refine R1 (g' := (57, _, .int (nI 1) :: _, _, _, _)) rfl rfl ?_
          refine R1 (g' := (58, _, _, _, _, _)) rfl rfl ?_
          rw [nI_add]
          refine R_put rfl rfl (Nat.le_of_ble_eq_true rfl) rfl (Nat.le_of_ble_eq_true rfl) ⟨_, rfl, Or.inl rfl, _, rfl, rfl⟩ rfl ?_
          refine R1 (g' := (10, _, _, _, _, _)) rfl rfl ?_
          change xRun _ _ (10, _, _, wd (put (put s' 133 6 (nI (q + 1))) 133 1 (nI (o + 1))), _, _)
          refine xRun_imp (ih (o + 1) _ (by omega) ?_ ?_ ?_) (fun _ _ k => rPo_tr cS k)
          · obtain ⟨a0, _, a1, aL, ap, ao, ag⟩ := hT
            refine ⟨(putd (by decide)).trans ((putd (by decide)).trans a0), ?_, putc, aL, by omega, by omega, ?_⟩
            · rw [hn]
              exact (putd (by decide)).trans putc
            · rw [put_ne (q := 141) _ _ (by decide), put_ne (q := 141) _ _ (by decide)]
              exact ag
          · intro j hj
            rcases Nat.lt_or_ge j o with z | z
            · exact hk j z
            · rw [show j = o by omega]
              exact ⟨hlt, a, b, c, q + 1, hf⟩
          · intro j a2 b2 c2 q2 hj hj2
            rw [put_ne (q := 135) _ _ (by decide), put_ne (q := 135) _ _ (by decide), put_ne (q := 137) _ _ (by decide), put_ne (q := 137) _ _ (by decide), put_ne (q := 139) _ _ (by decide), put_ne (q := 139) _ _ (by decide)]
            rcases Nat.lt_or_ge j o with z | z
            · obtain ⟨f1, f2, f3⟩ := hc.2.2.1 j (by omega)
              rw [f1, f2, f3]
              exact ht j a2 b2 c2 q2 z hj2
            · have ej : j = o := by omega
              subst ej
              rw [hf] at hj2
              cases hj2
              exact ⟨m1, m2⟩
        · have hf : pOrd g (pq g o) = .inl q := by unfold pOrd; rw [hr]; exact if_neg hq
          have hev2 := e2_acceptF hT hq
          refine R1 (g' := (11, _, _, _, _, _)) rfl rfl ?_
          refine R_getf rfl rfl (Nat.le_of_ble_eq_true rfl) rfl rfl ?_
          refine R1 (g' := (16, _, .int (nI 90) :: _, _, _, _)) rfl rfl ?_
          refine R_cgeN 64 (o) (90) rfl rfl (h1) (rfl) (by omega) (by omega) (fun h => by omega) (fun h16 => ?_)
          refine R1 (g' := (20, _, _, _, _, _)) rfl rfl ?_
          refine R_getf rfl rfl (Nat.le_of_ble_eq_true rfl) rfl rfl ?_
          refine R1 (g' := (24, _, _, _, _, _)) rfl rfl ?_
          refine R_getf rfl rfl (Nat.le_of_ble_eq_true rfl) rfl rfl ?_
          refine R_cgeN 64 (pq g o) (L) rfl rfl (h6) (h0) (by omega) (by omega) (fun h => by omega) (fun h27 => ?_)
          refine R1 (g' := (31, _, _, _, _, _)) rfl rfl ?_
          refine R_call1 (Or.inr (Or.inl ⟨rfl, rfl⟩)) rfl rfl ⟨Nat.le_of_ble_eq_true rfl, Nat.le_of_ble_eq_true rfl⟩ (Nat.le_of_ble_eq_true rfl) ⟨rfl, rfl⟩ (⟨⟨_, _, _, rfl, (Nat.le_of_ble_eq_true rfl), rfl⟩, hev⟩) ?_
          refine R_eq 46 rfl rfl (fun h => by exact absurd h (by decide)) (fun h34 => ?_)
          refine R1 (g' := (38, _, _, _, _, _)) rfl rfl ?_
          refine R1 (g' := (40, _, .int (nI 59) :: _, _, _, _)) rfl rfl ?_
          refine R_call2 (Or.inr (Or.inl ⟨rfl, rfl⟩)) rfl rfl ⟨Nat.le_of_ble_eq_true rfl, Nat.le_of_ble_eq_true rfl⟩ (Nat.le_of_ble_eq_true rfl) ⟨rfl, rfl⟩ (⟨⟨_, _, _, rfl, (Nat.le_of_ble_eq_true rfl), rfl⟩, hev2⟩) ?_
          refine R_ne 51 rfl rfl (fun h => by exact absurd rfl h) (fun h43 => ?_)
          refine R1 (g' := (47, _, _, _, _, _)) rfl rfl ?_
          refine R_getf rfl rfl (Nat.le_of_ble_eq_true rfl) rfl rfl ?_
          refine R_iret rfl ?_
          exact ⟨_, rfl, cR_tr (cR_cO hc) (cR_put (by decide)), Or.inr ⟨o, q, ⟨hk, hlt, hf⟩, by omega, o_i putc⟩⟩
    · have hdn : tdone g L o := ⟨hk, by omega⟩
      refine R1 (g' := (11, _, _, _, _, _)) rfl rfl ?_
      refine R_getf rfl rfl (Nat.le_of_ble_eq_true rfl) rfl rfl ?_
      refine R1 (g' := (16, _, .int (nI 90) :: _, _, _, _)) rfl rfl ?_
      refine R_cgeN 64 (o) (90) rfl rfl (h1) (rfl) (by omega) (by omega) (fun h => by omega) (fun h16 => ?_)
      refine R1 (g' := (20, _, _, _, _, _)) rfl rfl ?_
      refine R_getf rfl rfl (Nat.le_of_ble_eq_true rfl) rfl rfl ?_
      refine R1 (g' := (24, _, _, _, _, _)) rfl rfl ?_
      refine R_getf rfl rfl (Nat.le_of_ble_eq_true rfl) rfl rfl ?_
      refine R_cgeN 64 (pq g o) (L) rfl rfl (h6) (h0) (by omega) (by omega) (fun h27 => ?_) (fun h => by omega)
      refine R1 (g' := (65, _, .int (-1) :: _, _, _, _)) rfl rfl ?_
      refine R_iret rfl ?_
      exact ⟨s, rfl, ⟨fun _ _ _ _ _ => rfl, rfl, rfl⟩, Or.inl ⟨o, hdn, rfl, h1, ht⟩⟩
theorem e2_read {s : xs} {g : Nat → Int32} {L : Nat} (h0 : s.1 133 0 = nI L) (hL : L ≤ 90) (hg : ∀ i, (if i < L then s.1 141 i else -1) = g i) : ∃ o1 w1, rPo s g L o1 w1 ∧ Ev_X2_read [.ref 133] (wd s) o1 w1 := by
  refine xEv_ex (Nat.le_of_ble_eq_true rfl) (fun o1 w1 k => ?_) ?_
  · obtain ⟨s', rfl, _, ⟨n, _, rfl, _⟩ | ⟨n, e, _, _, rfl⟩⟩ := k <;> exact ⟨Nat.le_refl _, Or.inl rfl⟩
  have cS : cR s (put (put s 133 6 (nI 0)) 133 1 (nI 0)) := cR_tr (cR_put (by decide)) (cR_put (by decide))
  refine R1 (g' := (1, _, _, _, _, _)) rfl rfl ?_
  refine R1 (g' := (2, _, .int (nI 0) :: _, _, _, _)) rfl rfl ?_
  refine R_put rfl rfl (Nat.le_of_ble_eq_true rfl) rfl (Nat.le_of_ble_eq_true rfl) ⟨_, rfl, Or.inl rfl, _, rfl, rfl⟩ rfl ?_
  refine R1 (g' := (6, _, _, _, _, _)) rfl rfl ?_
  refine R1 (g' := (7, _, .int (nI 0) :: _, _, _, _)) rfl rfl ?_
  refine R_put rfl rfl (Nat.le_of_ble_eq_true rfl) rfl (Nat.le_of_ble_eq_true rfl) ⟨_, rfl, Or.inl rfl, _, rfl, rfl⟩ rfl ?_
  change xRun _ _ (10, _, _, wd (put (put s 133 6 (nI 0)) 133 1 (nI 0)), _, _)
  refine xRun_imp (read_loop 60 0 _ rfl ⟨(putd (by decide)).trans ((putd (by decide)).trans h0), (putd (by decide)).trans putc, putc, hL, by show 0 < 1000; decide, by decide, ?_⟩ (fun j hj => absurd hj (Nat.not_lt_zero _)) (fun j _ _ _ _ hj => absurd hj (Nat.not_lt_zero _))) (fun _ _ k => rPo_tr cS k)
  rw [put_ne (q := 141) _ _ (by decide), put_ne (q := 141) _ _ (by decide)]
  exact hg
