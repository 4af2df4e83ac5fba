theorem xnd_po {K : Nat → Option Value} {F : Nat → Option (Nat × Nat)} {NW : Nat → Option (Nat × List Value)} {TH : Nat → Option String} {HD : Nat → String → Option Int32} {C : Nat → Option (Nat × Nat × Nat × xR)} {Rc Rs : Nat} {Po Po2 : xO → xw → Prop} {P : xG → Prop} (h : ∀ o w, Po o w → Po2 o w) {i : Instr} {g : xG} (k : xnd K F NW TH HD C Rc Rs Po P i g) : xnd K F NW TH HD C Rc Rs Po2 P i g := by
  obtain ⟨pc, lv, st, w, kc, ks⟩ := g
  have hcal : ∀ (CC : Option (Nat × Nat × Nat × xR)), xcal HD Rc Rs Po P pc lv st w kc ks CC → xcal HD Rc Rs Po2 P pc lv st w kc ks CC := by
    intro CC k
    obtain ⟨argc, mc, ms, rel, avs, r, o, w1, h1, h2, h3, h4, h5, h6, h7, h8, h9, h10⟩ := k
    refine ⟨argc, mc, ms, rel, avs, r, o, w1, h1, h2, h3, h4, h5, h6, h7, h8, h9, ?_⟩
    cases o with
    | inl v => exact h10
    | inr E =>
      cases hd : HD pc E with
      | none =>
        simp only [hd] at h10 ⊢
        exact h _ _ h10
      | some j =>
        simp only [hd] at h10 ⊢
        exact h _ _ h10
  cases i
  case invokestatic => exact hcal _ k
  case invokevirtual => exact hcal _ k
  case invokespecial => exact hcal _ k
  all_goals first
    | exact k
    | (simp only [xnd] at k ⊢
       repeat' split at k
       all_goals first
         | exact k
         | exact h _ _ k
         | (obtain ⟨h1, h2, h3, h4⟩ := k; exact ⟨h1, h2, h3, h _ _ h4⟩))
theorem xstep_po {M : xM} {Po Po2 : xO → xw → Prop} {P : xG → Prop} (h : ∀ o w, Po o w → Po2 o w) {g : xG} (k : xstep M Po P g) : xstep M Po2 P g := by
  unfold xstep at k ⊢
  split at k
  · exact k
  · split at k
    · exact k
    · exact xnd_po h k
theorem xRun_imp {M : xM} {Po Po2 : xO → xw → Prop} {g : xG} (h : xRun M Po g) (k : ∀ o w, Po o w → Po2 o w) : xRun M Po2 g := fun P hP => h P (fun g hg => hP g (xstep_po k hg))
def LInv (v c0 : Nat) (fit : Nat → Bool) (lo hi l t : Nat) : Prop := hi ≤ (bR v c0 t).1 ∧ (∀ j, lo ≤ j → j < hi → (bR v c0 t).2.2.2.2 ((bR v c0 t).2.1 j) = l) ∧ (∀ j, hi ≤ j → j < (bR v c0 t).1 → (bR v c0 t).2.2.2.2 ((bR v c0 t).2.1 j) = l + 1) ∧ ∀ j, j < (bR v c0 t).1 → fit ((bR v c0 t).2.1 j) = false
theorem bR_s {v c0 t i q : Nat} (ht : t = 3 * i + q) (hq : q ≤ 2) : bR v c0 (t + 1) = bS v (bR v c0 t) i q := by
  rw [bR, show t / 3 = i by omega, show t % 3 = q by omega]
theorem LInv_N {v c0 lo hi l t i q : Nat} {fit : Nat → Bool} (ht : t = 3 * i + q) (hq : q ≤ 2) (h : LInv v c0 fit lo hi l t) (hp : bP (bR v c0 t) i q v = false) : LInv v c0 fit lo hi l (t + 1) := by
  unfold LInv
  rw [bR_s ht hq, bS, hp, cond_false]
  exact h
theorem LInv_P {v c0 lo hi l t i q : Nat} {fit : Nat → Bool} (hc0 : c0 < 9216) (ht : t = 3 * i + q) (hq : q ≤ 2) (hlo : lo ≤ i) (hhi : i < hi) (h : LInv v c0 fit lo hi l t) (hp : bP (bR v c0 t) i q v = true) (hf : fit (cN ((bR v c0 t).2.1 i) q) = false) : LInv v c0 fit lo hi l (t + 1) := by
  obtain ⟨h1, h2, h3, h4⟩ := h
  obtain ⟨p1, p2, p3, p4⟩ := bP_iff hp
  have hb := bR_ok (v := v) hc0 t
  have hl : bLe (bR v c0 t) (bR v c0 (t + 1)) := bR_le2 (Nat.le_succ t)
  have e : bR v c0 (t + 1) = bG (bR v c0 t) i q := by rw [bR_s ht hq, bS, hp, cond_true]
  have en : (bR v c0 (t + 1)).1 = (bR v c0 t).1 + 1 := by rw [e]; rfl
  have eo : (bR v c0 (t + 1)).2.1 (bR v c0 t).1 = cN ((bR v c0 t).2.1 i) q := by rw [e]; exact va_up_self _ _ _
  have er : (bR v c0 (t + 1)).2.2.2.2 (cN ((bR v c0 t).2.1 i) q) = l + 1 := by
    rw [e]
    show va_up _ _ _ _ = _
    rw [va_up_self, h2 i hlo hhi]
  have old : ∀ j, j < (bR v c0 t).1 → (bR v c0 (t + 1)).2.2.2.2 ((bR v c0 (t + 1)).2.1 j) = (bR v c0 t).2.2.2.2 ((bR v c0 t).2.1 j) := fun j hj => by rw [hl.2.1 j hj, (hl.2.2 _ (hb.1 j hj).2).2.2]
  refine ⟨by omega, fun j a b => by rw [old j (by omega)]; exact h2 j a b, fun j a b => ?_, fun j a => ?_⟩
  · rcases Nat.lt_or_ge j (bR v c0 t).1 with z | z
    · rw [old j z]
      exact h3 j a z
    · have : j = (bR v c0 t).1 := by omega
      rw [this, eo, er]
  · rcases Nat.lt_or_ge j (bR v c0 t).1 with z | z
    · rw [hl.2.1 j z]
      exact h4 j z
    · have : j = (bR v c0 t).1 := by omega
      rw [this, eo]
      exact hf
theorem bFnd_P {v c0 lo hi l t i q : Nat} {fit : Nat → Bool} (ht : t = 3 * i + q) (hq : q ≤ 2) (hlo : lo ≤ i) (hhi : i < hi) (h : LInv v c0 fit lo hi l t) (hp : bP (bR v c0 t) i q v = true) (hf : fit (cN ((bR v c0 t).2.1 i) q) = true) : bFnd v c0 fit (t + 1) (some (bR v c0 t).1) ∧ (bR v c0 (t + 1)).2.1 (bR v c0 t).1 = cN ((bR v c0 t).2.1 i) q ∧ (bR v c0 (t + 1)).2.2.2.2 (cN ((bR v c0 t).2.1 i) q) = l + 1 := by
  obtain ⟨h1, h2, h3, h4⟩ := h
  have hl : bLe (bR v c0 t) (bR v c0 (t + 1)) := bR_le2 (Nat.le_succ t)
  have e : bR v c0 (t + 1) = bG (bR v c0 t) i q := by rw [bR_s ht hq, bS, hp, cond_true]
  have en : (bR v c0 (t + 1)).1 = (bR v c0 t).1 + 1 := by rw [e]; rfl
  have eo : (bR v c0 (t + 1)).2.1 (bR v c0 t).1 = cN ((bR v c0 t).2.1 i) q := by rw [e]; exact va_up_self _ _ _
  refine ⟨⟨by omega, by rw [eo]; exact hf, fun j hj => by rw [hl.2.1 j hj]; exact h4 j hj⟩, eo, ?_⟩
  rw [e]
  show va_up _ _ _ _ = _
  rw [va_up_self, h2 i hlo hhi]
/-- what reachFrom comes to -/
def rfPo (s : xs) (v c0 x y o hi l lo : Nat) (o1 : xO) (w1 : xw) : Prop := ∃ s', w1 = wd s' ∧ sOut 123 9 s s' ∧ ((∃ t j, o1 = .inl (some (.int (nI ((bR v c0 t).2.1 j)))) ∧ cRel s' (bR v c0 t) v x y o ∧ bFnd v c0 (wFit x y o) t (some j) ∧ (bR v c0 t).2.2.2.2 ((bR v c0 t).2.1 j) = l + 1) ∨ (o1 = .inl (some (.int (-1))) ∧ cRel s' (bR v c0 (3 * hi)) v x y o ∧ LInv v c0 (wFit x y o) lo hi l (3 * hi)))
theorem rfPo_tr {s s' : xs} {v c0 x y o hi l lo : Nat} {o1 : xO} {w1 : xw} (h : sOut 123 9 s s') (k : rfPo s' v c0 x y o hi l lo o1 w1) : rfPo s v c0 x y o hi l lo o1 w1 := by
  obtain ⟨s2, e, h2, k⟩ := k
  exact ⟨s2, e, sOut_tr h h2, k⟩
theorem mic_loop {v c0 x y o lo hi l : Nat} (hc0 : c0 < 9216) (hv : v < 2 ^ 31) (hx : x < 2 ^ 20) (hy : y < 2 ^ 20) (ho : o < 2 ^ 20) (hl : l < 60) : ∀ (d t i q : Nat) (s : xs), t + d = 3 * hi → t = 3 * i + q → q ≤ 2 → lo ≤ i → i < hi → cRel s (bR v c0 t) v x y o → LInv v c0 (wFit x y o) lo hi l t → xRun M_X7_reachFrom (rfPo s v c0 x y o hi l lo) (20, [(5, .int (nI q)), (4, .int (nI ((bR v c0 t).2.1 i))), (3, .int (nI i)), (0, .ref 123), (1, .int (nI lo)), (2, .int (nI hi))], [], wd s, 0, 0) := by
  intro d
  induction d with
  | zero =>
    intro t i q s hd ht hq hlo hhi
    omega
  | succ d ih =>
    intro t i q s hd ht hq hlo hhi hs hL
    have hb := bR_ok (v := v) hc0 t
    have hbn : (bR v c0 t).1 ≤ 9216 := by have := hb.2.1; omega
    have hi1 : i < (bR v c0 t).1 := Nat.lt_of_lt_of_le hhi hL.1
    have hr : (bR v c0 t).2.2.2.2 ((bR v c0 t).2.1 i) < 60 := by rw [hL.2.1 i hlo hhi]; exact hl
    obtain ⟨s', hev, hs', hso, hsec⟩ := e7_rb (q := q) hs hb hi1 hr hq hv
    rw [← bR_s ht hq] at hs'
    have hb' := bR_ok (v := v) hc0 (t + 1)
    have hbn' : (bR v c0 (t + 1)).1 ≤ 9216 := by have := hb'.2.1; omega
    refine xRun_imp (Po := rfPo s' v c0 x y o hi l lo) ?_ (fun _ _ k => rfPo_tr hso k)
    have hle : bLe (bR v c0 t) (bR v c0 (t + 1)) := bR_le2 (Nat.le_succ t)
    have hhb : hi ≤ 9216 := Nat.le_trans hL.1 hbn
    have go : LInv v c0 (wFit x y o) lo hi l (t + 1) → xRun M_X7_reachFrom (rfPo s' v c0 x y o hi l lo) (20, [(5, .int (nI (q + 1))), (4, .int (nI ((bR v c0 t).2.1 i))), (3, .int (nI i)), (0, .ref 123), (1, .int (nI lo)), (2, .int (nI hi))], [], wd s', 0, 0) := by
      intro hL'
      rcases Nat.lt_or_ge q 2 with hq2 | hq2
      · have e1 := ih (t + 1) i (q + 1) s' (by omega) (by omega) (by omega) hlo hhi hs' hL'
        rw [hle.2.1 i hi1] at e1
        exact e1
      · have hq3 : q = 2 := by omega
        subst hq3
        refine R1 (g' := (22, _, _, _, _, _)) rfl rfl ?_
        refine R1 (g' := (23, _, .int (nI 2) :: _, _, _, _)) rfl rfl ?_
        refine R_cgtN 55 (3) (2) rfl rfl (rfl) (rfl) (by omega) (by omega) (fun h23 => ?_) (fun h => by omega)
        refine R1 (g' := (58, _, _, _, _, _)) rfl rfl ?_
        refine R1 (g' := (2, _, _, _, _, _)) rfl rfl ?_
        refine R1 (g' := (3, _, _, _, _, _)) rfl rfl ?_
        refine R1 (g' := (4, _, _, _, _, _)) rfl rfl ?_
        refine R_cgeN 61 (i + 1) (hi) rfl rfl (by rw [nI_succ i]; rfl) (rfl) (by omega) (by omega) (fun h4 => ?_) (fun h4 => ?_)
        · refine R1 (g' := (62, _, .int (-1) :: _, _, _, _)) rfl rfl ?_
          refine R_iret rfl ?_
          have e3 : t + 1 = 3 * hi := by omega
          rw [e3] at hs' hL'
          exact ⟨s', rfl, sOut_rf, Or.inr ⟨rfl, hs', hL'⟩⟩
        · refine R1 (g' := (8, _, _, _, _, _)) rfl rfl ?_
          refine R_getf rfl rfl (Nat.le_of_ble_eq_true rfl) rfl rfl ?_
          refine R1 (g' := (12, _, _, _, _, _)) rfl rfl ?_
          rw [show nI i + Int32.ofInt 1 = nI (i + 1) from by rw [nI_succ i]; rfl]
          refine R_call2 (Or.inr (Or.inl ⟨rfl, rfl⟩)) rfl rfl ⟨Nat.le_of_ble_eq_true rfl, Nat.le_of_ble_eq_true rfl⟩ (Nat.le_of_ble_eq_true rfl) ⟨rfl, rfl⟩ (⟨⟨_, _, _, rfl, (Nat.le_of_ble_eq_true rfl), rfl⟩, e_Row_get xrw_126 (by decide) (show i + 1 < 9216 by omega)⟩) ?_
          rw [hs'.2.1 (i + 1) (by have := hL'.1; omega)]
          refine R1 (g' := (17, _, _, _, _, _)) rfl rfl ?_
          refine R1 (g' := (18, _, .int (nI 0) :: _, _, _, _)) rfl rfl ?_
          refine R1 (g' := (20, _, _, _, _, _)) rfl rfl ?_
          refine R_lv [(5, .int (nI 0)), (4, .int (nI ((bR v c0 (t + 1)).2.1 (i + 1)))), (3, .int (nI (i + 1))), (0, .ref 123), (1, .int (nI lo)), (2, .int (nI hi))] rfl (List.forall_mem_cons.mpr ⟨rfl, List.forall_mem_cons.mpr ⟨rfl, List.forall_mem_cons.mpr ⟨by rw [nI_succ i]; rfl, List.forall_mem_cons.mpr ⟨rfl, List.forall_mem_cons.mpr ⟨rfl, List.forall_mem_cons.mpr ⟨rfl, fun _ h => absurd h List.not_mem_nil⟩⟩⟩⟩⟩⟩) ⟨rfl, rfl⟩ ?_
          exact ih (t + 1) (i + 1) 0 s' (by omega) (by omega) (by omega) (by omega) (by omega) hs' hL'
    cases hp : bP (bR v c0 t) i q v with
    | false =>
      rw [hp] at hev
      refine R1 (g' := (22, _, _, _, _, _)) rfl rfl ?_
      refine R1 (g' := (23, _, .int (nI 2) :: _, _, _, _)) rfl rfl ?_
      refine R_cgtN 55 (q) (2) rfl rfl (rfl) (rfl) (by omega) (by omega) (fun h => by omega) (fun h23 => ?_)
      refine R1 (g' := (27, _, _, _, _, _)) rfl rfl ?_
      refine R1 (g' := (29, _, _, _, _, _)) rfl rfl ?_
      refine R1 (g' := (31, _, _, _, _, _)) rfl rfl ?_
      refine R_call3 (Or.inr (Or.inl ⟨rfl, rfl⟩)) rfl rfl ⟨Nat.le_of_ble_eq_true rfl, Nat.le_of_ble_eq_true rfl⟩ (Nat.le_of_ble_eq_true rfl) ⟨rfl, rfl⟩ (⟨⟨_, _, _, rfl, (Nat.le_of_ble_eq_true rfl), rfl⟩, hev⟩) ?_
      refine R_eq 49 rfl rfl (fun h34 => ?_) (fun h => by exact absurd rfl h)
      refine R1 (g' := (52, _, _, _, _, _)) rfl rfl ?_
      refine R1 (g' := (20, _, _, _, _, _)) rfl rfl ?_
      refine R_lv [(5, .int (nI (q + 1))), (4, .int (nI ((bR v c0 t).2.1 i))), (3, .int (nI i)), (0, .ref 123), (1, .int (nI lo)), (2, .int (nI hi))] rfl (List.forall_mem_cons.mpr ⟨by rw [nI_succ q]; rfl, List.forall_mem_cons.mpr ⟨rfl, List.forall_mem_cons.mpr ⟨rfl, List.forall_mem_cons.mpr ⟨rfl, List.forall_mem_cons.mpr ⟨rfl, List.forall_mem_cons.mpr ⟨rfl, fun _ h => absurd h List.not_mem_nil⟩⟩⟩⟩⟩⟩) ⟨rfl, rfl⟩ ?_
      exact go (LInv_N ht hq hL hp)
    | true =>
      rw [hp] at hev
      obtain ⟨k1, k2⟩ := hsec hp
      have hN := (cN_ok (bP_iff hp).2.2.1).1
      refine R1 (g' := (22, _, _, _, _, _)) rfl rfl ?_
      refine R1 (g' := (23, _, .int (nI 2) :: _, _, _, _)) rfl rfl ?_
      refine R_cgtN 55 (q) (2) rfl rfl (rfl) (rfl) (by omega) (by omega) (fun h => by omega) (fun h23 => ?_)
      refine R1 (g' := (27, _, _, _, _, _)) rfl rfl ?_
      refine R1 (g' := (29, _, _, _, _, _)) rfl rfl ?_
      refine R1 (g' := (31, _, _, _, _, _)) rfl rfl ?_
      refine R_call3 (Or.inr (Or.inl ⟨rfl, rfl⟩)) rfl rfl ⟨Nat.le_of_ble_eq_true rfl, Nat.le_of_ble_eq_true rfl⟩ (Nat.le_of_ble_eq_true rfl) ⟨rfl, rfl⟩ (⟨⟨_, _, _, rfl, (Nat.le_of_ble_eq_true rfl), rfl⟩, hev⟩) ?_
      refine R_eq 49 rfl rfl (fun h => by exact absurd h (by decide)) (fun h34 => ?_)
      refine R1 (g' := (38, _, _, _, _, _)) rfl rfl ?_
      refine R_call1 (Or.inr (Or.inl ⟨rfl, rfl⟩)) rfl rfl ⟨Nat.le_of_ble_eq_true rfl, Nat.le_of_ble_eq_true rfl⟩ (Nat.le_of_ble_eq_true rfl) ⟨rfl, rfl⟩ (⟨⟨_, _, _, rfl, (Nat.le_of_ble_eq_true rfl), rfl⟩, e7_fits k1 k2 hs'.1.2.2.1 hs'.1.2.2.2.1 hs'.1.2.2.2.2 (cw_rg hN).1 (cw_rg hN).2 hx hy ho⟩) ?_
      refine R_eq 49 rfl rfl (fun h41 => ?_) (fun h41 => ?_)
      · refine R1 (g' := (52, _, _, _, _, _)) rfl rfl ?_
        refine R1 (g' := (20, _, _, _, _, _)) rfl rfl ?_
        refine R_lv [(5, .int (nI (q + 1))), (4, .int (nI ((bR v c0 t).2.1 i))), (3, .int (nI i)), (0, .ref 123), (1, .int (nI lo)), (2, .int (nI hi))] rfl (List.forall_mem_cons.mpr ⟨by rw [nI_succ q]; rfl, List.forall_mem_cons.mpr ⟨rfl, List.forall_mem_cons.mpr ⟨rfl, List.forall_mem_cons.mpr ⟨rfl, List.forall_mem_cons.mpr ⟨rfl, List.forall_mem_cons.mpr ⟨rfl, fun _ h => absurd h List.not_mem_nil⟩⟩⟩⟩⟩⟩) ⟨rfl, rfl⟩ ?_
        exact go (LInv_P hc0 ht hq hlo hhi hL hp (bI_e h41))
      · refine R1 (g' := (45, _, _, _, _, _)) rfl rfl ?_
        refine R_call1 (Or.inr (Or.inl ⟨rfl, rfl⟩)) rfl rfl ⟨Nat.le_of_ble_eq_true rfl, Nat.le_of_ble_eq_true rfl⟩ (Nat.le_of_ble_eq_true rfl) ⟨rfl, rfl⟩ (⟨⟨_, _, _, rfl, (Nat.le_of_ble_eq_true rfl), rfl⟩, e7_cellOf k1 k2 (cw_rg hN).1 (cw_rg hN).2⟩) ?_
        refine R_iret rfl ?_
        obtain ⟨f1, f2, f3⟩ := bFnd_P ht hq hlo hhi hL hp (bI_n h41)
        exact ⟨s', rfl, sOut_rf, Or.inl ⟨t + 1, (bR v c0 t).1, by rw [f2, cl_cw], hs', f1, by rw [f2]; exact f3⟩⟩
theorem e7_reachFrom {s : xs} {v c0 x y o lo hi l : Nat} (hc0 : c0 < 9216) (hv : v < 2 ^ 31) (hx : x < 2 ^ 20) (hy : y < 2 ^ 20) (ho : o < 2 ^ 20) (hl : l < 60) (hlh : lo ≤ hi) (hs : cRel s (bR v c0 (3 * lo)) v x y o) (hL : LInv v c0 (wFit x y o) lo hi l (3 * lo)) : ∃ o1 w1, rfPo s v c0 x y o hi l lo o1 w1 ∧ Ev_X7_reachFrom [.ref 123, .int (nI lo), .int (nI hi)] (wd s) o1 w1 := by
  have hb := bR_ok (v := v) hc0 (3 * lo)
  have hbn : (bR v c0 (3 * lo)).1 ≤ 9216 := by have := hb.2.1; omega
  have hh := hL.1
  refine xEv_ex (Nat.le_of_ble_eq_true rfl) (fun o1 w1 k => ?_) ?_
  · obtain ⟨s2, rfl, _, ⟨t, j, rfl, _⟩ | ⟨rfl, _⟩⟩ := k <;> exact ⟨Nat.le_refl _, Or.inl rfl⟩
  refine R1 (g' := (1, _, _, _, _, _)) rfl rfl ?_
  refine R1 (g' := (2, _, _, _, _, _)) rfl rfl ?_
  refine R1 (g' := (3, _, _, _, _, _)) rfl rfl ?_
  refine R1 (g' := (4, _, _, _, _, _)) rfl rfl ?_
  refine R_cgeN 61 (lo) (hi) rfl rfl (rfl) (rfl) (by omega) (by omega) (fun h4 => ?_) (fun h4 => ?_)
  · refine R1 (g' := (62, _, .int (-1) :: _, _, _, _)) rfl rfl ?_
    refine R_iret rfl ?_
    have e3 : lo = hi := by omega
    subst e3
    exact ⟨s, rfl, sOut_rf, Or.inr ⟨rfl, hs, hL⟩⟩
  · refine R1 (g' := (8, _, _, _, _, _)) rfl rfl ?_
    refine R_getf rfl rfl (Nat.le_of_ble_eq_true rfl) rfl rfl ?_
    refine R1 (g' := (12, _, _, _, _, _)) rfl rfl ?_
    refine R_call2 (Or.inr (Or.inl ⟨rfl, rfl⟩)) rfl rfl ⟨Nat.le_of_ble_eq_true rfl, Nat.le_of_ble_eq_true rfl⟩ (Nat.le_of_ble_eq_true rfl) ⟨rfl, rfl⟩ (⟨⟨_, _, _, rfl, (Nat.le_of_ble_eq_true rfl), rfl⟩, e_Row_get xrw_126 (by decide) (show lo < 9216 by omega)⟩) ?_
    rw [hs.2.1 lo (by omega)]
    refine R1 (g' := (17, _, _, _, _, _)) rfl rfl ?_
    refine R1 (g' := (18, _, .int (nI 0) :: _, _, _, _)) rfl rfl ?_
    refine R1 (g' := (20, _, _, _, _, _)) rfl rfl ?_
    refine R_lv [(5, .int (nI 0)), (4, .int (nI ((bR v c0 (3 * lo)).2.1 lo))), (3, .int (nI lo)), (0, .ref 123), (1, .int (nI lo)), (2, .int (nI hi))] rfl (List.forall_mem_cons.mpr ⟨rfl, List.forall_mem_cons.mpr ⟨rfl, List.forall_mem_cons.mpr ⟨rfl, List.forall_mem_cons.mpr ⟨rfl, List.forall_mem_cons.mpr ⟨rfl, List.forall_mem_cons.mpr ⟨rfl, fun _ h => absurd h List.not_mem_nil⟩⟩⟩⟩⟩⟩) ⟨rfl, rfl⟩ ?_
    exact mic_loop hc0 hv hx hy ho hl (3 * hi - 3 * lo) (3 * lo) lo 0 s (by omega) (by omega) (by omega) (Nat.le_refl _) (by omega) hs hL
theorem tr_loop {s : xs} {B : bSt} {c0 v x y o c : Nat} (hs : cRel s B v x y o) (hb : bOK c0 B) (hc : B.2.2.1 c ≠ 0) : ∀ (k : Nat) (f : Nat → Int32), k ≤ B.2.2.2.2 c → (∀ j, k ≤ j → j < B.2.2.2.2 c → f j = nI (bWy B c j)) → xRun M_X7_traceBack (fun o1 w1 => o1 = .inl none ∧ ∃ f : Nat → Int32, w1 = wd (setP s 125 f) ∧ ∀ j, j < B.2.2.2.2 c → f j = nI (bWy B c j)) (9, [(3, .int (nI k - nI 1)), (2, .int (nI (bBk B c (B.2.2.2.2 c - k)))), (0, .ref 123), (1, .int (nI c))], [], wd (setP s 125 f), 0, 0) := by
  intro k
  have hr60 := (hb.2.2.2.2 c hc).1
  induction k with
  | zero =>
    intro f hk hf
    refine R1 (g' := (10, _, _, _, _, _)) rfl rfl ?_
    refine R_lt 46 rfl rfl (fun h10 => ?_) (fun h => by exact absurd (by decide) h)
    refine R_vret rfl ?_
    exact ⟨rfl, f, rfl, fun j hj => hf j (Nat.zero_le _) hj⟩
  | succ k ih =>
    intro f hk hf
    have hbk := bBk_ok hb hc (B.2.2.2.2 c - (k + 1)) (by omega)
    have hcl := (hb.2.2.2.2 _ hbk.1).2.1
    have hm1 : 1 ≤ B.2.2.1 (bBk B c (B.2.2.2.2 c - (k + 1))) := Nat.pos_of_ne_zero hbk.1
    have e1 : nI (k + 1) - nI 1 = nI k := by rw [pk_sub (by omega)]; rfl
    have e2 : bWy B c k = B.2.2.1 (bBk B c (B.2.2.2.2 c - (k + 1))) - 1 := by unfold bWy; rw [show B.2.2.2.2 c - 1 - k = B.2.2.2.2 c - (k + 1) by omega]
    have e3 : bBk B c (B.2.2.2.2 c - k) = B.2.2.2.1 (bBk B c (B.2.2.2.2 c - (k + 1))) := by rw [show B.2.2.2.2 c - k = (B.2.2.2.2 c - (k + 1)) + 1 by omega]; rfl
    rw [e1]
    refine R1 (g' := (10, _, _, _, _, _)) rfl rfl ?_
    refine R_lt 46 rfl rfl (fun h => by exact absurd h (nI_pos (by omega))) (fun h10 => ?_)
    refine R1 (g' := (14, _, _, _, _, _)) rfl rfl ?_
    refine R_getf rfl rfl (Nat.le_of_ble_eq_true rfl) rfl rfl ?_
    refine R1 (g' := (18, _, _, _, _, _)) rfl rfl ?_
    refine R1 (g' := (19, _, _, _, _, _)) rfl rfl ?_
    refine R_getf rfl rfl (Nat.le_of_ble_eq_true rfl) rfl rfl ?_
    refine R1 (g' := (23, _, _, _, _, _)) rfl rfl ?_
    refine R_call2 (Or.inr (Or.inl ⟨rfl, rfl⟩)) rfl rfl ⟨Nat.le_of_ble_eq_true rfl, Nat.le_of_ble_eq_true rfl⟩ (Nat.le_of_ble_eq_true rfl) ⟨rfl, rfl⟩ (⟨⟨_, _, _, rfl, (Nat.le_of_ble_eq_true rfl), rfl⟩, e_Row_get xrw_130 (by decide) hcl⟩) ?_
    refine R1 (g' := (27, _, .int (nI 1) :: _, _, _, _)) rfl rfl ?_
    refine R1 (g' := (28, _, _, _, _, _)) rfl rfl ?_
    rw [setP_ne _ _ (by decide), hs.2.2.1 _ hcl, pk_sub hm1, ← e2]
    refine R_call3 (Or.inr (Or.inl ⟨rfl, rfl⟩)) rfl rfl ⟨Nat.le_of_ble_eq_true rfl, Nat.le_of_ble_eq_true rfl⟩ (Nat.le_of_ble_eq_true rfl) ⟨rfl, rfl⟩ (⟨⟨_, _, _, rfl, (Nat.le_of_ble_eq_true rfl), rfl⟩, e_Row_set xrw_124 (by decide) (show k < 60 by omega)⟩) ?_
    rw [setP_at, setP_setP]
    refine R1 (g' := (32, _, _, _, _, _)) rfl rfl ?_
    refine R_getf rfl rfl (Nat.le_of_ble_eq_true rfl) rfl rfl ?_
    refine R1 (g' := (36, _, _, _, _, _)) rfl rfl ?_
    refine R_call2 (Or.inr (Or.inl ⟨rfl, rfl⟩)) rfl rfl ⟨Nat.le_of_ble_eq_true rfl, Nat.le_of_ble_eq_true rfl⟩ (Nat.le_of_ble_eq_true rfl) ⟨rfl, rfl⟩ (⟨⟨_, _, _, rfl, (Nat.le_of_ble_eq_true rfl), rfl⟩, e_Row_get xrw_128 (by decide) hcl⟩) ?_
    rw [setP_ne _ _ (by decide), hs.2.2.2 _ hbk.1, ← e3]
    refine R1 (g' := (40, _, _, _, _, _)) rfl rfl ?_
    refine R1 (g' := (43, _, _, _, _, _)) rfl rfl ?_
    refine R1 (g' := (9, _, _, _, _, _)) rfl rfl ?_
    refine R_lv [(3, .int (nI k - nI 1)), (2, .int (nI (bBk B c (B.2.2.2.2 c - k)))), (0, .ref 123), (1, .int (nI c))] rfl (List.forall_mem_cons.mpr ⟨by rw [Int32.sub_eq_add_neg]; rfl, List.forall_mem_cons.mpr ⟨rfl, List.forall_mem_cons.mpr ⟨rfl, List.forall_mem_cons.mpr ⟨rfl, fun _ h => absurd h List.not_mem_nil⟩⟩⟩⟩) ⟨rfl, rfl⟩ ?_
    refine ih _ (by omega) (fun j a b => ?_)
    by_cases e : j = k
    · subst e
      exact pk_us
    · exact (pk_un e).trans (hf j (by omega) b)
theorem e7_trace {s : xs} {B : bSt} {c0 v x y o c : Nat} (hs : cRel s B v x y o) (hb : bOK c0 B) (hc : B.2.2.1 c ≠ 0) (hn : s.1 123 0 = nI (B.2.2.2.2 c)) : ∃ f : Nat → Int32, (∀ j, j < B.2.2.2.2 c → f j = nI (bWy B c j)) ∧ Ev_X7_traceBack [.ref 123, .int (nI c)] (wd s) (.inl none) (wd (setP s 125 f)) := by
  have hr := tr_loop hs hb hc (B.2.2.2.2 c) (s.1 125) (Nat.le_refl _) (fun j a b => absurd a (by omega))
  rw [setP_self, Nat.sub_self] at hr
  have hr1 : xRun M_X7_traceBack (fun o1 w1 => o1 = .inl none ∧ ∃ f : Nat → Int32, w1 = wd (setP s 125 f) ∧ ∀ j, j < B.2.2.2.2 c → f j = nI (bWy B c j)) (0, xarg 0 [.ref 123, .int (nI c)], [], wd s, 0, 0) := by
    refine R1 (g' := (1, _, _, _, _, _)) rfl rfl ?_
    refine R1 (g' := (2, _, _, _, _, _)) rfl rfl ?_
    refine R1 (g' := (3, _, _, _, _, _)) rfl rfl ?_
    refine R_getf rfl rfl (Nat.le_of_ble_eq_true rfl) rfl rfl ?_
    rw [hn]
    refine R1 (g' := (7, _, .int (nI 1) :: _, _, _, _)) rfl rfl ?_
    refine R1 (g' := (8, _, _, _, _, _)) rfl rfl ?_
    refine R1 (g' := (9, _, _, _, _, _)) rfl rfl ?_
    exact R_lv [(3, .int (nI (B.2.2.2.2 c) - nI 1)), (2, .int (nI (bBk B c 0))), (0, .ref 123), (1, .int (nI c))] rfl (List.forall_mem_cons.mpr ⟨rfl, List.forall_mem_cons.mpr ⟨rfl, List.forall_mem_cons.mpr ⟨rfl, List.forall_mem_cons.mpr ⟨rfl, fun _ h => absurd h List.not_mem_nil⟩⟩⟩⟩) ⟨rfl, rfl⟩ hr
  obtain ⟨o1, w1, ⟨rfl, f, rfl, hf⟩, hr2⟩ := xRun_ex hr1
  exact ⟨f, hf, Nat.le_of_ble_eq_true rfl, Nat.le_refl _, rfl, hr2⟩
theorem e7_traceN {s : xs} (hn : s.1 123 0 = -1) : Ev_X7_traceBack [.ref 123, .int (-1)] (wd s) (.inl none) (wd s) := by
  refine ⟨Nat.le_of_ble_eq_true rfl, Nat.le_refl _, rfl, ?_⟩
  refine R1 (g' := (1, _, _, _, _, _)) rfl rfl ?_
  refine R1 (g' := (2, _, _, _, _, _)) rfl rfl ?_
  refine R1 (g' := (3, _, _, _, _, _)) rfl rfl ?_
  refine R_getf rfl rfl (Nat.le_of_ble_eq_true rfl) rfl rfl ?_
  rw [hn]
  refine R1 (g' := (7, _, .int (nI 1) :: _, _, _, _)) rfl rfl ?_
  refine R1 (g' := (8, _, _, _, _, _)) rfl rfl ?_
  refine R1 (g' := (9, _, _, _, _, _)) rfl rfl ?_
  refine R1 (g' := (10, _, _, _, _, _)) rfl rfl ?_
  refine R_lt 46 rfl rfl (fun h10 => ?_) (fun h => by exact absurd (by decide) h)
  refine R_vret rfl ?_
  exact ⟨rfl, rfl⟩
