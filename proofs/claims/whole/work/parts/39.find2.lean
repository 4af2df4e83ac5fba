def sBeg (s : xs) (a b : Nat) : xs :=
  let s1 := setP s 131 (pFill (s.1 131) 0 9216)
  let s2 := put s1 123 6 (nI 0)
  let s3 := setP s2 132 (secF (s2.1 132) (nI a) (nI b))
  sReach s3 (cl a b) (cl a b) (nI 9) 0
theorem e7_begin {s : xs} {a b : Nat} (ha : nRg a = true) (hb : nRg b = true) : Ev_X7_begin [.ref 123, .int (nI a), .int (nI b)] (wd s) (.inl (some (.int (nI (cl a b))))) (wd (sBeg s a b)) := by
  have hc := cl_lt ha hb
  refine ⟨Nat.le_of_ble_eq_true rfl, Nat.le_refl _, Or.inl rfl, ?_⟩
  refine R1 (g' := (1, _, _, _, _, _)) rfl rfl ?_
  refine R_getf rfl rfl (Nat.le_of_ble_eq_true rfl) rfl rfl ?_
  refine R_call1 (Or.inr (Or.inl ⟨rfl, rfl⟩)) rfl rfl ⟨Nat.le_of_ble_eq_true rfl, Nat.le_of_ble_eq_true rfl⟩ (Nat.le_of_ble_eq_true rfl) ⟨rfl, rfl⟩ (⟨⟨_, _, _, rfl, (Nat.le_of_ble_eq_true rfl), rfl⟩, e_Row_clear xrw_130 (by decide)⟩) ?_
  refine R1 (g' := (8, _, _, _, _, _)) rfl rfl ?_
  refine R1 (g' := (9, _, .int (nI 0) :: _, _, _, _)) rfl rfl ?_
  refine R_put rfl rfl (Nat.le_of_ble_eq_true rfl) rfl (Nat.le_of_ble_eq_true rfl) ⟨_, rfl, Or.inl rfl, _, rfl, rfl⟩ rfl ?_
  refine R1 (g' := (13, _, _, _, _, _)) rfl rfl ?_
  refine R_getf rfl rfl (Nat.le_of_ble_eq_true rfl) rfl rfl ?_
  refine R1 (g' := (17, _, _, _, _, _)) rfl rfl ?_
  refine R1 (g' := (18, _, _, _, _, _)) rfl rfl ?_
  refine R_call3 (Or.inr (Or.inl ⟨rfl, rfl⟩)) rfl rfl ⟨Nat.le_of_ble_eq_true rfl, Nat.le_of_ble_eq_true rfl⟩ (Nat.le_of_ble_eq_true rfl) ⟨rfl, rfl⟩ (⟨⟨_, _, _, rfl, (Nat.le_of_ble_eq_true rfl), rfl⟩, e_become xsec_132⟩) ?_
  refine R1 (g' := (22, _, _, _, _, _)) rfl rfl ?_
  refine R_call1 (Or.inr (Or.inl ⟨rfl, rfl⟩)) rfl rfl ⟨Nat.le_of_ble_eq_true rfl, Nat.le_of_ble_eq_true rfl⟩ (Nat.le_of_ble_eq_true rfl) ⟨rfl, rfl⟩ (⟨⟨_, _, _, rfl, (Nat.le_of_ble_eq_true rfl), rfl⟩, e7_cellOf (a := a) (b := b) (by rw [setP_at]; rfl) (by rw [setP_at]; rfl) ha hb⟩) ?_
  refine R1 (g' := (26, _, _, _, _, _)) rfl rfl ?_
  refine R1 (g' := (27, _, _, _, _, _)) rfl rfl ?_
  refine R1 (g' := (28, _, _, _, _, _)) rfl rfl ?_
  refine R1 (g' := (29, _, _, _, _, _)) rfl rfl ?_
  refine R1 (g' := (31, _, .int (nI 9) :: _, _, _, _)) rfl rfl ?_
  refine R_call4 (Or.inr (Or.inl ⟨rfl, rfl⟩)) rfl rfl ⟨Nat.le_of_ble_eq_true rfl, Nat.le_of_ble_eq_true rfl⟩ (Nat.le_of_ble_eq_true rfl) ⟨rfl, rfl⟩ (⟨⟨_, _, _, rfl, (Nat.le_of_ble_eq_true rfl), rfl⟩, e7_reach (n := 0) hc (by decide) (by rw [setP_ne _ _ (by decide), setP_at]; exact pk_us)⟩) ?_
  refine R1 (g' := (35, _, _, _, _, _)) rfl rfl ?_
  refine R_iret rfl ?_
  exact ⟨rfl, rfl⟩
theorem sBeg_rel {s : xs} {a b v x y o : Nat} (ha : nRg a = true) (hb : nRg b = true) (h7 : s.1 123 7 = nI v) (h8 : s.1 123 8 = nI x) (h9 : s.1 123 9 = nI y) (h10 : s.1 123 10 = nI o) : cRel (sBeg s a b) (b0 (cl a b)) v x y o ∧ (sBeg s a b).1 132 0 = nI a ∧ (sBeg s a b).1 132 1 = nI b ∧ sOut 123 9 s (sBeg s a b) := by
  have hc := cl_lt ha hb
  simp only [sBeg]
  refine ⟨?_, ?_, ?_, sOut_tr (sOut_set (sOut_put (sOut_set sOut_rf (by decide) (by decide)) (by decide) (by decide)) (by decide) (by decide)) sReach_out⟩
  · unfold cRel
    rw [sReach_123, sReach_127, sReach_131, sReach_129]
    have e : ∀ i, i ≠ 6 → (setP (put (setP s 131 (pFill (s.1 131) 0 9216)) 123 6 (nI 0)) 132 (secF ((put (setP s 131 (pFill (s.1 131) 0 9216)) 123 6 (nI 0)).1 132) (nI a) (nI b))).1 123 i = s.1 123 i := by
      intro i hi
      rw [setP_ne _ _ (by decide), put_val, if_pos rfl, if_neg hi, setP_ne _ _ (by decide)]
    refine ⟨⟨pk_us, (pk_un (by decide)).trans ((e 7 (by decide)).trans h7), (pk_un (by decide)).trans ((e 8 (by decide)).trans h8), (pk_un (by decide)).trans ((e 9 (by decide)).trans h9), (pk_un (by decide)).trans ((e 10 (by decide)).trans h10)⟩, fun j hj => ?_, fun c hc2 => ?_, fun c hc2 => ?_⟩
    · have : j = 0 := by
        have : j < 1 := hj
        omega
      subst this
      exact pk_us
    · show upd _ (cl a b) (nI 9) c = nI (va_up (fun _ => 0) (cl a b) 9 c)
      by_cases e2 : c = cl a b
      · subst e2
        rw [pk_us, va_up_self]
      · rw [pk_un e2, va_up_ne _ _ e2, setP_ne _ _ (by decide), put_ne _ _ (by decide), setP_at]
        exact if_pos hc2
    · have e2 : c = cl a b := by
        by_cases e2 : c = cl a b
        · exact e2
        · exact absurd (show va_up (fun _ => 0) (cl a b) 9 c = 0 from va_up_ne _ _ e2) hc2
      subst e2
      exact pk_us
  · rw [sReach_132, setP_at]
    rfl
  · rw [sReach_132, setP_at]
    rfl
theorem bR_stop {v c0 lo hi : Nat} {fit : Nat → Bool} (h : LInv v c0 fit lo hi 60 (3 * lo)) (hh : (bR v c0 (3 * lo)).1 = hi) : ∀ d, bR v c0 (3 * lo + d) = bR v c0 (3 * lo)
  | 0 => rfl
  | d + 1 => by
    rw [show 3 * lo + (d + 1) = 3 * lo + d + 1 from rfl, bR, bR_stop h hh d, bS]
    have e : bP (bR v c0 (3 * lo)) ((3 * lo + d) / 3) ((3 * lo + d) % 3) v = false := by
      unfold bP
      by_cases h1 : (3 * lo + d) / 3 < (bR v c0 (3 * lo)).1
      · rw [h.2.1 ((3 * lo + d) / 3) (by omega) (by omega), show decide (60 < 60) = false from rfl, Bool.false_and, Bool.and_false]
      · rw [decide_eq_false h1, Bool.false_and]
    rw [e, cond_false]
def fPo (s : xs) (v c0 x y o : Nat) (o1 : xO) (w1 : xw) : Prop := ∃ s', w1 = wd s' ∧ sOut 123 9 s s' ∧ ((∃ n p, wRes v c0 x y o n p ∧ o1 = .inl (some (.int (nI n))) ∧ s'.1 123 0 = nI n ∧ ∀ k, k < n → s'.1 125 k = nI (p k)) ∨ (wNo v c0 x y o ∧ o1 = .inl (some (.int (-1))) ∧ s'.1 123 0 = -1))
theorem fPo_tr {s s' : xs} {v c0 x y o : Nat} {o1 : xO} {w1 : xw} (h : sOut 123 9 s s') (k : fPo s' v c0 x y o o1 w1) : fPo s v c0 x y o o1 w1 := by
  obtain ⟨s2, e, h2, k⟩ := k
  exact ⟨s2, e, sOut_tr h h2, k⟩
theorem cRel_0 {s : xs} {B : bSt} {v x y o : Nat} {z : Int32} (h : cRel s B v x y o) : cRel (put s 123 0 z) B v x y o := by
  obtain ⟨⟨a1, a2, a3, a4, a5⟩, h1, h2, h3⟩ := h
  unfold cRel
  rw [put_ne (q := 127) s z (by decide), put_ne (q := 131) s z (by decide), put_ne (q := 129) s z (by decide)]
  refine ⟨⟨?_, ?_, ?_, ?_, ?_⟩, h1, h2, h3⟩ <;> (rw [put_val, if_pos rfl, if_neg (by decide)]; assumption)
theorem find_S2 {s : xs} {v c0 x y o t j n : Nat} {z2 z3 z4 z5 z6 z8 : Int32} (hc0 : c0 < 9216) (hs : cRel s (bR v c0 t) v x y o) (hf : bFnd v c0 (wFit x y o) t (some j)) (hn : (bR v c0 t).2.2.2.2 ((bR v c0 t).2.1 j) = n) : xRun M_X7_find (fPo s v c0 x y o) (111, [(9, .int (nI n)), (8, .int z8), (7, .int (nI ((bR v c0 t).2.1 j))), (6, .int z6), (5, .int z5), (4, .int z4), (3, .int z3), (2, .int z2), (1, .ref 2), (0, .ref 123)], [], wd s, 0, 0) := by
  have hb := bR_ok (v := v) hc0 t
  obtain ⟨m1, m2⟩ := hb.1 j hf.1
  have hne : ¬ nI ((bR v c0 t).2.1 j) = -1 := fun e => by
    have h1 : (nI ((bR v c0 t).2.1 j)).toInt = (((bR v c0 t).2.1 j : Nat) : Int) := nI_toInt (by omega)
    rw [e] at h1
    have h2 : (-1 : Int32).toInt = -1 := by decide
    omega
  subst hn
  obtain ⟨f, hf1, hf2⟩ := e7_trace (s := put s 123 0 (nI ((bR v c0 t).2.2.2.2 ((bR v c0 t).2.1 j)))) (c := (bR v c0 t).2.1 j) (cRel_0 hs) hb m2 (by rw [put_val, if_pos rfl, if_pos rfl])
  refine R1 (g' := (112, _, _, _, _, _)) rfl rfl ?_
  refine R1 (g' := (114, _, _, _, _, _)) rfl rfl ?_
  refine R1 (g' := (115, _, .int (-1) :: _, _, _, _)) rfl rfl ?_
  refine R_cne 122 rfl rfl (fun h115 => ?_) (fun h => by exact absurd h hne)
  refine R1 (g' := (124, _, _, _, _, _)) rfl rfl ?_
  refine R_put rfl rfl (Nat.le_of_ble_eq_true rfl) rfl (Nat.le_of_ble_eq_true rfl) ⟨_, rfl, Or.inl rfl, _, rfl, rfl⟩ rfl ?_
  change xRun _ _ (127, _, _, wd (put s 123 0 (nI ((bR v c0 t).2.2.2.2 ((bR v c0 t).2.1 j)))), _, _)
  refine R1 (g' := (128, _, _, _, _, _)) rfl rfl ?_
  refine R1 (g' := (130, _, _, _, _, _)) rfl rfl ?_
  refine R_call2 (Or.inr (Or.inl ⟨rfl, rfl⟩)) rfl rfl ⟨Nat.le_of_ble_eq_true rfl, Nat.le_of_ble_eq_true rfl⟩ (Nat.le_of_ble_eq_true rfl) ⟨rfl, rfl⟩ (⟨⟨_, _, _, rfl, (Nat.le_of_ble_eq_true rfl), rfl⟩, hf2⟩) ?_
  refine R1 (g' := (134, _, _, _, _, _)) rfl rfl ?_
  refine R_getf rfl rfl (Nat.le_of_ble_eq_true rfl) rfl rfl ?_
  refine R_iret rfl ?_
  refine ⟨_, rfl, sOut_set (sOut_put sOut_rf (by decide) (by decide)) (by decide) (by decide), Or.inl ⟨(bR v c0 t).2.2.2.2 ((bR v c0 t).2.1 j), bWy (bR v c0 t) ((bR v c0 t).2.1 j), ⟨t, j, hf, rfl, fun _ _ => rfl⟩, ?_, ?_, fun k hk => ?_⟩⟩
  · exact o_i (by rw [setP_ne _ _ (by decide), put_val, if_pos rfl, if_pos rfl])
  · rw [setP_ne _ _ (by decide), put_val, if_pos rfl, if_pos rfl]
  · rw [setP_at]
    exact hf1 k hk
theorem find_N2 {s : xs} {v c0 x y o : Nat} {z2 z3 z4 z5 z6 z8 z9 : Int32} (hf : wNo v c0 x y o) : xRun M_X7_find (fPo s v c0 x y o) (111, [(9, .int z9), (8, .int z8), (7, .int (-1)), (6, .int z6), (5, .int z5), (4, .int z4), (3, .int z3), (2, .int z2), (1, .ref 2), (0, .ref 123)], [], wd s, 0, 0) := by
  refine R1 (g' := (112, _, _, _, _, _)) rfl rfl ?_
  refine R1 (g' := (114, _, _, _, _, _)) rfl rfl ?_
  refine R1 (g' := (115, _, .int (-1) :: _, _, _, _)) rfl rfl ?_
  refine R_cne 122 rfl rfl (fun h => by exact absurd rfl h) (fun h115 => ?_)
  refine R1 (g' := (119, _, .int (-1) :: _, _, _, _)) rfl rfl ?_
  refine R1 (g' := (124, _, _, _, _, _)) rfl rfl ?_
  refine R_put rfl rfl (Nat.le_of_ble_eq_true rfl) rfl (Nat.le_of_ble_eq_true rfl) ⟨_, rfl, Or.inl rfl, _, rfl, rfl⟩ rfl ?_
  change xRun _ _ (127, _, _, wd (put s 123 0 (-1)), _, _)
  refine R1 (g' := (128, _, _, _, _, _)) rfl rfl ?_
  refine R1 (g' := (130, _, _, _, _, _)) rfl rfl ?_
  refine R_call2 (Or.inr (Or.inl ⟨rfl, rfl⟩)) rfl rfl ⟨Nat.le_of_ble_eq_true rfl, Nat.le_of_ble_eq_true rfl⟩ (Nat.le_of_ble_eq_true rfl) ⟨rfl, rfl⟩ (⟨⟨_, _, _, rfl, (Nat.le_of_ble_eq_true rfl), rfl⟩, e7_traceN (by rw [put_val, if_pos rfl, if_pos rfl])⟩) ?_
  refine R1 (g' := (134, _, _, _, _, _)) rfl rfl ?_
  refine R_getf rfl rfl (Nat.le_of_ble_eq_true rfl) rfl rfl ?_
  refine R_iret rfl ?_
  refine ⟨_, rfl, sOut_put sOut_rf (by decide) (by decide), Or.inr ⟨hf, ?_, ?_⟩⟩
  · exact o_i (by rw [put_val, if_pos rfl, if_pos rfl])
  · rw [put_val, if_pos rfl, if_pos rfl]
theorem find_L2 {v c0 x y o : Nat} {z2 z3 z4 z5 z6 : Int32} (hc0 : c0 < 9216) (hv : v < 2 ^ 31) (hx : x < 2 ^ 20) (hy : y < 2 ^ 20) (ho : o < 2 ^ 20) : ∀ (d l lo hi : Nat) (s : xs), l + d = 60 → lo ≤ hi → cRel s (bR v c0 (3 * lo)) v x y o → LInv v c0 (wFit x y o) lo hi l (3 * lo) → (bR v c0 (3 * lo)).1 = hi → xRun M_X7_find (fPo s v c0 x y o) (72, [(9, .int (nI l)), (8, .int (nI lo)), (7, .int (-1)), (6, .int z6), (5, .int z5), (4, .int z4), (3, .int z3), (2, .int z2), (1, .ref 2), (0, .ref 123)], [], wd s, 0, 0) := by
  intro d
  induction d with
  | zero =>
    intro l lo hi s hd hlh hs hL hh
    have hl : l = 60 := by omega
    subst hl
    have hno : wNo v c0 x y o := ⟨3 * lo, fun t2 ht2 => by
      obtain ⟨d, rfl⟩ := Nat.exists_eq_add_of_le ht2
      exact bR_stop hL hh d, hL.2.2.2⟩
    refine R1 (g' := (74, _, _, _, _, _)) rfl rfl ?_
    refine R1 (g' := (75, _, .int (-1) :: _, _, _, _)) rfl rfl ?_
    refine R_cne 111 rfl rfl (fun h => by exact absurd rfl h) (fun h75 => ?_)
    refine R1 (g' := (80, _, _, _, _, _)) rfl rfl ?_
    refine R1 (g' := (82, _, .int (nI 60) :: _, _, _, _)) rfl rfl ?_
    refine R_cgeN 111 (60) (60) rfl rfl (rfl) (rfl) (by omega) (by omega) (fun h82 => ?_) (fun h => by omega)
    exact find_N2 hno
  | succ d ih =>
    intro l lo hi s hd hlh hs hL hh
    obtain ⟨o1, w1, ⟨s', rfl, hso, hk⟩, hev⟩ := e7_reachFrom (l := l) hc0 hv hx hy ho (by omega) hlh hs hL
    refine xRun_imp (Po := fPo s' v c0 x y o) ?_ (fun _ _ k => fPo_tr hso k)
    rcases hk with ⟨t, j, rfl, hs', hf, hr⟩ | ⟨rfl, hs', hL'⟩
    · refine R1 (g' := (74, _, _, _, _, _)) rfl rfl ?_
      refine R1 (g' := (75, _, .int (-1) :: _, _, _, _)) rfl rfl ?_
      refine R_cne 111 rfl rfl (fun h => by exact absurd rfl h) (fun h75 => ?_)
      refine R1 (g' := (80, _, _, _, _, _)) rfl rfl ?_
      refine R1 (g' := (82, _, .int (nI 60) :: _, _, _, _)) rfl rfl ?_
      refine R_cgeN 111 (l) (60) rfl rfl (rfl) (rfl) (by omega) (by omega) (fun h => by omega) (fun h82 => ?_)
      refine R1 (g' := (86, _, _, _, _, _)) rfl rfl ?_
      refine R_getf rfl rfl (Nat.le_of_ble_eq_true rfl) rfl rfl ?_
      refine R1 (g' := (91, _, _, _, _, _)) rfl rfl ?_
      refine R1 (g' := (92, _, _, _, _, _)) rfl rfl ?_
      refine R1 (g' := (94, _, _, _, _, _)) rfl rfl ?_
      refine R1 (g' := (96, _, _, _, _, _)) rfl rfl ?_
      rw [hs.1.1, hh]
      refine R_call3 (Or.inr (Or.inl ⟨rfl, rfl⟩)) rfl rfl ⟨Nat.le_of_ble_eq_true rfl, Nat.le_of_ble_eq_true rfl⟩ (Nat.le_of_ble_eq_true rfl) ⟨rfl, rfl⟩ (⟨⟨_, _, _, rfl, (Nat.le_of_ble_eq_true rfl), rfl⟩, hev⟩) ?_
      refine R1 (g' := (101, _, _, _, _, _)) rfl rfl ?_
      refine R1 (g' := (103, _, _, _, _, _)) rfl rfl ?_
      refine R1 (g' := (105, _, _, _, _, _)) rfl rfl ?_
      refine R1 (g' := (108, _, _, _, _, _)) rfl rfl ?_
      refine R1 (g' := (72, _, _, _, _, _)) rfl rfl ?_
      have m1 := ((bR_ok (v := v) hc0 t).1 j hf.1).1
      have hne : ¬ nI ((bR v c0 t).2.1 j) = -1 := fun e => by
        have h1 : (nI ((bR v c0 t).2.1 j)).toInt = (((bR v c0 t).2.1 j : Nat) : Int) := nI_toInt (by omega)
        rw [e] at h1
        have h2 : (-1 : Int32).toInt = -1 := by decide
        omega
      refine R_lv [(9, .int (nI (l + 1))), (8, .int (nI hi)), (7, .int (nI ((bR v c0 t).2.1 j))), (6, .int z6), (5, .int z5), (4, .int z4), (3, .int z3), (2, .int z2), (1, .ref 2), (0, .ref 123)] rfl (List.forall_mem_cons.mpr ⟨by rw [nI_succ l]; rfl, List.forall_mem_cons.mpr ⟨rfl, List.forall_mem_cons.mpr ⟨rfl, List.forall_mem_cons.mpr ⟨rfl, List.forall_mem_cons.mpr ⟨rfl, List.forall_mem_cons.mpr ⟨rfl, List.forall_mem_cons.mpr ⟨rfl, List.forall_mem_cons.mpr ⟨rfl, List.forall_mem_cons.mpr ⟨rfl, List.forall_mem_cons.mpr ⟨rfl, fun _ h => absurd h List.not_mem_nil⟩⟩⟩⟩⟩⟩⟩⟩⟩⟩) ⟨rfl, rfl⟩ ?_
      refine R1 (g' := (74, _, _, _, _, _)) rfl rfl ?_
      refine R1 (g' := (75, _, .int (-1) :: _, _, _, _)) rfl rfl ?_
      refine R_cne 111 rfl rfl (fun h75 => ?_) (fun h => by exact absurd h hne)
      exact find_S2 hc0 hs' hf hr
    · refine R1 (g' := (74, _, _, _, _, _)) rfl rfl ?_
      refine R1 (g' := (75, _, .int (-1) :: _, _, _, _)) rfl rfl ?_
      refine R_cne 111 rfl rfl (fun h => by exact absurd rfl h) (fun h75 => ?_)
      refine R1 (g' := (80, _, _, _, _, _)) rfl rfl ?_
      refine R1 (g' := (82, _, .int (nI 60) :: _, _, _, _)) rfl rfl ?_
      refine R_cgeN 111 (l) (60) rfl rfl (rfl) (rfl) (by omega) (by omega) (fun h => by omega) (fun h82 => ?_)
      refine R1 (g' := (86, _, _, _, _, _)) rfl rfl ?_
      refine R_getf rfl rfl (Nat.le_of_ble_eq_true rfl) rfl rfl ?_
      refine R1 (g' := (91, _, _, _, _, _)) rfl rfl ?_
      refine R1 (g' := (92, _, _, _, _, _)) rfl rfl ?_
      refine R1 (g' := (94, _, _, _, _, _)) rfl rfl ?_
      refine R1 (g' := (96, _, _, _, _, _)) rfl rfl ?_
      rw [hs.1.1, hh]
      refine R_call3 (Or.inr (Or.inl ⟨rfl, rfl⟩)) rfl rfl ⟨Nat.le_of_ble_eq_true rfl, Nat.le_of_ble_eq_true rfl⟩ (Nat.le_of_ble_eq_true rfl) ⟨rfl, rfl⟩ (⟨⟨_, _, _, rfl, (Nat.le_of_ble_eq_true rfl), rfl⟩, hev⟩) ?_
      refine R1 (g' := (101, _, _, _, _, _)) rfl rfl ?_
      refine R1 (g' := (103, _, _, _, _, _)) rfl rfl ?_
      refine R1 (g' := (105, _, _, _, _, _)) rfl rfl ?_
      refine R1 (g' := (108, _, _, _, _, _)) rfl rfl ?_
      refine R1 (g' := (72, _, _, _, _, _)) rfl rfl ?_
      refine R_lv [(9, .int (nI (l + 1))), (8, .int (nI hi)), (7, .int (-1)), (6, .int z6), (5, .int z5), (4, .int z4), (3, .int z3), (2, .int z2), (1, .ref 2), (0, .ref 123)] rfl (List.forall_mem_cons.mpr ⟨by rw [nI_succ l]; rfl, List.forall_mem_cons.mpr ⟨rfl, List.forall_mem_cons.mpr ⟨rfl, List.forall_mem_cons.mpr ⟨rfl, List.forall_mem_cons.mpr ⟨rfl, List.forall_mem_cons.mpr ⟨rfl, List.forall_mem_cons.mpr ⟨rfl, List.forall_mem_cons.mpr ⟨rfl, List.forall_mem_cons.mpr ⟨rfl, List.forall_mem_cons.mpr ⟨rfl, fun _ h => absurd h List.not_mem_nil⟩⟩⟩⟩⟩⟩⟩⟩⟩⟩) ⟨rfl, rfl⟩ ?_
      refine ih (l + 1) hi (bR v c0 (3 * hi)).1 s' (by omega) hL'.1 hs' ⟨Nat.le_refl _, fun j a b => hL'.2.2.1 j a b, fun j a b => absurd b (by omega), hL'.2.2.2⟩ rfl
theorem e7_find2 {s : xs} {k a b v x y o : Nat} (hk8 : k < 8) (hW : s.1 4 k = nI a) (hH : s.1 6 k = nI b) (hV : s.1 8 k = nI v) (ha : nRg a = true) (hb : nRg b = true) (hv : v < 2 ^ 31) (hx : x < 2 ^ 20) (hy : y < 2 ^ 20) (ho : o < 2 ^ 20) : ∃ o1 w1, fPo s v (cl a b) x y o o1 w1 ∧ Ev_X7_find [.ref 123, .ref 2, .int (nI k), .int (nI x), .int (nI y), .int (nI o)] (wd s) o1 w1 := by
  have hc0 := cl_lt ha hb
  have hp := xbar_2
  obtain ⟨h152, hcell, hrW, hrH, hrV, hrB, hsc⟩ := id hp
  refine xEv_ex (Nat.le_of_ble_eq_true rfl) (fun o1 w1 k => ?_) ?_
  · obtain ⟨s2, rfl, _, ⟨n, p, _, rfl, _⟩ | ⟨_, rfl, _⟩⟩ := k <;> exact ⟨Nat.le_refl _, Or.inl rfl⟩
  refine R1 (g' := (1, _, _, _, _, _)) rfl rfl ?_
  refine R1 (g' := (2, _, _, _, _, _)) rfl rfl ?_
  refine R_getf rfl rfl (Nat.le_of_ble_eq_true rfl) rfl rfl ?_
  refine R1 (g' := (6, _, _, _, _, _)) rfl rfl ?_
  refine R_call2 (Or.inr (Or.inl ⟨rfl, rfl⟩)) rfl rfl ⟨Nat.le_of_ble_eq_true rfl, Nat.le_of_ble_eq_true rfl⟩ (Nat.le_of_ble_eq_true rfl) ⟨rfl, rfl⟩ (⟨⟨_, _, _, rfl, (Nat.le_of_ble_eq_true rfl), rfl⟩, e_Row_get hrV (by decide) hk8⟩) ?_
  rw [hV]
  refine R_put rfl rfl (Nat.le_of_ble_eq_true rfl) rfl (Nat.le_of_ble_eq_true rfl) ⟨_, rfl, Or.inl rfl, _, rfl, rfl⟩ rfl ?_
  refine R1 (g' := (13, _, _, _, _, _)) rfl rfl ?_
  refine R1 (g' := (14, _, _, _, _, _)) rfl rfl ?_
  refine R_put rfl rfl (Nat.le_of_ble_eq_true rfl) rfl (Nat.le_of_ble_eq_true rfl) ⟨_, rfl, Or.inl rfl, _, rfl, rfl⟩ rfl ?_
  refine R1 (g' := (18, _, _, _, _, _)) rfl rfl ?_
  refine R1 (g' := (20, _, _, _, _, _)) rfl rfl ?_
  refine R_put rfl rfl (Nat.le_of_ble_eq_true rfl) rfl (Nat.le_of_ble_eq_true rfl) ⟨_, rfl, Or.inl rfl, _, rfl, rfl⟩ rfl ?_
  refine R1 (g' := (24, _, _, _, _, _)) rfl rfl ?_
  refine R1 (g' := (26, _, _, _, _, _)) rfl rfl ?_
  refine R_put rfl rfl (Nat.le_of_ble_eq_true rfl) rfl (Nat.le_of_ble_eq_true rfl) ⟨_, rfl, Or.inl rfl, _, rfl, rfl⟩ rfl ?_
  change xRun _ _ (29, _, _, wd (put (put (put (put s 123 7 (nI v)) 123 8 (nI x)) 123 9 (nI y)) 123 10 (nI o)), _, _)
  refine R1 (g' := (30, _, _, _, _, _)) rfl rfl ?_
  refine R1 (g' := (31, _, _, _, _, _)) rfl rfl ?_
  refine R_getf rfl rfl (Nat.le_of_ble_eq_true rfl) rfl rfl ?_
  refine R1 (g' := (35, _, _, _, _, _)) rfl rfl ?_
  refine R_call2 (Or.inr (Or.inl ⟨rfl, rfl⟩)) rfl rfl ⟨Nat.le_of_ble_eq_true rfl, Nat.le_of_ble_eq_true rfl⟩ (Nat.le_of_ble_eq_true rfl) ⟨rfl, rfl⟩ (⟨⟨_, _, _, rfl, (Nat.le_of_ble_eq_true rfl), rfl⟩, e_Row_get hrW (by decide) hk8⟩) ?_
  refine R1 (g' := (39, _, _, _, _, _)) rfl rfl ?_
  refine R_getf rfl rfl (Nat.le_of_ble_eq_true rfl) rfl rfl ?_
  refine R1 (g' := (43, _, _, _, _, _)) rfl rfl ?_
  refine R_call2 (Or.inr (Or.inl ⟨rfl, rfl⟩)) rfl rfl ⟨Nat.le_of_ble_eq_true rfl, Nat.le_of_ble_eq_true rfl⟩ (Nat.le_of_ble_eq_true rfl) ⟨rfl, rfl⟩ (⟨⟨_, _, _, rfl, (Nat.le_of_ble_eq_true rfl), rfl⟩, e_Row_get hrH (by decide) hk8⟩) ?_
  rw [show (put (put (put (put s 123 7 (nI v)) 123 8 (nI x)) 123 9 (nI y)) 123 10 (nI o)).1 4 k = nI a from by simp [put_val]; exact hW, show (put (put (put (put s 123 7 (nI v)) 123 8 (nI x)) 123 9 (nI y)) 123 10 (nI o)).1 6 k = nI b from by simp [put_val]; exact hH]
  refine R_call3 (Or.inr (Or.inl ⟨rfl, rfl⟩)) rfl rfl ⟨Nat.le_of_ble_eq_true rfl, Nat.le_of_ble_eq_true rfl⟩ (Nat.le_of_ble_eq_true rfl) ⟨rfl, rfl⟩ (⟨⟨_, _, _, rfl, (Nat.le_of_ble_eq_true rfl), rfl⟩, e7_begin ha hb⟩) ?_
  have hso : sOut 123 9 s (put (put (put (put s 123 7 (nI v)) 123 8 (nI x)) 123 9 (nI y)) 123 10 (nI o)) := sOut_put (sOut_put (sOut_put (sOut_put sOut_rf (by decide) (by decide)) (by decide) (by decide)) (by decide) (by decide)) (by decide) (by decide)
  obtain ⟨q1, q2, q3, q4⟩ := sBeg_rel (s := (put (put (put (put s 123 7 (nI v)) 123 8 (nI x)) 123 9 (nI y)) 123 10 (nI o))) (v := v) (x := x) (y := y) (o := o) ha hb (by simp [put_val]) (by simp [put_val]) (by simp [put_val]) (by simp [put_val])
  refine xRun_imp (Po := fPo (sBeg (put (put (put (put s 123 7 (nI v)) 123 8 (nI x)) 123 9 (nI y)) 123 10 (nI o)) a b) v (cl a b) x y o) ?_ (fun _ _ k => fPo_tr (sOut_tr hso q4) k)
  refine R1 (g' := (51, _, _, _, _, _)) rfl rfl ?_
  refine R1 (g' := (52, _, _, _, _, _)) rfl rfl ?_
  refine R_call1 (Or.inr (Or.inl ⟨rfl, rfl⟩)) rfl rfl ⟨Nat.le_of_ble_eq_true rfl, Nat.le_of_ble_eq_true rfl⟩ (Nat.le_of_ble_eq_true rfl) ⟨rfl, rfl⟩ (⟨⟨_, _, _, rfl, (Nat.le_of_ble_eq_true rfl), rfl⟩, e7_fits q2 q3 q1.1.2.2.1 q1.1.2.2.2.1 q1.1.2.2.2.2 ha hb hx hy ho⟩) ?_
  refine R_eq 63 rfl rfl (fun h55 => ?_) (fun h55 => ?_)
  · refine R1 (g' := (64, _, .int (-1) :: _, _, _, _)) rfl rfl ?_
    refine R1 (g' := (66, _, _, _, _, _)) rfl rfl ?_
    refine R1 (g' := (67, _, .int (nI 0) :: _, _, _, _)) rfl rfl ?_
    refine R1 (g' := (69, _, _, _, _, _)) rfl rfl ?_
    refine R1 (g' := (70, _, .int (nI 0) :: _, _, _, _)) rfl rfl ?_
    refine R1 (g' := (72, _, _, _, _, _)) rfl rfl ?_
    have hfit : wFit x y o (cl a b) = (nNear a x o && nNear b y o) := by unfold wFit; rw [(cw_cl ha hb).1, (cw_cl ha hb).2]
    first
      | (have e := bI_n h55
         have hne : ¬ nI (cl a b) = -1 := fun e => by
           have h1 : (nI (cl a b)).toInt = ((cl a b : Nat) : Int) := nI_toInt (by omega)
           rw [e] at h1
           have h2 : (-1 : Int32).toInt = -1 := by decide
           omega
         refine R_lv [(9, .int (nI 0)), (8, .int (nI 0)), (7, .int (nI (cl a b))), (6, .int (nI (cl a b))), (5, .int (nI o)), (4, .int (nI y)), (3, .int (nI x)), (2, .int (nI k)), (1, .ref 2), (0, .ref 123)] rfl (List.forall_mem_cons.mpr ⟨rfl, List.forall_mem_cons.mpr ⟨rfl, List.forall_mem_cons.mpr ⟨rfl, List.forall_mem_cons.mpr ⟨rfl, List.forall_mem_cons.mpr ⟨rfl, List.forall_mem_cons.mpr ⟨rfl, List.forall_mem_cons.mpr ⟨rfl, List.forall_mem_cons.mpr ⟨rfl, List.forall_mem_cons.mpr ⟨rfl, List.forall_mem_cons.mpr ⟨rfl, fun _ h => absurd h List.not_mem_nil⟩⟩⟩⟩⟩⟩⟩⟩⟩⟩) ⟨rfl, rfl⟩ ?_
         refine R1 (g' := (74, _, _, _, _, _)) rfl rfl ?_
         refine R1 (g' := (75, _, .int (-1) :: _, _, _, _)) rfl rfl ?_
         refine R_cne 111 rfl rfl (fun h75 => ?_) (fun h => by exact absurd h hne)
         exact find_S2 (t := 0) (j := 0) (n := 0) hc0 q1 ⟨Nat.one_pos, hfit.trans e, fun i hi => absurd hi (Nat.not_lt_zero _)⟩ rfl)
      | (have e := bI_e h55
         refine R_lv [(9, .int (nI 0)), (8, .int (nI 0)), (7, .int (-1)), (6, .int (nI (cl a b))), (5, .int (nI o)), (4, .int (nI y)), (3, .int (nI x)), (2, .int (nI k)), (1, .ref 2), (0, .ref 123)] rfl (List.forall_mem_cons.mpr ⟨rfl, List.forall_mem_cons.mpr ⟨rfl, List.forall_mem_cons.mpr ⟨rfl, List.forall_mem_cons.mpr ⟨rfl, List.forall_mem_cons.mpr ⟨rfl, List.forall_mem_cons.mpr ⟨rfl, List.forall_mem_cons.mpr ⟨rfl, List.forall_mem_cons.mpr ⟨rfl, List.forall_mem_cons.mpr ⟨rfl, List.forall_mem_cons.mpr ⟨rfl, fun _ h => absurd h List.not_mem_nil⟩⟩⟩⟩⟩⟩⟩⟩⟩⟩) ⟨rfl, rfl⟩ ?_
         exact find_L2 hc0 hv hx hy ho 60 0 0 1 _ rfl (Nat.zero_le _) q1 ⟨Nat.le_refl _, fun _ _ _ => rfl, fun j g1 g2 => absurd g2 (Nat.not_lt.mpr g1), fun _ _ => hfit.trans e⟩ rfl)
  · refine R1 (g' := (60, _, _, _, _, _)) rfl rfl ?_
    refine R1 (g' := (64, _, _, _, _, _)) rfl rfl ?_
    refine R1 (g' := (66, _, _, _, _, _)) rfl rfl ?_
    refine R1 (g' := (67, _, .int (nI 0) :: _, _, _, _)) rfl rfl ?_
    refine R1 (g' := (69, _, _, _, _, _)) rfl rfl ?_
    refine R1 (g' := (70, _, .int (nI 0) :: _, _, _, _)) rfl rfl ?_
    refine R1 (g' := (72, _, _, _, _, _)) rfl rfl ?_
    have hfit : wFit x y o (cl a b) = (nNear a x o && nNear b y o) := by unfold wFit; rw [(cw_cl ha hb).1, (cw_cl ha hb).2]
    first
      | (have e := bI_n h55
         have hne : ¬ nI (cl a b) = -1 := fun e => by
           have h1 : (nI (cl a b)).toInt = ((cl a b : Nat) : Int) := nI_toInt (by omega)
           rw [e] at h1
           have h2 : (-1 : Int32).toInt = -1 := by decide
           omega
         refine R_lv [(9, .int (nI 0)), (8, .int (nI 0)), (7, .int (nI (cl a b))), (6, .int (nI (cl a b))), (5, .int (nI o)), (4, .int (nI y)), (3, .int (nI x)), (2, .int (nI k)), (1, .ref 2), (0, .ref 123)] rfl (List.forall_mem_cons.mpr ⟨rfl, List.forall_mem_cons.mpr ⟨rfl, List.forall_mem_cons.mpr ⟨rfl, List.forall_mem_cons.mpr ⟨rfl, List.forall_mem_cons.mpr ⟨rfl, List.forall_mem_cons.mpr ⟨rfl, List.forall_mem_cons.mpr ⟨rfl, List.forall_mem_cons.mpr ⟨rfl, List.forall_mem_cons.mpr ⟨rfl, List.forall_mem_cons.mpr ⟨rfl, fun _ h => absurd h List.not_mem_nil⟩⟩⟩⟩⟩⟩⟩⟩⟩⟩) ⟨rfl, rfl⟩ ?_
         refine R1 (g' := (74, _, _, _, _, _)) rfl rfl ?_
         refine R1 (g' := (75, _, .int (-1) :: _, _, _, _)) rfl rfl ?_
         refine R_cne 111 rfl rfl (fun h75 => ?_) (fun h => by exact absurd h hne)
         exact find_S2 (t := 0) (j := 0) (n := 0) hc0 q1 ⟨Nat.one_pos, hfit.trans e, fun i hi => absurd hi (Nat.not_lt_zero _)⟩ rfl)
      | (have e := bI_e h55
         refine R_lv [(9, .int (nI 0)), (8, .int (nI 0)), (7, .int (-1)), (6, .int (nI (cl a b))), (5, .int (nI o)), (4, .int (nI y)), (3, .int (nI x)), (2, .int (nI k)), (1, .ref 2), (0, .ref 123)] rfl (List.forall_mem_cons.mpr ⟨rfl, List.forall_mem_cons.mpr ⟨rfl, List.forall_mem_cons.mpr ⟨rfl, List.forall_mem_cons.mpr ⟨rfl, List.forall_mem_cons.mpr ⟨rfl, List.forall_mem_cons.mpr ⟨rfl, List.forall_mem_cons.mpr ⟨rfl, List.forall_mem_cons.mpr ⟨rfl, List.forall_mem_cons.mpr ⟨rfl, List.forall_mem_cons.mpr ⟨rfl, fun _ h => absurd h List.not_mem_nil⟩⟩⟩⟩⟩⟩⟩⟩⟩⟩) ⟨rfl, rfl⟩ ?_
         exact find_L2 hc0 hv hx hy ho 60 0 0 1 _ rfl (Nat.zero_le _) q1 ⟨Nat.le_refl _, fun _ _ _ => rfl, fun j g1 g2 => absurd g2 (Nat.not_lt.mpr g1), fun _ _ => hfit.trans e⟩ rfl)
theorem find_S22 {s : xs} {v c0 x y o t j n : Nat} {z2 z3 z4 z5 z6 z8 : Int32} (hc0 : c0 < 9216) (hs : cRel s (bR v c0 t) v x y o) (hf : bFnd v c0 (wFit x y o) t (some j)) (hn : (bR v c0 t).2.2.2.2 ((bR v c0 t).2.1 j) = n) : xRun M_X7_find (fPo s v c0 x y o) (111, [(9, .int (nI n)), (8, .int z8), (7, .int (nI ((bR v c0 t).2.1 j))), (6, .int z6), (5, .int z5), (4, .int z4), (3, .int z3), (2, .int z2), (1, .ref 22), (0, .ref 123)], [], wd s, 0, 0) := by
  have hb := bR_ok (v := v) hc0 t
  obtain ⟨m1, m2⟩ := hb.1 j hf.1
  have hne : ¬ nI ((bR v c0 t).2.1 j) = -1 := fun e => by
    have h1 : (nI ((bR v c0 t).2.1 j)).toInt = (((bR v c0 t).2.1 j : Nat) : Int) := nI_toInt (by omega)
    rw [e] at h1
    have h2 : (-1 : Int32).toInt = -1 := by decide
    omega
  subst hn
  obtain ⟨f, hf1, hf2⟩ := e7_trace (s := put s 123 0 (nI ((bR v c0 t).2.2.2.2 ((bR v c0 t).2.1 j)))) (c := (bR v c0 t).2.1 j) (cRel_0 hs) hb m2 (by rw [put_val, if_pos rfl, if_pos rfl])
  refine R1 (g' := (112, _, _, _, _, _)) rfl rfl ?_
  refine R1 (g' := (114, _, _, _, _, _)) rfl rfl ?_
  refine R1 (g' := (115, _, .int (-1) :: _, _, _, _)) rfl rfl ?_
  refine R_cne 122 rfl rfl (fun h115 => ?_) (fun h => by exact absurd h hne)
  refine R1 (g' := (124, _, _, _, _, _)) rfl rfl ?_
  refine R_put rfl rfl (Nat.le_of_ble_eq_true rfl) rfl (Nat.le_of_ble_eq_true rfl) ⟨_, rfl, Or.inl rfl, _, rfl, rfl⟩ rfl ?_
  change xRun _ _ (127, _, _, wd (put s 123 0 (nI ((bR v c0 t).2.2.2.2 ((bR v c0 t).2.1 j)))), _, _)
  refine R1 (g' := (128, _, _, _, _, _)) rfl rfl ?_
  refine R1 (g' := (130, _, _, _, _, _)) rfl rfl ?_
  refine R_call2 (Or.inr (Or.inl ⟨rfl, rfl⟩)) rfl rfl ⟨Nat.le_of_ble_eq_true rfl, Nat.le_of_ble_eq_true rfl⟩ (Nat.le_of_ble_eq_true rfl) ⟨rfl, rfl⟩ (⟨⟨_, _, _, rfl, (Nat.le_of_ble_eq_true rfl), rfl⟩, hf2⟩) ?_
  refine R1 (g' := (134, _, _, _, _, _)) rfl rfl ?_
  refine R_getf rfl rfl (Nat.le_of_ble_eq_true rfl) rfl rfl ?_
  refine R_iret rfl ?_
  refine ⟨_, rfl, sOut_set (sOut_put sOut_rf (by decide) (by decide)) (by decide) (by decide), Or.inl ⟨(bR v c0 t).2.2.2.2 ((bR v c0 t).2.1 j), bWy (bR v c0 t) ((bR v c0 t).2.1 j), ⟨t, j, hf, rfl, fun _ _ => rfl⟩, ?_, ?_, fun k hk => ?_⟩⟩
  · exact o_i (by rw [setP_ne _ _ (by decide), put_val, if_pos rfl, if_pos rfl])
  · rw [setP_ne _ _ (by decide), put_val, if_pos rfl, if_pos rfl]
  · rw [setP_at]
    exact hf1 k hk
theorem find_N22 {s : xs} {v c0 x y o : Nat} {z2 z3 z4 z5 z6 z8 z9 : Int32} (hf : wNo v c0 x y o) : xRun M_X7_find (fPo s v c0 x y o) (111, [(9, .int z9), (8, .int z8), (7, .int (-1)), (6, .int z6), (5, .int z5), (4, .int z4), (3, .int z3), (2, .int z2), (1, .ref 22), (0, .ref 123)], [], wd s, 0, 0) := by
  refine R1 (g' := (112, _, _, _, _, _)) rfl rfl ?_
  refine R1 (g' := (114, _, _, _, _, _)) rfl rfl ?_
  refine R1 (g' := (115, _, .int (-1) :: _, _, _, _)) rfl rfl ?_
  refine R_cne 122 rfl rfl (fun h => by exact absurd rfl h) (fun h115 => ?_)
  refine R1 (g' := (119, _, .int (-1) :: _, _, _, _)) rfl rfl ?_
  refine R1 (g' := (124, _, _, _, _, _)) rfl rfl ?_
  refine R_put rfl rfl (Nat.le_of_ble_eq_true rfl) rfl (Nat.le_of_ble_eq_true rfl) ⟨_, rfl, Or.inl rfl, _, rfl, rfl⟩ rfl ?_
  change xRun _ _ (127, _, _, wd (put s 123 0 (-1)), _, _)
  refine R1 (g' := (128, _, _, _, _, _)) rfl rfl ?_
  refine R1 (g' := (130, _, _, _, _, _)) rfl rfl ?_
  refine R_call2 (Or.inr (Or.inl ⟨rfl, rfl⟩)) rfl rfl ⟨Nat.le_of_ble_eq_true rfl, Nat.le_of_ble_eq_true rfl⟩ (Nat.le_of_ble_eq_true rfl) ⟨rfl, rfl⟩ (⟨⟨_, _, _, rfl, (Nat.le_of_ble_eq_true rfl), rfl⟩, e7_traceN (by rw [put_val, if_pos rfl, if_pos rfl])⟩) ?_
  refine R1 (g' := (134, _, _, _, _, _)) rfl rfl ?_
  refine R_getf rfl rfl (Nat.le_of_ble_eq_true rfl) rfl rfl ?_
  refine R_iret rfl ?_
  refine ⟨_, rfl, sOut_put sOut_rf (by decide) (by decide), Or.inr ⟨hf, ?_, ?_⟩⟩
  · exact o_i (by rw [put_val, if_pos rfl, if_pos rfl])
  · rw [put_val, if_pos rfl, if_pos rfl]
theorem find_L22 {v c0 x y o : Nat} {z2 z3 z4 z5 z6 : Int32} (hc0 : c0 < 9216) (hv : v < 2 ^ 31) (hx : x < 2 ^ 20) (hy : y < 2 ^ 20) (ho : o < 2 ^ 20) : ∀ (d l lo hi : Nat) (s : xs), l + d = 60 → lo ≤ hi → cRel s (bR v c0 (3 * lo)) v x y o → LInv v c0 (wFit x y o) lo hi l (3 * lo) → (bR v c0 (3 * lo)).1 = hi → xRun M_X7_find (fPo s v c0 x y o) (72, [(9, .int (nI l)), (8, .int (nI lo)), (7, .int (-1)), (6, .int z6), (5, .int z5), (4, .int z4), (3, .int z3), (2, .int z2), (1, .ref 22), (0, .ref 123)], [], wd s, 0, 0) := by
  intro d
  induction d with
  | zero =>
    intro l lo hi s hd hlh hs hL hh
    have hl : l = 60 := by omega
    subst hl
    have hno : wNo v c0 x y o := ⟨3 * lo, fun t2 ht2 => by
      obtain ⟨d, rfl⟩ := Nat.exists_eq_add_of_le ht2
      exact bR_stop hL hh d, hL.2.2.2⟩
    refine R1 (g' := (74, _, _, _, _, _)) rfl rfl ?_
    refine R1 (g' := (75, _, .int (-1) :: _, _, _, _)) rfl rfl ?_
    refine R_cne 111 rfl rfl (fun h => by exact absurd rfl h) (fun h75 => ?_)
    refine R1 (g' := (80, _, _, _, _, _)) rfl rfl ?_
    refine R1 (g' := (82, _, .int (nI 60) :: _, _, _, _)) rfl rfl ?_
    refine R_cgeN 111 (60) (60) rfl rfl (rfl) (rfl) (by omega) (by omega) (fun h82 => ?_) (fun h => by omega)
    exact find_N22 hno
  | succ d ih =>
    intro l lo hi s hd hlh hs hL hh
    obtain ⟨o1, w1, ⟨s', rfl, hso, hk⟩, hev⟩ := e7_reachFrom (l := l) hc0 hv hx hy ho (by omega) hlh hs hL
    refine xRun_imp (Po := fPo s' v c0 x y o) ?_ (fun _ _ k => fPo_tr hso k)
    rcases hk with ⟨t, j, rfl, hs', hf, hr⟩ | ⟨rfl, hs', hL'⟩
    · refine R1 (g' := (74, _, _, _, _, _)) rfl rfl ?_
      refine R1 (g' := (75, _, .int (-1) :: _, _, _, _)) rfl rfl ?_
      refine R_cne 111 rfl rfl (fun h => by exact absurd rfl h) (fun h75 => ?_)
      refine R1 (g' := (80, _, _, _, _, _)) rfl rfl ?_
      refine R1 (g' := (82, _, .int (nI 60) :: _, _, _, _)) rfl rfl ?_
      refine R_cgeN 111 (l) (60) rfl rfl (rfl) (rfl) (by omega) (by omega) (fun h => by omega) (fun h82 => ?_)
      refine R1 (g' := (86, _, _, _, _, _)) rfl rfl ?_
      refine R_getf rfl rfl (Nat.le_of_ble_eq_true rfl) rfl rfl ?_
      refine R1 (g' := (91, _, _, _, _, _)) rfl rfl ?_
      refine R1 (g' := (92, _, _, _, _, _)) rfl rfl ?_
      refine R1 (g' := (94, _, _, _, _, _)) rfl rfl ?_
      refine R1 (g' := (96, _, _, _, _, _)) rfl rfl ?_
      rw [hs.1.1, hh]
      refine R_call3 (Or.inr (Or.inl ⟨rfl, rfl⟩)) rfl rfl ⟨Nat.le_of_ble_eq_true rfl, Nat.le_of_ble_eq_true rfl⟩ (Nat.le_of_ble_eq_true rfl) ⟨rfl, rfl⟩ (⟨⟨_, _, _, rfl, (Nat.le_of_ble_eq_true rfl), rfl⟩, hev⟩) ?_
      refine R1 (g' := (101, _, _, _, _, _)) rfl rfl ?_
      refine R1 (g' := (103, _, _, _, _, _)) rfl rfl ?_
      refine R1 (g' := (105, _, _, _, _, _)) rfl rfl ?_
      refine R1 (g' := (108, _, _, _, _, _)) rfl rfl ?_
      refine R1 (g' := (72, _, _, _, _, _)) rfl rfl ?_
      have m1 := ((bR_ok (v := v) hc0 t).1 j hf.1).1
      have hne : ¬ nI ((bR v c0 t).2.1 j) = -1 := fun e => by
        have h1 : (nI ((bR v c0 t).2.1 j)).toInt = (((bR v c0 t).2.1 j : Nat) : Int) := nI_toInt (by omega)
        rw [e] at h1
        have h2 : (-1 : Int32).toInt = -1 := by decide
        omega
      refine R_lv [(9, .int (nI (l + 1))), (8, .int (nI hi)), (7, .int (nI ((bR v c0 t).2.1 j))), (6, .int z6), (5, .int z5), (4, .int z4), (3, .int z3), (2, .int z2), (1, .ref 22), (0, .ref 123)] rfl (List.forall_mem_cons.mpr ⟨by rw [nI_succ l]; rfl, List.forall_mem_cons.mpr ⟨rfl, List.forall_mem_cons.mpr ⟨rfl, List.forall_mem_cons.mpr ⟨rfl, List.forall_mem_cons.mpr ⟨rfl, List.forall_mem_cons.mpr ⟨rfl, List.forall_mem_cons.mpr ⟨rfl, List.forall_mem_cons.mpr ⟨rfl, List.forall_mem_cons.mpr ⟨rfl, List.forall_mem_cons.mpr ⟨rfl, fun _ h => absurd h List.not_mem_nil⟩⟩⟩⟩⟩⟩⟩⟩⟩⟩) ⟨rfl, rfl⟩ ?_
      refine R1 (g' := (74, _, _, _, _, _)) rfl rfl ?_
      refine R1 (g' := (75, _, .int (-1) :: _, _, _, _)) rfl rfl ?_
      refine R_cne 111 rfl rfl (fun h75 => ?_) (fun h => by exact absurd h hne)
      exact find_S22 hc0 hs' hf hr
    · refine R1 (g' := (74, _, _, _, _, _)) rfl rfl ?_
      refine R1 (g' := (75, _, .int (-1) :: _, _, _, _)) rfl rfl ?_
      refine R_cne 111 rfl rfl (fun h => by exact absurd rfl h) (fun h75 => ?_)
      refine R1 (g' := (80, _, _, _, _, _)) rfl rfl ?_
      refine R1 (g' := (82, _, .int (nI 60) :: _, _, _, _)) rfl rfl ?_
      refine R_cgeN 111 (l) (60) rfl rfl (rfl) (rfl) (by omega) (by omega) (fun h => by omega) (fun h82 => ?_)
      refine R1 (g' := (86, _, _, _, _, _)) rfl rfl ?_
      refine R_getf rfl rfl (Nat.le_of_ble_eq_true rfl) rfl rfl ?_
      refine R1 (g' := (91, _, _, _, _, _)) rfl rfl ?_
      refine R1 (g' := (92, _, _, _, _, _)) rfl rfl ?_
      refine R1 (g' := (94, _, _, _, _, _)) rfl rfl ?_
      refine R1 (g' := (96, _, _, _, _, _)) rfl rfl ?_
      rw [hs.1.1, hh]
      refine R_call3 (Or.inr (Or.inl ⟨rfl, rfl⟩)) rfl rfl ⟨Nat.le_of_ble_eq_true rfl, Nat.le_of_ble_eq_true rfl⟩ (Nat.le_of_ble_eq_true rfl) ⟨rfl, rfl⟩ (⟨⟨_, _, _, rfl, (Nat.le_of_ble_eq_true rfl), rfl⟩, hev⟩) ?_
      refine R1 (g' := (101, _, _, _, _, _)) rfl rfl ?_
      refine R1 (g' := (103, _, _, _, _, _)) rfl rfl ?_
      refine R1 (g' := (105, _, _, _, _, _)) rfl rfl ?_
      refine R1 (g' := (108, _, _, _, _, _)) rfl rfl ?_
      refine R1 (g' := (72, _, _, _, _, _)) rfl rfl ?_
      refine R_lv [(9, .int (nI (l + 1))), (8, .int (nI hi)), (7, .int (-1)), (6, .int z6), (5, .int z5), (4, .int z4), (3, .int z3), (2, .int z2), (1, .ref 22), (0, .ref 123)] rfl (List.forall_mem_cons.mpr ⟨by rw [nI_succ l]; rfl, List.forall_mem_cons.mpr ⟨rfl, List.forall_mem_cons.mpr ⟨rfl, List.forall_mem_cons.mpr ⟨rfl, List.forall_mem_cons.mpr ⟨rfl, List.forall_mem_cons.mpr ⟨rfl, List.forall_mem_cons.mpr ⟨rfl, List.forall_mem_cons.mpr ⟨rfl, List.forall_mem_cons.mpr ⟨rfl, List.forall_mem_cons.mpr ⟨rfl, fun _ h => absurd h List.not_mem_nil⟩⟩⟩⟩⟩⟩⟩⟩⟩⟩) ⟨rfl, rfl⟩ ?_
      refine ih (l + 1) hi (bR v c0 (3 * hi)).1 s' (by omega) hL'.1 hs' ⟨Nat.le_refl _, fun j a b => hL'.2.2.1 j a b, fun j a b => absurd b (by omega), hL'.2.2.2⟩ rfl
theorem e7_find22 {s : xs} {k a b v x y o : Nat} (hk8 : k < 8) (hW : s.1 24 k = nI a) (hH : s.1 26 k = nI b) (hV : s.1 28 k = nI v) (ha : nRg a = true) (hb : nRg b = true) (hv : v < 2 ^ 31) (hx : x < 2 ^ 20) (hy : y < 2 ^ 20) (ho : o < 2 ^ 20) : ∃ o1 w1, fPo s v (cl a b) x y o o1 w1 ∧ Ev_X7_find [.ref 123, .ref 22, .int (nI k), .int (nI x), .int (nI y), .int (nI o)] (wd s) o1 w1 := by
  have hc0 := cl_lt ha hb
  have hp := xbar_22
  obtain ⟨h152, hcell, hrW, hrH, hrV, hrB, hsc⟩ := id hp
  refine xEv_ex (Nat.le_of_ble_eq_true rfl) (fun o1 w1 k => ?_) ?_
  · obtain ⟨s2, rfl, _, ⟨n, p, _, rfl, _⟩ | ⟨_, rfl, _⟩⟩ := k <;> exact ⟨Nat.le_refl _, Or.inl rfl⟩
  refine R1 (g' := (1, _, _, _, _, _)) rfl rfl ?_
  refine R1 (g' := (2, _, _, _, _, _)) rfl rfl ?_
  refine R_getf rfl rfl (Nat.le_of_ble_eq_true rfl) rfl rfl ?_
  refine R1 (g' := (6, _, _, _, _, _)) rfl rfl ?_
  refine R_call2 (Or.inr (Or.inl ⟨rfl, rfl⟩)) rfl rfl ⟨Nat.le_of_ble_eq_true rfl, Nat.le_of_ble_eq_true rfl⟩ (Nat.le_of_ble_eq_true rfl) ⟨rfl, rfl⟩ (⟨⟨_, _, _, rfl, (Nat.le_of_ble_eq_true rfl), rfl⟩, e_Row_get hrV (by decide) hk8⟩) ?_
  rw [hV]
  refine R_put rfl rfl (Nat.le_of_ble_eq_true rfl) rfl (Nat.le_of_ble_eq_true rfl) ⟨_, rfl, Or.inl rfl, _, rfl, rfl⟩ rfl ?_
  refine R1 (g' := (13, _, _, _, _, _)) rfl rfl ?_
  refine R1 (g' := (14, _, _, _, _, _)) rfl rfl ?_
  refine R_put rfl rfl (Nat.le_of_ble_eq_true rfl) rfl (Nat.le_of_ble_eq_true rfl) ⟨_, rfl, Or.inl rfl, _, rfl, rfl⟩ rfl ?_
  refine R1 (g' := (18, _, _, _, _, _)) rfl rfl ?_
  refine R1 (g' := (20, _, _, _, _, _)) rfl rfl ?_
  refine R_put rfl rfl (Nat.le_of_ble_eq_true rfl) rfl (Nat.le_of_ble_eq_true rfl) ⟨_, rfl, Or.inl rfl, _, rfl, rfl⟩ rfl ?_
  refine R1 (g' := (24, _, _, _, _, _)) rfl rfl ?_
  refine R1 (g' := (26, _, _, _, _, _)) rfl rfl ?_
  refine R_put rfl rfl (Nat.le_of_ble_eq_true rfl) rfl (Nat.le_of_ble_eq_true rfl) ⟨_, rfl, Or.inl rfl, _, rfl, rfl⟩ rfl ?_
  change xRun _ _ (29, _, _, wd (put (put (put (put s 123 7 (nI v)) 123 8 (nI x)) 123 9 (nI y)) 123 10 (nI o)), _, _)
  refine R1 (g' := (30, _, _, _, _, _)) rfl rfl ?_
  refine R1 (g' := (31, _, _, _, _, _)) rfl rfl ?_
  refine R_getf rfl rfl (Nat.le_of_ble_eq_true rfl) rfl rfl ?_
  refine R1 (g' := (35, _, _, _, _, _)) rfl rfl ?_
  refine R_call2 (Or.inr (Or.inl ⟨rfl, rfl⟩)) rfl rfl ⟨Nat.le_of_ble_eq_true rfl, Nat.le_of_ble_eq_true rfl⟩ (Nat.le_of_ble_eq_true rfl) ⟨rfl, rfl⟩ (⟨⟨_, _, _, rfl, (Nat.le_of_ble_eq_true rfl), rfl⟩, e_Row_get hrW (by decide) hk8⟩) ?_
  refine R1 (g' := (39, _, _, _, _, _)) rfl rfl ?_
  refine R_getf rfl rfl (Nat.le_of_ble_eq_true rfl) rfl rfl ?_
  refine R1 (g' := (43, _, _, _, _, _)) rfl rfl ?_
  refine R_call2 (Or.inr (Or.inl ⟨rfl, rfl⟩)) rfl rfl ⟨Nat.le_of_ble_eq_true rfl, Nat.le_of_ble_eq_true rfl⟩ (Nat.le_of_ble_eq_true rfl) ⟨rfl, rfl⟩ (⟨⟨_, _, _, rfl, (Nat.le_of_ble_eq_true rfl), rfl⟩, e_Row_get hrH (by decide) hk8⟩) ?_
  rw [show (put (put (put (put s 123 7 (nI v)) 123 8 (nI x)) 123 9 (nI y)) 123 10 (nI o)).1 24 k = nI a from by simp [put_val]; exact hW, show (put (put (put (put s 123 7 (nI v)) 123 8 (nI x)) 123 9 (nI y)) 123 10 (nI o)).1 26 k = nI b from by simp [put_val]; exact hH]
  refine R_call3 (Or.inr (Or.inl ⟨rfl, rfl⟩)) rfl rfl ⟨Nat.le_of_ble_eq_true rfl, Nat.le_of_ble_eq_true rfl⟩ (Nat.le_of_ble_eq_true rfl) ⟨rfl, rfl⟩ (⟨⟨_, _, _, rfl, (Nat.le_of_ble_eq_true rfl), rfl⟩, e7_begin ha hb⟩) ?_
  have hso : sOut 123 9 s (put (put (put (put s 123 7 (nI v)) 123 8 (nI x)) 123 9 (nI y)) 123 10 (nI o)) := sOut_put (sOut_put (sOut_put (sOut_put sOut_rf (by decide) (by decide)) (by decide) (by decide)) (by decide) (by decide)) (by decide) (by decide)
  obtain ⟨q1, q2, q3, q4⟩ := sBeg_rel (s := (put (put (put (put s 123 7 (nI v)) 123 8 (nI x)) 123 9 (nI y)) 123 10 (nI o))) (v := v) (x := x) (y := y) (o := o) ha hb (by simp [put_val]) (by simp [put_val]) (by simp [put_val]) (by simp [put_val])
  refine xRun_imp (Po := fPo (sBeg (put (put (put (put s 123 7 (nI v)) 123 8 (nI x)) 123 9 (nI y)) 123 10 (nI o)) a b) v (cl a b) x y o) ?_ (fun _ _ k => fPo_tr (sOut_tr hso q4) k)
  refine R1 (g' := (51, _, _, _, _, _)) rfl rfl ?_
  refine R1 (g' := (52, _, _, _, _, _)) rfl rfl ?_
  refine R_call1 (Or.inr (Or.inl ⟨rfl, rfl⟩)) rfl rfl ⟨Nat.le_of_ble_eq_true rfl, Nat.le_of_ble_eq_true rfl⟩ (Nat.le_of_ble_eq_true rfl) ⟨rfl, rfl⟩ (⟨⟨_, _, _, rfl, (Nat.le_of_ble_eq_true rfl), rfl⟩, e7_fits q2 q3 q1.1.2.2.1 q1.1.2.2.2.1 q1.1.2.2.2.2 ha hb hx hy ho⟩) ?_
  refine R_eq 63 rfl rfl (fun h55 => ?_) (fun h55 => ?_)
  · refine R1 (g' := (64, _, .int (-1) :: _, _, _, _)) rfl rfl ?_
    refine R1 (g' := (66, _, _, _, _, _)) rfl rfl ?_
    refine R1 (g' := (67, _, .int (nI 0) :: _, _, _, _)) rfl rfl ?_
    refine R1 (g' := (69, _, _, _, _, _)) rfl rfl ?_
    refine R1 (g' := (70, _, .int (nI 0) :: _, _, _, _)) rfl rfl ?_
    refine R1 (g' := (72, _, _, _, _, _)) rfl rfl ?_
    have hfit : wFit x y o (cl a b) = (nNear a x o && nNear b y o) := by unfold wFit; rw [(cw_cl ha hb).1, (cw_cl ha hb).2]
    first
      | (have e := bI_n h55
         have hne : ¬ nI (cl a b) = -1 := fun e => by
           have h1 : (nI (cl a b)).toInt = ((cl a b : Nat) : Int) := nI_toInt (by omega)
           rw [e] at h1
           have h2 : (-1 : Int32).toInt = -1 := by decide
           omega
         refine R_lv [(9, .int (nI 0)), (8, .int (nI 0)), (7, .int (nI (cl a b))), (6, .int (nI (cl a b))), (5, .int (nI o)), (4, .int (nI y)), (3, .int (nI x)), (2, .int (nI k)), (1, .ref 22), (0, .ref 123)] rfl (List.forall_mem_cons.mpr ⟨rfl, List.forall_mem_cons.mpr ⟨rfl, List.forall_mem_cons.mpr ⟨rfl, List.forall_mem_cons.mpr ⟨rfl, List.forall_mem_cons.mpr ⟨rfl, List.forall_mem_cons.mpr ⟨rfl, List.forall_mem_cons.mpr ⟨rfl, List.forall_mem_cons.mpr ⟨rfl, List.forall_mem_cons.mpr ⟨rfl, List.forall_mem_cons.mpr ⟨rfl, fun _ h => absurd h List.not_mem_nil⟩⟩⟩⟩⟩⟩⟩⟩⟩⟩) ⟨rfl, rfl⟩ ?_
         refine R1 (g' := (74, _, _, _, _, _)) rfl rfl ?_
         refine R1 (g' := (75, _, .int (-1) :: _, _, _, _)) rfl rfl ?_
         refine R_cne 111 rfl rfl (fun h75 => ?_) (fun h => by exact absurd h hne)
         exact find_S22 (t := 0) (j := 0) (n := 0) hc0 q1 ⟨Nat.one_pos, hfit.trans e, fun i hi => absurd hi (Nat.not_lt_zero _)⟩ rfl)
      | (have e := bI_e h55
         refine R_lv [(9, .int (nI 0)), (8, .int (nI 0)), (7, .int (-1)), (6, .int (nI (cl a b))), (5, .int (nI o)), (4, .int (nI y)), (3, .int (nI x)), (2, .int (nI k)), (1, .ref 22), (0, .ref 123)] rfl (List.forall_mem_cons.mpr ⟨rfl, List.forall_mem_cons.mpr ⟨rfl, List.forall_mem_cons.mpr ⟨rfl, List.forall_mem_cons.mpr ⟨rfl, List.forall_mem_cons.mpr ⟨rfl, List.forall_mem_cons.mpr ⟨rfl, List.forall_mem_cons.mpr ⟨rfl, List.forall_mem_cons.mpr ⟨rfl, List.forall_mem_cons.mpr ⟨rfl, List.forall_mem_cons.mpr ⟨rfl, fun _ h => absurd h List.not_mem_nil⟩⟩⟩⟩⟩⟩⟩⟩⟩⟩) ⟨rfl, rfl⟩ ?_
         exact find_L22 hc0 hv hx hy ho 60 0 0 1 _ rfl (Nat.zero_le _) q1 ⟨Nat.le_refl _, fun _ _ _ => rfl, fun j g1 g2 => absurd g2 (Nat.not_lt.mpr g1), fun _ _ => hfit.trans e⟩ rfl)
  · refine R1 (g' := (60, _, _, _, _, _)) rfl rfl ?_
    refine R1 (g' := (64, _, _, _, _, _)) rfl rfl ?_
    refine R1 (g' := (66, _, _, _, _, _)) rfl rfl ?_
    refine R1 (g' := (67, _, .int (nI 0) :: _, _, _, _)) rfl rfl ?_
    refine R1 (g' := (69, _, _, _, _, _)) rfl rfl ?_
    refine R1 (g' := (70, _, .int (nI 0) :: _, _, _, _)) rfl rfl ?_
    refine R1 (g' := (72, _, _, _, _, _)) rfl rfl ?_
    have hfit : wFit x y o (cl a b) = (nNear a x o && nNear b y o) := by unfold wFit; rw [(cw_cl ha hb).1, (cw_cl ha hb).2]
    first
      | (have e := bI_n h55
         have hne : ¬ nI (cl a b) = -1 := fun e => by
           have h1 : (nI (cl a b)).toInt = ((cl a b : Nat) : Int) := nI_toInt (by omega)
           rw [e] at h1
           have h2 : (-1 : Int32).toInt = -1 := by decide
           omega
         refine R_lv [(9, .int (nI 0)), (8, .int (nI 0)), (7, .int (nI (cl a b))), (6, .int (nI (cl a b))), (5, .int (nI o)), (4, .int (nI y)), (3, .int (nI x)), (2, .int (nI k)), (1, .ref 22), (0, .ref 123)] rfl (List.forall_mem_cons.mpr ⟨rfl, List.forall_mem_cons.mpr ⟨rfl, List.forall_mem_cons.mpr ⟨rfl, List.forall_mem_cons.mpr ⟨rfl, List.forall_mem_cons.mpr ⟨rfl, List.forall_mem_cons.mpr ⟨rfl, List.forall_mem_cons.mpr ⟨rfl, List.forall_mem_cons.mpr ⟨rfl, List.forall_mem_cons.mpr ⟨rfl, List.forall_mem_cons.mpr ⟨rfl, fun _ h => absurd h List.not_mem_nil⟩⟩⟩⟩⟩⟩⟩⟩⟩⟩) ⟨rfl, rfl⟩ ?_
         refine R1 (g' := (74, _, _, _, _, _)) rfl rfl ?_
         refine R1 (g' := (75, _, .int (-1) :: _, _, _, _)) rfl rfl ?_
         refine R_cne 111 rfl rfl (fun h75 => ?_) (fun h => by exact absurd h hne)
         exact find_S22 (t := 0) (j := 0) (n := 0) hc0 q1 ⟨Nat.one_pos, hfit.trans e, fun i hi => absurd hi (Nat.not_lt_zero _)⟩ rfl)
      | (have e := bI_e h55
         refine R_lv [(9, .int (nI 0)), (8, .int (nI 0)), (7, .int (-1)), (6, .int (nI (cl a b))), (5, .int (nI o)), (4, .int (nI y)), (3, .int (nI x)), (2, .int (nI k)), (1, .ref 22), (0, .ref 123)] rfl (List.forall_mem_cons.mpr ⟨rfl, List.forall_mem_cons.mpr ⟨rfl, List.forall_mem_cons.mpr ⟨rfl, List.forall_mem_cons.mpr ⟨rfl, List.forall_mem_cons.mpr ⟨rfl, List.forall_mem_cons.mpr ⟨rfl, List.forall_mem_cons.mpr ⟨rfl, List.forall_mem_cons.mpr ⟨rfl, List.forall_mem_cons.mpr ⟨rfl, List.forall_mem_cons.mpr ⟨rfl, fun _ h => absurd h List.not_mem_nil⟩⟩⟩⟩⟩⟩⟩⟩⟩⟩) ⟨rfl, rfl⟩ ?_
         exact find_L22 hc0 hv hx hy ho 60 0 0 1 _ rfl (Nat.zero_le _) q1 ⟨Nat.le_refl _, fun _ _ _ => rfl, fun j g1 g2 => absurd g2 (Nat.not_lt.mpr g1), fun _ _ => hfit.trans e⟩ rfl)
