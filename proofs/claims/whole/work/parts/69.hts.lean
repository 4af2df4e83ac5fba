theorem c_find22 {s : xs} {Q : Nat → Int32} {k x y o : Nat} (hs : bRel s 22 Q) (hp : qPart Q k) (hk8 : k < 8) (hx : x < 2 ^ 20) (hy : y < 2 ^ 20) (ho : o < 2 ^ 20) : ∃ s', sOut 123 9 s s' ∧ ((∃ n p, wRes (qn Q (11 + 4 * k)) (cl (qn Q (9 + 4 * k)) (qn Q (10 + 4 * k))) x y o n p ∧ Ev_X7_find [.ref 123, .ref 22, .int (nI k), .int (nI x), .int (nI y), .int (nI o)] (wd s) (.inl (some (.int (nI n)))) (wd s') ∧ s'.1 123 0 = nI n ∧ ∀ j, j < n → s'.1 125 j = nI (p j)) ∨ (wNo (qn Q (11 + 4 * k)) (cl (qn Q (9 + 4 * k)) (qn Q (10 + 4 * k))) x y o ∧ Ev_X7_find [.ref 123, .ref 22, .int (nI k), .int (nI x), .int (nI y), .int (nI o)] (wd s) (.inl (some (.int (-1)))) (wd s') ∧ s'.1 123 0 = -1)) := by
  obtain ⟨r1, r2, r3, r4⟩ := hs.2 k hk8
  obtain ⟨p1, p2, p3, p4, p5, p6, p7⟩ := hp
  obtain ⟨o1, w1, ⟨s', rfl, so, h⟩, hev⟩ := e7_find22 (s := s) hk8 (r1.trans p1) (r2.trans p2) (r3.trans p3) p4 p5 (by omega) hx hy ho
  refine ⟨s', so, ?_⟩
  rcases h with ⟨n, p, h1, rfl, h3, h4⟩ | ⟨h1, rfl, h3⟩
  · exact Or.inl ⟨n, p, h1, hev, h3, h4⟩
  · exact Or.inr ⟨h1, hev, h3⟩
def htc (s : xs) (Q : Nat → Int32) (N : Nat) (o1 : xO) (w1 : xw) : Prop := ∃ s', w1 = wd s' ∧ Sx 0 s s' ∧ hRs Q N o1
theorem htc_tr {s s' : xs} {Q : Nat → Int32} {N : Nat} {o1 : xO} {w1 : xw} (h : Sx 0 s s') (k : htc s' Q N o1 w1) : htc s Q N o1 w1 := by
  obtain ⟨s2, a, b, c⟩ := k
  exact ⟨s2, a, Sx_tr h b, c⟩
theorem hts_loop {Q : Nat → Int32} {N : Nat} (hi : pInv Q) (hN : N ≤ qn Q 7) (hM : N ≤ qn Q 8) : ∀ (d k : Nat) (s : xs) (P : Nat → Int32), k + d = N → hS Q k P → pRel s 1 Q → bRel s 22 P → xRun M_X8_heatsToSteps (htc s Q N) (39, [(3, .int (nI k)), (2, .int (nI N)), (1, .ref 12), (0, .ref 0)], [], wd s, 0, 0) := by
  have n8 := hi.1.2.2
  intro d
  induction d with
  | zero =>
    intro k s P hd h0 hp hb
    obtain rfl : k = N := by omega
    have e1 : s.1 22 3 = P 2 := hb.1.2.2.2.1
    have e2 : s.1 2 3 = Q 2 := hp.1.1.2.2.2.1
    refine R1 (g' := (40, _, _, _, _, _)) rfl rfl ?_
    refine R1 (g' := (41, _, _, _, _, _)) rfl rfl ?_
    refine R_cgeN 111 (k) (k) rfl rfl (rfl) (rfl) (by omega) (by omega) (fun h41 => ?_) (fun h => by omega)
    refine R1 (g' := (112, _, _, _, _, _)) rfl rfl ?_
    refine R_getf rfl rfl (Nat.le_of_ble_eq_true rfl) rfl rfl ?_
    refine R_getf rfl rfl (Nat.le_of_ble_eq_true rfl) rfl rfl ?_
    refine R_getf rfl rfl (Nat.le_of_ble_eq_true rfl) rfl rfl ?_
    refine R1 (g' := (122, _, _, _, _, _)) rfl rfl ?_
    refine R_getf rfl rfl (Nat.le_of_ble_eq_true rfl) rfl rfl ?_
    refine R_getf rfl rfl (Nat.le_of_ble_eq_true rfl) rfl rfl ?_
    refine R_getf rfl rfl (Nat.le_of_ble_eq_true rfl) rfl rfl ?_
    refine R1 (g' := (132, _, _, _, _, _)) rfl rfl ?_
    refine R_iret rfl ?_
    exact ⟨s, rfl, Sx_rf, Or.inl ⟨P, h0, o_i (by rw [e1, e2])⟩⟩
  | succ d ih =>
    intro k s P hd h0 hp hb
    obtain ⟨i1, i2, i3, c, c1, c2⟩ := hS_ok hi k P (by omega) h0
    have hk8 : k < 8 := by omega
    obtain ⟨g1, g2, g3, g4, g5, g6, g7, g8⟩ := hi.2.2.2.2.2.1 k (by omega)
    rw [nRg_iff] at g5 g6
    obtain ⟨t1, t2, t3, t4⟩ := hp.2.2 k hk8
    have w1 : s.1 14 k = nI (qn Q (41 + 4 * k)) := t1.trans g1
    have w2 : s.1 16 k = nI (qn Q (42 + 4 * k)) := t2.trans g2
    have w3 : s.1 18 k = nI (qn Q (43 + 4 * k)) := t3.trans g3
    have hpk := i1.2.2.2.2.1 k (by omega)
    obtain ⟨s1, wo, hfd⟩ := c_find22 (s := s) (k := k) (x := qn Q (41 + 4 * k)) (y := qn Q (42 + 4 * k)) (o := qn Q (43 + 4 * k)) hb hpk hk8 (by omega) (by omega) (by omega)
    rcases hfd with ⟨n, p, hres, hev, hb1, hw⟩ | ⟨hno, hev, hb1⟩
    · obtain ⟨n60, hp2, hR2⟩ := wR_ok hpk hres
      obtain ⟨s2, wo2, hb2, hfw⟩ := e8_followWay22 (s := s1) i1 (by omega) n60 hp2 hR2 (bRel_fr (fun i a b => wo.1 i (by omega)) hb) hw hb1
      have ox : Sx 0 s s2 := Sx_tr (Sx_123 wo) (Sx_22 wo2)
      have hih := ih (k + 1) s2 (fQ P (qn P 7) k (qn P (9 + 4 * k)) (qn P (10 + 4 * k)) (qn P 0) p n) (by omega) ⟨P, n, p, h0, hres, rfl⟩ (pRel_Sx ox hp) hb2
      refine R1 (g' := (40, _, _, _, _, _)) rfl rfl ?_
      refine R1 (g' := (41, _, _, _, _, _)) rfl rfl ?_
      refine R_cgeN 111 (k) (N) rfl rfl (rfl) (rfl) (by omega) (by omega) (fun h => by omega) (fun h41 => ?_)
      refine R1 (g' := (45, _, _, _, _, _)) rfl rfl ?_
      refine R_getf rfl rfl (Nat.le_of_ble_eq_true rfl) rfl rfl ?_
      refine R1 (g' := (49, _, _, _, _, _)) rfl rfl ?_
      refine R_getf rfl rfl (Nat.le_of_ble_eq_true rfl) rfl rfl ?_
      refine R_getf rfl rfl (Nat.le_of_ble_eq_true rfl) rfl rfl ?_
      refine R1 (g' := (56, _, _, _, _, _)) rfl rfl ?_
      refine R1 (g' := (57, _, _, _, _, _)) rfl rfl ?_
      refine R_getf rfl rfl (Nat.le_of_ble_eq_true rfl) rfl rfl ?_
      refine R1 (g' := (61, _, _, _, _, _)) rfl rfl ?_
      refine R_call2 (Or.inr (Or.inl ⟨rfl, rfl⟩)) rfl rfl ⟨Nat.le_of_ble_eq_true rfl, Nat.le_of_ble_eq_true rfl⟩ (Nat.le_of_ble_eq_true rfl) ⟨rfl, rfl⟩ (⟨⟨_, _, _, rfl, (Nat.le_of_ble_eq_true rfl), rfl⟩, e_Row_get xsta_1.2.2.2.2.2.1 (by decide) hk8⟩) ?_
      rw [w1]
      refine R1 (g' := (65, _, _, _, _, _)) rfl rfl ?_
      refine R_getf rfl rfl (Nat.le_of_ble_eq_true rfl) rfl rfl ?_
      refine R1 (g' := (69, _, _, _, _, _)) rfl rfl ?_
      refine R_call2 (Or.inr (Or.inl ⟨rfl, rfl⟩)) rfl rfl ⟨Nat.le_of_ble_eq_true rfl, Nat.le_of_ble_eq_true rfl⟩ (Nat.le_of_ble_eq_true rfl) ⟨rfl, rfl⟩ (⟨⟨_, _, _, rfl, (Nat.le_of_ble_eq_true rfl), rfl⟩, e_Row_get xsta_1.2.2.2.2.2.2.1 (by decide) hk8⟩) ?_
      rw [w2]
      refine R1 (g' := (73, _, _, _, _, _)) rfl rfl ?_
      refine R_getf rfl rfl (Nat.le_of_ble_eq_true rfl) rfl rfl ?_
      refine R1 (g' := (77, _, _, _, _, _)) rfl rfl ?_
      refine R_call2 (Or.inr (Or.inl ⟨rfl, rfl⟩)) rfl rfl ⟨Nat.le_of_ble_eq_true rfl, Nat.le_of_ble_eq_true rfl⟩ (Nat.le_of_ble_eq_true rfl) ⟨rfl, rfl⟩ (⟨⟨_, _, _, rfl, (Nat.le_of_ble_eq_true rfl), rfl⟩, e_Row_get xsta_1.2.2.2.2.2.2.2.1 (by decide) hk8⟩) ?_
      rw [w3]
      refine R_call6 (Or.inr (Or.inl ⟨rfl, rfl⟩)) rfl rfl ⟨Nat.le_of_ble_eq_true rfl, Nat.le_of_ble_eq_true rfl⟩ (Nat.le_of_ble_eq_true rfl) ⟨rfl, rfl⟩ (⟨⟨_, _, _, rfl, (Nat.le_of_ble_eq_true rfl), rfl⟩, hev⟩) ?_
      refine R1 (g' := (85, _, _, _, _, _)) rfl rfl ?_
      refine R1 (g' := (87, _, _, _, _, _)) rfl rfl ?_
      refine R1 (g' := (88, _, .int (-1) :: _, _, _, _)) rfl rfl ?_
      refine R_cne 93 rfl rfl (fun h88 => ?_) (fun h => by exact absurd h (nIm1 (by omega)))
      refine R1 (g' := (94, _, _, _, _, _)) rfl rfl ?_
      refine R1 (g' := (95, _, _, _, _, _)) rfl rfl ?_
      refine R_getf rfl rfl (Nat.le_of_ble_eq_true rfl) rfl rfl ?_
      refine R_getf rfl rfl (Nat.le_of_ble_eq_true rfl) rfl rfl ?_
      refine R1 (g' := (102, _, _, _, _, _)) rfl rfl ?_
      refine R_call3 (Or.inr (Or.inl ⟨rfl, rfl⟩)) rfl rfl ⟨Nat.le_of_ble_eq_true rfl, Nat.le_of_ble_eq_true rfl⟩ (Nat.le_of_ble_eq_true rfl) ⟨rfl, rfl⟩ (⟨⟨_, _, _, rfl, (Nat.le_of_ble_eq_true rfl), rfl⟩, hfw⟩) ?_
      refine R1 (g' := (108, _, _, _, _, _)) rfl rfl ?_
      refine R1 (g' := (39, _, _, _, _, _)) rfl rfl ?_
      refine R_lv [(3, .int (nI (k + 1))), (2, .int (nI N)), (1, .ref 12), (0, .ref 0)] rfl (List.forall_mem_cons.mpr ⟨by rw [nI_succ k]; rfl, List.forall_mem_cons.mpr ⟨rfl, List.forall_mem_cons.mpr ⟨rfl, List.forall_mem_cons.mpr ⟨rfl, fun _ h => absurd h List.not_mem_nil⟩⟩⟩⟩) ⟨rfl, rfl⟩ ?_
      exact xRun_imp hih (fun o w z => htc_tr ox z)
    · refine R1 (g' := (40, _, _, _, _, _)) rfl rfl ?_
      refine R1 (g' := (41, _, _, _, _, _)) rfl rfl ?_
      refine R_cgeN 111 (k) (N) rfl rfl (rfl) (rfl) (by omega) (by omega) (fun h => by omega) (fun h41 => ?_)
      refine R1 (g' := (45, _, _, _, _, _)) rfl rfl ?_
      refine R_getf rfl rfl (Nat.le_of_ble_eq_true rfl) rfl rfl ?_
      refine R1 (g' := (49, _, _, _, _, _)) rfl rfl ?_
      refine R_getf rfl rfl (Nat.le_of_ble_eq_true rfl) rfl rfl ?_
      refine R_getf rfl rfl (Nat.le_of_ble_eq_true rfl) rfl rfl ?_
      refine R1 (g' := (56, _, _, _, _, _)) rfl rfl ?_
      refine R1 (g' := (57, _, _, _, _, _)) rfl rfl ?_
      refine R_getf rfl rfl (Nat.le_of_ble_eq_true rfl) rfl rfl ?_
      refine R1 (g' := (61, _, _, _, _, _)) rfl rfl ?_
      refine R_call2 (Or.inr (Or.inl ⟨rfl, rfl⟩)) rfl rfl ⟨Nat.le_of_ble_eq_true rfl, Nat.le_of_ble_eq_true rfl⟩ (Nat.le_of_ble_eq_true rfl) ⟨rfl, rfl⟩ (⟨⟨_, _, _, rfl, (Nat.le_of_ble_eq_true rfl), rfl⟩, e_Row_get xsta_1.2.2.2.2.2.1 (by decide) hk8⟩) ?_
      rw [w1]
      refine R1 (g' := (65, _, _, _, _, _)) rfl rfl ?_
      refine R_getf rfl rfl (Nat.le_of_ble_eq_true rfl) rfl rfl ?_
      refine R1 (g' := (69, _, _, _, _, _)) rfl rfl ?_
      refine R_call2 (Or.inr (Or.inl ⟨rfl, rfl⟩)) rfl rfl ⟨Nat.le_of_ble_eq_true rfl, Nat.le_of_ble_eq_true rfl⟩ (Nat.le_of_ble_eq_true rfl) ⟨rfl, rfl⟩ (⟨⟨_, _, _, rfl, (Nat.le_of_ble_eq_true rfl), rfl⟩, e_Row_get xsta_1.2.2.2.2.2.2.1 (by decide) hk8⟩) ?_
      rw [w2]
      refine R1 (g' := (73, _, _, _, _, _)) rfl rfl ?_
      refine R_getf rfl rfl (Nat.le_of_ble_eq_true rfl) rfl rfl ?_
      refine R1 (g' := (77, _, _, _, _, _)) rfl rfl ?_
      refine R_call2 (Or.inr (Or.inl ⟨rfl, rfl⟩)) rfl rfl ⟨Nat.le_of_ble_eq_true rfl, Nat.le_of_ble_eq_true rfl⟩ (Nat.le_of_ble_eq_true rfl) ⟨rfl, rfl⟩ (⟨⟨_, _, _, rfl, (Nat.le_of_ble_eq_true rfl), rfl⟩, e_Row_get xsta_1.2.2.2.2.2.2.2.1 (by decide) hk8⟩) ?_
      rw [w3]
      refine R_call6 (Or.inr (Or.inl ⟨rfl, rfl⟩)) rfl rfl ⟨Nat.le_of_ble_eq_true rfl, Nat.le_of_ble_eq_true rfl⟩ (Nat.le_of_ble_eq_true rfl) ⟨rfl, rfl⟩ (⟨⟨_, _, _, rfl, (Nat.le_of_ble_eq_true rfl), rfl⟩, hev⟩) ?_
      refine R1 (g' := (85, _, _, _, _, _)) rfl rfl ?_
      refine R1 (g' := (87, _, _, _, _, _)) rfl rfl ?_
      refine R1 (g' := (88, _, .int (-1) :: _, _, _, _)) rfl rfl ?_
      refine R_cne 93 rfl rfl (fun h => by exact absurd rfl h) (fun h88 => ?_)
      refine R1 (g' := (92, _, .int (-1) :: _, _, _, _)) rfl rfl ?_
      refine R_iret rfl ?_
      exact ⟨s1, rfl, Sx_123 wo, Or.inr ⟨k, P, by omega, h0, hno, rfl⟩⟩
theorem e8_hts {s : xs} {Q : Nat → Int32} (hp : pRel s 1 Q) (hi : pInv Q) : ∃ v s', Sx 0 s s' ∧ hRs Q (min (qn Q 7) (qn Q 8)) (.inl (some (.int v))) ∧ Ev_X8_heatsToSteps [.ref 0] (wd s) (.inl (some (.int v))) (wd s') := by
  have n8 := hi.1.2.2
  have m8 := hi.2.1.2
  have i7 : s.1 2 0 = nI (qn Q 7) := hp.1.1.1.trans hi.1.1
  have i8 : s.1 12 0 = nI (qn Q 8) := hp.2.1.trans hi.2.1.1
  have ox : Sx 0 s (sStCopy s 21 1) := Sx_cp
  have hp21 : pRel (sStCopy s 21 1) 21 Q := pRel_copy (by decide) hp
  have f7 : (sStCopy s 21 1).1 2 0 = nI (qn Q 7) := by rw [sStCopy_out.1 2 (by decide)]; exact i7
  have f8 : (sStCopy s 21 1).1 12 0 = nI (qn Q 8) := by rw [sStCopy_out.1 12 (by decide)]; exact i8
  have hl := hts_loop hi (Nat.min_le_left (qn Q 7) (qn Q 8)) (Nat.min_le_right (qn Q 7) (qn Q 8)) (min (qn Q 7) (qn Q 8)) 0 (sStCopy s 21 1) Q (Nat.zero_add _) rfl (pRel_Sx ox hp) hp21.1
  have hrun : xRun M_X8_heatsToSteps (htc s Q (min (qn Q 7) (qn Q 8))) (0, xarg 0 [.ref 0], [], wd s, 0, 0) := by
    refine R1 (g' := (1, _, _, _, _, _)) rfl rfl ?_
    refine R_getf rfl rfl (Nat.le_of_ble_eq_true rfl) rfl rfl ?_
    refine R1 (g' := (5, _, _, _, _, _)) rfl rfl ?_
    refine R_getf rfl rfl (Nat.le_of_ble_eq_true rfl) rfl rfl ?_
    refine R_call2 (Or.inr (Or.inl ⟨rfl, rfl⟩)) rfl rfl ⟨Nat.le_of_ble_eq_true rfl, Nat.le_of_ble_eq_true rfl⟩ (Nat.le_of_ble_eq_true rfl) ⟨rfl, rfl⟩ (⟨⟨_, _, _, rfl, (Nat.le_of_ble_eq_true rfl), rfl⟩, e_stCopy xsta_21 xsta_1⟩) ?_
    refine R1 (g' := (12, _, _, _, _, _)) rfl rfl ?_
    refine R_getf rfl rfl (Nat.le_of_ble_eq_true rfl) rfl rfl ?_
    refine R_getf rfl rfl (Nat.le_of_ble_eq_true rfl) rfl rfl ?_
    refine R1 (g' := (19, _, _, _, _, _)) rfl rfl ?_
    refine R1 (g' := (20, _, _, _, _, _)) rfl rfl ?_
    refine R_getf rfl rfl (Nat.le_of_ble_eq_true rfl) rfl rfl ?_
    refine R_getf rfl rfl (Nat.le_of_ble_eq_true rfl) rfl rfl ?_
    refine R_getf rfl rfl (Nat.le_of_ble_eq_true rfl) rfl rfl ?_
    rw [f7]
    refine R1 (g' := (30, _, _, _, _, _)) rfl rfl ?_
    refine R_getf rfl rfl (Nat.le_of_ble_eq_true rfl) rfl rfl ?_
    rw [f8]
    refine R_call2 (Or.inl ⟨rfl, rfl⟩) rfl rfl ⟨Nat.le_of_ble_eq_true rfl, Nat.le_of_ble_eq_true rfl⟩ (Nat.le_of_ble_eq_true rfl) ⟨rfl, rfl⟩ (⟨_, _, rfl, rfl, rfl⟩) ?_
    rw [nI_min (by omega) (by omega)]
    refine R1 (g' := (37, _, _, _, _, _)) rfl rfl ?_
    refine R1 (g' := (38, _, .int (nI 0) :: _, _, _, _)) rfl rfl ?_
    refine R1 (g' := (39, _, _, _, _, _)) rfl rfl ?_
    refine R_lv [(3, .int (nI 0)), (2, .int (nI (min (qn Q 7) (qn Q 8)))), (1, .ref 12), (0, .ref 0)] rfl (List.forall_mem_cons.mpr ⟨rfl, List.forall_mem_cons.mpr ⟨rfl, List.forall_mem_cons.mpr ⟨rfl, List.forall_mem_cons.mpr ⟨rfl, fun _ h => absurd h List.not_mem_nil⟩⟩⟩⟩) ⟨rfl, rfl⟩ ?_
    exact xRun_imp hl (fun o w z => htc_tr ox z)
  obtain ⟨o1, w1, ⟨s', rfl, sx, hr⟩, hev⟩ := xEv_ex (ret := some .int) (Nat.le_of_ble_eq_true rfl) (fun o w z => by
    obtain ⟨s', rfl, sx, hr⟩ := z
    obtain ⟨v, rfl⟩ := hRs_i hr
    exact ⟨Nat.le_refl _, Or.inl rfl⟩) hrun
  obtain ⟨v, rfl⟩ := hRs_i hr
  exact ⟨v, s', sx, hr, hev⟩
/-! the reference -/
def hT0 (s : xs) : xs := setP s 144 (va_cpy (s.1 143) (s.1 144) 0 0 73)
def htr (s : xs) (Q : Nat → Int32) (N : Nat) (o1 : xO) (w1 : xw) : Prop := ∃ s', w1 = wd s' ∧ Sw s s' ∧ s'.1 142 6 = s.1 142 6 ∧ hRs Q N o1
theorem ht9_end {s S : xs} {Q : Nat → Int32} {N p : Nat} {z : Int32} (hx : hX (hT0 s) S) (hr : hRs Q N (.inl (some (.int z)))) : xRun M_X9_heatsToStepsNow (htr s Q N) (101, [(2, .int (nI p)), (1, .int z), (0, .ref 142)], [], wd S, 0, 0) := by
  have hbr := e9_bring (s := S) (a := 0) (b := 0) xpg_p xpg_m (by decide) (by decide) (by decide)
  obtain ⟨sw, sw6⟩ := Sw_back hx
  refine R1 (g' := (102, _, _, _, _, _)) rfl rfl ?_
  refine R_getf rfl rfl (Nat.le_of_ble_eq_true rfl) rfl rfl ?_
  refine R1 (g' := (106, _, .int (nI 0) :: _, _, _, _)) rfl rfl ?_
  refine R1 (g' := (107, _, _, _, _, _)) rfl rfl ?_
  refine R_getf rfl rfl (Nat.le_of_ble_eq_true rfl) rfl rfl ?_
  refine R1 (g' := (111, _, .int (nI 0) :: _, _, _, _)) rfl rfl ?_
  refine R_call4 (Or.inl ⟨rfl, rfl⟩) rfl rfl ⟨Nat.le_of_ble_eq_true rfl, Nat.le_of_ble_eq_true rfl⟩ (Nat.le_of_ble_eq_true rfl) ⟨rfl, rfl⟩ (hbr) ?_
  refine R1 (g' := (115, _, _, _, _, _)) rfl rfl ?_
  refine R_iret rfl ?_
  exact ⟨_, rfl, sw, sw6, hr⟩
theorem ht9_no {s S : xs} {Q : Nat → Int32} {N p n m : Nat} (hx : hX (hT0 s) S) (hr : hRs Q N (.inl (some (.int (-1))))) (i7 : S.1 143 7 = nI n) (i8 : S.1 143 8 = nI m) (hn : n < 2 ^ 20) (hm : m < 2 ^ 20) (hpp : p < 2 ^ 20) : xRun M_X9_heatsToStepsNow (htr s Q N) (17, [(2, .int (nI p)), (1, .int (-1)), (0, .ref 142)], [], wd S, 0, 0) := by
  refine R1 (g' := (18, _, _, _, _, _)) rfl rfl ?_
  refine R1 (g' := (19, _, _, _, _, _)) rfl rfl ?_
  refine R_getf rfl rfl (Nat.le_of_ble_eq_true rfl) rfl rfl ?_
  refine R1 (g' := (24, _, .int (nI 7) :: _, _, _, _)) rfl rfl ?_
  refine R_iald 7 rfl (Nat.le_of_ble_eq_true rfl) rfl (by decide) (by decide) rfl ?_
  rw [i7]
  refine R_cgeN 101 (p) (n) rfl rfl (rfl) (rfl) (by omega) (by omega) (fun h25 => ?_) (fun h25 => ?_)
  · exact ht9_end hx hr
  · refine R1 (g' := (29, _, _, _, _, _)) rfl rfl ?_
    refine R1 (g' := (30, _, _, _, _, _)) rfl rfl ?_
    refine R_getf rfl rfl (Nat.le_of_ble_eq_true rfl) rfl rfl ?_
    refine R1 (g' := (35, _, .int (nI 8) :: _, _, _, _)) rfl rfl ?_
    refine R_iald 8 rfl (Nat.le_of_ble_eq_true rfl) rfl (by decide) (by decide) rfl ?_
    rw [i8]
    refine R_cgeN 101 (p) (m) rfl rfl (rfl) (rfl) (by omega) (by omega) (fun h36 => ?_) (fun h36 => ?_)
    · exact ht9_end hx hr
    · refine R1 (g' := (40, _, _, _, _, _)) rfl rfl ?_
      refine R1 (g' := (41, _, .int (-1) :: _, _, _, _)) rfl rfl ?_
      refine R_ceq 101 rfl rfl (fun h41 => ?_) (fun h => by exact absurd rfl h)
      exact ht9_end hx hr
theorem i32_a (a b : Int32) : a + b - a = b := by rw [Int32.add_comm, Int32.add_sub_cancel]
theorem hts9_loop {s : xs} {Q : Nat → Int32} {N : Nat} (hi : pInv Q) (hN : N = min (qn Q 7) (qn Q 8)) : ∀ (d k : Nat) (S : xs) (P : Nat → Int32), k + d = N → hS Q k P → S.1 143 = P → hX (hT0 s) S → xRun M_X9_heatsToStepsNow (htr s Q N) (17, [(2, .int (nI k)), (1, .int (P 2 - Q 2)), (0, .ref 142)], [], wd S, 0, 0) := by
  have n8 := hi.1.2.2
  have m8 := hi.2.1.2
  intro d
  induction d with
  | zero =>
    intro k S P hd h0 eS hx
    obtain rfl : k = N := by omega
    obtain ⟨i1, i2, i3, c, c1, c2⟩ := hS_ok hi k P (by omega) h0
    have i7 : S.1 143 7 = nI (qn Q 7) := by rw [eS, i1.1.1, i2]
    have i8 : S.1 143 8 = nI (qn Q 8) := by rw [eS, i3 8 (Or.inl rfl)]; exact hi.2.1.1
    have hr : hRs Q k (.inl (some (.int (P 2 - Q 2)))) := Or.inl ⟨P, h0, rfl⟩
    refine R1 (g' := (18, _, _, _, _, _)) rfl rfl ?_
    refine R1 (g' := (19, _, _, _, _, _)) rfl rfl ?_
    refine R_getf rfl rfl (Nat.le_of_ble_eq_true rfl) rfl rfl ?_
    refine R1 (g' := (24, _, .int (nI 7) :: _, _, _, _)) rfl rfl ?_
    refine R_iald 7 rfl (Nat.le_of_ble_eq_true rfl) rfl (by decide) (by decide) rfl ?_
    rw [i7]
    refine R_cgeN 101 (k) (qn Q 7) rfl rfl (rfl) (rfl) (by omega) (by omega) (fun h25 => ?_) (fun h25 => ?_)
    · exact ht9_end hx hr
    · refine R1 (g' := (29, _, _, _, _, _)) rfl rfl ?_
      refine R1 (g' := (30, _, _, _, _, _)) rfl rfl ?_
      refine R_getf rfl rfl (Nat.le_of_ble_eq_true rfl) rfl rfl ?_
      refine R1 (g' := (35, _, .int (nI 8) :: _, _, _, _)) rfl rfl ?_
      refine R_iald 8 rfl (Nat.le_of_ble_eq_true rfl) rfl (by decide) (by decide) rfl ?_
      rw [i8]
      refine R_cgeN 101 (k) (qn Q 8) rfl rfl (rfl) (rfl) (by omega) (by omega) (fun h36 => ?_) (fun h => by omega)
      exact ht9_end hx hr
  | succ d ih =>
    intro k S P hd h0 eS hx
    obtain ⟨i1, i2, i3, c, c1, c2⟩ := hS_ok hi k P (by omega) h0
    have i7 : S.1 143 7 = nI (qn Q 7) := by rw [eS, i1.1.1, i2]
    have i8 : S.1 143 8 = nI (qn Q 8) := by rw [eS, i3 8 (Or.inl rfl)]; exact hi.2.1.1
    have hs : P 2 - Q 2 = nI c := by rw [c2, i32_a]
    obtain ⟨g1, g2, g3, g4, g5, g6, g7, g8⟩ := hi.2.2.2.2.2.1 k (by omega)
    rw [nRg_iff] at g5 g6
    have w1 : P (41 + 4 * k) = nI (qn Q (41 + 4 * k)) := (i3 _ (Or.inr (by omega))).trans g1
    have w2 : P (41 + 4 * k + 1) = nI (qn Q (42 + 4 * k)) := by rw [i3 _ (Or.inr (by omega)), show 41 + 4 * k + 1 = 42 + 4 * k by omega]; exact g2
    have w3 : P (41 + 4 * k + 2) = nI (qn Q (43 + 4 * k)) := by rw [i3 _ (Or.inr (by omega)), show 41 + 4 * k + 2 = 43 + 4 * k by omega]; exact g3
    obtain ⟨S2, hx2, hhf⟩ := r_heatsFor (s := S) (k := k) (x := qn Q (41 + 4 * k)) (y := qn Q (42 + 4 * k)) (o := qn Q (43 + 4 * k)) i1 eS (by omega) (by omega) (by omega) (by omega)
    rcases hhf with ⟨n, p, hres, hev, hq2⟩ | ⟨hno, hev, hq2⟩
    · have h1 : hS Q (k + 1) (fQ P (qn P 7) k (qn P (9 + 4 * k)) (qn P (10 + 4 * k)) (qn P 0) p n) := ⟨P, n, p, h0, hres, rfl⟩
      obtain ⟨j1, j2, j3, c', c1', c2'⟩ := hS_ok hi (k + 1) _ (by omega) h1
      obtain ⟨n60, hp2, hR2⟩ := wR_ok (i1.2.2.2.2.1 k (by omega)) hres
      obtain ⟨f1, f2, f3, f4, f5, f6, c3, c3', c4⟩ := fQ_ok i1 (show k < qn P 7 by omega) hR2 n (Nat.le_refl _)
      have hs2 : (fQ P (qn P 7) k (qn P (9 + 4 * k)) (qn P (10 + 4 * k)) (qn P 0) p n) 2 - P 2 = nI c3 := by rw [c4, i32_a]
      have hsum : P 2 - Q 2 + ((fQ P (qn P 7) k (qn P (9 + 4 * k)) (qn P (10 + 4 * k)) (qn P 0) p n) 2 - P 2) = (fQ P (qn P 7) k (qn P (9 + 4 * k)) (qn P (10 + 4 * k)) (qn P 0) p n) 2 - Q 2 := by rw [hs, hs2, c4, c2, Int32.add_assoc, i32_a]
      have hih := ih (k + 1) S2 _ (by omega) h1 hq2 (hX_tr hx hx2)
      refine R1 (g' := (18, _, _, _, _, _)) rfl rfl ?_
      refine R1 (g' := (19, _, _, _, _, _)) rfl rfl ?_
      refine R_getf rfl rfl (Nat.le_of_ble_eq_true rfl) rfl rfl ?_
      refine R1 (g' := (24, _, .int (nI 7) :: _, _, _, _)) rfl rfl ?_
      refine R_iald 7 rfl (Nat.le_of_ble_eq_true rfl) rfl (by decide) (by decide) rfl ?_
      rw [i7]
      refine R_cgeN 101 (k) (qn Q 7) rfl rfl (rfl) (rfl) (by omega) (by omega) (fun h => by omega) (fun h25 => ?_)
      refine R1 (g' := (29, _, _, _, _, _)) rfl rfl ?_
      refine R1 (g' := (30, _, _, _, _, _)) rfl rfl ?_
      refine R_getf rfl rfl (Nat.le_of_ble_eq_true rfl) rfl rfl ?_
      refine R1 (g' := (35, _, .int (nI 8) :: _, _, _, _)) rfl rfl ?_
      refine R_iald 8 rfl (Nat.le_of_ble_eq_true rfl) rfl (by decide) (by decide) rfl ?_
      rw [i8]
      refine R_cgeN 101 (k) (qn Q 8) rfl rfl (rfl) (rfl) (by omega) (by omega) (fun h => by omega) (fun h36 => ?_)
      refine R1 (g' := (40, _, _, _, _, _)) rfl rfl ?_
      refine R1 (g' := (41, _, .int (-1) :: _, _, _, _)) rfl rfl ?_
      refine R_ceq 101 rfl rfl (fun h => by exact absurd h (by rw [hs]; exact nIm1 (by omega))) (fun h41 => ?_)
      refine R1 (g' := (46, _, .int (nI 41) :: _, _, _, _)) rfl rfl ?_
      refine R1 (g' := (47, _, .int (nI 4) :: _, _, _, _)) rfl rfl ?_
      refine R1 (g' := (48, _, _, _, _, _)) rfl rfl ?_
      refine R1 (g' := (49, _, _, _, _, _)) rfl rfl ?_
      rw [pk_mul]
      refine R1 (g' := (50, _, _, _, _, _)) rfl rfl ?_
      rw [nI_add]
      refine R1 (g' := (51, _, _, _, _, _)) rfl rfl ?_
      refine R1 (g' := (52, _, _, _, _, _)) rfl rfl ?_
      refine R1 (g' := (53, _, _, _, _, _)) rfl rfl ?_
      refine R1 (g' := (54, _, _, _, _, _)) rfl rfl ?_
      refine R_getf rfl rfl (Nat.le_of_ble_eq_true rfl) rfl rfl ?_
      refine R1 (g' := (58, _, _, _, _, _)) rfl rfl ?_
      refine R_iald (41 + 4 * k) rfl (Nat.le_of_ble_eq_true rfl) rfl (by omega) (by decide) rfl ?_
      rw [eS, w1]
      refine R1 (g' := (60, _, _, _, _, _)) rfl rfl ?_
      refine R_getf rfl rfl (Nat.le_of_ble_eq_true rfl) rfl rfl ?_
      refine R1 (g' := (64, _, _, _, _, _)) rfl rfl ?_
      refine R1 (g' := (65, _, .int (nI 1) :: _, _, _, _)) rfl rfl ?_
      refine R1 (g' := (66, _, _, _, _, _)) rfl rfl ?_
      rw [nI_add]
      refine R_iald (41 + 4 * k + 1) rfl (Nat.le_of_ble_eq_true rfl) rfl (by omega) (by decide) rfl ?_
      rw [eS, w2]
      refine R1 (g' := (68, _, _, _, _, _)) rfl rfl ?_
      refine R_getf rfl rfl (Nat.le_of_ble_eq_true rfl) rfl rfl ?_
      refine R1 (g' := (72, _, _, _, _, _)) rfl rfl ?_
      refine R1 (g' := (73, _, .int (nI 2) :: _, _, _, _)) rfl rfl ?_
      refine R1 (g' := (74, _, _, _, _, _)) rfl rfl ?_
      rw [nI_add]
      refine R_iald (41 + 4 * k + 2) rfl (Nat.le_of_ble_eq_true rfl) rfl (by omega) (by decide) rfl ?_
      rw [eS, w3]
      refine R_call5 (Or.inr (Or.inl ⟨rfl, rfl⟩)) rfl rfl ⟨Nat.le_of_ble_eq_true rfl, Nat.le_of_ble_eq_true rfl⟩ (Nat.le_of_ble_eq_true rfl) ⟨rfl, rfl⟩ (⟨⟨_, _, _, rfl, (Nat.le_of_ble_eq_true rfl), rfl⟩, hev⟩) ?_
      refine R1 (g' := (80, _, _, _, _, _)) rfl rfl ?_
      refine R1 (g' := (82, _, _, _, _, _)) rfl rfl ?_
      refine R1 (g' := (83, _, .int (-1) :: _, _, _, _)) rfl rfl ?_
      refine R_cne 90 rfl rfl (fun h83 => ?_) (fun h => by exact absurd h (by rw [hs2]; exact nIm1 (by omega)))
      refine R1 (g' := (91, _, _, _, _, _)) rfl rfl ?_
      refine R1 (g' := (93, _, _, _, _, _)) rfl rfl ?_
      refine R1 (g' := (94, _, _, _, _, _)) rfl rfl ?_
      rw [hsum]
      refine R1 (g' := (95, _, _, _, _, _)) rfl rfl ?_
      refine R1 (g' := (98, _, _, _, _, _)) rfl rfl ?_
      refine R1 (g' := (17, _, _, _, _, _)) rfl rfl ?_
      refine R_lv [(2, .int (nI (k + 1))), (1, .int ((fQ P (qn P 7) k (qn P (9 + 4 * k)) (qn P (10 + 4 * k)) (qn P 0) p n) 2 - Q 2)), (0, .ref 142)] rfl (List.forall_mem_cons.mpr ⟨by rw [nI_succ k]; rfl, List.forall_mem_cons.mpr ⟨rfl, List.forall_mem_cons.mpr ⟨rfl, fun _ h => absurd h List.not_mem_nil⟩⟩⟩) ⟨rfl, rfl⟩ ?_
      exact hih
    · refine R1 (g' := (18, _, _, _, _, _)) rfl rfl ?_
      refine R1 (g' := (19, _, _, _, _, _)) rfl rfl ?_
      refine R_getf rfl rfl (Nat.le_of_ble_eq_true rfl) rfl rfl ?_
      refine R1 (g' := (24, _, .int (nI 7) :: _, _, _, _)) rfl rfl ?_
      refine R_iald 7 rfl (Nat.le_of_ble_eq_true rfl) rfl (by decide) (by decide) rfl ?_
      rw [i7]
      refine R_cgeN 101 (k) (qn Q 7) rfl rfl (rfl) (rfl) (by omega) (by omega) (fun h => by omega) (fun h25 => ?_)
      refine R1 (g' := (29, _, _, _, _, _)) rfl rfl ?_
      refine R1 (g' := (30, _, _, _, _, _)) rfl rfl ?_
      refine R_getf rfl rfl (Nat.le_of_ble_eq_true rfl) rfl rfl ?_
      refine R1 (g' := (35, _, .int (nI 8) :: _, _, _, _)) rfl rfl ?_
      refine R_iald 8 rfl (Nat.le_of_ble_eq_true rfl) rfl (by decide) (by decide) rfl ?_
      rw [i8]
      refine R_cgeN 101 (k) (qn Q 8) rfl rfl (rfl) (rfl) (by omega) (by omega) (fun h => by omega) (fun h36 => ?_)
      refine R1 (g' := (40, _, _, _, _, _)) rfl rfl ?_
      refine R1 (g' := (41, _, .int (-1) :: _, _, _, _)) rfl rfl ?_
      refine R_ceq 101 rfl rfl (fun h => by exact absurd h (by rw [hs]; exact nIm1 (by omega))) (fun h41 => ?_)
      refine R1 (g' := (46, _, .int (nI 41) :: _, _, _, _)) rfl rfl ?_
      refine R1 (g' := (47, _, .int (nI 4) :: _, _, _, _)) rfl rfl ?_
      refine R1 (g' := (48, _, _, _, _, _)) rfl rfl ?_
      refine R1 (g' := (49, _, _, _, _, _)) rfl rfl ?_
      rw [pk_mul]
      refine R1 (g' := (50, _, _, _, _, _)) rfl rfl ?_
      rw [nI_add]
      refine R1 (g' := (51, _, _, _, _, _)) rfl rfl ?_
      refine R1 (g' := (52, _, _, _, _, _)) rfl rfl ?_
      refine R1 (g' := (53, _, _, _, _, _)) rfl rfl ?_
      refine R1 (g' := (54, _, _, _, _, _)) rfl rfl ?_
      refine R_getf rfl rfl (Nat.le_of_ble_eq_true rfl) rfl rfl ?_
      refine R1 (g' := (58, _, _, _, _, _)) rfl rfl ?_
      refine R_iald (41 + 4 * k) rfl (Nat.le_of_ble_eq_true rfl) rfl (by omega) (by decide) rfl ?_
      rw [eS, w1]
      refine R1 (g' := (60, _, _, _, _, _)) rfl rfl ?_
      refine R_getf rfl rfl (Nat.le_of_ble_eq_true rfl) rfl rfl ?_
      refine R1 (g' := (64, _, _, _, _, _)) rfl rfl ?_
      refine R1 (g' := (65, _, .int (nI 1) :: _, _, _, _)) rfl rfl ?_
      refine R1 (g' := (66, _, _, _, _, _)) rfl rfl ?_
      rw [nI_add]
      refine R_iald (41 + 4 * k + 1) rfl (Nat.le_of_ble_eq_true rfl) rfl (by omega) (by decide) rfl ?_
      rw [eS, w2]
      refine R1 (g' := (68, _, _, _, _, _)) rfl rfl ?_
      refine R_getf rfl rfl (Nat.le_of_ble_eq_true rfl) rfl rfl ?_
      refine R1 (g' := (72, _, _, _, _, _)) rfl rfl ?_
      refine R1 (g' := (73, _, .int (nI 2) :: _, _, _, _)) rfl rfl ?_
      refine R1 (g' := (74, _, _, _, _, _)) rfl rfl ?_
      rw [nI_add]
      refine R_iald (41 + 4 * k + 2) rfl (Nat.le_of_ble_eq_true rfl) rfl (by omega) (by decide) rfl ?_
      rw [eS, w3]
      refine R_call5 (Or.inr (Or.inl ⟨rfl, rfl⟩)) rfl rfl ⟨Nat.le_of_ble_eq_true rfl, Nat.le_of_ble_eq_true rfl⟩ (Nat.le_of_ble_eq_true rfl) ⟨rfl, rfl⟩ (⟨⟨_, _, _, rfl, (Nat.le_of_ble_eq_true rfl), rfl⟩, hev⟩) ?_
      refine R1 (g' := (80, _, _, _, _, _)) rfl rfl ?_
      refine R1 (g' := (82, _, _, _, _, _)) rfl rfl ?_
      refine R1 (g' := (83, _, .int (-1) :: _, _, _, _)) rfl rfl ?_
      refine R_cne 90 rfl rfl (fun h => by exact absurd rfl h) (fun h83 => ?_)
      refine R1 (g' := (87, _, .int (-1) :: _, _, _, _)) rfl rfl ?_
      refine R1 (g' := (94, _, _, _, _, _)) rfl rfl ?_
      refine R1 (g' := (95, _, _, _, _, _)) rfl rfl ?_
      refine R1 (g' := (98, _, _, _, _, _)) rfl rfl ?_
      refine R1 (g' := (17, _, _, _, _, _)) rfl rfl ?_
      refine R_lv [(2, .int (nI (k + 1))), (1, .int (-1)), (0, .ref 142)] rfl (List.forall_mem_cons.mpr ⟨by rw [nI_succ k]; rfl, List.forall_mem_cons.mpr ⟨rfl, List.forall_mem_cons.mpr ⟨rfl, fun _ h => absurd h List.not_mem_nil⟩⟩⟩) ⟨rfl, rfl⟩ ?_
      exact ht9_no (n := qn Q 7) (m := qn Q 8) (hX_tr hx hx2) (Or.inr ⟨k, P, by omega, h0, hno, rfl⟩) (by rw [hq2, ← eS]; exact i7) (by rw [hq2, ← eS]; exact i8) (by omega) (by omega) (by omega)
theorem e9_hts {s : xs} (hi : pInv (s.1 143)) : ∃ v s', Sw s s' ∧ s'.1 142 6 = s.1 142 6 ∧ hRs (s.1 143) (min (qn (s.1 143) 7) (qn (s.1 143) 8)) (.inl (some (.int v))) ∧ Ev_X9_heatsToStepsNow [.ref 142] (wd s) (.inl (some (.int v))) (wd s') := by
  have hbr := e9_bring (s := s) (a := 0) (b := 0) xpg_m xpg_p (by decide) (by decide) (by decide)
  have hl := hts9_loop (s := s) hi rfl (min (qn (s.1 143) 7) (qn (s.1 143) 8)) 0 (hT0 s) (s.1 143) (Nat.zero_add _) rfl (setP_ne _ _ (by decide)) hX_rf
  rw [Int32.sub_self] at hl
  have hrun : xRun M_X9_heatsToStepsNow (htr s (s.1 143) (min (qn (s.1 143) 7) (qn (s.1 143) 8))) (0, xarg 0 [.ref 142], [], wd s, 0, 0) := by
    refine R1 (g' := (1, _, _, _, _, _)) rfl rfl ?_
    refine R_getf rfl rfl (Nat.le_of_ble_eq_true rfl) rfl rfl ?_
    refine R1 (g' := (5, _, .int (nI 0) :: _, _, _, _)) rfl rfl ?_
    refine R1 (g' := (6, _, _, _, _, _)) rfl rfl ?_
    refine R_getf rfl rfl (Nat.le_of_ble_eq_true rfl) rfl rfl ?_
    refine R1 (g' := (10, _, .int (nI 0) :: _, _, _, _)) rfl rfl ?_
    refine R_call4 (Or.inl ⟨rfl, rfl⟩) rfl rfl ⟨Nat.le_of_ble_eq_true rfl, Nat.le_of_ble_eq_true rfl⟩ (Nat.le_of_ble_eq_true rfl) ⟨rfl, rfl⟩ (hbr) ?_
    refine R1 (g' := (14, _, .int (nI 0) :: _, _, _, _)) rfl rfl ?_
    refine R1 (g' := (15, _, _, _, _, _)) rfl rfl ?_
    refine R1 (g' := (16, _, .int (nI 0) :: _, _, _, _)) rfl rfl ?_
    refine R1 (g' := (17, _, _, _, _, _)) rfl rfl ?_
    refine R_lv [(2, .int (nI 0)), (1, .int 0), (0, .ref 142)] rfl (List.forall_mem_cons.mpr ⟨rfl, List.forall_mem_cons.mpr ⟨rfl, List.forall_mem_cons.mpr ⟨rfl, fun _ h => absurd h List.not_mem_nil⟩⟩⟩) ⟨rfl, rfl⟩ ?_
    exact hl
  obtain ⟨o1, w1, ⟨s', rfl, sx, s6, hr⟩, hev⟩ := xEv_ex (ret := some .int) (Nat.le_of_ble_eq_true rfl) (fun o w z => by
    obtain ⟨s', rfl, sx, s6, hr⟩ := z
    obtain ⟨v, rfl⟩ := hRs_i hr
    exact ⟨Nat.le_refl _, Or.inl rfl⟩) hrun
  obtain ⟨v, rfl⟩ := hRs_i hr
  exact ⟨v, s', sx, s6, hr, hev⟩
theorem pr_heatsToSteps {s : xs} (hR : Rl s) : Pair Ev_X8_heatsToSteps Ev_X9_heatsToSteps [.ref 0] [.ref 142] [] s := by
  obtain ⟨v, s1, sx, hr, hev⟩ := e8_hts hR.1 hR.2.1
  have e1 : s1.1 143 = s.1 143 := Sx_q sx (by decide)
  have hR1 : Rl (put s1 142 6 (nI 0)) := Rl_code (Rl_Sx hR sx)
  obtain ⟨v2, s2, sw, s6, hr2, hev2⟩ := e9_hts hR1.2.1
  rw [put6n (by decide), e1] at hr2
  have hv := hRs_eq hR.2.1 (Nat.min_le_left _ _) hr hr2
  cases hv
  refine Pair_t (s1 := s1) (s2 := s2) (v := v) hev ?_ ⟨Rl_Sw hR1 sw, s6.trans put6⟩
  refine ⟨Nat.le_of_ble_eq_true rfl, Nat.le_refl _, Or.inl rfl, ?_⟩
  refine R1 (g' := (1, _, _, _, _, _)) rfl rfl ?_
  refine R1 (g' := (2, _, .int (nI 0) :: _, _, _, _)) rfl rfl ?_
  refine R_put rfl rfl (Nat.le_of_ble_eq_true rfl) rfl (Nat.le_of_ble_eq_true rfl) ⟨_, rfl, Or.inl rfl, _, rfl, rfl⟩ rfl ?_
  change xRun _ _ (5, _, _, wd (put s1 142 6 (nI 0)), _, _)
  refine R1 (g' := (6, _, _, _, _, _)) rfl rfl ?_
  refine R_call1 (Or.inr (Or.inl ⟨rfl, rfl⟩)) rfl rfl ⟨Nat.le_of_ble_eq_true rfl, Nat.le_of_ble_eq_true rfl⟩ (Nat.le_of_ble_eq_true rfl) ⟨rfl, rfl⟩ (⟨⟨_, _, _, rfl, (Nat.le_of_ble_eq_true rfl), rfl⟩, hev2⟩) ?_
  refine R_iret rfl ?_
  exact ⟨rfl, rfl⟩
