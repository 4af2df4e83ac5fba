def itPo (s : xs) (g : Nat → Int32) (L : Nat) (o1 : xO) (w1 : xw) : Prop := ∃ s', w1 = wd s' ∧ rX s s' ∧ ((∃ n, tdone g L n ∧ o1 = .inl (some (.int (bI true)))) ∨ ∃ n e, tfail g L n e ∧ o1 = .inl (some (.int (bI false))) ∧ s'.1 142 13 = nI e)
theorem itPo_tr {s s' : xs} {g : Nat → Int32} {L : Nat} {o1 : xO} {w1 : xw} (h : rX s s') (k : itPo s' g L o1 w1) : itPo s g L o1 w1 := by
  obtain ⟨s2, e, h2, k⟩ := k
  exact ⟨s2, e, rX_tr h h2, k⟩
theorem isText_loop {g : Nat → Int32} {L : Nat} : ∀ (d o : Nat) (s : xs), o + d = 60 → rT s g L (pq g o) → (∀ j, j < o → pok g L j) → xRun M_X9_isText (itPo s g L) (5, [(0, .ref 142)], [], wd s, 0, 0) := by
  intro d
  induction d with
  | zero =>
    intro o s hd h hk
    have := pq_b hk
    have := h.2.2.1
    omega
  | succ d ih =>
    intro o s hd h hk
    have hb := pq_b hk
    have hL := h.2.2.1
    have h0 := h.1
    have h6 := h.2.1
    by_cases hlt : pq g o < L
    · obtain ⟨o1, w1, ⟨s', rfl, hc, hm⟩, hev⟩ := e9_readOrder h (by omega)
      cases hr : pOrd g (pq g o) with
      | inl e =>
        rw [hr] at hm
        obtain ⟨rfl, m7⟩ := hm
        refine R1 (g' := (6, _, _, _, _, _)) rfl rfl ?_
        refine R_getf rfl rfl (Nat.le_of_ble_eq_true rfl) rfl rfl ?_
        refine R1 (g' := (10, _, _, _, _, _)) rfl rfl ?_
        refine R_getf rfl rfl (Nat.le_of_ble_eq_true rfl) rfl rfl ?_
        refine R_cgeN 25 (pq g o) (L) rfl rfl (h6) (h0) (by omega) (by omega) (fun h => by omega) (fun h13 => ?_)
        refine R1 (g' := (17, _, _, _, _, _)) rfl rfl ?_
        refine R_call1 (Or.inr (Or.inl ⟨rfl, rfl⟩)) rfl rfl ⟨Nat.le_of_ble_eq_true rfl, Nat.le_of_ble_eq_true rfl⟩ (Nat.le_of_ble_eq_true rfl) ⟨rfl, rfl⟩ (⟨⟨_, _, _, rfl, (Nat.le_of_ble_eq_true rfl), rfl⟩, hev⟩) ?_
        refine R_ne 5 rfl rfl (fun h => by exact absurd rfl h) (fun h20 => ?_)
        refine R1 (g' := (24, _, .int (nI 0) :: _, _, _, _)) rfl rfl ?_
        refine R_iret rfl ?_
        exact ⟨s', rfl, hc, Or.inr ⟨o, e, ⟨hk, hlt, hr⟩, rfl, m7⟩⟩
      | inr y =>
        obtain ⟨a, b, c, q⟩ := y
        rw [hr] at hm
        obtain ⟨rfl, m6, _⟩ := hm
        have hv := pOrd_val hr
        have hn : pq g (o + 1) = q := by rw [pq, pNx_of hr]
        refine R1 (g' := (6, _, _, _, _, _)) rfl rfl ?_
        refine R_getf rfl rfl (Nat.le_of_ble_eq_true rfl) rfl rfl ?_
        refine R1 (g' := (10, _, _, _, _, _)) rfl rfl ?_
        refine R_getf rfl rfl (Nat.le_of_ble_eq_true rfl) rfl rfl ?_
        refine R_cgeN 25 (pq g o) (L) rfl rfl (h6) (h0) (by omega) (by omega) (fun h => by omega) (fun h13 => ?_)
        refine R1 (g' := (17, _, _, _, _, _)) rfl rfl ?_
        refine R_call1 (Or.inr (Or.inl ⟨rfl, rfl⟩)) rfl rfl ⟨Nat.le_of_ble_eq_true rfl, Nat.le_of_ble_eq_true rfl⟩ (Nat.le_of_ble_eq_true rfl) ⟨rfl, rfl⟩ (⟨⟨_, _, _, rfl, (Nat.le_of_ble_eq_true rfl), rfl⟩, hev⟩) ?_
        refine R_ne 5 rfl rfl (fun h20 => ?_) (fun h => by exact absurd h (by decide))
        refine xRun_imp (ih (o + 1) s' (by omega) (by rw [hn]; exact rT_X h hc m6 (by omega)) (fun j hj => ?_)) (fun _ _ k => itPo_tr hc k)
        rcases Nat.lt_or_ge j o with z | z
        · exact hk j z
        · rw [show j = o by omega]
          exact ⟨hlt, a, b, c, q, hr⟩
    · have hdn : tdone g L o := ⟨hk, by omega⟩
      refine R1 (g' := (6, _, _, _, _, _)) rfl rfl ?_
      refine R_getf rfl rfl (Nat.le_of_ble_eq_true rfl) rfl rfl ?_
      refine R1 (g' := (10, _, _, _, _, _)) rfl rfl ?_
      refine R_getf rfl rfl (Nat.le_of_ble_eq_true rfl) rfl rfl ?_
      refine R_cgeN 25 (pq g o) (L) rfl rfl (h6) (h0) (by omega) (by omega) (fun h13 => ?_) (fun h => by omega)
      refine R1 (g' := (26, _, .int (nI 1) :: _, _, _, _)) rfl rfl ?_
      refine R_iret rfl ?_
      exact ⟨s, rfl, rX_rf, Or.inl ⟨o, hdn, rfl⟩⟩
theorem e9_isText {s : xs} {g : Nat → Int32} {L : Nat} (h0 : s.1 142 5 = nI L) (hL : L ≤ 90) (hg : ∀ i, (if i < L then s.1 146 i else -1) = g i) : ∃ o1 w1, itPo s g L o1 w1 ∧ Ev_X9_isText [.ref 142] (wd s) o1 w1 := by
  refine xEv_ex (Nat.le_of_ble_eq_true rfl) (fun o1 w1 k => ?_) ?_
  · obtain ⟨s', rfl, _, ⟨n, _, rfl⟩ | ⟨n, e, _, rfl, _⟩⟩ := k <;> exact ⟨Nat.le_refl _, Or.inr ⟨rfl, bI_01 _⟩⟩
  have cS : rX s (put s 142 13 (nI 0)) := rX_put rX_rf (by decide) (by decide)
  refine R1 (g' := (1, _, _, _, _, _)) rfl rfl ?_
  refine R1 (g' := (2, _, .int (nI 0) :: _, _, _, _)) rfl rfl ?_
  refine R_put rfl rfl (Nat.le_of_ble_eq_true rfl) rfl (Nat.le_of_ble_eq_true rfl) ⟨_, rfl, Or.inl rfl, _, rfl, rfl⟩ rfl ?_
  change xRun _ _ (5, _, _, wd (put s 142 13 (nI 0)), _, _)
  refine xRun_imp (isText_loop 60 0 _ rfl ⟨(putn (by decide)).trans h0, putv, hL, by show 0 < 1000; decide, ?_⟩ (fun j hj => absurd hj (Nat.not_lt_zero _))) (fun _ _ k => itPo_tr cS k)
  rw [put_ne (q := 146) _ _ (by decide)]
  exact hg
/-! blows and cuts of the class's bar, told by pages -/
def qCanS (Q : Nat → Int32) (k q c : Nat) : Bool := decide (c ≤ nBl (qn Q 0)) && Nat.beq (nLast (qn Q (9 + 4 * k)) (qn Q (10 + 4 * k)) q (qn Q (11 + 4 * k)) c) c
def qDoS (Q : Nat → Int32) (k q c : Nat) : Nat → Int32 := qStrike Q k (nIt (qn Q (9 + 4 * k)) (qn Q (10 + 4 * k)) q c).1 (nIt (qn Q (9 + 4 * k)) (qn Q (10 + 4 * k)) q c).2 (qn Q 0) c
def qCanC (Q : Nat → Int32) (k c : Nat) : Bool := decide (qn Q 7 < 8) && decide (c < qLen Q k)
theorem bRel_sec {s : xs} {p a b : Nat} {Q : Nat → Int32} (h : bRel s p Q) : bRel (sSec s p a b) p Q := by
  unfold bRel
  rw [sSec_ne s p a b (q := p) (by omega), sSec_ne s p a b (q := p + 2) (by omega), sSec_ne s p a b (q := p + 4) (by omega), sSec_ne s p a b (q := p + 6) (by omega), sSec_ne s p a b (q := p + 8) (by omega)]
  exact h
theorem nBl_t {t c : Nat} (h1 : 1 ≤ c) (h : c ≤ nBl t) : 850 + 12 * (c - 1) ≤ t := by
  unfold nBl at h
  split at h <;> omega
theorem c_canStrike {s : xs} {Q : Nat → Int32} {k q c : Nat} (hs : bRel s 2 Q) (hi : pInv Q) (hk : k < qn Q 7) (hq : q ≤ 2) (hc : c < 2 ^ 20) : ∃ s', Ev_X0_canStrike [.ref 2, .int (nI k), .int (nI q), .int (nI c)] (wd s) (.inl (some (.int (bI (qCanS Q k q c))))) (wd s') ∧ bRel s' 2 Q ∧ sOut 2 9 s s' := by
  obtain ⟨⟨i7, i7a, i7b⟩, ⟨i8, i8a⟩, ⟨i0, i0a, i0b⟩, ⟨i1, i1a⟩, iP, iS, i6, i6a, i6b⟩ := id hi
  obtain ⟨p1, p2, p3, p4, p5, p6, p7⟩ := id (iP k hk)
  obtain ⟨r1, r2, r3, r4⟩ := hs.2 k (by omega)
  unfold qCanS
  by_cases hct : c ≤ nBl (qn Q 0)
  · rw [decide_eq_true hct, Bool.true_and]
    exact ⟨_, e_canStrike xbar_2 (hs.1.1.trans i7) i7b hk (r1.trans p1) (r2.trans p2) (r3.trans p3) p4 p5 (by omega) (hs.1.2.1.trans i0) (by omega) hq hct, bRel_sec hs, sOut_set sOut_rf (by decide) (by decide)⟩
  · rw [decide_eq_false hct, Bool.false_and]
    exact ⟨s, e_canStrikeW xbar_2 (hs.1.1.trans i7) i7b hk (hs.1.2.1.trans i0) (by omega) (by omega) (by omega), hs, sOut_rf⟩
theorem qCanS_ok {Q : Nat → Int32} {k q c : Nat} (hi : pInv Q) (hk : k < qn Q 7) (hc1 : 1 ≤ c) (h : qCanS Q k q c = true) : c ≤ nBl (qn Q 0) ∧ 850 + 12 * (c - 1) ≤ qn Q 0 ∧ (∀ j, j ≤ c → nRg (nIt (qn Q (9 + 4 * k)) (qn Q (10 + 4 * k)) q j).1 = true ∧ nRg (nIt (qn Q (9 + 4 * k)) (qn Q (10 + 4 * k)) q j).2 = true) ∧ pInv (qDoS Q k q c) := by
  unfold qCanS at h
  rw [Bool.and_eq_true] at h
  have h1 := of_decide_eq_true h.1
  have h2 := nBl_t hc1 h1
  have h3 := nLast_rg (Nat.eq_of_beq_eq_true h.2) (hi.2.2.2.2.1 k hk).2.2.2.1 (hi.2.2.2.2.1 k hk).2.2.2.2.1
  have h4 := hi.2.2.1.2.2
  exact ⟨h1, h2, h3, i_strike hi hk (h3 c (Nat.le_refl _)).1 (h3 c (Nat.le_refl _)).2 (by omega) h4⟩
theorem c_strike {s : xs} {Q : Nat → Int32} {k q c : Nat} (hs : bRel s 2 Q) (hi : pInv Q) (hk : k < qn Q 7) (hq : q ≤ 2) (hc1 : 1 ≤ c) (hc : c < 2 ^ 20) (h : qCanS Q k q c = true) : ∃ s', Ev_X0_strike [.ref 2, .int (nI k), .int (nI q), .int (nI c)] (wd s) (.inl none) (wd s') ∧ bRel s' 2 (qDoS Q k q c) ∧ sOut 2 9 s s' := by
  obtain ⟨h1, h2, h3, h4⟩ := qCanS_ok hi hk hc1 h
  obtain ⟨⟨i7, i7a, i7b⟩, ⟨i8, i8a⟩, ⟨i0, i0a, i0b⟩, ⟨i1, i1a⟩, iP, iS, i6, i6a, i6b⟩ := id hi
  obtain ⟨p1, p2, p3, p4, p5, p6, p7⟩ := id (iP k hk)
  obtain ⟨r1, r2, r3, r4⟩ := hs.2 k (by omega)
  exact ⟨_, e_strike xbar_2 (by omega) (r1.trans p1) (r2.trans p2) hq hc (fun j hj => h3 j (by omega)), r_strike hs i0 (by omega) (by omega), bOut_strike2⟩
theorem c_canSplit {s : xs} {Q : Nat → Int32} {k c : Nat} (hs : bRel s 2 Q) (hi : pInv Q) (hk : k < qn Q 7) (hc : c < 2 ^ 31) : Ev_X0_canSplit [.ref 2, .int (nI k), .int (nI c)] (wd s) (.inl (some (.int (bI (qCanC Q k c))))) (wd s) := by
  obtain ⟨⟨i7, i7a, i7b⟩, ⟨i8, i8a⟩, ⟨i0, i0a, i0b⟩, ⟨i1, i1a⟩, iP, iS, i6, i6a, i6b⟩ := id hi
  obtain ⟨p1, p2, p3, p4, p5, p6, p7⟩ := id (iP k hk)
  obtain ⟨r1, r2, r3, r4⟩ := hs.2 k (by omega)
  exact e_canSplit xbar_2 (hs.1.1.trans i7) i7b hk (r1.trans p1) (r2.trans p2) (r3.trans p3) p4 p5 (by omega) hc
theorem bOut_split {s : xs} {k n : Nat} {c : Int32} : sOut 2 9 s (sSplit s 2 k n c) := sOut_put (sOut_put (sOut_put ⟨fun i hi => (sUp_out (n - k)).1 i (by omega) (by omega) (by omega) (by omega), (sUp_out (n - k)).2⟩ (by decide) (by decide)) (by decide) (by decide)) (by decide) (by decide)
theorem c_split {s : xs} {Q : Nat → Int32} {k c : Nat} (hs : bRel s 2 Q) (hi : pInv Q) (hk : k < qn Q 7) (hc1 : 1 ≤ c) (h : qCanC Q k c = true) : ∃ s', Ev_X0_split [.ref 2, .int (nI k), .int (nI c)] (wd s) (.inl none) (wd s') ∧ bRel s' 2 (qCut Q k (qn Q 7) (nI c)) ∧ sOut 2 9 s s' ∧ pInv (qCut Q k (qn Q 7) (nI c)) := by
  unfold qCanC at h
  rw [Bool.and_eq_true] at h
  have h8 := of_decide_eq_true h.1
  have hl := of_decide_eq_true h.2
  exact ⟨_, e_split xbar_2 (hs.1.1.trans hi.1.1) h8 hk, r_cut hs hi.1.1 h8 hk, bOut_split, i_cut hi hk h8 hc1 hl⟩
def qOk (Q : Nat → Int32) (a b c : Nat) : Bool := if a = 3 then true else decide (b < qn Q 7) && (if a = 4 then qCanC Q b c else qCanS Q b a c)
def qDo (Q : Nat → Int32) (a b c : Nat) : Nat → Int32 := if a = 3 then qHeat Q (qn Q 7) else if a = 4 then qCut Q b (qn Q 7) (nI c) else qDoS Q b a c
theorem e8_obey {s : xs} {Q : Nat → Int32} {o a b c : Nat} (hs : bRel s 2 Q) (hi : pInv Q) (ho : o < 90) (hA : s.1 135 o = nI a) (hB : a ≠ 3 → s.1 137 o = nI b ∧ s.1 139 o = nI c) (hv : a = 3 ∨ (a = 4 ∧ b < 8 ∧ 1 ≤ c ∧ c ≤ 9999) ∨ (a ≤ 2 ∧ b < 8 ∧ 1 ≤ c ∧ c ≤ 60)) : ∃ s', Ev_X8_obey [.ref 0, .int (nI o)] (wd s) (.inl (some (.int (bI (qOk Q a b c))))) (wd s') ∧ sOut 2 9 s s' ∧ (qOk Q a b c = true → bRel s' 2 (qDo Q a b c) ∧ pInv (qDo Q a b c)) ∧ (qOk Q a b c = false → bRel s' 2 Q) := by
  have n8 := hi.1.2.2
  have i7 := hs.1.1.trans hi.1.1
  rcases hv with rfl | ⟨rfl, b8, c1, c2⟩ | ⟨a2, b8, c1, c2⟩
  · obtain ⟨w1, w2⟩ := r_heat (n := qn Q 7) hs n8
    refine ⟨sWarm s 2 (qn Q 7), ?_, bOut_warm2, fun _ => ⟨w1, i_heat hi⟩, (fun z => by cases z)⟩
    refine ⟨Nat.le_of_ble_eq_true rfl, Nat.le_refl _, Or.inr ⟨rfl, bI_01 _⟩, ?_⟩
    refine R1 (g' := (1, _, _, _, _, _)) rfl rfl ?_
    refine R_getf rfl rfl (Nat.le_of_ble_eq_true rfl) rfl rfl ?_
    refine R_getf rfl rfl (Nat.le_of_ble_eq_true rfl) rfl rfl ?_
    refine R1 (g' := (8, _, _, _, _, _)) rfl rfl ?_
    refine R_call2 (Or.inr (Or.inl ⟨rfl, rfl⟩)) rfl rfl ⟨Nat.le_of_ble_eq_true rfl, Nat.le_of_ble_eq_true rfl⟩ (Nat.le_of_ble_eq_true rfl) ⟨rfl, rfl⟩ (⟨⟨_, _, _, rfl, (Nat.le_of_ble_eq_true rfl), rfl⟩, e_Row_get xrw_134 (by decide) ho⟩) ?_
    rw [hA]
    refine R1 (g' := (12, _, _, _, _, _)) rfl rfl ?_
    refine R1 (g' := (13, _, _, _, _, _)) rfl rfl ?_
    refine R_getf rfl rfl (Nat.le_of_ble_eq_true rfl) rfl rfl ?_
    refine R_getf rfl rfl (Nat.le_of_ble_eq_true rfl) rfl rfl ?_
    refine R1 (g' := (20, _, _, _, _, _)) rfl rfl ?_
    refine R_call2 (Or.inr (Or.inl ⟨rfl, rfl⟩)) rfl rfl ⟨Nat.le_of_ble_eq_true rfl, Nat.le_of_ble_eq_true rfl⟩ (Nat.le_of_ble_eq_true rfl) ⟨rfl, rfl⟩ (⟨⟨_, _, _, rfl, (Nat.le_of_ble_eq_true rfl), rfl⟩, e_Row_get xrw_136 (by decide) ho⟩) ?_
    refine R1 (g' := (24, _, _, _, _, _)) rfl rfl ?_
    refine R1 (g' := (25, _, _, _, _, _)) rfl rfl ?_
    refine R_getf rfl rfl (Nat.le_of_ble_eq_true rfl) rfl rfl ?_
    refine R_getf rfl rfl (Nat.le_of_ble_eq_true rfl) rfl rfl ?_
    refine R1 (g' := (32, _, _, _, _, _)) rfl rfl ?_
    refine R_call2 (Or.inr (Or.inl ⟨rfl, rfl⟩)) rfl rfl ⟨Nat.le_of_ble_eq_true rfl, Nat.le_of_ble_eq_true rfl⟩ (Nat.le_of_ble_eq_true rfl) ⟨rfl, rfl⟩ (⟨⟨_, _, _, rfl, (Nat.le_of_ble_eq_true rfl), rfl⟩, e_Row_get xrw_138 (by decide) ho⟩) ?_
    refine R1 (g' := (37, _, _, _, _, _)) rfl rfl ?_
    refine R1 (g' := (38, _, _, _, _, _)) rfl rfl ?_
    refine R1 (g' := (39, _, .int (nI 3) :: _, _, _, _)) rfl rfl ?_
    refine R_cneN 55 (3) (3) rfl rfl (rfl) (rfl) (by omega) (by omega) (fun h => by omega) (fun h39 => ?_)
    refine R1 (g' := (43, _, _, _, _, _)) rfl rfl ?_
    refine R_getf rfl rfl (Nat.le_of_ble_eq_true rfl) rfl rfl ?_
    refine R_getf rfl rfl (Nat.le_of_ble_eq_true rfl) rfl rfl ?_
    refine R_call1 (Or.inr (Or.inl ⟨rfl, rfl⟩)) rfl rfl ⟨Nat.le_of_ble_eq_true rfl, Nat.le_of_ble_eq_true rfl⟩ (Nat.le_of_ble_eq_true rfl) ⟨rfl, rfl⟩ (⟨⟨_, _, _, rfl, (Nat.le_of_ble_eq_true rfl), rfl⟩, e_warmUp xbar_2 i7 n8⟩) ?_
    refine R1 (g' := (53, _, _, _, _, _)) rfl rfl ?_
    refine R1 (g' := (54, _, .int (nI 1) :: _, _, _, _)) rfl rfl ?_
    refine R_iret rfl ?_
    exact ⟨rfl, rfl⟩
  · obtain ⟨hb, hc⟩ := hB (by decide)
    have hok : qOk Q 4 b c = (decide (b < qn Q 7) && qCanC Q b c) := rfl
    by_cases hbn : b < qn Q 7
    · rw [decide_eq_true hbn, Bool.true_and] at hok
      have hcs := c_canSplit hs hi hbn (c := c) (by omega)
      rw [← hok] at hcs
      cases hz : qOk Q 4 b c with
      | true =>
        obtain ⟨s', hev, hr, hso, hpi⟩ := c_split hs hi hbn c1 (hok.symm.trans hz)
        refine ⟨s', ?_, hso, fun _ => ⟨hr, hpi⟩, (fun z => absurd z (by decide))⟩
        rw [hz] at hcs
        refine ⟨Nat.le_of_ble_eq_true rfl, Nat.le_refl _, Or.inr ⟨rfl, bI_01 _⟩, ?_⟩
        refine R1 (g' := (1, _, _, _, _, _)) rfl rfl ?_
        refine R_getf rfl rfl (Nat.le_of_ble_eq_true rfl) rfl rfl ?_
        refine R_getf rfl rfl (Nat.le_of_ble_eq_true rfl) rfl rfl ?_
        refine R1 (g' := (8, _, _, _, _, _)) rfl rfl ?_
        refine R_call2 (Or.inr (Or.inl ⟨rfl, rfl⟩)) rfl rfl ⟨Nat.le_of_ble_eq_true rfl, Nat.le_of_ble_eq_true rfl⟩ (Nat.le_of_ble_eq_true rfl) ⟨rfl, rfl⟩ (⟨⟨_, _, _, rfl, (Nat.le_of_ble_eq_true rfl), rfl⟩, e_Row_get xrw_134 (by decide) ho⟩) ?_
        rw [hA]
        refine R1 (g' := (12, _, _, _, _, _)) rfl rfl ?_
        refine R1 (g' := (13, _, _, _, _, _)) rfl rfl ?_
        refine R_getf rfl rfl (Nat.le_of_ble_eq_true rfl) rfl rfl ?_
        refine R_getf rfl rfl (Nat.le_of_ble_eq_true rfl) rfl rfl ?_
        refine R1 (g' := (20, _, _, _, _, _)) rfl rfl ?_
        refine R_call2 (Or.inr (Or.inl ⟨rfl, rfl⟩)) rfl rfl ⟨Nat.le_of_ble_eq_true rfl, Nat.le_of_ble_eq_true rfl⟩ (Nat.le_of_ble_eq_true rfl) ⟨rfl, rfl⟩ (⟨⟨_, _, _, rfl, (Nat.le_of_ble_eq_true rfl), rfl⟩, e_Row_get xrw_136 (by decide) ho⟩) ?_
        rw [hb]
        refine R1 (g' := (24, _, _, _, _, _)) rfl rfl ?_
        refine R1 (g' := (25, _, _, _, _, _)) rfl rfl ?_
        refine R_getf rfl rfl (Nat.le_of_ble_eq_true rfl) rfl rfl ?_
        refine R_getf rfl rfl (Nat.le_of_ble_eq_true rfl) rfl rfl ?_
        refine R1 (g' := (32, _, _, _, _, _)) rfl rfl ?_
        refine R_call2 (Or.inr (Or.inl ⟨rfl, rfl⟩)) rfl rfl ⟨Nat.le_of_ble_eq_true rfl, Nat.le_of_ble_eq_true rfl⟩ (Nat.le_of_ble_eq_true rfl) ⟨rfl, rfl⟩ (⟨⟨_, _, _, rfl, (Nat.le_of_ble_eq_true rfl), rfl⟩, e_Row_get xrw_138 (by decide) ho⟩) ?_
        rw [hc]
        refine R1 (g' := (37, _, _, _, _, _)) rfl rfl ?_
        refine R1 (g' := (38, _, _, _, _, _)) rfl rfl ?_
        refine R1 (g' := (39, _, .int (nI 3) :: _, _, _, _)) rfl rfl ?_
        refine R_cneN 55 (4) (3) rfl rfl (rfl) (rfl) (by omega) (by omega) (fun h39 => ?_) (fun h => by omega)
        refine R1 (g' := (56, _, _, _, _, _)) rfl rfl ?_
        refine R1 (g' := (57, _, .int (nI 4) :: _, _, _, _)) rfl rfl ?_
        refine R_cneN 96 (4) (4) rfl rfl (rfl) (rfl) (by omega) (by omega) (fun h => by omega) (fun h57 => ?_)
        refine R1 (g' := (61, _, _, _, _, _)) rfl rfl ?_
        refine R_getf rfl rfl (Nat.le_of_ble_eq_true rfl) rfl rfl ?_
        refine R_getf rfl rfl (Nat.le_of_ble_eq_true rfl) rfl rfl ?_
        refine R1 (g' := (68, _, _, _, _, _)) rfl rfl ?_
        refine R1 (g' := (70, _, _, _, _, _)) rfl rfl ?_
        refine R_call3 (Or.inr (Or.inl ⟨rfl, rfl⟩)) rfl rfl ⟨Nat.le_of_ble_eq_true rfl, Nat.le_of_ble_eq_true rfl⟩ (Nat.le_of_ble_eq_true rfl) ⟨rfl, rfl⟩ (⟨⟨_, _, _, rfl, (Nat.le_of_ble_eq_true rfl), rfl⟩, hcs⟩) ?_
        refine R1 (g' := (75, _, _, _, _, _)) rfl rfl ?_
        refine R1 (g' := (77, _, _, _, _, _)) rfl rfl ?_
        refine R_eq 93 rfl rfl (fun h => by exact absurd h (by decide)) (fun h77 => ?_)
        refine R1 (g' := (81, _, _, _, _, _)) rfl rfl ?_
        refine R_getf rfl rfl (Nat.le_of_ble_eq_true rfl) rfl rfl ?_
        refine R_getf rfl rfl (Nat.le_of_ble_eq_true rfl) rfl rfl ?_
        refine R1 (g' := (88, _, _, _, _, _)) rfl rfl ?_
        refine R1 (g' := (90, _, _, _, _, _)) rfl rfl ?_
        refine R_call3 (Or.inr (Or.inl ⟨rfl, rfl⟩)) rfl rfl ⟨Nat.le_of_ble_eq_true rfl, Nat.le_of_ble_eq_true rfl⟩ (Nat.le_of_ble_eq_true rfl) ⟨rfl, rfl⟩ (⟨⟨_, _, _, rfl, (Nat.le_of_ble_eq_true rfl), rfl⟩, hev⟩) ?_
        refine R1 (g' := (95, _, _, _, _, _)) rfl rfl ?_
        refine R_iret rfl ?_
        exact ⟨rfl, rfl⟩
      | false =>
        refine ⟨s, ?_, sOut_rf, (fun z => absurd z (by decide)), fun _ => hs⟩
        rw [hz] at hcs
        refine ⟨Nat.le_of_ble_eq_true rfl, Nat.le_refl _, Or.inr ⟨rfl, bI_01 _⟩, ?_⟩
        refine R1 (g' := (1, _, _, _, _, _)) rfl rfl ?_
        refine R_getf rfl rfl (Nat.le_of_ble_eq_true rfl) rfl rfl ?_
        refine R_getf rfl rfl (Nat.le_of_ble_eq_true rfl) rfl rfl ?_
        refine R1 (g' := (8, _, _, _, _, _)) rfl rfl ?_
        refine R_call2 (Or.inr (Or.inl ⟨rfl, rfl⟩)) rfl rfl ⟨Nat.le_of_ble_eq_true rfl, Nat.le_of_ble_eq_true rfl⟩ (Nat.le_of_ble_eq_true rfl) ⟨rfl, rfl⟩ (⟨⟨_, _, _, rfl, (Nat.le_of_ble_eq_true rfl), rfl⟩, e_Row_get xrw_134 (by decide) ho⟩) ?_
        rw [hA]
        refine R1 (g' := (12, _, _, _, _, _)) rfl rfl ?_
        refine R1 (g' := (13, _, _, _, _, _)) rfl rfl ?_
        refine R_getf rfl rfl (Nat.le_of_ble_eq_true rfl) rfl rfl ?_
        refine R_getf rfl rfl (Nat.le_of_ble_eq_true rfl) rfl rfl ?_
        refine R1 (g' := (20, _, _, _, _, _)) rfl rfl ?_
        refine R_call2 (Or.inr (Or.inl ⟨rfl, rfl⟩)) rfl rfl ⟨Nat.le_of_ble_eq_true rfl, Nat.le_of_ble_eq_true rfl⟩ (Nat.le_of_ble_eq_true rfl) ⟨rfl, rfl⟩ (⟨⟨_, _, _, rfl, (Nat.le_of_ble_eq_true rfl), rfl⟩, e_Row_get xrw_136 (by decide) ho⟩) ?_
        rw [hb]
        refine R1 (g' := (24, _, _, _, _, _)) rfl rfl ?_
        refine R1 (g' := (25, _, _, _, _, _)) rfl rfl ?_
        refine R_getf rfl rfl (Nat.le_of_ble_eq_true rfl) rfl rfl ?_
        refine R_getf rfl rfl (Nat.le_of_ble_eq_true rfl) rfl rfl ?_
        refine R1 (g' := (32, _, _, _, _, _)) rfl rfl ?_
        refine R_call2 (Or.inr (Or.inl ⟨rfl, rfl⟩)) rfl rfl ⟨Nat.le_of_ble_eq_true rfl, Nat.le_of_ble_eq_true rfl⟩ (Nat.le_of_ble_eq_true rfl) ⟨rfl, rfl⟩ (⟨⟨_, _, _, rfl, (Nat.le_of_ble_eq_true rfl), rfl⟩, e_Row_get xrw_138 (by decide) ho⟩) ?_
        rw [hc]
        refine R1 (g' := (37, _, _, _, _, _)) rfl rfl ?_
        refine R1 (g' := (38, _, _, _, _, _)) rfl rfl ?_
        refine R1 (g' := (39, _, .int (nI 3) :: _, _, _, _)) rfl rfl ?_
        refine R_cneN 55 (4) (3) rfl rfl (rfl) (rfl) (by omega) (by omega) (fun h39 => ?_) (fun h => by omega)
        refine R1 (g' := (56, _, _, _, _, _)) rfl rfl ?_
        refine R1 (g' := (57, _, .int (nI 4) :: _, _, _, _)) rfl rfl ?_
        refine R_cneN 96 (4) (4) rfl rfl (rfl) (rfl) (by omega) (by omega) (fun h => by omega) (fun h57 => ?_)
        refine R1 (g' := (61, _, _, _, _, _)) rfl rfl ?_
        refine R_getf rfl rfl (Nat.le_of_ble_eq_true rfl) rfl rfl ?_
        refine R_getf rfl rfl (Nat.le_of_ble_eq_true rfl) rfl rfl ?_
        refine R1 (g' := (68, _, _, _, _, _)) rfl rfl ?_
        refine R1 (g' := (70, _, _, _, _, _)) rfl rfl ?_
        refine R_call3 (Or.inr (Or.inl ⟨rfl, rfl⟩)) rfl rfl ⟨Nat.le_of_ble_eq_true rfl, Nat.le_of_ble_eq_true rfl⟩ (Nat.le_of_ble_eq_true rfl) ⟨rfl, rfl⟩ (⟨⟨_, _, _, rfl, (Nat.le_of_ble_eq_true rfl), rfl⟩, hcs⟩) ?_
        refine R1 (g' := (75, _, _, _, _, _)) rfl rfl ?_
        refine R1 (g' := (77, _, _, _, _, _)) rfl rfl ?_
        refine R_eq 93 rfl rfl (fun h77 => ?_) (fun h => by exact absurd rfl h)
        refine R1 (g' := (95, _, _, _, _, _)) rfl rfl ?_
        refine R_iret rfl ?_
        exact ⟨rfl, rfl⟩
    · rw [decide_eq_false hbn, Bool.false_and] at hok
      rw [hok]
      refine ⟨s, ?_, sOut_rf, (fun z => absurd z (by decide)), fun _ => hs⟩
      refine ⟨Nat.le_of_ble_eq_true rfl, Nat.le_refl _, Or.inr ⟨rfl, bI_01 _⟩, ?_⟩
      refine R1 (g' := (1, _, _, _, _, _)) rfl rfl ?_
      refine R_getf rfl rfl (Nat.le_of_ble_eq_true rfl) rfl rfl ?_
      refine R_getf rfl rfl (Nat.le_of_ble_eq_true rfl) rfl rfl ?_
      refine R1 (g' := (8, _, _, _, _, _)) rfl rfl ?_
      refine R_call2 (Or.inr (Or.inl ⟨rfl, rfl⟩)) rfl rfl ⟨Nat.le_of_ble_eq_true rfl, Nat.le_of_ble_eq_true rfl⟩ (Nat.le_of_ble_eq_true rfl) ⟨rfl, rfl⟩ (⟨⟨_, _, _, rfl, (Nat.le_of_ble_eq_true rfl), rfl⟩, e_Row_get xrw_134 (by decide) ho⟩) ?_
      rw [hA]
      refine R1 (g' := (12, _, _, _, _, _)) rfl rfl ?_
      refine R1 (g' := (13, _, _, _, _, _)) rfl rfl ?_
      refine R_getf rfl rfl (Nat.le_of_ble_eq_true rfl) rfl rfl ?_
      refine R_getf rfl rfl (Nat.le_of_ble_eq_true rfl) rfl rfl ?_
      refine R1 (g' := (20, _, _, _, _, _)) rfl rfl ?_
      refine R_call2 (Or.inr (Or.inl ⟨rfl, rfl⟩)) rfl rfl ⟨Nat.le_of_ble_eq_true rfl, Nat.le_of_ble_eq_true rfl⟩ (Nat.le_of_ble_eq_true rfl) ⟨rfl, rfl⟩ (⟨⟨_, _, _, rfl, (Nat.le_of_ble_eq_true rfl), rfl⟩, e_Row_get xrw_136 (by decide) ho⟩) ?_
      rw [hb]
      refine R1 (g' := (24, _, _, _, _, _)) rfl rfl ?_
      refine R1 (g' := (25, _, _, _, _, _)) rfl rfl ?_
      refine R_getf rfl rfl (Nat.le_of_ble_eq_true rfl) rfl rfl ?_
      refine R_getf rfl rfl (Nat.le_of_ble_eq_true rfl) rfl rfl ?_
      refine R1 (g' := (32, _, _, _, _, _)) rfl rfl ?_
      refine R_call2 (Or.inr (Or.inl ⟨rfl, rfl⟩)) rfl rfl ⟨Nat.le_of_ble_eq_true rfl, Nat.le_of_ble_eq_true rfl⟩ (Nat.le_of_ble_eq_true rfl) ⟨rfl, rfl⟩ (⟨⟨_, _, _, rfl, (Nat.le_of_ble_eq_true rfl), rfl⟩, e_Row_get xrw_138 (by decide) ho⟩) ?_
      rw [hc]
      refine R1 (g' := (37, _, _, _, _, _)) rfl rfl ?_
      refine R1 (g' := (38, _, _, _, _, _)) rfl rfl ?_
      refine R1 (g' := (39, _, .int (nI 3) :: _, _, _, _)) rfl rfl ?_
      refine R_cneN 55 (4) (3) rfl rfl (rfl) (rfl) (by omega) (by omega) (fun h39 => ?_) (fun h => by omega)
      refine R1 (g' := (56, _, _, _, _, _)) rfl rfl ?_
      refine R1 (g' := (57, _, .int (nI 4) :: _, _, _, _)) rfl rfl ?_
      refine R_cneN 96 (4) (4) rfl rfl (rfl) (rfl) (by omega) (by omega) (fun h => by omega) (fun h57 => ?_)
      refine R1 (g' := (61, _, _, _, _, _)) rfl rfl ?_
      refine R_getf rfl rfl (Nat.le_of_ble_eq_true rfl) rfl rfl ?_
      refine R_getf rfl rfl (Nat.le_of_ble_eq_true rfl) rfl rfl ?_
      refine R1 (g' := (68, _, _, _, _, _)) rfl rfl ?_
      refine R1 (g' := (70, _, _, _, _, _)) rfl rfl ?_
      refine R_call3 (Or.inr (Or.inl ⟨rfl, rfl⟩)) rfl rfl ⟨Nat.le_of_ble_eq_true rfl, Nat.le_of_ble_eq_true rfl⟩ (Nat.le_of_ble_eq_true rfl) ⟨rfl, rfl⟩ (⟨⟨_, _, _, rfl, (Nat.le_of_ble_eq_true rfl), rfl⟩, e_canSplitN xbar_2 i7 (by rw [xhas_nI (by omega) (by omega)]; exact decide_eq_false hbn)⟩) ?_
      refine R1 (g' := (75, _, _, _, _, _)) rfl rfl ?_
      refine R1 (g' := (77, _, _, _, _, _)) rfl rfl ?_
      refine R_eq 93 rfl rfl (fun h77 => ?_) (fun h => by exact absurd rfl h)
      refine R1 (g' := (95, _, _, _, _, _)) rfl rfl ?_
      refine R_iret rfl ?_
      exact ⟨rfl, rfl⟩
  · obtain ⟨hb, hc⟩ := hB (by omega)
    have hok : qOk Q a b c = (decide (b < qn Q 7) && qCanS Q b a c) := by unfold qOk; rw [if_neg (by omega), if_neg (by omega)]
    have hdo : qDo Q a b c = qDoS Q b a c := by unfold qDo; rw [if_neg (by omega), if_neg (by omega)]
    rw [hdo]
    by_cases hbn : b < qn Q 7
    · rw [decide_eq_true hbn, Bool.true_and] at hok
      obtain ⟨s1, hcs, hr1, hso1⟩ := c_canStrike (q := a) (c := c) hs hi hbn a2 (by omega)
      rw [← hok] at hcs
      cases hz : qOk Q a b c with
      | true =>
        obtain ⟨s', hev, hr, hso⟩ := c_strike (q := a) hr1 hi hbn a2 c1 (by omega) (hok.symm.trans hz)
        refine ⟨s', ?_, sOut_tr hso1 hso, fun _ => ⟨hr, (qCanS_ok hi hbn c1 (hok.symm.trans hz)).2.2.2⟩, (fun z => absurd z (by decide))⟩
        rw [hz] at hcs
        refine ⟨Nat.le_of_ble_eq_true rfl, Nat.le_refl _, Or.inr ⟨rfl, bI_01 _⟩, ?_⟩
        refine R1 (g' := (1, _, _, _, _, _)) rfl rfl ?_
        refine R_getf rfl rfl (Nat.le_of_ble_eq_true rfl) rfl rfl ?_
        refine R_getf rfl rfl (Nat.le_of_ble_eq_true rfl) rfl rfl ?_
        refine R1 (g' := (8, _, _, _, _, _)) rfl rfl ?_
        refine R_call2 (Or.inr (Or.inl ⟨rfl, rfl⟩)) rfl rfl ⟨Nat.le_of_ble_eq_true rfl, Nat.le_of_ble_eq_true rfl⟩ (Nat.le_of_ble_eq_true rfl) ⟨rfl, rfl⟩ (⟨⟨_, _, _, rfl, (Nat.le_of_ble_eq_true rfl), rfl⟩, e_Row_get xrw_134 (by decide) ho⟩) ?_
        rw [hA]
        refine R1 (g' := (12, _, _, _, _, _)) rfl rfl ?_
        refine R1 (g' := (13, _, _, _, _, _)) rfl rfl ?_
        refine R_getf rfl rfl (Nat.le_of_ble_eq_true rfl) rfl rfl ?_
        refine R_getf rfl rfl (Nat.le_of_ble_eq_true rfl) rfl rfl ?_
        refine R1 (g' := (20, _, _, _, _, _)) rfl rfl ?_
        refine R_call2 (Or.inr (Or.inl ⟨rfl, rfl⟩)) rfl rfl ⟨Nat.le_of_ble_eq_true rfl, Nat.le_of_ble_eq_true rfl⟩ (Nat.le_of_ble_eq_true rfl) ⟨rfl, rfl⟩ (⟨⟨_, _, _, rfl, (Nat.le_of_ble_eq_true rfl), rfl⟩, e_Row_get xrw_136 (by decide) ho⟩) ?_
        rw [hb]
        refine R1 (g' := (24, _, _, _, _, _)) rfl rfl ?_
        refine R1 (g' := (25, _, _, _, _, _)) rfl rfl ?_
        refine R_getf rfl rfl (Nat.le_of_ble_eq_true rfl) rfl rfl ?_
        refine R_getf rfl rfl (Nat.le_of_ble_eq_true rfl) rfl rfl ?_
        refine R1 (g' := (32, _, _, _, _, _)) rfl rfl ?_
        refine R_call2 (Or.inr (Or.inl ⟨rfl, rfl⟩)) rfl rfl ⟨Nat.le_of_ble_eq_true rfl, Nat.le_of_ble_eq_true rfl⟩ (Nat.le_of_ble_eq_true rfl) ⟨rfl, rfl⟩ (⟨⟨_, _, _, rfl, (Nat.le_of_ble_eq_true rfl), rfl⟩, e_Row_get xrw_138 (by decide) ho⟩) ?_
        rw [hc]
        refine R1 (g' := (37, _, _, _, _, _)) rfl rfl ?_
        refine R1 (g' := (38, _, _, _, _, _)) rfl rfl ?_
        refine R1 (g' := (39, _, .int (nI 3) :: _, _, _, _)) rfl rfl ?_
        refine R_cneN 55 (a) (3) rfl rfl (rfl) (rfl) (by omega) (by omega) (fun h39 => ?_) (fun h => by omega)
        refine R1 (g' := (56, _, _, _, _, _)) rfl rfl ?_
        refine R1 (g' := (57, _, .int (nI 4) :: _, _, _, _)) rfl rfl ?_
        refine R_cneN 96 (a) (4) rfl rfl (rfl) (rfl) (by omega) (by omega) (fun h57 => ?_) (fun h => by omega)
        refine R1 (g' := (97, _, _, _, _, _)) rfl rfl ?_
        refine R_getf rfl rfl (Nat.le_of_ble_eq_true rfl) rfl rfl ?_
        refine R_getf rfl rfl (Nat.le_of_ble_eq_true rfl) rfl rfl ?_
        refine R1 (g' := (104, _, _, _, _, _)) rfl rfl ?_
        refine R1 (g' := (105, _, _, _, _, _)) rfl rfl ?_
        refine R1 (g' := (107, _, _, _, _, _)) rfl rfl ?_
        refine R_call4 (Or.inr (Or.inl ⟨rfl, rfl⟩)) rfl rfl ⟨Nat.le_of_ble_eq_true rfl, Nat.le_of_ble_eq_true rfl⟩ (Nat.le_of_ble_eq_true rfl) ⟨rfl, rfl⟩ (⟨⟨_, _, _, rfl, (Nat.le_of_ble_eq_true rfl), rfl⟩, hcs⟩) ?_
        refine R1 (g' := (112, _, _, _, _, _)) rfl rfl ?_
        refine R1 (g' := (114, _, _, _, _, _)) rfl rfl ?_
        refine R_eq 131 rfl rfl (fun h => by exact absurd h (by decide)) (fun h114 => ?_)
        refine R1 (g' := (118, _, _, _, _, _)) rfl rfl ?_
        refine R_getf rfl rfl (Nat.le_of_ble_eq_true rfl) rfl rfl ?_
        refine R_getf rfl rfl (Nat.le_of_ble_eq_true rfl) rfl rfl ?_
        refine R1 (g' := (125, _, _, _, _, _)) rfl rfl ?_
        refine R1 (g' := (126, _, _, _, _, _)) rfl rfl ?_
        refine R1 (g' := (128, _, _, _, _, _)) rfl rfl ?_
        refine R_call4 (Or.inr (Or.inl ⟨rfl, rfl⟩)) rfl rfl ⟨Nat.le_of_ble_eq_true rfl, Nat.le_of_ble_eq_true rfl⟩ (Nat.le_of_ble_eq_true rfl) ⟨rfl, rfl⟩ (⟨⟨_, _, _, rfl, (Nat.le_of_ble_eq_true rfl), rfl⟩, hev⟩) ?_
        refine R1 (g' := (133, _, _, _, _, _)) rfl rfl ?_
        refine R_iret rfl ?_
        exact ⟨rfl, rfl⟩
      | false =>
        refine ⟨s1, ?_, hso1, (fun z => absurd z (by decide)), fun _ => hr1⟩
        rw [hz] at hcs
        refine ⟨Nat.le_of_ble_eq_true rfl, Nat.le_refl _, Or.inr ⟨rfl, bI_01 _⟩, ?_⟩
        refine R1 (g' := (1, _, _, _, _, _)) rfl rfl ?_
        refine R_getf rfl rfl (Nat.le_of_ble_eq_true rfl) rfl rfl ?_
        refine R_getf rfl rfl (Nat.le_of_ble_eq_true rfl) rfl rfl ?_
        refine R1 (g' := (8, _, _, _, _, _)) rfl rfl ?_
        refine R_call2 (Or.inr (Or.inl ⟨rfl, rfl⟩)) rfl rfl ⟨Nat.le_of_ble_eq_true rfl, Nat.le_of_ble_eq_true rfl⟩ (Nat.le_of_ble_eq_true rfl) ⟨rfl, rfl⟩ (⟨⟨_, _, _, rfl, (Nat.le_of_ble_eq_true rfl), rfl⟩, e_Row_get xrw_134 (by decide) ho⟩) ?_
        rw [hA]
        refine R1 (g' := (12, _, _, _, _, _)) rfl rfl ?_
        refine R1 (g' := (13, _, _, _, _, _)) rfl rfl ?_
        refine R_getf rfl rfl (Nat.le_of_ble_eq_true rfl) rfl rfl ?_
        refine R_getf rfl rfl (Nat.le_of_ble_eq_true rfl) rfl rfl ?_
        refine R1 (g' := (20, _, _, _, _, _)) rfl rfl ?_
        refine R_call2 (Or.inr (Or.inl ⟨rfl, rfl⟩)) rfl rfl ⟨Nat.le_of_ble_eq_true rfl, Nat.le_of_ble_eq_true rfl⟩ (Nat.le_of_ble_eq_true rfl) ⟨rfl, rfl⟩ (⟨⟨_, _, _, rfl, (Nat.le_of_ble_eq_true rfl), rfl⟩, e_Row_get xrw_136 (by decide) ho⟩) ?_
        rw [hb]
        refine R1 (g' := (24, _, _, _, _, _)) rfl rfl ?_
        refine R1 (g' := (25, _, _, _, _, _)) rfl rfl ?_
        refine R_getf rfl rfl (Nat.le_of_ble_eq_true rfl) rfl rfl ?_
        refine R_getf rfl rfl (Nat.le_of_ble_eq_true rfl) rfl rfl ?_
        refine R1 (g' := (32, _, _, _, _, _)) rfl rfl ?_
        refine R_call2 (Or.inr (Or.inl ⟨rfl, rfl⟩)) rfl rfl ⟨Nat.le_of_ble_eq_true rfl, Nat.le_of_ble_eq_true rfl⟩ (Nat.le_of_ble_eq_true rfl) ⟨rfl, rfl⟩ (⟨⟨_, _, _, rfl, (Nat.le_of_ble_eq_true rfl), rfl⟩, e_Row_get xrw_138 (by decide) ho⟩) ?_
        rw [hc]
        refine R1 (g' := (37, _, _, _, _, _)) rfl rfl ?_
        refine R1 (g' := (38, _, _, _, _, _)) rfl rfl ?_
        refine R1 (g' := (39, _, .int (nI 3) :: _, _, _, _)) rfl rfl ?_
        refine R_cneN 55 (a) (3) rfl rfl (rfl) (rfl) (by omega) (by omega) (fun h39 => ?_) (fun h => by omega)
        refine R1 (g' := (56, _, _, _, _, _)) rfl rfl ?_
        refine R1 (g' := (57, _, .int (nI 4) :: _, _, _, _)) rfl rfl ?_
        refine R_cneN 96 (a) (4) rfl rfl (rfl) (rfl) (by omega) (by omega) (fun h57 => ?_) (fun h => by omega)
        refine R1 (g' := (97, _, _, _, _, _)) rfl rfl ?_
        refine R_getf rfl rfl (Nat.le_of_ble_eq_true rfl) rfl rfl ?_
        refine R_getf rfl rfl (Nat.le_of_ble_eq_true rfl) rfl rfl ?_
        refine R1 (g' := (104, _, _, _, _, _)) rfl rfl ?_
        refine R1 (g' := (105, _, _, _, _, _)) rfl rfl ?_
        refine R1 (g' := (107, _, _, _, _, _)) rfl rfl ?_
        refine R_call4 (Or.inr (Or.inl ⟨rfl, rfl⟩)) rfl rfl ⟨Nat.le_of_ble_eq_true rfl, Nat.le_of_ble_eq_true rfl⟩ (Nat.le_of_ble_eq_true rfl) ⟨rfl, rfl⟩ (⟨⟨_, _, _, rfl, (Nat.le_of_ble_eq_true rfl), rfl⟩, hcs⟩) ?_
        refine R1 (g' := (112, _, _, _, _, _)) rfl rfl ?_
        refine R1 (g' := (114, _, _, _, _, _)) rfl rfl ?_
        refine R_eq 131 rfl rfl (fun h114 => ?_) (fun h => by exact absurd rfl h)
        refine R1 (g' := (133, _, _, _, _, _)) rfl rfl ?_
        refine R_iret rfl ?_
        exact ⟨rfl, rfl⟩
    · rw [decide_eq_false hbn, Bool.false_and] at hok
      rw [hok]
      refine ⟨s, ?_, sOut_rf, (fun z => absurd z (by decide)), fun _ => hs⟩
      refine ⟨Nat.le_of_ble_eq_true rfl, Nat.le_refl _, Or.inr ⟨rfl, bI_01 _⟩, ?_⟩
      refine R1 (g' := (1, _, _, _, _, _)) rfl rfl ?_
      refine R_getf rfl rfl (Nat.le_of_ble_eq_true rfl) rfl rfl ?_
      refine R_getf rfl rfl (Nat.le_of_ble_eq_true rfl) rfl rfl ?_
      refine R1 (g' := (8, _, _, _, _, _)) rfl rfl ?_
      refine R_call2 (Or.inr (Or.inl ⟨rfl, rfl⟩)) rfl rfl ⟨Nat.le_of_ble_eq_true rfl, Nat.le_of_ble_eq_true rfl⟩ (Nat.le_of_ble_eq_true rfl) ⟨rfl, rfl⟩ (⟨⟨_, _, _, rfl, (Nat.le_of_ble_eq_true rfl), rfl⟩, e_Row_get xrw_134 (by decide) ho⟩) ?_
      rw [hA]
      refine R1 (g' := (12, _, _, _, _, _)) rfl rfl ?_
      refine R1 (g' := (13, _, _, _, _, _)) rfl rfl ?_
      refine R_getf rfl rfl (Nat.le_of_ble_eq_true rfl) rfl rfl ?_
      refine R_getf rfl rfl (Nat.le_of_ble_eq_true rfl) rfl rfl ?_
      refine R1 (g' := (20, _, _, _, _, _)) rfl rfl ?_
      refine R_call2 (Or.inr (Or.inl ⟨rfl, rfl⟩)) rfl rfl ⟨Nat.le_of_ble_eq_true rfl, Nat.le_of_ble_eq_true rfl⟩ (Nat.le_of_ble_eq_true rfl) ⟨rfl, rfl⟩ (⟨⟨_, _, _, rfl, (Nat.le_of_ble_eq_true rfl), rfl⟩, e_Row_get xrw_136 (by decide) ho⟩) ?_
      rw [hb]
      refine R1 (g' := (24, _, _, _, _, _)) rfl rfl ?_
      refine R1 (g' := (25, _, _, _, _, _)) rfl rfl ?_
      refine R_getf rfl rfl (Nat.le_of_ble_eq_true rfl) rfl rfl ?_
      refine R_getf rfl rfl (Nat.le_of_ble_eq_true rfl) rfl rfl ?_
      refine R1 (g' := (32, _, _, _, _, _)) rfl rfl ?_
      refine R_call2 (Or.inr (Or.inl ⟨rfl, rfl⟩)) rfl rfl ⟨Nat.le_of_ble_eq_true rfl, Nat.le_of_ble_eq_true rfl⟩ (Nat.le_of_ble_eq_true rfl) ⟨rfl, rfl⟩ (⟨⟨_, _, _, rfl, (Nat.le_of_ble_eq_true rfl), rfl⟩, e_Row_get xrw_138 (by decide) ho⟩) ?_
      rw [hc]
      refine R1 (g' := (37, _, _, _, _, _)) rfl rfl ?_
      refine R1 (g' := (38, _, _, _, _, _)) rfl rfl ?_
      refine R1 (g' := (39, _, .int (nI 3) :: _, _, _, _)) rfl rfl ?_
      refine R_cneN 55 (a) (3) rfl rfl (rfl) (rfl) (by omega) (by omega) (fun h39 => ?_) (fun h => by omega)
      refine R1 (g' := (56, _, _, _, _, _)) rfl rfl ?_
      refine R1 (g' := (57, _, .int (nI 4) :: _, _, _, _)) rfl rfl ?_
      refine R_cneN 96 (a) (4) rfl rfl (rfl) (rfl) (by omega) (by omega) (fun h57 => ?_) (fun h => by omega)
      refine R1 (g' := (97, _, _, _, _, _)) rfl rfl ?_
      refine R_getf rfl rfl (Nat.le_of_ble_eq_true rfl) rfl rfl ?_
      refine R_getf rfl rfl (Nat.le_of_ble_eq_true rfl) rfl rfl ?_
      refine R1 (g' := (104, _, _, _, _, _)) rfl rfl ?_
      refine R1 (g' := (105, _, _, _, _, _)) rfl rfl ?_
      refine R1 (g' := (107, _, _, _, _, _)) rfl rfl ?_
      refine R_call4 (Or.inr (Or.inl ⟨rfl, rfl⟩)) rfl rfl ⟨Nat.le_of_ble_eq_true rfl, Nat.le_of_ble_eq_true rfl⟩ (Nat.le_of_ble_eq_true rfl) ⟨rfl, rfl⟩ (⟨⟨_, _, _, rfl, (Nat.le_of_ble_eq_true rfl), rfl⟩, e_canStrikeN xbar_2 i7 (by rw [xhas_nI (by omega) (by omega)]; exact decide_eq_false hbn)⟩) ?_
      refine R1 (g' := (112, _, _, _, _, _)) rfl rfl ?_
      refine R1 (g' := (114, _, _, _, _, _)) rfl rfl ?_
      refine R_eq 131 rfl rfl (fun h114 => ?_) (fun h => by exact absurd rfl h)
      refine R1 (g' := (133, _, _, _, _, _)) rfl rfl ?_
      refine R_iret rfl ?_
      exact ⟨rfl, rfl⟩
