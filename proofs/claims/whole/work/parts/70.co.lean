theorem mutR2 {s s1 s2 s3 s5 : xs} {c : Nat} {Q : Nat → Int32} (hR : Rl s) (hc : c ≤ 4) (v : SV s s1 c) (o : Sx 21 s1 s2) (hp : pRel s2 1 Q) (hi : pInv Q) (K : K6 s2 c s3) (x1 : ∀ i, i ≠ 142 → i ≠ 143 → s5.1 i = s3.1 i) (x3 : s5.1 142 3 = s3.1 142 3) (x5 : s5.1 142 5 = s3.1 142 5) (x6 : s5.1 142 6 = s3.1 142 6) (x2 : s5.2 = s3.2) (r1 : s5.1 143 = Q) : Rl s5 ∧ s5.1 142 6 = nI 0 := by
  have e143 := sv_q v o
  obtain ⟨_, _, _, hT⟩ := hR
  obtain ⟨π, v1, v2, v3, v4⟩ := v
  obtain ⟨k1, k2, k3, k4, k5, k6⟩ := K
  have e : ∀ i, 21 ≤ i → ¬ scP i → s2.1 i = s1.1 i := o.1
  have epg : pg s2 = pg s := by
    funext j q
    unfold pg
    rw [e 145 (by decide) (by unfold scP; omega), v4 145 (by decide)]
  rw [e143, epg] at k5
  have f : ∀ i, 21 ≤ i → ¬ scP i → i ≠ 143 → i ≠ 145 → s5.1 i = s1.1 i := fun i a b h3 h5 => (x1 i (fun z => b (by unfold scP; omega)) h3).trans ((k1 i (fun z => b (by unfold scP; omega)) h5).trans (e i a b))
  refine ⟨⟨?_, by rw [r1]; exact hi, ⟨π, cN4 c, xhi_fr ?_ v1, cN4_le hc, ?_, x3.trans k4, ?_⟩, RlT_c hT ?_ ?_ ?_ ?_⟩, x6.trans k3⟩
  · rw [r1]
    exact pRel_fr (fun i a b => (x1 i (by omega) (by omega)).trans (k1 i (by omega) (by omega))) hp
  · rw [x2, k6, o.2.2.2.2]
  · rw [f 41 (by decide) (by unfold scP; omega) (by decide) (by decide)]
    exact v2
  · refine HS_cg (fun j hj q hq => ?_) (HS_fr v1 (cN4_le hc) (fun i a b => f i (by omega) (by unfold scP; omega) (by omega) (by omega)) v3)
    rw [← k5 j hj q hq]
    unfold pg
    rw [x1 145 (by decide) (by decide)]
  · rw [x1 133 (by decide) (by decide), k1 133 (by decide) (by decide), o.2.1, v4 133 (by decide)]
  · rw [f 141 (by decide) (by unfold scP; omega) (by decide) (by decide), v4 141 (by decide)]
  · rw [x5, k2 5 (by decide) (by decide), o.2.2.2.1, v4 142 (by decide)]
  · rw [f 146 (by decide) (by unfold scP; omega) (by decide) (by decide), v4 146 (by decide)]
/-! the orders, apart from all code -/
def oA (g : Nat → Int32) (o : Nat) : Nat × Nat × Nat := match pOrd g (pq g o) with
  | .inl _ => (3, 0, 0)
  | .inr (a, b, c, _) => (a, b, c)
theorem oA_of {g : Nat → Int32} {o a b c q : Nat} (h : pOrd g (pq g o) = .inr (a, b, c, q)) : oA g o = (a, b, c) := by unfold oA; rw [h]
def cPg (g Q : Nat → Int32) : Nat → Nat → Int32
  | 0 => Q
  | o + 1 => qDo (cPg g Q o) (oA g o).1 (oA g o).2.1 (oA g o).2.2
def okk (g Q : Nat → Int32) (o : Nat) : Bool := qOk (cPg g Q o) (oA g o).1 (oA g o).2.1 (oA g o).2.2
def coEnd (g Q : Nat → Int32) (n r : Nat) : Prop := (∀ j, j < r → okk g Q j = true) ∧ (r = n ∨ (r < n ∧ okk g Q r = false))
theorem coEnd_eq {g Q : Nat → Int32} {n r r2 : Nat} (h : coEnd g Q n r) (h2 : coEnd g Q n r2) : r = r2 := by
  rcases Nat.lt_trichotomy r r2 with z | z | z
  · exfalso
    have a := h2.1 r z
    rcases h.2 with e | ⟨_, e⟩
    · rcases h2.2 with e2 | ⟨e2, _⟩ <;> omega
    · rw [a] at e
      cases e
  · exact z
  · exfalso
    have a := h.1 r2 z
    rcases h2.2 with e | ⟨_, e⟩
    · rcases h.2 with e2 | ⟨e2, _⟩ <;> omega
    · rw [a] at e
      cases e
theorem qDo_ok {Q : Nat → Int32} {a b c : Nat} (hi : pInv Q) (hv : a = 3 ∨ (a = 4 ∧ b < 8 ∧ 1 ≤ c ∧ c ≤ 9999) ∨ (a ≤ 2 ∧ b < 8 ∧ 1 ≤ c ∧ c ≤ 60)) (hok : qOk Q a b c = true) : pInv (qDo Q a b c) ∧ ∀ i, (i = 8 ∨ 41 ≤ i) → qDo Q a b c i = Q i := by
  have n8 := hi.1.2.2
  rcases hv with rfl | ⟨rfl, b8, c1, c2⟩ | ⟨a2, b8, c1, c2⟩
  · exact ⟨i_heat hi, fun i h => qHeat_hi n8 h⟩
  · have h : (decide (b < qn Q 7) && qCanC Q b c) = true := hok
    rw [Bool.and_eq_true] at h
    have hb := of_decide_eq_true h.1
    have h2 := h.2
    unfold qCanC at h2
    rw [Bool.and_eq_true] at h2
    have h8 := of_decide_eq_true h2.1
    have hl := of_decide_eq_true h2.2
    refine ⟨i_cut hi hb h8 c1 hl, fun i h => ?_⟩
    show qCut Q b (qn Q 7) (nI c) i = Q i
    simp only [qCut]
    (repeat (first | rw [if_pos (by omega)] | rw [if_neg (by omega)]))
  · have e1 : qOk Q a b c = (decide (b < qn Q 7) && qCanS Q b a c) := by unfold qOk; rw [if_neg (by omega), if_neg (by omega)]
    have e2 : qDo Q a b c = qDoS Q b a c := by unfold qDo; rw [if_neg (by omega), if_neg (by omega)]
    rw [e1, Bool.and_eq_true] at hok
    have hb := of_decide_eq_true hok.1
    rw [e2]
    exact ⟨(qCanS_ok hi hb c1 hok.2).2.2.2, fun i h => qStrike_o (by omega) (by omega) (by omega) b8⟩
theorem cPg_ok {g Q : Nat → Int32} {L n : Nat} (hi : pInv Q) (hp : ∀ o, o < n → pok g L o) : ∀ k, k ≤ n → (∀ j, j < k → okk g Q j = true) → pInv (cPg g Q k) ∧ ∀ i, (i = 8 ∨ 41 ≤ i) → cPg g Q k i = Q i
  | 0, _, _ => ⟨hi, fun _ _ => rfl⟩
  | k + 1, hk, hj => by
    obtain ⟨h1, h2⟩ := cPg_ok hi hp k (by omega) (fun j z => hj j (by omega))
    obtain ⟨_, a, b, c, q, e⟩ := hp k (by omega)
    have hok := hj k (Nat.lt_succ_self k)
    unfold okk at hok
    rw [oA_of e] at hok
    obtain ⟨f1, f2⟩ := qDo_ok h1 (pOrd_val e).1 hok
    rw [cPg, oA_of e]
    exact ⟨f1, fun i z => (f2 i z).trans (h2 i z)⟩
def coc (s : xs) (g Q : Nat → Int32) (n : Nat) (o1 : xO) (w1 : xw) : Prop := ∃ s' r, w1 = wd s' ∧ sOut 2 9 s s' ∧ bRel s' 2 (cPg g Q r) ∧ coEnd g Q n r ∧ o1 = .inl (some (.int (nI r)))
theorem coc_tr {s s' : xs} {g Q : Nat → Int32} {n : Nat} {o1 : xO} {w1 : xw} (h : sOut 2 9 s s') (k : coc s' g Q n o1 w1) : coc s g Q n o1 w1 := by
  obtain ⟨s2, r, a, b, c⟩ := k
  exact ⟨s2, r, a, sOut_tr h b, c⟩
theorem trow_fr {s s' : xs} {g : Nat → Int32} {n : Nat} (h : ∀ i, 122 < i → s'.1 i = s.1 i) (k : trow s g n) : trow s' g n := fun o a b c q ho e => by
  rw [h 135 (by decide), h 137 (by decide), h 139 (by decide)]
  exact k o a b c q ho e
theorem co_loop {g Q : Nat → Int32} {L n : Nat} (hi : pInv Q) (hp : ∀ o, o < n → pok g L o) (hn : n ≤ 60) : ∀ (d k : Nat) (s : xs), k + d = n → (∀ j, j < k → okk g Q j = true) → bRel s 2 (cPg g Q k) → trow s g n → xRun M_X8_carryOut (coc s g Q n) (39, [(3, .int (nI k)), (2, .int (nI n)), (1, .int (-1)), (0, .ref 0)], [], wd s, 0, 0) := by
  intro d
  induction d with
  | zero =>
    intro k s hd hj hb ht
    obtain rfl : k = n := by omega
    refine R1 (g' := (40, _, _, _, _, _)) rfl rfl ?_
    refine R1 (g' := (41, _, _, _, _, _)) rfl rfl ?_
    refine R_cgeN 60 (k) (k) rfl rfl (rfl) (rfl) (by omega) (by omega) (fun h41 => ?_) (fun h => by omega)
    refine R1 (g' := (61, _, _, _, _, _)) rfl rfl ?_
    refine R_iret rfl ?_
    exact ⟨s, k, rfl, sOut_rf, hb, ⟨hj, Or.inl rfl⟩, rfl⟩
  | succ d ih =>
    intro k s hd hj hb ht
    obtain ⟨i1, i2⟩ := cPg_ok hi hp k (by omega) hj
    obtain ⟨_, a, b, c, q, e⟩ := hp k (by omega)
    obtain ⟨r1, r2⟩ := ht k a b c q (by omega) e
    obtain ⟨s1, hob, wo, y1, y2⟩ := e8_obey (s := s) (o := k) hb i1 (by omega) r1 r2 (pOrd_val e).1
    have hok : okk g Q k = qOk (cPg g Q k) a b c := by unfold okk; rw [oA_of e]
    rw [← hok] at hob y1 y2
    cases hz : okk g Q k with
    | true =>
      rw [hz] at hob
      have hb1 : bRel s1 2 (cPg g Q (k + 1)) := by
        rw [cPg, oA_of e]
        exact (y1 hz).1
      have hih := ih (k + 1) s1 (by omega) (fun j z => by
        by_cases y : j = k
        · rw [y]; exact hz
        · exact hj j (by omega)) hb1 (trow_fr (fun i z => wo.1 i (by omega)) ht)
      refine R1 (g' := (40, _, _, _, _, _)) rfl rfl ?_
      refine R1 (g' := (41, _, _, _, _, _)) rfl rfl ?_
      refine R_cgeN 60 (k) (n) rfl rfl (rfl) (rfl) (by omega) (by omega) (fun h => by omega) (fun h41 => ?_)
      refine R1 (g' := (45, _, _, _, _, _)) rfl rfl ?_
      refine R1 (g' := (46, _, _, _, _, _)) rfl rfl ?_
      refine R_call2 (Or.inr (Or.inl ⟨rfl, rfl⟩)) rfl rfl ⟨Nat.le_of_ble_eq_true rfl, Nat.le_of_ble_eq_true rfl⟩ (Nat.le_of_ble_eq_true rfl) ⟨rfl, rfl⟩ (⟨⟨_, _, _, rfl, (Nat.le_of_ble_eq_true rfl), rfl⟩, hob⟩) ?_
      refine R_ne 54 rfl rfl (fun h49 => ?_) (fun h => by exact absurd h (by decide))
      refine R1 (g' := (57, _, _, _, _, _)) rfl rfl ?_
      refine R1 (g' := (39, _, _, _, _, _)) rfl rfl ?_
      refine R_lv [(3, .int (nI (k + 1))), (2, .int (nI n)), (1, .int (-1)), (0, .ref 0)] rfl (List.forall_mem_cons.mpr ⟨by rw [nI_succ k]; rfl, List.forall_mem_cons.mpr ⟨rfl, List.forall_mem_cons.mpr ⟨rfl, List.forall_mem_cons.mpr ⟨rfl, fun _ h => absurd h List.not_mem_nil⟩⟩⟩⟩) ⟨rfl, rfl⟩ ?_
      exact xRun_imp hih (fun o w z => coc_tr wo z)
    | false =>
      rw [hz] at hob
      refine R1 (g' := (40, _, _, _, _, _)) rfl rfl ?_
      refine R1 (g' := (41, _, _, _, _, _)) rfl rfl ?_
      refine R_cgeN 60 (k) (n) rfl rfl (rfl) (rfl) (by omega) (by omega) (fun h => by omega) (fun h41 => ?_)
      refine R1 (g' := (45, _, _, _, _, _)) rfl rfl ?_
      refine R1 (g' := (46, _, _, _, _, _)) rfl rfl ?_
      refine R_call2 (Or.inr (Or.inl ⟨rfl, rfl⟩)) rfl rfl ⟨Nat.le_of_ble_eq_true rfl, Nat.le_of_ble_eq_true rfl⟩ (Nat.le_of_ble_eq_true rfl) ⟨rfl, rfl⟩ (⟨⟨_, _, _, rfl, (Nat.le_of_ble_eq_true rfl), rfl⟩, hob⟩) ?_
      refine R_ne 54 rfl rfl (fun h => by exact absurd rfl h) (fun h49 => ?_)
      refine R1 (g' := (53, _, _, _, _, _)) rfl rfl ?_
      refine R_iret rfl ?_
      exact ⟨s1, k, rfl, wo, y2 hz, ⟨hj, Or.inr ⟨by omega, hz⟩⟩, rfl⟩
def cX (s s' : xs) : Prop := (∀ i, i ≠ 142 → i ≠ 143 → s'.1 i = s.1 i) ∧ (∀ j, j < 7 → s'.1 142 j = s.1 142 j) ∧ s'.2 = s.2
theorem cX_rf {s : xs} : cX s s := ⟨fun _ _ _ => rfl, fun _ _ => rfl, rfl⟩
theorem cX_tr {s s' s2 : xs} (h : cX s s') (g : cX s' s2) : cX s s2 := ⟨fun i a b => (g.1 i a b).trans (h.1 i a b), fun j a => (g.2.1 j a).trans (h.2.1 j a), g.2.2.trans h.2.2⟩
theorem cX_rX {s s' : xs} (h : rX s s') : cX s s' := ⟨fun i a _ => h.1 i a, fun j a => h.2.1 j (by omega), h.2.2⟩
theorem cX_gX {s s' : xs} (h : gX s s') : cX s s' := ⟨h.1, fun j a => h.2.1 j (by omega) (by omega), h.2.2⟩
def cor (s : xs) (g Q : Nat → Int32) (n : Nat) (o1 : xO) (w1 : xw) : Prop := ∃ s' r, w1 = wd s' ∧ cX s s' ∧ s'.1 143 = cPg g Q r ∧ coEnd g Q n r ∧ o1 = .inl (some (.int (nI r)))
theorem cor_tr {s s' : xs} {g Q : Nat → Int32} {n : Nat} {o1 : xO} {w1 : xw} (h : cX s s') (k : cor s' g Q n o1 w1) : cor s g Q n o1 w1 := by
  obtain ⟨s2, r, a, b, c⟩ := k
  exact ⟨s2, r, a, cX_tr h b, c⟩
theorem co9_loop {g Q : Nat → Int32} {L n : Nat} (hi : pInv Q) (hp : ∀ o, o < n → pok g L o) (hL : L ≤ pq g n) : ∀ (d k : Nat) (s : xs), k + d = n → (∀ j, j < k → okk g Q j = true) → rT s g L (pq g k) → s.1 143 = cPg g Q k → xRun M_X9_carryOut (cor s g Q n) (31, [(1, .int (nI k)), (0, .ref 142)], [], wd s, 0, 0) := by
  intro d
  induction d with
  | zero =>
    intro k s hd hj hr h43
    obtain rfl : k = n := by omega
    obtain ⟨r5, r13, L90, p1000, hg⟩ := id hr
    refine R1 (g' := (32, _, _, _, _, _)) rfl rfl ?_
    refine R_getf rfl rfl (Nat.le_of_ble_eq_true rfl) rfl rfl ?_
    refine R1 (g' := (36, _, _, _, _, _)) rfl rfl ?_
    refine R_getf rfl rfl (Nat.le_of_ble_eq_true rfl) rfl rfl ?_
    refine R_cgeN 62 (pq g k) (L) rfl rfl (r13) (r5) (by omega) (by omega) (fun h39 => ?_) (fun h => by omega)
    refine R1 (g' := (63, _, _, _, _, _)) rfl rfl ?_
    refine R_iret rfl ?_
    exact ⟨s, k, rfl, cX_rf, h43, ⟨hj, Or.inl rfl⟩, rfl⟩
  | succ d ih =>
    intro k s hd hj hr h43
    obtain ⟨r5, r13, L90, p1000, hg⟩ := id hr
    obtain ⟨i1, i2⟩ := cPg_ok hi hp k (by omega) hj
    obtain ⟨hlt, a, b, c, q, e⟩ := hp k (by omega)
    obtain ⟨o1, w1, hpo, hro⟩ := e9_readOrder hr (by omega)
    rw [e] at hpo
    obtain ⟨s1, rfl, rx, rfl, s13, s14, s15⟩ := hpo
    have e43 : s1.1 143 = cPg g Q k := (rx.1 143 (by decide)).trans h43
    obtain ⟨s2, hca, gx, y1, y2⟩ := e9_carries e43 i1 s14 s15 (pOrd_val e).1
    have hok : okk g Q k = qOk (cPg g Q k) a b c := by unfold okk; rw [oA_of e]
    rw [← hok] at hca y1 y2
    have hq : q < 1000 := by have := (pOrd_val e).2; omega
    cases hz : okk g Q k with
    | true =>
      rw [hz] at hca
      have hr2 : rT s2 g L (pq g (k + 1)) := by
        have h1 := rT_X hr rx s13 hq
        rw [pq, pNx_of e]
        exact ⟨(gx.2.1 5 (by decide) (by decide)).trans h1.1, (gx.2.1 13 (by decide) (by decide)).trans h1.2.1, L90, hq, fun i => by rw [gx.1 146 (by decide) (by decide)]; exact h1.2.2.2.2 i⟩
      have h42 : s2.1 143 = cPg g Q (k + 1) := by
        rw [cPg, oA_of e]
        exact y1 hz
      have hih := ih (k + 1) s2 (by omega) (fun j z => by
        by_cases y : j = k
        · rw [y]; exact hz
        · exact hj j (by omega)) hr2 h42
      refine R1 (g' := (32, _, _, _, _, _)) rfl rfl ?_
      refine R_getf rfl rfl (Nat.le_of_ble_eq_true rfl) rfl rfl ?_
      refine R1 (g' := (36, _, _, _, _, _)) rfl rfl ?_
      refine R_getf rfl rfl (Nat.le_of_ble_eq_true rfl) rfl rfl ?_
      refine R_cgeN 62 (pq g k) (L) rfl rfl (r13) (r5) (by omega) (by omega) (fun h => by omega) (fun h39 => ?_)
      refine R1 (g' := (43, _, _, _, _, _)) rfl rfl ?_
      refine R_call1 (Or.inr (Or.inl ⟨rfl, rfl⟩)) rfl rfl ⟨Nat.le_of_ble_eq_true rfl, Nat.le_of_ble_eq_true rfl⟩ (Nat.le_of_ble_eq_true rfl) ⟨rfl, rfl⟩ (⟨⟨_, _, _, rfl, (Nat.le_of_ble_eq_true rfl), rfl⟩, hro⟩) ?_
      refine R_eq 62 rfl rfl (fun h => by exact absurd h (by decide)) (fun h46 => ?_)
      refine R1 (g' := (50, _, _, _, _, _)) rfl rfl ?_
      refine R_call1 (Or.inr (Or.inl ⟨rfl, rfl⟩)) rfl rfl ⟨Nat.le_of_ble_eq_true rfl, Nat.le_of_ble_eq_true rfl⟩ (Nat.le_of_ble_eq_true rfl) ⟨rfl, rfl⟩ (⟨⟨_, _, _, rfl, (Nat.le_of_ble_eq_true rfl), rfl⟩, hca⟩) ?_
      refine R_eq 62 rfl rfl (fun h => by exact absurd h (by decide)) (fun h53 => ?_)
      refine R1 (g' := (59, _, _, _, _, _)) rfl rfl ?_
      refine R1 (g' := (31, _, _, _, _, _)) rfl rfl ?_
      refine R_lv [(1, .int (nI (k + 1))), (0, .ref 142)] rfl (List.forall_mem_cons.mpr ⟨by rw [nI_succ k]; rfl, List.forall_mem_cons.mpr ⟨rfl, fun _ h => absurd h List.not_mem_nil⟩⟩) ⟨rfl, rfl⟩ ?_
      exact xRun_imp hih (fun o w z => cor_tr (cX_tr (cX_rX rx) (cX_gX gx)) z)
    | false =>
      rw [hz] at hca
      refine R1 (g' := (32, _, _, _, _, _)) rfl rfl ?_
      refine R_getf rfl rfl (Nat.le_of_ble_eq_true rfl) rfl rfl ?_
      refine R1 (g' := (36, _, _, _, _, _)) rfl rfl ?_
      refine R_getf rfl rfl (Nat.le_of_ble_eq_true rfl) rfl rfl ?_
      refine R_cgeN 62 (pq g k) (L) rfl rfl (r13) (r5) (by omega) (by omega) (fun h => by omega) (fun h39 => ?_)
      refine R1 (g' := (43, _, _, _, _, _)) rfl rfl ?_
      refine R_call1 (Or.inr (Or.inl ⟨rfl, rfl⟩)) rfl rfl ⟨Nat.le_of_ble_eq_true rfl, Nat.le_of_ble_eq_true rfl⟩ (Nat.le_of_ble_eq_true rfl) ⟨rfl, rfl⟩ (⟨⟨_, _, _, rfl, (Nat.le_of_ble_eq_true rfl), rfl⟩, hro⟩) ?_
      refine R_eq 62 rfl rfl (fun h => by exact absurd h (by decide)) (fun h46 => ?_)
      refine R1 (g' := (50, _, _, _, _, _)) rfl rfl ?_
      refine R_call1 (Or.inr (Or.inl ⟨rfl, rfl⟩)) rfl rfl ⟨Nat.le_of_ble_eq_true rfl, Nat.le_of_ble_eq_true rfl⟩ (Nat.le_of_ble_eq_true rfl) ⟨rfl, rfl⟩ (⟨⟨_, _, _, rfl, (Nat.le_of_ble_eq_true rfl), rfl⟩, hca⟩) ?_
      refine R_eq 62 rfl rfl (fun h53 => ?_) (fun h => by exact absurd rfl h)
      refine R1 (g' := (63, _, _, _, _, _)) rfl rfl ?_
      refine R_iret rfl ?_
      exact ⟨s2, k, rfl, cX_tr (cX_rX rx) (cX_gX gx), y2 hz, ⟨hj, Or.inr ⟨by omega, hz⟩⟩, rfl⟩
theorem pr_carryOut {s : xs} (hR : Rl s) : Pair Ev_X8_carryOut Ev_X9_carryOut [.ref 0] [.ref 142] [] s := by
  obtain ⟨L, L90, c0, r5, heq⟩ := id hR.2.2.2
  obtain ⟨g, hg⟩ : ∃ g : Nat → Int32, ∀ i, (if i < L then s.1 141 i else -1) = g i := ⟨fun i => if i < L then s.1 141 i else -1, fun _ => rfl⟩
  obtain ⟨o1, w1, ⟨s1, rfl, cr, hrd⟩, hre⟩ := e2_read c0 L90 hg
  have hR1 : Rl s1 := Rl_Sx hR (Sx_cR cr)
  have e1 : ∀ i, i ≠ 133 → i ≠ 135 → i ≠ 137 → i ≠ 139 → s1.1 i = s.1 i := cr.1
  have hg9 : ∀ i, (if i < L then s.1 146 i else -1) = g i := fun i => by
    rw [← hg i]
    by_cases z : i < L
    · rw [if_pos z, if_pos z, heq i z]
    · rw [if_neg z, if_neg z]
  rcases hrd with ⟨n, ht, rfl, hn1, htr⟩ | ⟨n, e, hf, e1000, rfl⟩
  · have hqb := pq_b ht.1
    obtain ⟨s2, c, hc4, hc, hsv, hp2, hv⟩ := Rl_sv hR1
    have f2 : ∀ i, 122 < i → s2.1 i = s1.1 i := fun i z => sv_o hv (Or.inr z)
    have hl := co_loop hR1.2.1 ht.1 (by omega) n 0 s2 (Nat.zero_add _) (fun j z => absurd z (Nat.not_lt_zero _)) hp2.1 (trow_fr f2 htr)
    have hrun : xRun M_X8_carryOut (coc s2 g (s1.1 143) n) (0, xarg 0 [.ref 0], [], wd s, 0, 0) := by
      refine R1 (g' := (1, _, _, _, _, _)) rfl rfl ?_
      refine R_getf rfl rfl (Nat.le_of_ble_eq_true rfl) rfl rfl ?_
      refine R_call1 (Or.inr (Or.inl ⟨rfl, rfl⟩)) rfl rfl ⟨Nat.le_of_ble_eq_true rfl, Nat.le_of_ble_eq_true rfl⟩ (Nat.le_of_ble_eq_true rfl) ⟨rfl, rfl⟩ (⟨⟨_, _, _, rfl, (Nat.le_of_ble_eq_true rfl), rfl⟩, hre⟩) ?_
      refine R1 (g' := (8, _, _, _, _, _)) rfl rfl ?_
      refine R1 (g' := (9, _, _, _, _, _)) rfl rfl ?_
      refine R1 (g' := (10, _, .int (-1) :: _, _, _, _)) rfl rfl ?_
      refine R_ceq 18 rfl rfl (fun h10 => ?_) (fun h => by exact absurd rfl h)
      refine R1 (g' := (19, _, _, _, _, _)) rfl rfl ?_
      refine R_getf rfl rfl (Nat.le_of_ble_eq_true rfl) rfl rfl ?_
      refine R1 (g' := (23, _, _, _, _, _)) rfl rfl ?_
      refine R_getf rfl rfl (Nat.le_of_ble_eq_true rfl) rfl rfl ?_
      refine R_call2 (Or.inr (Or.inl ⟨rfl, rfl⟩)) rfl rfl ⟨Nat.le_of_ble_eq_true rfl, Nat.le_of_ble_eq_true rfl⟩ (Nat.le_of_ble_eq_true rfl) ⟨rfl, rfl⟩ (⟨⟨_, _, _, rfl, (Nat.le_of_ble_eq_true rfl), rfl⟩, hsv⟩) ?_
      refine R1 (g' := (30, _, _, _, _, _)) rfl rfl ?_
      refine R_getf rfl rfl (Nat.le_of_ble_eq_true rfl) rfl rfl ?_
      refine R_getf rfl rfl (Nat.le_of_ble_eq_true rfl) rfl rfl ?_
      rw [f2 133 (by decide), hn1]
      refine R1 (g' := (37, _, _, _, _, _)) rfl rfl ?_
      refine R1 (g' := (38, _, .int (nI 0) :: _, _, _, _)) rfl rfl ?_
      refine R1 (g' := (39, _, _, _, _, _)) rfl rfl ?_
      refine R_lv [(3, .int (nI 0)), (2, .int (nI n)), (1, .int (-1)), (0, .ref 0)] rfl (List.forall_mem_cons.mpr ⟨rfl, List.forall_mem_cons.mpr ⟨rfl, List.forall_mem_cons.mpr ⟨rfl, List.forall_mem_cons.mpr ⟨rfl, fun _ h => absurd h List.not_mem_nil⟩⟩⟩⟩) ⟨rfl, rfl⟩ ?_
      exact hl
    obtain ⟨o1, w1, ⟨s3, r, rfl, wo, hb, hend, rfl⟩, hev⟩ := xEv_ex (ret := some .int) (Nat.le_of_ble_eq_true rfl) (fun o w z => by
      obtain ⟨s', r, rfl, _, _, _, rfl⟩ := z
      exact ⟨Nat.le_refl _, Or.inl rfl⟩) hrun
    have o3 : Sx 21 s2 s3 := Sx_lo wo (by decide) (by decide)
    have e3 : s3.1 143 = s1.1 143 := sv_q hv o3
    have f3 : s3.1 146 = s.1 146 := by rw [wo.1 146 (by decide), f2 146 (by decide), e1 146 (by decide) (by decide) (by decide) (by decide)]
    have t5 : s3.1 142 5 = nI L := by
      rw [wo.1 142 (by decide), f2 142 (by decide), e1 142 (by decide) (by decide) (by decide) (by decide)]
      exact r5
    obtain ⟨o1, w1, ⟨s4, rfl, rx, hit⟩, hie⟩ := e9_isText (s := put s3 142 6 (nI 0)) (g := g) ((put6o (by decide)).trans t5) L90 (fun i => by rw [put6n (by decide), f3]; exact hg9 i)
    have hrle : r ≤ n := by rcases hend.2 with z | ⟨z, _⟩ <;> omega
    obtain ⟨ip, iq⟩ := cPg_ok hR1.2.1 ht.1 r hrle hend.1
    rcases hit with ⟨m, ht2, rfl⟩ | ⟨m, e, hf2, rfl, h13⟩
    · obtain rfl := td_td ht ht2
      have or : Sx 0 s3 s4 := Sx_tr (Sx_p (by decide) (by decide)) (Sx_rX rx)
      have o4 : Sx 21 s2 s4 := Sx_tr o3 (Sx_up (Nat.zero_le _) or)
      have h6 : s4.1 142 6 = nI 0 := (rx.2.1 6 (by decide)).trans put6
      obtain ⟨s5, hk, K⟩ := r_keep6 (s := s4) hc4 (sv_3 hv o4 hc)
      rw [put_self h6] at hk
      have e5 : s5.1 143 = s1.1 143 := (K6_q K).trans (sv_q hv o4)
      have hl9 := co9_loop (s := put s5 142 13 (nI 0)) (L := L) hR1.2.1 ht.1 ht.2 n 0 (Nat.zero_add _) (fun j z => absurd z (Nat.not_lt_zero _)) ⟨by rw [putn (by decide), K.2.1 5 (by decide) (by decide), rx.2.1 5 (by decide), put6o (by decide)]; exact t5, putv, L90, (show 0 < 1000 by decide), fun i => by rw [put_ne _ _ (by decide), K.1 146 (by decide) (by decide), rx.1 146 (by decide), put6n (by decide), f3]; exact hg9 i⟩ ((put_ne _ _ (by decide)).trans e5)
      have hrun9 : xRun M_X9_carryOut (cor (put s5 142 13 (nI 0)) g (s1.1 143) n) (0, xarg 0 [.ref 142], [], wd s3, 0, 0) := by
        refine R1 (g' := (1, _, _, _, _, _)) rfl rfl ?_
        refine R1 (g' := (2, _, .int (nI 0) :: _, _, _, _)) rfl rfl ?_
        refine R_put rfl rfl (Nat.le_of_ble_eq_true rfl) rfl (Nat.le_of_ble_eq_true rfl) ⟨_, rfl, Or.inl rfl, _, rfl, rfl⟩ rfl ?_
        change xRun _ _ (5, _, _, wd (put s3 142 6 (nI 0)), _, _)
        refine R1 (g' := (6, _, _, _, _, _)) rfl rfl ?_
        refine R_call1 (Or.inr (Or.inl ⟨rfl, rfl⟩)) rfl rfl ⟨Nat.le_of_ble_eq_true rfl, Nat.le_of_ble_eq_true rfl⟩ (Nat.le_of_ble_eq_true rfl) ⟨rfl, rfl⟩ (⟨⟨_, _, _, rfl, (Nat.le_of_ble_eq_true rfl), rfl⟩, hie⟩) ?_
        refine R_ne 20 rfl rfl (fun h9 => ?_) (fun h => by exact absurd h (by decide))
        refine R1 (g' := (21, _, _, _, _, _)) rfl rfl ?_
        refine R_call1 (Or.inr (Or.inl ⟨rfl, rfl⟩)) rfl rfl ⟨Nat.le_of_ble_eq_true rfl, Nat.le_of_ble_eq_true rfl⟩ (Nat.le_of_ble_eq_true rfl) ⟨rfl, rfl⟩ (⟨⟨_, _, _, rfl, (Nat.le_of_ble_eq_true rfl), rfl⟩, hk⟩) ?_
        refine R1 (g' := (25, _, _, _, _, _)) rfl rfl ?_
        refine R1 (g' := (26, _, .int (nI 0) :: _, _, _, _)) rfl rfl ?_
        refine R_put rfl rfl (Nat.le_of_ble_eq_true rfl) rfl (Nat.le_of_ble_eq_true rfl) ⟨_, rfl, Or.inl rfl, _, rfl, rfl⟩ rfl ?_
        change xRun _ _ (29, _, _, wd (put s5 142 13 (nI 0)), _, _)
        refine R1 (g' := (30, _, .int (nI 0) :: _, _, _, _)) rfl rfl ?_
        refine R1 (g' := (31, _, _, _, _, _)) rfl rfl ?_
        refine R_lv [(1, .int (nI 0)), (0, .ref 142)] rfl (List.forall_mem_cons.mpr ⟨rfl, List.forall_mem_cons.mpr ⟨rfl, fun _ h => absurd h List.not_mem_nil⟩⟩) ⟨rfl, rfl⟩ ?_
        exact hl9
      obtain ⟨o1, w1, ⟨s6, r2, rfl, cx, h43, hend2, rfl⟩, hev9⟩ := xEv_ex (ret := some .int) (Nat.le_of_ble_eq_true rfl) (fun o w z => by
        obtain ⟨s', r, rfl, _, _, _, rfl⟩ := z
        exact ⟨Nat.le_refl _, Or.inl rfl⟩) hrun9
      obtain rfl := coEnd_eq hend hend2
      refine Pair_t (s1 := s3) (s2 := s6) (v := nI r) hev hev9 (mutR2 hR1 hc4 hv o4 (pRel_Sx or (pRel_op hp2 wo hb (iq 8 (Or.inl rfl)) (fun i a b => iq i (Or.inr a)))) ip K (fun i a b => (cx.1 i a b).trans (put_ne _ _ a)) ((cx.2.1 3 (by decide)).trans (putn (by decide))) ((cx.2.1 5 (by decide)).trans (putn (by decide))) ((cx.2.1 6 (by decide)).trans (putn (by decide))) cx.2.2 h43)
    · exact (td_tf ht hf2).elim
  · obtain ⟨o1, w1, ⟨s4, rfl, rx, hit⟩, hie⟩ := e9_isText (s := put s1 142 6 (nI 0)) (L := L) (g := g) (by rw [put6o (by decide), e1 142 (by decide) (by decide) (by decide) (by decide)]; exact r5) L90 (fun i => by rw [put6n (by decide), e1 146 (by decide) (by decide) (by decide) (by decide)]; exact hg9 i)
    rcases hit with ⟨m, ht2, rfl⟩ | ⟨m, e2, hf2, rfl, h13⟩
    · exact (td_tf ht2 hf).elim
    · obtain rfl := tf_tf hf hf2
      refine Pair_t (s1 := s1) (s2 := s4) (v := -10 - nI e) ?_ ?_ ⟨Rl_Sx (Rl_code hR1) (Sx_rX rx), (rx.2.1 6 (by decide)).trans put6⟩
      · refine ⟨Nat.le_of_ble_eq_true rfl, Nat.le_refl _, Or.inl rfl, ?_⟩
        refine R1 (g' := (1, _, _, _, _, _)) rfl rfl ?_
        refine R_getf rfl rfl (Nat.le_of_ble_eq_true rfl) rfl rfl ?_
        refine R_call1 (Or.inr (Or.inl ⟨rfl, rfl⟩)) rfl rfl ⟨Nat.le_of_ble_eq_true rfl, Nat.le_of_ble_eq_true rfl⟩ (Nat.le_of_ble_eq_true rfl) ⟨rfl, rfl⟩ (⟨⟨_, _, _, rfl, (Nat.le_of_ble_eq_true rfl), rfl⟩, hre⟩) ?_
        refine R1 (g' := (8, _, _, _, _, _)) rfl rfl ?_
        refine R1 (g' := (9, _, _, _, _, _)) rfl rfl ?_
        refine R1 (g' := (10, _, .int (-1) :: _, _, _, _)) rfl rfl ?_
        refine R_ceq 18 rfl rfl (fun h => by exact absurd h (nIm1 (by omega))) (fun h10 => ?_)
        refine R1 (g' := (15, _, .int (-10) :: _, _, _, _)) rfl rfl ?_
        refine R1 (g' := (16, _, _, _, _, _)) rfl rfl ?_
        refine R1 (g' := (17, _, _, _, _, _)) rfl rfl ?_
        refine R_iret rfl ?_
        exact ⟨rfl, rfl⟩
      · refine ⟨Nat.le_of_ble_eq_true rfl, Nat.le_refl _, Or.inl rfl, ?_⟩
        refine R1 (g' := (1, _, _, _, _, _)) rfl rfl ?_
        refine R1 (g' := (2, _, .int (nI 0) :: _, _, _, _)) rfl rfl ?_
        refine R_put rfl rfl (Nat.le_of_ble_eq_true rfl) rfl (Nat.le_of_ble_eq_true rfl) ⟨_, rfl, Or.inl rfl, _, rfl, rfl⟩ rfl ?_
        change xRun _ _ (5, _, _, wd (put s1 142 6 (nI 0)), _, _)
        refine R1 (g' := (6, _, _, _, _, _)) rfl rfl ?_
        refine R_call1 (Or.inr (Or.inl ⟨rfl, rfl⟩)) rfl rfl ⟨Nat.le_of_ble_eq_true rfl, Nat.le_of_ble_eq_true rfl⟩ (Nat.le_of_ble_eq_true rfl) ⟨rfl, rfl⟩ (⟨⟨_, _, _, rfl, (Nat.le_of_ble_eq_true rfl), rfl⟩, hie⟩) ?_
        refine R_ne 20 rfl rfl (fun h => by exact absurd rfl h) (fun h9 => ?_)
        refine R1 (g' := (14, _, .int (-10) :: _, _, _, _)) rfl rfl ?_
        refine R1 (g' := (15, _, _, _, _, _)) rfl rfl ?_
        refine R_getf rfl rfl (Nat.le_of_ble_eq_true rfl) rfl rfl ?_
        rw [h13]
        refine R1 (g' := (19, _, _, _, _, _)) rfl rfl ?_
        refine R_iret rfl ?_
        exact ⟨rfl, rfl⟩
