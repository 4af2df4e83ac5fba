def rOut (s s' : xs) : Prop := (∀ i, i ≠ 142 → (i < 147 ∨ 150 < i) → s'.1 i = s.1 i) ∧ (∀ j, j ≠ 7 → j ≠ 8 → s'.1 142 j = s.1 142 j) ∧ s'.2 = s.2
theorem rOut_rf {s : xs} : rOut s s := ⟨fun _ _ _ => rfl, fun _ _ _ => rfl, rfl⟩
theorem rOut_tr {s s' s2 : xs} (h : rOut s s') (g : rOut s' s2) : rOut s s2 := ⟨fun i a b => (g.1 i a b).trans (h.1 i a b), fun j a b => (g.2.1 j a b).trans (h.2.1 j a b), g.2.2.trans h.2.2⟩
theorem rOut_set {s s' : xs} {i : Nat} {f : Nat → Int32} (h : rOut s s') (h1 : 147 ≤ i) (h2 : i ≤ 150) : rOut s (setP s' i f) := ⟨fun j a b => (setP_ne _ _ (by omega)).trans (h.1 j a b), fun j a b => by rw [setP_ne _ _ (by omega)]; exact h.2.1 j a b, h.2.2⟩
theorem rOut_nxt {s s' : xs} {a b : Nat} (h : rOut s s') : rOut s (nxt s' a b) := ⟨fun j x y => (nxt_ne x).trans (h.1 j x y), fun j x y => by
  rw [show (nxt s' a b).1 142 j = s'.1 142 j from by simp [nxt, put_val, x, y]]
  exact h.2.1 j x y, h.2.2⟩
def gRel (s : xs) (B : bSt) (c0 : Nat) : Prop := (∀ c, c < 9216 → s.1 147 c = if B.2.2.1 c = 0 then -1 else nI (B.2.2.2.2 c)) ∧ (∀ c, B.2.2.1 c ≠ 0 → c ≠ c0 → s.1 148 c = nI (3 * B.2.2.2.1 c + (B.2.2.1 c - 1))) ∧ ∀ j, j < B.1 → s.1 149 j = nI (B.2.1 j)
theorem gRel_nxt {s : xs} {B : bSt} {c0 a b : Nat} (h : gRel s B c0) : gRel (nxt s a b) B c0 := by
  unfold gRel
  rw [nxt_ne (by decide), nxt_ne (by decide), nxt_ne (by decide)]
  exact h
def sPush (s : xs) (c to q n : Nat) : xs :=
  let s1 := setP s 147 (upd (s.1 147) to (s.1 147 c + nI 1))
  let s2 := setP s1 148 (upd (s1.1 148) to (nI (3 * c + q)))
  setP s2 149 (upd (s2.1 149) n (nI to))
theorem gRel_G {s : xs} {B : bSt} {c0 i q v : Nat} (h : gRel s B c0) (hb : bOK c0 B) (hp : bP B i q v = true) : gRel (sPush s (B.2.1 i) (cN (B.2.1 i) q) q B.1) (bG B i q) c0 := by
  obtain ⟨h1, h2, h3⟩ := h
  obtain ⟨p1, p2, p3, p4⟩ := bP_iff hp
  have hoi := hb.1 i p1
  have e7 : (sPush s (B.2.1 i) (cN (B.2.1 i) q) q B.1).1 147 = upd (s.1 147) (cN (B.2.1 i) q) (s.1 147 (B.2.1 i) + nI 1) := by
    simp only [sPush]
    rw [setP_ne _ _ (by decide), setP_ne _ _ (by decide), setP_at]
  have e8 : (sPush s (B.2.1 i) (cN (B.2.1 i) q) q B.1).1 148 = upd (s.1 148) (cN (B.2.1 i) q) (nI (3 * B.2.1 i + q)) := by
    simp only [sPush]
    rw [setP_ne _ _ (by decide), setP_at, setP_ne _ _ (by decide)]
  have e9 : (sPush s (B.2.1 i) (cN (B.2.1 i) q) q B.1).1 149 = upd (s.1 149) B.1 (nI (cN (B.2.1 i) q)) := by
    simp only [sPush]
    rw [setP_at, setP_ne _ _ (by decide), setP_ne _ _ (by decide)]
  unfold gRel
  rw [e7, e8, e9]
  refine ⟨fun c hc => ?_, fun c hc hc2 => ?_, fun j hj => ?_⟩
  · show upd _ _ _ c = if va_up B.2.2.1 (cN (B.2.1 i) q) (q + 1) c = 0 then -1 else nI (va_up B.2.2.2.2 (cN (B.2.1 i) q) (B.2.2.2.2 (B.2.1 i) + 1) c)
    by_cases e : c = cN (B.2.1 i) q
    · subst e
      rw [pk_us, va_up_self, va_up_self, if_neg (Nat.succ_ne_zero q), h1 _ hoi.1, if_neg hoi.2, nI_add]
    · rw [pk_un e, va_up_ne _ _ e, va_up_ne _ _ e]
      exact h1 c hc
  · show upd _ _ _ c = nI (3 * va_up B.2.2.2.1 (cN (B.2.1 i) q) (B.2.1 i) c + (va_up B.2.2.1 (cN (B.2.1 i) q) (q + 1) c - 1))
    by_cases e : c = cN (B.2.1 i) q
    · subst e
      rw [pk_us, va_up_self, va_up_self]
      rfl
    · rw [pk_un e, va_up_ne _ _ e, va_up_ne _ _ e]
      refine h2 c ?_ hc2
      have : va_up B.2.2.1 (cN (B.2.1 i) q) (q + 1) c ≠ 0 := hc
      rw [va_up_ne _ _ e] at this
      exact this
  · show upd _ _ _ j = nI (va_up B.2.1 B.1 (cN (B.2.1 i) q) j)
    by_cases e : j = B.1
    · subst e
      rw [pk_us, va_up_self]
    · rw [pk_un e, va_up_ne _ _ e]
      exact h3 j (by have : j < B.1 + 1 := hj; omega)
theorem sPush_out {s : xs} {c to q n : Nat} : rOut s (sPush s c to q n) := rOut_set (rOut_set (rOut_set rOut_rf (by decide) (by decide)) (by decide) (by decide)) (by decide) (by decide)
def spPo (s : xs) (v c0 i : Nat) (o1 : xO) (w1 : xw) : Prop := ∃ s', w1 = wd s' ∧ rOut s s' ∧ gRel s' (bR v c0 (3 * i + 3)) c0 ∧ o1 = .inl (some (.int (nI (bR v c0 (3 * i + 3)).1)))
theorem spPo_tr {s s' : xs} {v c0 i : Nat} {o1 : xO} {w1 : xw} (h : rOut s s') (k : spPo s' v c0 i o1 w1) : spPo s v c0 i o1 w1 := by
  obtain ⟨s2, e, h2, k⟩ := k
  exact ⟨s2, e, rOut_tr h h2, k⟩
theorem nIm1 {c : Nat} (h : c < 2 ^ 31) : ¬ nI c = -1 := fun e => by
  have h1 : (nI c).toInt = (c : Int) := nI_toInt h
  rw [e] at h1
  have h2 : (-1 : Int32).toInt = -1 := by decide
  omega
theorem sp_loop {v c0 i c : Nat} {z : Int32} (hc0 : c0 < 9216) (hv : v < 2 ^ 31) : ∀ (d q : Nat) (s : xs), q + d = 3 → i < (bR v c0 (3 * i + q)).1 → (bR v c0 (3 * i + q)).2.1 i = c → (bR v c0 (3 * i + q)).2.2.2.2 c < 60 → gRel s (bR v c0 (3 * i + q)) c0 → xRun M_X9_spreads (spPo s v c0 i) (6, [(5, .int (nI q)), (4, .int (nI (bR v c0 (3 * i + q)).1)), (0, .ref 142), (1, .int (nI c)), (2, .int z), (3, .int (nI v))], [], wd s, 0, 0) := by
  intro d
  induction d with
  | zero =>
    intro q s hd hi hc hr hs
    have hq : q = 3 := by omega
    subst hq
    refine R1 (g' := (8, _, _, _, _, _)) rfl rfl ?_
    refine R1 (g' := (9, _, .int (nI 3) :: _, _, _, _)) rfl rfl ?_
    refine R_cgeN 104 (3) (3) rfl rfl (rfl) (rfl) (by omega) (by omega) (fun h9 => ?_) (fun h => by omega)
    refine R1 (g' := (106, _, _, _, _, _)) rfl rfl ?_
    refine R_iret rfl ?_
    exact ⟨s, rfl, rOut_rf, hs, rfl⟩
  | succ d ih =>
    intro q s hd hi hc hr hs
    have hq : q ≤ 2 := by omega
    have hb := bR_ok (v := v) hc0 (3 * i + q)
    have hbn : (bR v c0 (3 * i + q)).1 ≤ 9216 := by have := hb.2.1; omega
    have hm := hb.1 i hi
    rw [hc] at hm
    have hbs : bR v c0 (3 * i + q + 1) = bS v (bR v c0 (3 * i + q)) i q := bR_s rfl hq
    have hle : bLe (bR v c0 (3 * i + q)) (bR v c0 (3 * i + q + 1)) := bR_le2 (Nat.le_succ _)
    have go : ∀ s', rOut s s' → gRel s' (bR v c0 (3 * i + q + 1)) c0 → xRun M_X9_spreads (spPo s v c0 i) (6, [(5, .int (nI (q + 1))), (4, .int (nI (bR v c0 (3 * i + q + 1)).1)), (0, .ref 142), (1, .int (nI c)), (2, .int z), (3, .int (nI v))], [], wd s', 0, 0) := by
      intro s' hso hs'
      refine xRun_imp (ih (q + 1) s' (by omega) (Nat.lt_of_lt_of_le hi hle.1) ((hle.2.1 i hi).trans hc) ?_ hs') (fun _ _ k => spPo_tr hso k)
      show (bR v c0 (3 * i + q + 1)).2.2.2.2 c < 60
      rw [(hle.2.2 c hm.2).2.2]
      exact hr
    have hw := e9_would (s := s) (cw_rg hm.1).1 (cw_rg hm.1).2 hq hv
    cases hn : nCan (cw c) (ch c) q v with
    | false =>
      have hp : bP (bR v c0 (3 * i + q)) i q v = false := by unfold bP; rw [hc, hn, Bool.false_and, Bool.and_false, Bool.and_false]
      rw [bS, hp, cond_false] at hbs
      rw [hn] at hw
      refine R1 (g' := (8, _, _, _, _, _)) rfl rfl ?_
      refine R1 (g' := (9, _, .int (nI 3) :: _, _, _, _)) rfl rfl ?_
      refine R_cgeN 104 (q) (3) rfl rfl (rfl) (rfl) (by omega) (by omega) (fun h => by omega) (fun h9 => ?_)
      refine R1 (g' := (13, _, _, _, _, _)) rfl rfl ?_
      refine R1 (g' := (14, _, _, _, _, _)) rfl rfl ?_
      refine R1 (g' := (16, _, .int (nI 96) :: _, _, _, _)) rfl rfl ?_
      refine R_idiv rfl (by decide) ?_
      refine R1 (g' := (18, _, .int (nI 5) :: _, _, _, _)) rfl rfl ?_
      refine R1 (g' := (19, _, _, _, _, _)) rfl rfl ?_
      refine R1 (g' := (20, _, _, _, _, _)) rfl rfl ?_
      refine R1 (g' := (22, _, .int (nI 96) :: _, _, _, _)) rfl rfl ?_
      refine R_irem rfl (by decide) ?_
      refine R1 (g' := (24, _, .int (nI 5) :: _, _, _, _)) rfl rfl ?_
      refine R1 (g' := (25, _, _, _, _, _)) rfl rfl ?_
      refine R1 (g' := (27, _, _, _, _, _)) rfl rfl ?_
      refine R1 (g' := (28, _, _, _, _, _)) rfl rfl ?_
      rw [cw_nI hm.1, ch_nI hm.1]
      refine R_call5 (Or.inr (Or.inl ⟨rfl, rfl⟩)) rfl rfl ⟨Nat.le_of_ble_eq_true rfl, Nat.le_of_ble_eq_true rfl⟩ (Nat.le_of_ble_eq_true rfl) ⟨rfl, rfl⟩ (⟨⟨_, _, _, rfl, (Nat.le_of_ble_eq_true rfl), rfl⟩, hw⟩) ?_
      refine R_eq 98 rfl rfl (fun h31 => ?_) (fun h => by exact absurd rfl h)
      refine R1 (g' := (101, _, _, _, _, _)) rfl rfl ?_
      refine R1 (g' := (6, _, _, _, _, _)) rfl rfl ?_
      refine R_lv [(5, .int (nI (q + 1))), (4, .int (nI (bR v c0 (3 * i + q + 1)).1)), (0, .ref 142), (1, .int (nI c)), (2, .int z), (3, .int (nI v))] rfl (List.forall_mem_cons.mpr ⟨by rw [nI_succ q]; rfl, List.forall_mem_cons.mpr ⟨by rw [hbs]; rfl, List.forall_mem_cons.mpr ⟨rfl, List.forall_mem_cons.mpr ⟨rfl, List.forall_mem_cons.mpr ⟨rfl, List.forall_mem_cons.mpr ⟨rfl, fun _ h => absurd h List.not_mem_nil⟩⟩⟩⟩⟩⟩) ⟨rfl, rfl⟩ ?_
      exact go _ (rOut_nxt rOut_rf) (gRel_nxt (by rw [hbs]; exact hs))
    | true =>
      rw [hn] at hw
      obtain ⟨n1, n2, n3⟩ := cN_ok hn
      have hS : (nxt s (nNW (cw c) (ch c) q) (nNH (cw c) (ch c) q)).1 147 (cN c q) = if (bR v c0 (3 * i + q)).2.2.1 (cN c q) = 0 then -1 else nI ((bR v c0 (3 * i + q)).2.2.2.2 (cN c q)) := by rw [nxt_ne (by decide)]; exact hs.1 _ n1
      by_cases hz : (bR v c0 (3 * i + q)).2.2.1 (cN c q) = 0
      · have hp : bP (bR v c0 (3 * i + q)) i q v = true := by unfold bP; rw [hc, hn, hz, decide_eq_true hi, decide_eq_true hr]; rfl
        rw [bS, hp, cond_true] at hbs
        have hlt : (bR v c0 (3 * i + q)).1 < 9216 := by
          have := (bOK_G hb hq hp).2.1
          have e1 : (bG (bR v c0 (3 * i + q)) i q).1 = (bR v c0 (3 * i + q)).1 + 1 := rfl
          omega
        have hg := gRel_G (gRel_nxt (a := nNW (cw c) (ch c) q) (b := nNH (cw c) (ch c) q) hs) hb hp
        rw [hc] at hg
        refine R1 (g' := (8, _, _, _, _, _)) rfl rfl ?_
        refine R1 (g' := (9, _, .int (nI 3) :: _, _, _, _)) rfl rfl ?_
        refine R_cgeN 104 (q) (3) rfl rfl (rfl) (rfl) (by omega) (by omega) (fun h => by omega) (fun h9 => ?_)
        refine R1 (g' := (13, _, _, _, _, _)) rfl rfl ?_
        refine R1 (g' := (14, _, _, _, _, _)) rfl rfl ?_
        refine R1 (g' := (16, _, .int (nI 96) :: _, _, _, _)) rfl rfl ?_
        refine R_idiv rfl (by decide) ?_
        refine R1 (g' := (18, _, .int (nI 5) :: _, _, _, _)) rfl rfl ?_
        refine R1 (g' := (19, _, _, _, _, _)) rfl rfl ?_
        refine R1 (g' := (20, _, _, _, _, _)) rfl rfl ?_
        refine R1 (g' := (22, _, .int (nI 96) :: _, _, _, _)) rfl rfl ?_
        refine R_irem rfl (by decide) ?_
        refine R1 (g' := (24, _, .int (nI 5) :: _, _, _, _)) rfl rfl ?_
        refine R1 (g' := (25, _, _, _, _, _)) rfl rfl ?_
        refine R1 (g' := (27, _, _, _, _, _)) rfl rfl ?_
        refine R1 (g' := (28, _, _, _, _, _)) rfl rfl ?_
        rw [cw_nI hm.1, ch_nI hm.1]
        refine R_call5 (Or.inr (Or.inl ⟨rfl, rfl⟩)) rfl rfl ⟨Nat.le_of_ble_eq_true rfl, Nat.le_of_ble_eq_true rfl⟩ (Nat.le_of_ble_eq_true rfl) ⟨rfl, rfl⟩ (⟨⟨_, _, _, rfl, (Nat.le_of_ble_eq_true rfl), rfl⟩, hw⟩) ?_
        refine R_eq 98 rfl rfl (fun h => by exact absurd h (by decide)) (fun h31 => ?_)
        refine R1 (g' := (35, _, _, _, _, _)) rfl rfl ?_
        refine R_getf rfl rfl (Nat.le_of_ble_eq_true rfl) rfl rfl ?_
        refine R1 (g' := (39, _, _, _, _, _)) rfl rfl ?_
        refine R_getf rfl rfl (Nat.le_of_ble_eq_true rfl) rfl rfl ?_
        rw [nxt_7, nxt_8]
        refine R_call2 (Or.inl ⟨rfl, rfl⟩) rfl rfl ⟨Nat.le_of_ble_eq_true rfl, Nat.le_of_ble_eq_true rfl⟩ (Nat.le_of_ble_eq_true rfl) ⟨rfl, rfl⟩ (e9_sectionOf (nRg_iff.mp (nCan_rg hn).1).1 (nRg_iff.mp (nCan_rg hn).1).2 (nRg_iff.mp (nCan_rg hn).2).1 (nRg_iff.mp (nCan_rg hn).2).2) ?_
        change xRun _ _ (45, _, [.int (nI (cN c q))], _, _, _)
        refine R1 (g' := (47, _, _, _, _, _)) rfl rfl ?_
        refine R1 (g' := (48, _, _, _, _, _)) rfl rfl ?_
        refine R_getf rfl rfl (Nat.le_of_ble_eq_true rfl) rfl rfl ?_
        refine R1 (g' := (53, _, _, _, _, _)) rfl rfl ?_
        refine R_iald (cN c q) rfl (Nat.le_of_ble_eq_true rfl) rfl n1 (by decide) rfl ?_
        refine R1 (g' := (55, _, .int (-1) :: _, _, _, _)) rfl rfl ?_
        refine R_cne 98 rfl rfl (fun h => by exact absurd (show (nxt s (nNW (cw c) (ch c) q) (nNH (cw c) (ch c) q)).1 147 (cN c q) = -1 from by rw [hS, if_pos hz]) h) (fun h55 => ?_)
        refine R1 (g' := (59, _, _, _, _, _)) rfl rfl ?_
        refine R_getf rfl rfl (Nat.le_of_ble_eq_true rfl) rfl rfl ?_
        refine R1 (g' := (64, _, _, _, _, _)) rfl rfl ?_
        refine R1 (g' := (65, _, _, _, _, _)) rfl rfl ?_
        refine R_getf rfl rfl (Nat.le_of_ble_eq_true rfl) rfl rfl ?_
        refine R1 (g' := (69, _, _, _, _, _)) rfl rfl ?_
        refine R_iald c rfl (Nat.le_of_ble_eq_true rfl) rfl hm.1 (by decide) rfl ?_
        refine R1 (g' := (71, _, .int (nI 1) :: _, _, _, _)) rfl rfl ?_
        refine R1 (g' := (72, _, _, _, _, _)) rfl rfl ?_
        refine R_iast (cN c q) rfl (Nat.le_of_ble_eq_true rfl) (fun _ => rfl) n1 (by decide) rfl ?_
        refine R1 (g' := (74, _, _, _, _, _)) rfl rfl ?_
        refine R_getf rfl rfl (Nat.le_of_ble_eq_true rfl) rfl rfl ?_
        refine R1 (g' := (79, _, _, _, _, _)) rfl rfl ?_
        refine R1 (g' := (80, _, .int (nI 3) :: _, _, _, _)) rfl rfl ?_
        refine R1 (g' := (81, _, _, _, _, _)) rfl rfl ?_
        refine R1 (g' := (82, _, _, _, _, _)) rfl rfl ?_
        refine R1 (g' := (84, _, _, _, _, _)) rfl rfl ?_
        refine R1 (g' := (85, _, _, _, _, _)) rfl rfl ?_
        rw [pk_mul, nI_add]
        refine R_iast (cN c q) rfl (Nat.le_of_ble_eq_true rfl) (fun _ => rfl) n1 (by decide) rfl ?_
        refine R1 (g' := (87, _, _, _, _, _)) rfl rfl ?_
        refine R_getf rfl rfl (Nat.le_of_ble_eq_true rfl) rfl rfl ?_
        refine R1 (g' := (92, _, _, _, _, _)) rfl rfl ?_
        refine R1 (g' := (94, _, _, _, _, _)) rfl rfl ?_
        refine R_iast (bR v c0 (3 * i + q)).1 rfl (Nat.le_of_ble_eq_true rfl) (fun _ => rfl) hlt (by decide) rfl ?_
        refine R1 (g' := (98, _, _, _, _, _)) rfl rfl ?_
        refine R1 (g' := (101, _, _, _, _, _)) rfl rfl ?_
        refine R1 (g' := (6, _, _, _, _, _)) rfl rfl ?_
        refine R_lv [(5, .int (nI (q + 1))), (4, .int (nI (bR v c0 (3 * i + q + 1)).1)), (0, .ref 142), (1, .int (nI c)), (2, .int z), (3, .int (nI v))] rfl (List.forall_mem_cons.mpr ⟨by rw [nI_succ q]; rfl, List.forall_mem_cons.mpr ⟨by rw [hbs]; show some (Value.int (nI (bR v c0 (3 * i + q)).1 + Int32.ofInt 1)) = some (.int (nI ((bR v c0 (3 * i + q)).1 + 1))); rw [nI_succ]; rfl, List.forall_mem_cons.mpr ⟨rfl, List.forall_mem_cons.mpr ⟨rfl, List.forall_mem_cons.mpr ⟨rfl, List.forall_mem_cons.mpr ⟨rfl, fun _ h => absurd h List.not_mem_nil⟩⟩⟩⟩⟩⟩) ⟨rfl, rfl⟩ ?_
        refine go _ (rOut_tr (rOut_nxt rOut_rf) sPush_out) ?_
        rw [hbs]
        exact hg
      · have hp : bP (bR v c0 (3 * i + q)) i q v = false := by unfold bP; rw [hc, nBeq_0 hz, Bool.and_false, Bool.and_false, Bool.and_false]
        rw [bS, hp, cond_false] at hbs
        have h60 := (hb.2.2.2.2 _ hz).1
        refine R1 (g' := (8, _, _, _, _, _)) rfl rfl ?_
        refine R1 (g' := (9, _, .int (nI 3) :: _, _, _, _)) rfl rfl ?_
        refine R_cgeN 104 (q) (3) rfl rfl (rfl) (rfl) (by omega) (by omega) (fun h => by omega) (fun h9 => ?_)
        refine R1 (g' := (13, _, _, _, _, _)) rfl rfl ?_
        refine R1 (g' := (14, _, _, _, _, _)) rfl rfl ?_
        refine R1 (g' := (16, _, .int (nI 96) :: _, _, _, _)) rfl rfl ?_
        refine R_idiv rfl (by decide) ?_
        refine R1 (g' := (18, _, .int (nI 5) :: _, _, _, _)) rfl rfl ?_
        refine R1 (g' := (19, _, _, _, _, _)) rfl rfl ?_
        refine R1 (g' := (20, _, _, _, _, _)) rfl rfl ?_
        refine R1 (g' := (22, _, .int (nI 96) :: _, _, _, _)) rfl rfl ?_
        refine R_irem rfl (by decide) ?_
        refine R1 (g' := (24, _, .int (nI 5) :: _, _, _, _)) rfl rfl ?_
        refine R1 (g' := (25, _, _, _, _, _)) rfl rfl ?_
        refine R1 (g' := (27, _, _, _, _, _)) rfl rfl ?_
        refine R1 (g' := (28, _, _, _, _, _)) rfl rfl ?_
        rw [cw_nI hm.1, ch_nI hm.1]
        refine R_call5 (Or.inr (Or.inl ⟨rfl, rfl⟩)) rfl rfl ⟨Nat.le_of_ble_eq_true rfl, Nat.le_of_ble_eq_true rfl⟩ (Nat.le_of_ble_eq_true rfl) ⟨rfl, rfl⟩ (⟨⟨_, _, _, rfl, (Nat.le_of_ble_eq_true rfl), rfl⟩, hw⟩) ?_
        refine R_eq 98 rfl rfl (fun h => by exact absurd h (by decide)) (fun h31 => ?_)
        refine R1 (g' := (35, _, _, _, _, _)) rfl rfl ?_
        refine R_getf rfl rfl (Nat.le_of_ble_eq_true rfl) rfl rfl ?_
        refine R1 (g' := (39, _, _, _, _, _)) rfl rfl ?_
        refine R_getf rfl rfl (Nat.le_of_ble_eq_true rfl) rfl rfl ?_
        rw [nxt_7, nxt_8]
        refine R_call2 (Or.inl ⟨rfl, rfl⟩) rfl rfl ⟨Nat.le_of_ble_eq_true rfl, Nat.le_of_ble_eq_true rfl⟩ (Nat.le_of_ble_eq_true rfl) ⟨rfl, rfl⟩ (e9_sectionOf (nRg_iff.mp (nCan_rg hn).1).1 (nRg_iff.mp (nCan_rg hn).1).2 (nRg_iff.mp (nCan_rg hn).2).1 (nRg_iff.mp (nCan_rg hn).2).2) ?_
        change xRun _ _ (45, _, [.int (nI (cN c q))], _, _, _)
        refine R1 (g' := (47, _, _, _, _, _)) rfl rfl ?_
        refine R1 (g' := (48, _, _, _, _, _)) rfl rfl ?_
        refine R_getf rfl rfl (Nat.le_of_ble_eq_true rfl) rfl rfl ?_
        refine R1 (g' := (53, _, _, _, _, _)) rfl rfl ?_
        refine R_iald (cN c q) rfl (Nat.le_of_ble_eq_true rfl) rfl n1 (by decide) rfl ?_
        refine R1 (g' := (55, _, .int (-1) :: _, _, _, _)) rfl rfl ?_
        refine R_cne 98 rfl rfl (fun h55 => ?_) (fun h => by exact absurd h (show ¬ (nxt s (nNW (cw c) (ch c) q) (nNH (cw c) (ch c) q)).1 147 (cN c q) = -1 from by rw [hS, if_neg hz]; exact nIm1 (by omega)))
        refine R1 (g' := (101, _, _, _, _, _)) rfl rfl ?_
        refine R1 (g' := (6, _, _, _, _, _)) rfl rfl ?_
        refine R_lv [(5, .int (nI (q + 1))), (4, .int (nI (bR v c0 (3 * i + q + 1)).1)), (0, .ref 142), (1, .int (nI c)), (2, .int z), (3, .int (nI v))] rfl (List.forall_mem_cons.mpr ⟨by rw [nI_succ q]; rfl, List.forall_mem_cons.mpr ⟨by rw [hbs]; rfl, List.forall_mem_cons.mpr ⟨rfl, List.forall_mem_cons.mpr ⟨rfl, List.forall_mem_cons.mpr ⟨rfl, List.forall_mem_cons.mpr ⟨rfl, fun _ h => absurd h List.not_mem_nil⟩⟩⟩⟩⟩⟩) ⟨rfl, rfl⟩ ?_
        exact go _ (rOut_nxt rOut_rf) (gRel_nxt (by rw [hbs]; exact hs))
theorem e9_spreads {s : xs} {v c0 i c : Nat} (hc0 : c0 < 9216) (hv : v < 2 ^ 31) (hi : i < (bR v c0 (3 * i)).1) (hc : (bR v c0 (3 * i)).2.1 i = c) (hr : (bR v c0 (3 * i)).2.2.2.2 c < 60) (hs : gRel s (bR v c0 (3 * i)) c0) : ∃ o1 w1, spPo s v c0 i o1 w1 ∧ Ev_X9_spreads [.ref 142, .int (nI c), .int (nI (bR v c0 (3 * i)).1), .int (nI v)] (wd s) o1 w1 := by
  refine xEv_ex (Nat.le_of_ble_eq_true rfl) (fun o1 w1 k => ?_) ?_
  · obtain ⟨s2, rfl, _, _, rfl⟩ := k
    exact ⟨Nat.le_refl _, Or.inl rfl⟩
  refine R1 (g' := (1, _, _, _, _, _)) rfl rfl ?_
  refine R1 (g' := (3, _, _, _, _, _)) rfl rfl ?_
  refine R1 (g' := (4, _, .int (nI 0) :: _, _, _, _)) rfl rfl ?_
  refine R1 (g' := (6, _, _, _, _, _)) rfl rfl ?_
  refine R_lv [(5, .int (nI 0)), (4, .int (nI (bR v c0 (3 * i)).1)), (0, .ref 142), (1, .int (nI c)), (2, .int (nI (bR v c0 (3 * i)).1)), (3, .int (nI v))] rfl (List.forall_mem_cons.mpr ⟨rfl, List.forall_mem_cons.mpr ⟨rfl, List.forall_mem_cons.mpr ⟨rfl, List.forall_mem_cons.mpr ⟨rfl, List.forall_mem_cons.mpr ⟨rfl, List.forall_mem_cons.mpr ⟨rfl, fun _ h => absurd h List.not_mem_nil⟩⟩⟩⟩⟩⟩) ⟨rfl, rfl⟩ ?_
  exact sp_loop hc0 hv 3 0 s rfl hi hc hr hs
theorem wk_loop {s : xs} {B : bSt} {c0 c : Nat} {z : Int32} (hs : gRel s B c0) (hb : bOK c0 B) (hc : B.2.2.1 c ≠ 0) : ∀ (k : Nat) (f : Nat → Int32), k ≤ B.2.2.2.2 c → (∀ j, k ≤ j → j < B.2.2.2.2 c → f j = nI (bWy B c j)) → xRun M_X9_walks (fun o1 w1 => o1 = .inl (some (.int z)) ∧ ∃ f : Nat → Int32, w1 = wd (setP s 150 f) ∧ ∀ j, j < B.2.2.2.2 c → f j = nI (bWy B c j)) (14, [(4, .int (nI k - nI 1)), (3, .int (nI (bBk B c (B.2.2.2.2 c - k)))), (2, .int z), (0, .ref 142), (1, .int (nI c))], [], wd (setP s 150 f), 0, 0) := by
  intro k
  have hr60 := (hb.2.2.2.2 c hc).1
  induction k with
  | zero =>
    intro f hk hf
    refine R1 (g' := (16, _, _, _, _, _)) rfl rfl ?_
    refine R_lt 49 rfl rfl (fun h16 => ?_) (fun h => by exact absurd (by decide) h)
    refine R1 (g' := (50, _, _, _, _, _)) rfl rfl ?_
    refine R_iret rfl ?_
    exact ⟨rfl, f, rfl, fun j hj => hf j (Nat.zero_le _) hj⟩
  | succ k ih =>
    intro f hk hf
    have hbk := bBk_ok hb hc (B.2.2.2.2 c - (k + 1)) (by omega)
    have hcl := (hb.2.2.2.2 _ hbk.1).2.1
    have hne : bBk B c (B.2.2.2.2 c - (k + 1)) ≠ c0 := fun e => by
      have h1 := hb.2.2.2.1
      have h2 := hbk.2
      rw [e, h1] at h2
      omega
    have hby := hs.2.1 _ hbk.1 hne
    have e1 : nI (k + 1) - nI 1 = nI k := by rw [pk_sub (by omega)]; rfl
    have e2 : bWy B c k = B.2.2.1 (bBk B c (B.2.2.2.2 c - (k + 1))) - 1 := by unfold bWy; rw [show B.2.2.2.2 c - 1 - k = B.2.2.2.2 c - (k + 1) by omega]
    have e3 : bBk B c (B.2.2.2.2 c - k) = B.2.2.2.1 (bBk B c (B.2.2.2.2 c - (k + 1))) := by rw [show B.2.2.2.2 c - k = (B.2.2.2.2 c - (k + 1)) + 1 by omega]; rfl
    have hfb : B.2.2.2.1 (bBk B c (B.2.2.2.2 c - (k + 1))) < 9216 ∧ B.2.2.1 (bBk B c (B.2.2.2.2 c - (k + 1))) - 1 ≤ 2 := by
      rcases (hb.2.2.2.2 _ hbk.1).2.2 with e | ⟨_, q, k1, k2, k3, _⟩
      · exact absurd e hne
      · exact ⟨(hb.2.2.2.2 _ k3).2.1, by omega⟩
    rw [e1]
    refine R1 (g' := (16, _, _, _, _, _)) rfl rfl ?_
    refine R_lt 49 rfl rfl (fun h => by exact absurd h (nI_pos (by omega))) (fun h16 => ?_)
    refine R1 (g' := (20, _, _, _, _, _)) rfl rfl ?_
    refine R_getf rfl rfl (Nat.le_of_ble_eq_true rfl) rfl rfl ?_
    refine R1 (g' := (25, _, _, _, _, _)) rfl rfl ?_
    refine R1 (g' := (26, _, _, _, _, _)) rfl rfl ?_
    refine R_getf rfl rfl (Nat.le_of_ble_eq_true rfl) rfl rfl ?_
    refine R1 (g' := (30, _, _, _, _, _)) rfl rfl ?_
    refine R_iald (bBk B c (B.2.2.2.2 c - (k + 1))) rfl (Nat.le_of_ble_eq_true rfl) rfl hcl (by decide) rfl ?_
    rw [setP_ne _ _ (by decide), hby]
    refine R1 (g' := (32, _, .int (nI 3) :: _, _, _, _)) rfl rfl ?_
    refine R_irem rfl (by decide) ?_
    rw [pk_rem (by omega) (by decide) (by decide), show (3 * B.2.2.2.1 (bBk B c (B.2.2.2.2 c - (k + 1))) + (B.2.2.1 (bBk B c (B.2.2.2.2 c - (k + 1))) - 1)) % 3 = bWy B c k by rw [e2]; omega]
    refine R_iast k rfl (Nat.le_of_ble_eq_true rfl) (fun _ => rfl) (by omega) (by decide) rfl ?_
    rw [setP_at, setP_setP]
    refine R1 (g' := (35, _, _, _, _, _)) rfl rfl ?_
    refine R_getf rfl rfl (Nat.le_of_ble_eq_true rfl) rfl rfl ?_
    refine R1 (g' := (39, _, _, _, _, _)) rfl rfl ?_
    refine R_iald (bBk B c (B.2.2.2.2 c - (k + 1))) rfl (Nat.le_of_ble_eq_true rfl) rfl hcl (by decide) rfl ?_
    rw [setP_ne _ _ (by decide), hby]
    refine R1 (g' := (41, _, .int (nI 3) :: _, _, _, _)) rfl rfl ?_
    refine R_idiv rfl (by decide) ?_
    rw [pk_div (by omega) (by decide) (by decide), show (3 * B.2.2.2.1 (bBk B c (B.2.2.2.2 c - (k + 1))) + (B.2.2.1 (bBk B c (B.2.2.2.2 c - (k + 1))) - 1)) / 3 = bBk B c (B.2.2.2.2 c - k) by rw [e3]; omega]
    refine R1 (g' := (43, _, _, _, _, _)) rfl rfl ?_
    refine R1 (g' := (46, _, _, _, _, _)) rfl rfl ?_
    refine R1 (g' := (14, _, _, _, _, _)) rfl rfl ?_
    refine R_lv [(4, .int (nI k - nI 1)), (3, .int (nI (bBk B c (B.2.2.2.2 c - k)))), (2, .int z), (0, .ref 142), (1, .int (nI c))] rfl (List.forall_mem_cons.mpr ⟨by rw [Int32.sub_eq_add_neg]; rfl, List.forall_mem_cons.mpr ⟨rfl, List.forall_mem_cons.mpr ⟨rfl, List.forall_mem_cons.mpr ⟨rfl, List.forall_mem_cons.mpr ⟨rfl, fun _ h => absurd h List.not_mem_nil⟩⟩⟩⟩⟩) ⟨rfl, rfl⟩ ?_
    refine ih _ (by omega) (fun j a b => ?_)
    by_cases e : j = k
    · subst e
      exact pk_us
    · exact (pk_un e).trans (hf j (by omega) b)
theorem e9_walks {s : xs} {B : bSt} {c0 c : Nat} (hs : gRel s B c0) (hb : bOK c0 B) (hc : B.2.2.1 c ≠ 0) : ∃ f : Nat → Int32, (∀ j, j < B.2.2.2.2 c → f j = nI (bWy B c j)) ∧ Ev_X9_walks [.ref 142, .int (nI c)] (wd s) (.inl (some (.int (nI (B.2.2.2.2 c))))) (wd (setP s 150 f)) := by
  have hcl := (hb.2.2.2.2 _ hc).2.1
  have hr := wk_loop (z := nI (B.2.2.2.2 c)) hs hb hc (B.2.2.2.2 c) (s.1 150) (Nat.le_refl _) (fun j a b => absurd a (by omega))
  rw [setP_self, Nat.sub_self] at hr
  have hr1 : xRun M_X9_walks (fun o1 w1 => o1 = .inl (some (.int (nI (B.2.2.2.2 c)))) ∧ ∃ f : Nat → Int32, w1 = wd (setP s 150 f) ∧ ∀ j, j < B.2.2.2.2 c → f j = nI (bWy B c j)) (0, xarg 0 [.ref 142, .int (nI c)], [], wd s, 0, 0) := by
    refine R1 (g' := (1, _, _, _, _, _)) rfl rfl ?_
    refine R_getf rfl rfl (Nat.le_of_ble_eq_true rfl) rfl rfl ?_
    refine R1 (g' := (5, _, _, _, _, _)) rfl rfl ?_
    refine R_iald c rfl (Nat.le_of_ble_eq_true rfl) rfl hcl (by decide) rfl ?_
    rw [hs.1 c hcl, if_neg hc]
    refine R1 (g' := (7, _, _, _, _, _)) rfl rfl ?_
    refine R1 (g' := (8, _, _, _, _, _)) rfl rfl ?_
    refine R1 (g' := (9, _, _, _, _, _)) rfl rfl ?_
    refine R1 (g' := (10, _, _, _, _, _)) rfl rfl ?_
    refine R1 (g' := (11, _, .int (nI 1) :: _, _, _, _)) rfl rfl ?_
    refine R1 (g' := (12, _, _, _, _, _)) rfl rfl ?_
    refine R1 (g' := (14, _, _, _, _, _)) rfl rfl ?_
    exact R_lv [(4, .int (nI (B.2.2.2.2 c) - nI 1)), (3, .int (nI (bBk B c 0))), (2, .int (nI (B.2.2.2.2 c))), (0, .ref 142), (1, .int (nI c))] rfl (List.forall_mem_cons.mpr ⟨rfl, List.forall_mem_cons.mpr ⟨rfl, List.forall_mem_cons.mpr ⟨rfl, List.forall_mem_cons.mpr ⟨rfl, List.forall_mem_cons.mpr ⟨rfl, fun _ h => absurd h List.not_mem_nil⟩⟩⟩⟩⟩) ⟨rfl, rfl⟩ hr
  obtain ⟨o1, w1, ⟨rfl, f, rfl, hf⟩, hr2⟩ := xRun_ex hr1
  exact ⟨f, hf, Nat.le_of_ble_eq_true rfl, Nat.le_refl _, Or.inl rfl, hr2⟩
