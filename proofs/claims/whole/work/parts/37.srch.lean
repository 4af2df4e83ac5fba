theorem xsec_132 : xsec 132 := ⟨by decide, fun _ _ _ => rfl⟩
theorem xrw_124 : xrw 124 60 := ⟨by decide, fun _ _ _ => rfl, fun _ _ _ => rfl⟩
theorem xrw_126 : xrw 126 9216 := ⟨by decide, fun _ _ _ => rfl, fun _ _ _ => rfl⟩
theorem xrw_128 : xrw 128 9216 := ⟨by decide, fun _ _ _ => rfl, fun _ _ _ => rfl⟩
theorem xrw_130 : xrw 130 9216 := ⟨by decide, fun _ _ _ => rfl, fun _ _ _ => rfl⟩
theorem e7_cellOf {s : xs} {a b : Nat} (hw : s.1 132 0 = nI a) (hh : s.1 132 1 = nI b) (ha : nRg a = true) (hb : nRg b = true) : Ev_X7_cellOfSection [.ref 123] (wd s) (.inl (some (.int (nI (cl a b))))) (wd s) := by
  rw [nRg_iff] at ha hb
  refine ⟨Nat.le_of_ble_eq_true rfl, Nat.le_refl _, Or.inl rfl, ?_⟩
  refine R1 (g' := (1, _, _, _, _, _)) rfl rfl ?_
  refine R_getf rfl rfl (Nat.le_of_ble_eq_true rfl) rfl rfl ?_
  refine R_getf rfl rfl (Nat.le_of_ble_eq_true rfl) rfl rfl ?_
  rw [hw]
  refine R1 (g' := (8, _, .int (nI 5) :: _, _, _, _)) rfl rfl ?_
  refine R1 (g' := (9, _, _, _, _, _)) rfl rfl ?_
  rw [pk_sub (by omega)]
  refine R1 (g' := (11, _, .int (nI 96) :: _, _, _, _)) rfl rfl ?_
  refine R1 (g' := (12, _, _, _, _, _)) rfl rfl ?_
  rw [pk_mul]
  refine R1 (g' := (13, _, _, _, _, _)) rfl rfl ?_
  refine R_getf rfl rfl (Nat.le_of_ble_eq_true rfl) rfl rfl ?_
  refine R_getf rfl rfl (Nat.le_of_ble_eq_true rfl) rfl rfl ?_
  rw [hh]
  refine R1 (g' := (20, _, _, _, _, _)) rfl rfl ?_
  rw [nI_add]
  refine R1 (g' := (21, _, .int (nI 5) :: _, _, _, _)) rfl rfl ?_
  refine R1 (g' := (22, _, _, _, _, _)) rfl rfl ?_
  rw [pk_sub (by omega)]
  refine R_iret rfl ?_
  exact ⟨o_i (congrArg nI (by unfold cl; omega)), rfl⟩
theorem e7_fits {s : xs} {a b x y o : Nat} (hw : s.1 132 0 = nI a) (hh : s.1 132 1 = nI b) (hx : s.1 123 8 = nI x) (hy : s.1 123 9 = nI y) (ho : s.1 123 10 = nI o) (ha : nRg a = true) (hb : nRg b = true) (hx2 : x < 2 ^ 20) (hy2 : y < 2 ^ 20) (ho2 : o < 2 ^ 20) : Ev_X7_sectionFits [.ref 123] (wd s) (.inl (some (.int (bI (nNear a x o && nNear b y o))))) (wd s) := by
  rw [nRg_iff] at ha hb
  refine ⟨Nat.le_of_ble_eq_true rfl, Nat.le_refl _, Or.inr ⟨rfl, bI_01 _⟩, ?_⟩
  refine R1 (g' := (1, _, _, _, _, _)) rfl rfl ?_
  refine R_getf rfl rfl (Nat.le_of_ble_eq_true rfl) rfl rfl ?_
  refine R_getf rfl rfl (Nat.le_of_ble_eq_true rfl) rfl rfl ?_
  refine R1 (g' := (8, _, _, _, _, _)) rfl rfl ?_
  refine R_getf rfl rfl (Nat.le_of_ble_eq_true rfl) rfl rfl ?_
  refine R1 (g' := (12, _, _, _, _, _)) rfl rfl ?_
  refine R_getf rfl rfl (Nat.le_of_ble_eq_true rfl) rfl rfl ?_
  rw [hw, hx, ho]
  refine R_call3 (Or.inl ⟨rfl, rfl⟩) rfl rfl ⟨Nat.le_of_ble_eq_true rfl, Nat.le_of_ble_eq_true rfl⟩ (Nat.le_of_ble_eq_true rfl) ⟨rfl, rfl⟩ (e_isNear (by omega) (by omega) (by omega)) ?_
  refine R_eq 46 rfl rfl (fun h18 => ?_) (fun h18 => ?_)
  · refine R1 (g' := (47, _, .int (nI 0) :: _, _, _, _)) rfl rfl ?_
    refine R_iret rfl ?_
    first
      | (have e := bI_e h18; exact ⟨o_i (bI_f (by rw [e, Bool.false_and])).symm, rfl⟩)
      | (have e := bI_e h39; exact ⟨o_i (bI_f (by rw [e, Bool.and_false])).symm, rfl⟩)
      | (have e := bI_n h18; have e2 := bI_n h39; exact ⟨o_i (bI_t (by rw [e, e2, Bool.and_self])).symm, rfl⟩)
  · refine R1 (g' := (22, _, _, _, _, _)) rfl rfl ?_
    refine R_getf rfl rfl (Nat.le_of_ble_eq_true rfl) rfl rfl ?_
    refine R_getf rfl rfl (Nat.le_of_ble_eq_true rfl) rfl rfl ?_
    refine R1 (g' := (29, _, _, _, _, _)) rfl rfl ?_
    refine R_getf rfl rfl (Nat.le_of_ble_eq_true rfl) rfl rfl ?_
    refine R1 (g' := (33, _, _, _, _, _)) rfl rfl ?_
    refine R_getf rfl rfl (Nat.le_of_ble_eq_true rfl) rfl rfl ?_
    rw [hh, hy, ho]
    refine R_call3 (Or.inl ⟨rfl, rfl⟩) rfl rfl ⟨Nat.le_of_ble_eq_true rfl, Nat.le_of_ble_eq_true rfl⟩ (Nat.le_of_ble_eq_true rfl) ⟨rfl, rfl⟩ (e_isNear (by omega) (by omega) (by omega)) ?_
    refine R_eq 46 rfl rfl (fun h39 => ?_) (fun h39 => ?_)
    · refine R1 (g' := (47, _, .int (nI 0) :: _, _, _, _)) rfl rfl ?_
      refine R_iret rfl ?_
      first
        | (have e := bI_e h18; exact ⟨o_i (bI_f (by rw [e, Bool.false_and])).symm, rfl⟩)
        | (have e := bI_e h39; exact ⟨o_i (bI_f (by rw [e, Bool.and_false])).symm, rfl⟩)
        | (have e := bI_n h18; have e2 := bI_n h39; exact ⟨o_i (bI_t (by rw [e, e2, Bool.and_self])).symm, rfl⟩)
    · refine R1 (g' := (43, _, .int (nI 1) :: _, _, _, _)) rfl rfl ?_
      refine R1 (g' := (47, _, _, _, _, _)) rfl rfl ?_
      refine R_iret rfl ?_
      first
        | (have e := bI_e h18; exact ⟨o_i (bI_f (by rw [e, Bool.false_and])).symm, rfl⟩)
        | (have e := bI_e h39; exact ⟨o_i (bI_f (by rw [e, Bool.and_false])).symm, rfl⟩)
        | (have e := bI_n h18; have e2 := bI_n h39; exact ⟨o_i (bI_t (by rw [e, e2, Bool.and_self])).symm, rfl⟩)
def sReach (s : xs) (c b : Nat) (m : Int32) (n : Nat) : xs :=
  let s1 := setP s 131 (upd (s.1 131) c m)
  let s2 := setP s1 129 (upd (s1.1 129) c (nI b))
  let s3 := setP s2 127 (upd (s2.1 127) n (nI c))
  put s3 123 6 (nI (n + 1))
theorem e7_reach {s : xs} {c b n : Nat} {m : Int32} (hc : c < 9216) (hn : n < 9216) (h6 : s.1 123 6 = nI n) : Ev_X7_reach [.ref 123, .int (nI c), .int (nI b), .int m] (wd s) (.inl none) (wd (sReach s c b m n)) := by
  refine ⟨Nat.le_of_ble_eq_true rfl, Nat.le_refl _, rfl, ?_⟩
  refine R1 (g' := (1, _, _, _, _, _)) rfl rfl ?_
  refine R_getf rfl rfl (Nat.le_of_ble_eq_true rfl) rfl rfl ?_
  refine R1 (g' := (5, _, _, _, _, _)) rfl rfl ?_
  refine R1 (g' := (6, _, _, _, _, _)) rfl rfl ?_
  refine R_call3 (Or.inr (Or.inl ⟨rfl, rfl⟩)) rfl rfl ⟨Nat.le_of_ble_eq_true rfl, Nat.le_of_ble_eq_true rfl⟩ (Nat.le_of_ble_eq_true rfl) ⟨rfl, rfl⟩ (⟨⟨_, _, _, rfl, (Nat.le_of_ble_eq_true rfl), rfl⟩, e_Row_set xrw_130 (by decide) hc⟩) ?_
  refine R1 (g' := (10, _, _, _, _, _)) rfl rfl ?_
  refine R_getf rfl rfl (Nat.le_of_ble_eq_true rfl) rfl rfl ?_
  refine R1 (g' := (14, _, _, _, _, _)) rfl rfl ?_
  refine R1 (g' := (15, _, _, _, _, _)) rfl rfl ?_
  refine R_call3 (Or.inr (Or.inl ⟨rfl, rfl⟩)) rfl rfl ⟨Nat.le_of_ble_eq_true rfl, Nat.le_of_ble_eq_true rfl⟩ (Nat.le_of_ble_eq_true rfl) ⟨rfl, rfl⟩ (⟨⟨_, _, _, rfl, (Nat.le_of_ble_eq_true rfl), rfl⟩, e_Row_set xrw_128 (by decide) hc⟩) ?_
  refine R1 (g' := (19, _, _, _, _, _)) rfl rfl ?_
  refine R_getf rfl rfl (Nat.le_of_ble_eq_true rfl) rfl rfl ?_
  refine R1 (g' := (23, _, _, _, _, _)) rfl rfl ?_
  refine R_getf rfl rfl (Nat.le_of_ble_eq_true rfl) rfl rfl ?_
  refine R1 (g' := (27, _, _, _, _, _)) rfl rfl ?_
  rw [setP_ne _ _ (by decide), setP_ne _ _ (by decide), h6]
  refine R_call3 (Or.inr (Or.inl ⟨rfl, rfl⟩)) rfl rfl ⟨Nat.le_of_ble_eq_true rfl, Nat.le_of_ble_eq_true rfl⟩ (Nat.le_of_ble_eq_true rfl) ⟨rfl, rfl⟩ (⟨⟨_, _, _, rfl, (Nat.le_of_ble_eq_true rfl), rfl⟩, e_Row_set xrw_126 (by decide) hn⟩) ?_
  refine R1 (g' := (31, _, _, _, _, _)) rfl rfl ?_
  refine R1 (g' := (32, _, _, _, _, _)) rfl rfl ?_
  refine R_getf rfl rfl (Nat.le_of_ble_eq_true rfl) rfl rfl ?_
  rw [setP_ne _ _ (by decide), setP_ne _ _ (by decide), setP_ne _ _ (by decide), h6]
  refine R1 (g' := (36, _, .int (nI 1) :: _, _, _, _)) rfl rfl ?_
  refine R1 (g' := (37, _, _, _, _, _)) rfl rfl ?_
  rw [nI_add]
  refine R_put rfl rfl (Nat.le_of_ble_eq_true rfl) rfl (Nat.le_of_ble_eq_true rfl) ⟨_, rfl, Or.inl rfl, _, rfl, rfl⟩ rfl ?_
  refine R_vret rfl ?_
  exact ⟨rfl, rfl⟩
def cRel (s : xs) (B : bSt) (v x y o : Nat) : Prop := (s.1 123 6 = nI B.1 ∧ s.1 123 7 = nI v ∧ s.1 123 8 = nI x ∧ s.1 123 9 = nI y ∧ s.1 123 10 = nI o) ∧ (∀ j, j < B.1 → s.1 127 j = nI (B.2.1 j)) ∧ (∀ c, c < 9216 → s.1 131 c = nI (B.2.2.1 c)) ∧ ∀ c, B.2.2.1 c ≠ 0 → s.1 129 c = nI (B.2.2.2.1 c)
theorem cRel_sec {s : xs} {B : bSt} {v x y o : Nat} {f : Nat → Int32} (h : cRel s B v x y o) : cRel (setP s 132 f) B v x y o := by
  unfold cRel
  rw [setP_ne _ _ (by decide), setP_ne _ _ (by decide), setP_ne _ _ (by decide), setP_ne _ _ (by decide)]
  exact h
theorem sReach_127 {s : xs} {c b n : Nat} {m : Int32} : (sReach s c b m n).1 127 = upd (s.1 127) n (nI c) := by
  simp only [sReach]
  rw [put_ne _ _ (by decide), setP_at, setP_ne _ _ (by decide), setP_ne _ _ (by decide)]
theorem sReach_129 {s : xs} {c b n : Nat} {m : Int32} : (sReach s c b m n).1 129 = upd (s.1 129) c (nI b) := by
  simp only [sReach]
  rw [put_ne _ _ (by decide), setP_ne _ _ (by decide), setP_at, setP_ne _ _ (by decide)]
theorem sReach_131 {s : xs} {c b n : Nat} {m : Int32} : (sReach s c b m n).1 131 = upd (s.1 131) c m := by
  simp only [sReach]
  rw [put_ne _ _ (by decide), setP_ne _ _ (by decide), setP_ne _ _ (by decide), setP_at]
theorem sReach_123 {s : xs} {c b n : Nat} {m : Int32} : (sReach s c b m n).1 123 = upd (s.1 123) 6 (nI (n + 1)) := by
  simp only [sReach, put]
  rw [setP_at, setP_ne _ _ (by decide), setP_ne _ _ (by decide), setP_ne _ _ (by decide)]
theorem sReach_132 {s : xs} {c b n : Nat} {m : Int32} : (sReach s c b m n).1 132 = s.1 132 := by
  simp only [sReach]
  rw [put_ne _ _ (by decide), setP_ne _ _ (by decide), setP_ne _ _ (by decide), setP_ne _ _ (by decide)]
theorem sReach_out {s : xs} {c b n : Nat} {m : Int32} : sOut 123 9 s (sReach s c b m n) := sOut_put (sOut_set (sOut_set (sOut_set sOut_rf (by decide) (by decide)) (by decide) (by decide)) (by decide) (by decide)) (by decide) (by decide)
theorem cRel_G {s : xs} {c0 v w x y o i q : Nat} {B : bSt} (h : cRel s B v x y o) (hb : bOK c0 B) (hp : bP B i q w = true) : cRel (sReach s (cN (B.2.1 i) q) (B.2.1 i) (nI (q + 1)) B.1) (bG B i q) v x y o := by
  obtain ⟨⟨a1, a2, a3, a4, a5⟩, h1, h2, h3⟩ := h
  obtain ⟨p1, p2, p3, p4⟩ := bP_iff hp
  unfold cRel
  rw [sReach_123, sReach_127, sReach_131, sReach_129]
  refine ⟨⟨pk_us, (pk_un (by decide)).trans a2, (pk_un (by decide)).trans a3, (pk_un (by decide)).trans a4, (pk_un (by decide)).trans a5⟩, fun j hj => ?_, fun c hc => ?_, fun c hc => ?_⟩
  · show upd (s.1 127) B.1 (nI (cN (B.2.1 i) q)) j = nI (va_up B.2.1 B.1 (cN (B.2.1 i) q) j)
    by_cases e : j = B.1
    · subst e
      rw [pk_us, va_up_self]
    · rw [pk_un e, va_up_ne _ _ e]
      exact h1 j (by have : j < B.1 + 1 := hj; omega)
  · show upd (s.1 131) (cN (B.2.1 i) q) (nI (q + 1)) c = nI (va_up B.2.2.1 (cN (B.2.1 i) q) (q + 1) c)
    by_cases e : c = cN (B.2.1 i) q
    · subst e
      rw [pk_us, va_up_self]
    · rw [pk_un e, va_up_ne _ _ e]
      exact h2 c hc
  · show upd (s.1 129) (cN (B.2.1 i) q) (nI (B.2.1 i)) c = nI (va_up B.2.2.2.1 (cN (B.2.1 i) q) (B.2.1 i) c)
    by_cases e : c = cN (B.2.1 i) q
    · subst e
      rw [pk_us, va_up_self]
    · rw [pk_un e, va_up_ne _ _ e]
      refine h3 c ?_
      have : va_up B.2.2.1 (cN (B.2.1 i) q) (q + 1) c ≠ 0 := hc
      rw [va_up_ne _ _ e] at this
      exact this
theorem cw_nI {c : Nat} (hc : c < 9216) : nI c / nI 96 + nI 5 = nI (cw c) := by rw [pk_div (by omega) (by decide) (by decide), nI_add]; rfl
theorem ch_nI {c : Nat} (hc : c < 9216) : nI c - nI c / nI 96 * nI 96 + nI 5 = nI (ch c) := by rw [pk_rem (by omega) (by decide) (by decide), nI_add]; rfl
theorem e7_rbN {s : xs} {c q v : Nat} (hc : c < 9216) (hq : q ≤ 2) (hV : s.1 123 7 = nI v) (hv : v < 2 ^ 31) (hn : nCan (cw c) (ch c) q v = false) : Ev_X7_reachBehind [.ref 123, .int (nI c), .int (nI q)] (wd s) (.inl (some (.int (bI false)))) (wd (setP s 132 (secF (s.1 132) (nI (cw c)) (nI (ch c))))) := by
  refine ⟨Nat.le_of_ble_eq_true rfl, Nat.le_refl _, Or.inr ⟨rfl, bI_01 _⟩, ?_⟩
  refine R1 (g' := (1, _, _, _, _, _)) rfl rfl ?_
  refine R_getf rfl rfl (Nat.le_of_ble_eq_true rfl) rfl rfl ?_
  refine R1 (g' := (5, _, _, _, _, _)) rfl rfl ?_
  refine R1 (g' := (7, _, .int (nI 96) :: _, _, _, _)) rfl rfl ?_
  refine R_idiv rfl (by decide) ?_
  refine R1 (g' := (9, _, .int (nI 5) :: _, _, _, _)) rfl rfl ?_
  refine R1 (g' := (10, _, _, _, _, _)) rfl rfl ?_
  refine R1 (g' := (11, _, _, _, _, _)) rfl rfl ?_
  refine R1 (g' := (13, _, .int (nI 96) :: _, _, _, _)) rfl rfl ?_
  refine R_irem rfl (by decide) ?_
  refine R1 (g' := (15, _, .int (nI 5) :: _, _, _, _)) rfl rfl ?_
  refine R1 (g' := (16, _, _, _, _, _)) rfl rfl ?_
  rw [cw_nI hc, ch_nI hc]
  refine R_call3 (Or.inr (Or.inl ⟨rfl, rfl⟩)) rfl rfl ⟨Nat.le_of_ble_eq_true rfl, Nat.le_of_ble_eq_true rfl⟩ (Nat.le_of_ble_eq_true rfl) ⟨rfl, rfl⟩ (⟨⟨_, _, _, rfl, (Nat.le_of_ble_eq_true rfl), rfl⟩, e_become xsec_132⟩) ?_
  refine R1 (g' := (20, _, _, _, _, _)) rfl rfl ?_
  refine R_getf rfl rfl (Nat.le_of_ble_eq_true rfl) rfl rfl ?_
  refine R1 (g' := (24, _, _, _, _, _)) rfl rfl ?_
  refine R1 (g' := (25, _, _, _, _, _)) rfl rfl ?_
  refine R_getf rfl rfl (Nat.le_of_ble_eq_true rfl) rfl rfl ?_
  rw [setP_ne _ _ (by decide), hV]
  refine R_call3 (Or.inr (Or.inl ⟨rfl, rfl⟩)) rfl rfl ⟨Nat.le_of_ble_eq_true rfl, Nat.le_of_ble_eq_true rfl⟩ (Nat.le_of_ble_eq_true rfl) ⟨rfl, rfl⟩ (⟨⟨_, _, _, rfl, (Nat.le_of_ble_eq_true rfl), rfl⟩, e_allows xsec_132 (by rw [setP_at]; rfl) (by rw [setP_at]; rfl) (cw_rg hc).1 (cw_rg hc).2 hq hv⟩) ?_
  refine R_ne 36 rfl rfl (fun h => by exact absurd (bI_f hn) h) (fun h31 => ?_)
  refine R1 (g' := (35, _, .int (nI 0) :: _, _, _, _)) rfl rfl ?_
  refine R_iret rfl ?_
  exact ⟨rfl, rfl⟩
theorem e7_rbM {s : xs} {c q v : Nat} (hc : c < 9216) (hq : q ≤ 2) (hV : s.1 123 7 = nI v) (hv : v < 2 ^ 31) (hn : nCan (cw c) (ch c) q v = true) (hm : s.1 131 (cN c q) ≠ 0) : Ev_X7_reachBehind [.ref 123, .int (nI c), .int (nI q)] (wd s) (.inl (some (.int (bI false)))) (wd (setP s 132 (secF (s.1 132) (nI (nNW (cw c) (ch c) q)) (nI (nNH (cw c) (ch c) q))))) := by
  refine ⟨Nat.le_of_ble_eq_true rfl, Nat.le_refl _, Or.inr ⟨rfl, bI_01 _⟩, ?_⟩
  refine R1 (g' := (1, _, _, _, _, _)) rfl rfl ?_
  refine R_getf rfl rfl (Nat.le_of_ble_eq_true rfl) rfl rfl ?_
  refine R1 (g' := (5, _, _, _, _, _)) rfl rfl ?_
  refine R1 (g' := (7, _, .int (nI 96) :: _, _, _, _)) rfl rfl ?_
  refine R_idiv rfl (by decide) ?_
  refine R1 (g' := (9, _, .int (nI 5) :: _, _, _, _)) rfl rfl ?_
  refine R1 (g' := (10, _, _, _, _, _)) rfl rfl ?_
  refine R1 (g' := (11, _, _, _, _, _)) rfl rfl ?_
  refine R1 (g' := (13, _, .int (nI 96) :: _, _, _, _)) rfl rfl ?_
  refine R_irem rfl (by decide) ?_
  refine R1 (g' := (15, _, .int (nI 5) :: _, _, _, _)) rfl rfl ?_
  refine R1 (g' := (16, _, _, _, _, _)) rfl rfl ?_
  rw [cw_nI hc, ch_nI hc]
  refine R_call3 (Or.inr (Or.inl ⟨rfl, rfl⟩)) rfl rfl ⟨Nat.le_of_ble_eq_true rfl, Nat.le_of_ble_eq_true rfl⟩ (Nat.le_of_ble_eq_true rfl) ⟨rfl, rfl⟩ (⟨⟨_, _, _, rfl, (Nat.le_of_ble_eq_true rfl), rfl⟩, e_become xsec_132⟩) ?_
  refine R1 (g' := (20, _, _, _, _, _)) rfl rfl ?_
  refine R_getf rfl rfl (Nat.le_of_ble_eq_true rfl) rfl rfl ?_
  refine R1 (g' := (24, _, _, _, _, _)) rfl rfl ?_
  refine R1 (g' := (25, _, _, _, _, _)) rfl rfl ?_
  refine R_getf rfl rfl (Nat.le_of_ble_eq_true rfl) rfl rfl ?_
  rw [setP_ne _ _ (by decide), hV]
  refine R_call3 (Or.inr (Or.inl ⟨rfl, rfl⟩)) rfl rfl ⟨Nat.le_of_ble_eq_true rfl, Nat.le_of_ble_eq_true rfl⟩ (Nat.le_of_ble_eq_true rfl) ⟨rfl, rfl⟩ (⟨⟨_, _, _, rfl, (Nat.le_of_ble_eq_true rfl), rfl⟩, e_allows xsec_132 (by rw [setP_at]; rfl) (by rw [setP_at]; rfl) (cw_rg hc).1 (cw_rg hc).2 hq hv⟩) ?_
  refine R_ne 36 rfl rfl (fun h31 => ?_) (fun h => by exact absurd (show bI (nCan (cw c) (ch c) q v) = 0 from h) (by rw [hn]; decide))
  refine R1 (g' := (37, _, _, _, _, _)) rfl rfl ?_
  refine R_getf rfl rfl (Nat.le_of_ble_eq_true rfl) rfl rfl ?_
  refine R1 (g' := (41, _, _, _, _, _)) rfl rfl ?_
  refine R_call2 (Or.inr (Or.inl ⟨rfl, rfl⟩)) rfl rfl ⟨Nat.le_of_ble_eq_true rfl, Nat.le_of_ble_eq_true rfl⟩ (Nat.le_of_ble_eq_true rfl) ⟨rfl, rfl⟩ (⟨⟨_, _, _, rfl, (Nat.le_of_ble_eq_true rfl), rfl⟩, e_change xsec_132 (by rw [setP_at]; rfl) (by rw [setP_at]; rfl) (cw_rg hc).1 (cw_rg hc).2 hq⟩) ?_
  rw [setP_setP, setP_at, secF_F]
  refine R1 (g' := (45, _, _, _, _, _)) rfl rfl ?_
  refine R_call1 (Or.inr (Or.inl ⟨rfl, rfl⟩)) rfl rfl ⟨Nat.le_of_ble_eq_true rfl, Nat.le_of_ble_eq_true rfl⟩ (Nat.le_of_ble_eq_true rfl) ⟨rfl, rfl⟩ (⟨⟨_, _, _, rfl, (Nat.le_of_ble_eq_true rfl), rfl⟩, e7_cellOf (a := nNW (cw c) (ch c) q) (b := nNH (cw c) (ch c) q) (by rw [setP_at]; rfl) (by rw [setP_at]; rfl) (nCan_rg hn).1 (nCan_rg hn).2⟩) ?_
  change xRun _ _ (48, _, [.int (nI (cN c q))], _, _, _)
  refine R1 (g' := (49, _, _, _, _, _)) rfl rfl ?_
  refine R1 (g' := (50, _, _, _, _, _)) rfl rfl ?_
  refine R_getf rfl rfl (Nat.le_of_ble_eq_true rfl) rfl rfl ?_
  refine R1 (g' := (54, _, _, _, _, _)) rfl rfl ?_
  refine R_call2 (Or.inr (Or.inl ⟨rfl, rfl⟩)) rfl rfl ⟨Nat.le_of_ble_eq_true rfl, Nat.le_of_ble_eq_true rfl⟩ (Nat.le_of_ble_eq_true rfl) ⟨rfl, rfl⟩ (⟨⟨_, _, _, rfl, (Nat.le_of_ble_eq_true rfl), rfl⟩, e_Row_get xrw_130 (by decide) (cN_ok hn).1⟩) ?_
  rw [setP_ne _ _ (by decide)]
  refine R_eq 62 rfl rfl (fun h => by exact absurd h hm) (fun h57 => ?_)
  refine R1 (g' := (61, _, .int (nI 0) :: _, _, _, _)) rfl rfl ?_
  refine R_iret rfl ?_
  exact ⟨rfl, rfl⟩
theorem e7_rbT {s : xs} {c q v n : Nat} (hc : c < 9216) (hq : q ≤ 2) (hV : s.1 123 7 = nI v) (hv : v < 2 ^ 31) (hn : nCan (cw c) (ch c) q v = true) (hm : s.1 131 (cN c q) = 0) (h6 : s.1 123 6 = nI n) (hn2 : n < 9216) : Ev_X7_reachBehind [.ref 123, .int (nI c), .int (nI q)] (wd s) (.inl (some (.int (bI true)))) (wd (sReach (setP s 132 (secF (s.1 132) (nI (nNW (cw c) (ch c) q)) (nI (nNH (cw c) (ch c) q)))) (cN c q) c (nI (q + 1)) n)) := by
  refine ⟨Nat.le_of_ble_eq_true rfl, Nat.le_refl _, Or.inr ⟨rfl, bI_01 _⟩, ?_⟩
  refine R1 (g' := (1, _, _, _, _, _)) rfl rfl ?_
  refine R_getf rfl rfl (Nat.le_of_ble_eq_true rfl) rfl rfl ?_
  refine R1 (g' := (5, _, _, _, _, _)) rfl rfl ?_
  refine R1 (g' := (7, _, .int (nI 96) :: _, _, _, _)) rfl rfl ?_
  refine R_idiv rfl (by decide) ?_
  refine R1 (g' := (9, _, .int (nI 5) :: _, _, _, _)) rfl rfl ?_
  refine R1 (g' := (10, _, _, _, _, _)) rfl rfl ?_
  refine R1 (g' := (11, _, _, _, _, _)) rfl rfl ?_
  refine R1 (g' := (13, _, .int (nI 96) :: _, _, _, _)) rfl rfl ?_
  refine R_irem rfl (by decide) ?_
  refine R1 (g' := (15, _, .int (nI 5) :: _, _, _, _)) rfl rfl ?_
  refine R1 (g' := (16, _, _, _, _, _)) rfl rfl ?_
  rw [cw_nI hc, ch_nI hc]
  refine R_call3 (Or.inr (Or.inl ⟨rfl, rfl⟩)) rfl rfl ⟨Nat.le_of_ble_eq_true rfl, Nat.le_of_ble_eq_true rfl⟩ (Nat.le_of_ble_eq_true rfl) ⟨rfl, rfl⟩ (⟨⟨_, _, _, rfl, (Nat.le_of_ble_eq_true rfl), rfl⟩, e_become xsec_132⟩) ?_
  refine R1 (g' := (20, _, _, _, _, _)) rfl rfl ?_
  refine R_getf rfl rfl (Nat.le_of_ble_eq_true rfl) rfl rfl ?_
  refine R1 (g' := (24, _, _, _, _, _)) rfl rfl ?_
  refine R1 (g' := (25, _, _, _, _, _)) rfl rfl ?_
  refine R_getf rfl rfl (Nat.le_of_ble_eq_true rfl) rfl rfl ?_
  rw [setP_ne _ _ (by decide), hV]
  refine R_call3 (Or.inr (Or.inl ⟨rfl, rfl⟩)) rfl rfl ⟨Nat.le_of_ble_eq_true rfl, Nat.le_of_ble_eq_true rfl⟩ (Nat.le_of_ble_eq_true rfl) ⟨rfl, rfl⟩ (⟨⟨_, _, _, rfl, (Nat.le_of_ble_eq_true rfl), rfl⟩, e_allows xsec_132 (by rw [setP_at]; rfl) (by rw [setP_at]; rfl) (cw_rg hc).1 (cw_rg hc).2 hq hv⟩) ?_
  refine R_ne 36 rfl rfl (fun h31 => ?_) (fun h => by exact absurd (show bI (nCan (cw c) (ch c) q v) = 0 from h) (by rw [hn]; decide))
  refine R1 (g' := (37, _, _, _, _, _)) rfl rfl ?_
  refine R_getf rfl rfl (Nat.le_of_ble_eq_true rfl) rfl rfl ?_
  refine R1 (g' := (41, _, _, _, _, _)) rfl rfl ?_
  refine R_call2 (Or.inr (Or.inl ⟨rfl, rfl⟩)) rfl rfl ⟨Nat.le_of_ble_eq_true rfl, Nat.le_of_ble_eq_true rfl⟩ (Nat.le_of_ble_eq_true rfl) ⟨rfl, rfl⟩ (⟨⟨_, _, _, rfl, (Nat.le_of_ble_eq_true rfl), rfl⟩, e_change xsec_132 (by rw [setP_at]; rfl) (by rw [setP_at]; rfl) (cw_rg hc).1 (cw_rg hc).2 hq⟩) ?_
  rw [setP_setP, setP_at, secF_F]
  refine R1 (g' := (45, _, _, _, _, _)) rfl rfl ?_
  refine R_call1 (Or.inr (Or.inl ⟨rfl, rfl⟩)) rfl rfl ⟨Nat.le_of_ble_eq_true rfl, Nat.le_of_ble_eq_true rfl⟩ (Nat.le_of_ble_eq_true rfl) ⟨rfl, rfl⟩ (⟨⟨_, _, _, rfl, (Nat.le_of_ble_eq_true rfl), rfl⟩, e7_cellOf (a := nNW (cw c) (ch c) q) (b := nNH (cw c) (ch c) q) (by rw [setP_at]; rfl) (by rw [setP_at]; rfl) (nCan_rg hn).1 (nCan_rg hn).2⟩) ?_
  change xRun _ _ (48, _, [.int (nI (cN c q))], _, _, _)
  refine R1 (g' := (49, _, _, _, _, _)) rfl rfl ?_
  refine R1 (g' := (50, _, _, _, _, _)) rfl rfl ?_
  refine R_getf rfl rfl (Nat.le_of_ble_eq_true rfl) rfl rfl ?_
  refine R1 (g' := (54, _, _, _, _, _)) rfl rfl ?_
  refine R_call2 (Or.inr (Or.inl ⟨rfl, rfl⟩)) rfl rfl ⟨Nat.le_of_ble_eq_true rfl, Nat.le_of_ble_eq_true rfl⟩ (Nat.le_of_ble_eq_true rfl) ⟨rfl, rfl⟩ (⟨⟨_, _, _, rfl, (Nat.le_of_ble_eq_true rfl), rfl⟩, e_Row_get xrw_130 (by decide) (cN_ok hn).1⟩) ?_
  rw [setP_ne _ _ (by decide)]
  refine R_eq 62 rfl rfl (fun h57 => ?_) (fun h => by exact absurd hm h)
  refine R1 (g' := (63, _, _, _, _, _)) rfl rfl ?_
  refine R1 (g' := (64, _, _, _, _, _)) rfl rfl ?_
  refine R1 (g' := (65, _, _, _, _, _)) rfl rfl ?_
  refine R1 (g' := (66, _, _, _, _, _)) rfl rfl ?_
  refine R1 (g' := (67, _, .int (nI 1) :: _, _, _, _)) rfl rfl ?_
  refine R1 (g' := (68, _, _, _, _, _)) rfl rfl ?_
  rw [nI_add]
  refine R_call4 (Or.inr (Or.inl ⟨rfl, rfl⟩)) rfl rfl ⟨Nat.le_of_ble_eq_true rfl, Nat.le_of_ble_eq_true rfl⟩ (Nat.le_of_ble_eq_true rfl) ⟨rfl, rfl⟩ (⟨⟨_, _, _, rfl, (Nat.le_of_ble_eq_true rfl), rfl⟩, e7_reach (cN_ok hn).1 hn2 (by rw [setP_ne _ _ (by decide)]; exact h6)⟩) ?_
  refine R1 (g' := (72, _, .int (nI 1) :: _, _, _, _)) rfl rfl ?_
  refine R_iret rfl ?_
  exact ⟨rfl, rfl⟩
theorem nBeq_0 {n : Nat} (h : n ≠ 0) : Nat.beq n 0 = false := by
  cases e : Nat.beq n 0
  · rfl
  · exact absurd (Nat.eq_of_beq_eq_true e) h
theorem e7_rb {s : xs} {B : bSt} {c0 v x y o i q : Nat} (h : cRel s B v x y o) (hb : bOK c0 B) (hi : i < B.1) (hr : B.2.2.2.2 (B.2.1 i) < 60) (hq : q ≤ 2) (hv : v < 2 ^ 31) : ∃ s', Ev_X7_reachBehind [.ref 123, .int (nI (B.2.1 i)), .int (nI q)] (wd s) (.inl (some (.int (bI (bP B i q v))))) (wd s') ∧ cRel s' (bS v B i q) v x y o ∧ sOut 123 9 s s' ∧ (bP B i q v = true → s'.1 132 0 = nI (cw (cN (B.2.1 i) q)) ∧ s'.1 132 1 = nI (ch (cN (B.2.1 i) q))) := by
  have hc := (hb.1 i hi).1
  unfold bS
  cases hn : nCan (cw (B.2.1 i)) (ch (B.2.1 i)) q v with
  | false =>
    have e : bP B i q v = false := by unfold bP; rw [hn, Bool.false_and, Bool.and_false, Bool.and_false]
    rw [e]
    exact ⟨_, e7_rbN hc hq h.1.2.1 hv hn, cRel_sec h, sOut_set sOut_rf (by decide) (by decide), fun z => by cases z⟩
  | true =>
    obtain ⟨n1, n2, n3⟩ := cN_ok hn
    by_cases hm : B.2.2.1 (cN (B.2.1 i) q) = 0
    · have e : bP B i q v = true := by unfold bP; rw [hn, hm, decide_eq_true hi, decide_eq_true hr]; rfl
      have hlt : B.1 < 9216 := by
        have := (bOK_G hb hq e).2.1
        have e1 : (bG B i q).1 = B.1 + 1 := rfl
        omega
      rw [e]
      refine ⟨_, e7_rbT hc hq h.1.2.1 hv hn (by rw [h.2.2.1 _ n1, hm]; rfl) h.1.1 hlt, cRel_G (cRel_sec h) hb e, sOut_tr (sOut_set sOut_rf (by decide) (by decide)) sReach_out, fun _ => ?_⟩
      rw [sReach_132, setP_at, n2, n3]
      exact ⟨rfl, rfl⟩
    · have e : bP B i q v = false := by unfold bP; rw [nBeq_0 hm, Bool.and_false, Bool.and_false, Bool.and_false]
      have hle := hb.2.2.2.2 _ hm
      have h9 : B.2.2.1 (cN (B.2.1 i) q) ≤ 9 := by
        rcases hle.2.2 with z | ⟨_, z, z1, z2, _⟩
        · rw [z, hb.2.2.1]; decide
        · omega
      rw [e]
      exact ⟨_, e7_rbM hc hq h.1.2.1 hv hn (by rw [h.2.2.1 _ n1]; exact nI_ne0 (Nat.pos_of_ne_zero hm) (by omega)), cRel_sec h, sOut_set sOut_rf (by decide) (by decide), fun z => by cases z⟩
