section XG
variable {M : xM} {Po : xO → xw → Prop} {pc : Nat} {lv : List (Nat × Value)} {kc ks : Nat}
theorem va_up_up {α : Type} {f : Nat → α} {k : Nat} {u v : α} : va_up (va_up f k u) k v = va_up f k v := by
  funext j
  by_cases h : j = k
  · rw [h, va_up_self, va_up_self]
  · rw [va_up_ne _ _ h, va_up_ne _ _ h, va_up_ne _ _ h]
theorem va_up_id {α : Type} {f : Nat → α} {k : Nat} {v : α} (h : f k = v) : va_up f k v = f := by
  funext j
  by_cases e : j = k
  · rw [e, va_up_self, h]
  · rw [va_up_ne _ _ e]
/-- steps over any world -/
theorem RG_get {w : xw} {a ci fk j : Nat} {v : Value} {st : List Value} {fs : List Value} (h : xlk M.2.1 pc = some (.getfield j)) (hF : M.2.2.1 j = some (ci, fk)) (ha : a < w.1) (hc : w.2 a = .inr (ci, fs)) (hv : fs[fk]? = some v) (kk : xRun M Po (pc + 3, lv, v :: st, w, kc, ks)) : xRun M Po (pc, lv, .ref a :: st, w, kc, ks) := by
  refine R1 (g' := (pc + 3, lv, v :: st, w, kc, ks)) h ?_ kk
  have h2 : Nat.blt a w.1 = true := Nat.blt_eq.mpr ha
  have h3 : Nat.beq ci ci = true := Nat.beq_refl ci
  show xpick none (fun _ => xpick (xsd M.2.2.1 (.getfield j) (pc, lv, .ref a :: st, w, kc, ks)) _) = _
  simp only [xpick, xsd, hF, hc, h2, h3, hv, Bool.and_self, cond_true]
theorem RG_put {w : xw} {a ci fk j : Nat} {v : Value} {st : List Value} {fs : List Value} (h : xlk M.2.1 pc = some (.putfield j)) (hF : M.2.2.1 j = some (ci, fk)) (ha : a < w.1) (hc : w.2 a = .inr (ci, fs)) (hl : fk < fs.length)
    (hq : ∃ q, vwCl[ci]? = some q ∧ ((q.2.1 fk).2.2.2 = false ∨ M.2.2.2.1 1000000 = some (.retAddr ci)) ∧ ∃ ty, parseFieldDescriptor (q.2.1 fk).2.2.1 = some ty ∧ xfits ty v = true)
    (kk : xRun M Po (pc + 3, lv, st, (w.1, va_up w.2 a (.inr (ci, fs.set fk v))), kc, ks)) : xRun M Po (pc, lv, v :: .ref a :: st, w, kc, ks) :=
  R0 h rfl ⟨ci, fk, fs, hF, ha, hc, hl, hq, kk⟩
theorem RG_new {w : xw} {st : List Value} {j ci : Nat} {fs : List Value} (h : xlk M.2.1 pc = some (.new j)) (hT : M.2.2.2.2.2.1 pc = none) (hN : M.2.2.2.2.1 j = some (ci, fs)) (h99 : ci < 99) (hc : kc + 1 ≤ M.2.2.2.2.2.2.2.2.1 ∧ ks + fs.length ≤ M.2.2.2.2.2.2.2.2.2) (hok : xok w) (hl : okL w.1 lv = true) (hs : okS w.1 st = true) (kk : xRun M Po (pc + 3, lv, .ref w.1 :: st, (w.1 + 1, va_up w.2 w.1 (.inr (ci, fs))), kc + 1, ks + fs.length)) : xRun M Po (pc, lv, st, w, kc, ks) := by
  refine R0 h rfl ?_
  simp only [xnd]
  rw [hT]
  exact ⟨ci, fs, hN, h99, hc.1, hc.2, hok, hl, hs, kk⟩
theorem RG_newarr {w : xw} {st : List Value} {N : Nat} (h : xlk M.2.1 pc = some (.newarray .int)) (hN : N ≤ 100000) (hc : kc + 1 ≤ M.2.2.2.2.2.2.2.2.1 ∧ ks + N ≤ M.2.2.2.2.2.2.2.2.2) (hok : xok w) (hl : okL w.1 lv = true) (hs : okS w.1 st = true) (kk : xRun M Po (pc + 2, lv, .ref w.1 :: st, (w.1 + 1, va_up w.2 w.1 (.inl (0, N, .inl (fun _ => 0)))), kc + 1, ks + N)) : xRun M Po (pc, lv, .int (nI N) :: st, w, kc, ks) :=
  R0 h rfl ⟨N, nI_pos (by omega), nI_clamp (by omega), hN, hc.1, hc.2, hok, hl, hs, kk⟩
theorem RG_anewarr {w : xw} {st : List Value} {N j : Nat} (h : xlk M.2.1 pc = some (.anewarray j)) (hj : M.2.2.2.2.1 (100000 + j) = some (99, [])) (hN : N ≤ 100000) (hc : kc + 1 ≤ M.2.2.2.2.2.2.2.2.1 ∧ ks + N ≤ M.2.2.2.2.2.2.2.2.2) (hok : xok w) (hl : okL w.1 lv = true) (hs : okS w.1 st = true) (kk : xRun M Po (pc + 3, lv, .ref w.1 :: st, (w.1 + 1, va_up w.2 w.1 (.inl (2, N, .inr (.inr (.inr (.inr (fun _ => none))))))), kc + 1, ks + N)) : xRun M Po (pc, lv, .int (nI N) :: st, w, kc, ks) :=
  R0 h rfl ⟨N, hj, nI_pos (by omega), nI_clamp (by omega), hN, hc.1, hc.2, hok, hl, hs, kk⟩
theorem RG_alen2 {w : xw} {a n : Nat} {z} {st : List Value} (h : xlk M.2.1 pc = some .arraylength) (ha : a < w.1) (hc : w.2 a = .inl (2, n, z)) (kk : xRun M Po (pc + 1, lv, .int (nI n) :: st, w, kc, ks)) : xRun M Po (pc, lv, .ref a :: st, w, kc, ks) := by
  refine R1 (g' := (pc + 1, lv, .int (nI n) :: st, w, kc, ks)) h ?_ kk
  have h2 : Nat.blt a w.1 = true := Nat.blt_eq.mpr ha
  have h3 : Nat.blt 2 3 = true := rfl
  show xpick none (fun _ => xpick (xsd M.2.2.1 .arraylength (pc, lv, .ref a :: st, w, kc, ks)) _) = _
  simp only [xpick, xsd, hc, h2, h3, Bool.and_self, cond_true]
  rfl
theorem RG_aast {w : xw} {a n v : Nat} {f : Nat → Option Nat} {vs : List Value} {x : Int32} {st : List Value} (k : Nat) (h : xlk M.2.1 pc = some .aastore) (ha : a < w.1) (hc : w.2 a = .inl (2, n, .inr (.inr (.inr (.inr f))))) (hk : k < n) (hn : n < 2 ^ 31) (hx : x = nI k) (hv : v < w.1) (hvs : w.2 v = .inr (5, vs)) (kk : xRun M Po (pc + 1, lv, st, (w.1, va_up w.2 a (.inl (2, n, .inr (.inr (.inr (.inr (va_up f k (some v)))))))), kc, ks)) : xRun M Po (pc, lv, .ref v :: .int x :: .ref a :: st, w, kc, ks) := by
  subst hx
  refine R0 h rfl ⟨n, f, vs, ⟨ha, hc⟩, hv, hvs, vp_in_nI hk hn, ?_⟩
  rw [nI_clamp (by omega)]
  exact kk
end XG
theorem xok_up {n p : Nat} {C : Nat → xC} {a b : xC} (h : xok (n, va_up C p a)) (hc : okC n b) : xok (n, va_up C p b) := by
  have h1 : xok (n, va_up (va_up C p a) p b) := xok_set (w := (n, va_up C p a)) (i := p) (c := b) h hc
  rw [va_up_up] at h1
  exact h1
theorem xok_new {n : Nat} {C : Nat → xC} {c : xC} (h : xok (n, C)) (hc : okC (n + 1) c) : xok (n + 1, va_up C n c) := xok_push (w := (n, C)) h hc
def kRow (C : Nat → xC) (q N : Nat) : Prop := C q = .inr (3, [.ref (q + 1)]) ∧ C (q + 1) = .inl (0, N, .inl (fun _ => 0))
def kSec (C : Nat → xC) (q : Nat) : Prop := C q = .inr (4, [.int 0, .int 0])
theorem kRow_up {C : Nat → xC} {q N p : Nat} {c : xC} (h : kRow C q N) (h1 : p < q ∨ q + 1 < p) : kRow (va_up C p c) q N := ⟨by rw [va_up_ne _ _ (by omega)]; exact h.1, by rw [va_up_ne _ _ (by omega)]; exact h.2⟩
theorem kSec_up {C : Nat → xC} {q p : Nat} {c : xC} (h : kSec C q) (h1 : p ≠ q) : kSec (va_up C p c) q := by
  unfold kSec
  rw [va_up_ne _ _ (by omega)]
  exact h
theorem k_Row {C : Nat → xC} {p N : Nat} (hN : 1 ≤ N) (hN2 : N ≤ 9216) (h : kRow C p N) (hok : xok (p + 1, va_up C p (.inr (3, [.null])))) : Ev_X3_init [.ref p, .int (nI N)] (p + 1, va_up C p (.inr (3, [.null]))) (.inl none) (p + 2, C) ∧ xok (p + 2, C) := by
  have ho2 : xok (p + 2, va_up C p (.inr (3, [.null]))) := by
    have h1 := xok_new (c := .inl (0, N, .inl (fun _ => 0))) hok trivial
    rw [va_up_id (k := p + 1) (by rw [va_up_ne _ _ (by omega)]; exact h.2)] at h1
    exact h1
  have ho3 : xok (p + 2, C) := by
    have h1 := xok_up (b := .inr (3, [.ref (p + 1)])) ho2 (by first | rfl | (simp only [okC, okL, okS, Option.toList_none, Option.toList_some, List.nil_append, List.cons_append, List.all_cons, List.all_nil, okV, Nat.blt_eq, Bool.and_true, Bool.true_and, Bool.and_eq_true]; omega))
    rw [va_up_id h.1] at h1
    exact h1
  refine ⟨⟨Nat.le_of_ble_eq_true rfl, (by show p + 1 ≤ p + 2; omega), rfl, ?_⟩, ho3⟩
  change xRun _ _ (0, [(0, .ref p), (1, .int (nI N))], [], _, _, _)
  refine R1 (g' := (1, _, _, _, _, _)) rfl rfl ?_
  refine R_call1 (Or.inr (Or.inr ⟨rfl, rfl⟩)) rfl rfl ⟨Nat.le_of_ble_eq_true rfl, Nat.le_of_ble_eq_true rfl⟩ (Nat.le_of_ble_eq_true rfl) ⟨(by first | rfl | (simp only [okC, okL, okS, Option.toList_none, Option.toList_some, List.nil_append, List.cons_append, List.all_cons, List.all_nil, okV, Nat.blt_eq, Bool.and_true, Bool.true_and, Bool.and_eq_true]; omega)), (by first | rfl | (simp only [okC, okL, okS, Option.toList_none, Option.toList_some, List.nil_append, List.cons_append, List.all_cons, List.all_nil, okV, Nat.blt_eq, Bool.and_true, Bool.true_and, Bool.and_eq_true]; omega))⟩ ⟨⟨_, rfl⟩, rfl, rfl⟩ ?_
  refine R1 (g' := (5, _, _, _, _, _)) rfl rfl ?_
  refine R1 (g' := (6, _, _, _, _, _)) rfl rfl ?_
  refine R_le 13 rfl rfl (fun h => by exact absurd h (nI_nle (by omega) (by omega))) (fun h6 => ?_)
  refine R1 (g' := (10, _, _, _, _, _)) rfl rfl ?_
  refine R1 (g' := (14, _, _, _, _, _)) rfl rfl ?_
  refine RG_newarr rfl (by omega) ⟨Nat.le_of_ble_eq_true rfl, (by show 0 + 0 + N ≤ 9216; omega)⟩ hok (by first | rfl | (simp only [okC, okL, okS, Option.toList_none, Option.toList_some, List.nil_append, List.cons_append, List.all_cons, List.all_nil, okV, Nat.blt_eq, Bool.and_true, Bool.true_and, Bool.and_eq_true]; omega)) (by first | rfl | (simp only [okC, okL, okS, Option.toList_none, Option.toList_some, List.nil_append, List.cons_append, List.all_cons, List.all_nil, okV, Nat.blt_eq, Bool.and_true, Bool.true_and, Bool.and_eq_true]; omega)) ?_
  change xRun _ _ (16, _, _, (p + 2, va_up (va_up C p (.inr (3, [.null]))) (p + 1) (.inl (0, N, .inl (fun _ => 0)))), _, _)
  rw [va_up_id (k := p + 1) (by rw [va_up_ne _ _ (by omega)]; exact h.2)]
  refine RG_put rfl rfl (by show _ < _; omega) (va_up_self _ _ _) (Nat.le_of_ble_eq_true rfl) ⟨_, rfl, Or.inr rfl, tyX3 0, tyX3_ok 0 (by decide), rfl⟩ ?_
  change xRun _ _ (19, _, _, (p + 2, va_up (va_up C p (.inr (3, [.null]))) p (.inr (3, [.ref (p + 1)]))), _, _)
  rw [va_up_up, va_up_id h.1]
  refine R_vret rfl ?_
  exact ⟨rfl, rfl⟩
theorem k_Sec {C : Nat → xC} {p : Nat} (h : kSec C p) (hok : xok (p + 1, va_up C p (.inr (4, [.int 0, .int 0])))) : Ev_X4_init [.ref p] (p + 1, va_up C p (.inr (4, [.int 0, .int 0]))) (.inl none) (p + 1, C) ∧ xok (p + 1, C) := by
  rw [va_up_id h] at hok ⊢
  refine ⟨⟨Nat.le_of_ble_eq_true rfl, Nat.le_refl _, rfl, ?_⟩, hok⟩
  change xRun _ _ (0, [(0, .ref p)], [], _, _, _)
  refine R1 (g' := (1, _, _, _, _, _)) rfl rfl ?_
  refine R_call1 (Or.inr (Or.inr ⟨rfl, rfl⟩)) rfl rfl ⟨Nat.le_of_ble_eq_true rfl, Nat.le_of_ble_eq_true rfl⟩ (Nat.le_of_ble_eq_true rfl) ⟨(by first | rfl | (simp only [okC, okL, okS, Option.toList_none, Option.toList_some, List.nil_append, List.cons_append, List.all_cons, List.all_nil, okV, Nat.blt_eq, Bool.and_true, Bool.true_and, Bool.and_eq_true]; omega)), (by first | rfl | (simp only [okC, okL, okS, Option.toList_none, Option.toList_some, List.nil_append, List.cons_append, List.all_cons, List.all_nil, okV, Nat.blt_eq, Bool.and_true, Bool.true_and, Bool.and_eq_true]; omega))⟩ ⟨⟨_, rfl⟩, rfl, rfl⟩ ?_
  refine R_vret rfl ?_
  exact ⟨rfl, rfl⟩
def kBar (C : Nat → xC) (p : Nat) : Prop := C p = .inr (0, [.int 0, .int 0, .int 0, .int 0, .int 0, .int 0, .int 0, .int 0, .ref (p + 1), .ref (p + 3), .ref (p + 5), .ref (p + 7), .ref (p + 9)]) ∧ kRow C (p + 1) 8 ∧ kRow C (p + 3) 8 ∧ kRow C (p + 5) 8 ∧ kRow C (p + 7) 8 ∧ kSec C (p + 9)
theorem kBar_up {C : Nat → xC} {q p : Nat} {c : xC} (h : kBar C q) (h1 : p < q ∨ q + 9 < p) : kBar (va_up C p c) q := ⟨by rw [va_up_ne _ _ (by omega)]; exact h.1, kRow_up h.2.1 (by omega), kRow_up h.2.2.1 (by omega), kRow_up h.2.2.2.1 (by omega), kRow_up h.2.2.2.2.1 (by omega), kSec_up h.2.2.2.2.2 (by omega)⟩
theorem k_Bar {C : Nat → xC} {p : Nat} (h : kBar C p) (hok : xok (p + 1, va_up C p (.inr (0, [.int 0, .int 0, .int 0, .int 0, .int 0, .int 0, .int 0, .int 0, .null, .null, .null, .null, .null])))) : Ev_X0_init [.ref p] (p + 1, va_up C p (.inr (0, [.int 0, .int 0, .int 0, .int 0, .int 0, .int 0, .int 0, .int 0, .null, .null, .null, .null, .null]))) (.inl none) (p + 10, C) ∧ xok (p + 10, C) := by
  obtain ⟨hp, hr0, hr1, hr2, hr3, hr4⟩ := h
  have c0 := k_Row (C := va_up C p (.inr (0, [.int 0, .int 0, .int 0, .int 0, .int 0, .int 0, .int 0, .int 0, .null, .null, .null, .null, .null]))) (p := p + 1) (N := 8) (by decide) (by decide) (kRow_up hr0 (by omega)) (xok_new hok rfl)
  have o0 : xok (p + 3, va_up C p (.inr (0, [.int 0, .int 0, .int 0, .int 0, .int 0, .int 0, .int 0, .int 0, .ref (p + 1), .null, .null, .null, .null]))) := xok_up c0.2 (by first | rfl | (simp only [okC, okL, okS, Option.toList_none, Option.toList_some, List.nil_append, List.cons_append, List.all_cons, List.all_nil, okV, Nat.blt_eq, Bool.and_true, Bool.true_and, Bool.and_eq_true]; omega))
  have c1 := k_Row (C := va_up C p (.inr (0, [.int 0, .int 0, .int 0, .int 0, .int 0, .int 0, .int 0, .int 0, .ref (p + 1), .null, .null, .null, .null]))) (p := p + 3) (N := 8) (by decide) (by decide) (kRow_up hr1 (by omega)) (xok_new o0 rfl)
  have o1 : xok (p + 5, va_up C p (.inr (0, [.int 0, .int 0, .int 0, .int 0, .int 0, .int 0, .int 0, .int 0, .ref (p + 1), .ref (p + 3), .null, .null, .null]))) := xok_up c1.2 (by first | rfl | (simp only [okC, okL, okS, Option.toList_none, Option.toList_some, List.nil_append, List.cons_append, List.all_cons, List.all_nil, okV, Nat.blt_eq, Bool.and_true, Bool.true_and, Bool.and_eq_true]; omega))
  have c2 := k_Row (C := va_up C p (.inr (0, [.int 0, .int 0, .int 0, .int 0, .int 0, .int 0, .int 0, .int 0, .ref (p + 1), .ref (p + 3), .null, .null, .null]))) (p := p + 5) (N := 8) (by decide) (by decide) (kRow_up hr2 (by omega)) (xok_new o1 rfl)
  have o2 : xok (p + 7, va_up C p (.inr (0, [.int 0, .int 0, .int 0, .int 0, .int 0, .int 0, .int 0, .int 0, .ref (p + 1), .ref (p + 3), .ref (p + 5), .null, .null]))) := xok_up c2.2 (by first | rfl | (simp only [okC, okL, okS, Option.toList_none, Option.toList_some, List.nil_append, List.cons_append, List.all_cons, List.all_nil, okV, Nat.blt_eq, Bool.and_true, Bool.true_and, Bool.and_eq_true]; omega))
  have c3 := k_Row (C := va_up C p (.inr (0, [.int 0, .int 0, .int 0, .int 0, .int 0, .int 0, .int 0, .int 0, .ref (p + 1), .ref (p + 3), .ref (p + 5), .null, .null]))) (p := p + 7) (N := 8) (by decide) (by decide) (kRow_up hr3 (by omega)) (xok_new o2 rfl)
  have o3 : xok (p + 9, va_up C p (.inr (0, [.int 0, .int 0, .int 0, .int 0, .int 0, .int 0, .int 0, .int 0, .ref (p + 1), .ref (p + 3), .ref (p + 5), .ref (p + 7), .null]))) := xok_up c3.2 (by first | rfl | (simp only [okC, okL, okS, Option.toList_none, Option.toList_some, List.nil_append, List.cons_append, List.all_cons, List.all_nil, okV, Nat.blt_eq, Bool.and_true, Bool.true_and, Bool.and_eq_true]; omega))
  have c4 := k_Sec (C := va_up C p (.inr (0, [.int 0, .int 0, .int 0, .int 0, .int 0, .int 0, .int 0, .int 0, .ref (p + 1), .ref (p + 3), .ref (p + 5), .ref (p + 7), .null]))) (p := p + 9) (kSec_up hr4 (by omega)) (xok_new o3 rfl)
  have o4 : xok (p + 10, va_up C p (.inr (0, [.int 0, .int 0, .int 0, .int 0, .int 0, .int 0, .int 0, .int 0, .ref (p + 1), .ref (p + 3), .ref (p + 5), .ref (p + 7), .ref (p + 9)]))) := xok_up c4.2 (by first | rfl | (simp only [okC, okL, okS, Option.toList_none, Option.toList_some, List.nil_append, List.cons_append, List.all_cons, List.all_nil, okV, Nat.blt_eq, Bool.and_true, Bool.true_and, Bool.and_eq_true]; omega))
  rw [va_up_id hp] at o4
  refine ⟨⟨Nat.le_of_ble_eq_true rfl, (by show p + 1 ≤ p + 10; omega), rfl, ?_⟩, o4⟩
  change xRun _ _ (0, [(0, .ref p)], [], _, _, _)
  refine R1 (g' := (1, _, _, _, _, _)) rfl rfl ?_
  refine R_call1 (Or.inr (Or.inr ⟨rfl, rfl⟩)) rfl rfl ⟨Nat.le_of_ble_eq_true rfl, Nat.le_of_ble_eq_true rfl⟩ (Nat.le_of_ble_eq_true rfl) ⟨(by first | rfl | (simp only [okC, okL, okS, Option.toList_none, Option.toList_some, List.nil_append, List.cons_append, List.all_cons, List.all_nil, okV, Nat.blt_eq, Bool.and_true, Bool.true_and, Bool.and_eq_true]; omega)), (by first | rfl | (simp only [okC, okL, okS, Option.toList_none, Option.toList_some, List.nil_append, List.cons_append, List.all_cons, List.all_nil, okV, Nat.blt_eq, Bool.and_true, Bool.true_and, Bool.and_eq_true]; omega))⟩ ⟨⟨_, rfl⟩, rfl, rfl⟩ ?_
  refine R1 (g' := (5, _, _, _, _, _)) rfl rfl ?_
  refine RG_new rfl rfl rfl (by decide) ⟨Nat.le_of_ble_eq_true rfl, Nat.le_of_ble_eq_true rfl⟩ hok (by first | rfl | (simp only [okC, okL, okS, Option.toList_none, Option.toList_some, List.nil_append, List.cons_append, List.all_cons, List.all_nil, okV, Nat.blt_eq, Bool.and_true, Bool.true_and, Bool.and_eq_true]; omega)) (by first | rfl | (simp only [okC, okL, okS, Option.toList_none, Option.toList_some, List.nil_append, List.cons_append, List.all_cons, List.all_nil, okV, Nat.blt_eq, Bool.and_true, Bool.true_and, Bool.and_eq_true]; omega)) ?_
  refine R1 (g' := (9, _, _, _, _, _)) rfl rfl ?_
  refine R1 (g' := (11, _, .int (nI 8) :: _, _, _, _)) rfl rfl ?_
  refine R_call2 (Or.inr (Or.inr ⟨rfl, rfl⟩)) rfl rfl ⟨Nat.le_of_ble_eq_true rfl, Nat.le_of_ble_eq_true rfl⟩ (Nat.le_of_ble_eq_true rfl) ⟨(by first | rfl | (simp only [okC, okL, okS, Option.toList_none, Option.toList_some, List.nil_append, List.cons_append, List.all_cons, List.all_nil, okV, Nat.blt_eq, Bool.and_true, Bool.true_and, Bool.and_eq_true]; omega)), (by first | rfl | (simp only [okC, okL, okS, Option.toList_none, Option.toList_some, List.nil_append, List.cons_append, List.all_cons, List.all_nil, okV, Nat.blt_eq, Bool.and_true, Bool.true_and, Bool.and_eq_true]; omega))⟩ ⟨⟨_, _, rfl⟩, c0.1⟩ ?_
  refine RG_put rfl rfl (by show _ < _; omega) (va_up_self _ _ _) (Nat.le_of_ble_eq_true rfl) ⟨_, rfl, Or.inr rfl, tyX0 8, tyX0_ok 8 (by decide), rfl⟩ ?_
  change xRun _ _ (17, _, _, (p + 3, va_up (va_up C p (.inr (0, [.int 0, .int 0, .int 0, .int 0, .int 0, .int 0, .int 0, .int 0, .null, .null, .null, .null, .null]))) p (.inr (0, [.int 0, .int 0, .int 0, .int 0, .int 0, .int 0, .int 0, .int 0, .ref (p + 1), .null, .null, .null, .null]))), _, _)
  rw [va_up_up]
  refine R1 (g' := (18, _, _, _, _, _)) rfl rfl ?_
  refine RG_new rfl rfl rfl (by decide) ⟨Nat.le_of_ble_eq_true rfl, Nat.le_of_ble_eq_true rfl⟩ o0 (by first | rfl | (simp only [okC, okL, okS, Option.toList_none, Option.toList_some, List.nil_append, List.cons_append, List.all_cons, List.all_nil, okV, Nat.blt_eq, Bool.and_true, Bool.true_and, Bool.and_eq_true]; omega)) (by first | rfl | (simp only [okC, okL, okS, Option.toList_none, Option.toList_some, List.nil_append, List.cons_append, List.all_cons, List.all_nil, okV, Nat.blt_eq, Bool.and_true, Bool.true_and, Bool.and_eq_true]; omega)) ?_
  refine R1 (g' := (22, _, _, _, _, _)) rfl rfl ?_
  refine R1 (g' := (24, _, .int (nI 8) :: _, _, _, _)) rfl rfl ?_
  refine R_call2 (Or.inr (Or.inr ⟨rfl, rfl⟩)) rfl rfl ⟨Nat.le_of_ble_eq_true rfl, Nat.le_of_ble_eq_true rfl⟩ (Nat.le_of_ble_eq_true rfl) ⟨(by first | rfl | (simp only [okC, okL, okS, Option.toList_none, Option.toList_some, List.nil_append, List.cons_append, List.all_cons, List.all_nil, okV, Nat.blt_eq, Bool.and_true, Bool.true_and, Bool.and_eq_true]; omega)), (by first | rfl | (simp only [okC, okL, okS, Option.toList_none, Option.toList_some, List.nil_append, List.cons_append, List.all_cons, List.all_nil, okV, Nat.blt_eq, Bool.and_true, Bool.true_and, Bool.and_eq_true]; omega))⟩ ⟨⟨_, _, rfl⟩, c1.1⟩ ?_
  refine RG_put rfl rfl (by show _ < _; omega) (va_up_self _ _ _) (Nat.le_of_ble_eq_true rfl) ⟨_, rfl, Or.inr rfl, tyX0 9, tyX0_ok 9 (by decide), rfl⟩ ?_
  change xRun _ _ (30, _, _, (p + 5, va_up (va_up C p (.inr (0, [.int 0, .int 0, .int 0, .int 0, .int 0, .int 0, .int 0, .int 0, .ref (p + 1), .null, .null, .null, .null]))) p (.inr (0, [.int 0, .int 0, .int 0, .int 0, .int 0, .int 0, .int 0, .int 0, .ref (p + 1), .ref (p + 3), .null, .null, .null]))), _, _)
  rw [va_up_up]
  refine R1 (g' := (31, _, _, _, _, _)) rfl rfl ?_
  refine RG_new rfl rfl rfl (by decide) ⟨Nat.le_of_ble_eq_true rfl, Nat.le_of_ble_eq_true rfl⟩ o1 (by first | rfl | (simp only [okC, okL, okS, Option.toList_none, Option.toList_some, List.nil_append, List.cons_append, List.all_cons, List.all_nil, okV, Nat.blt_eq, Bool.and_true, Bool.true_and, Bool.and_eq_true]; omega)) (by first | rfl | (simp only [okC, okL, okS, Option.toList_none, Option.toList_some, List.nil_append, List.cons_append, List.all_cons, List.all_nil, okV, Nat.blt_eq, Bool.and_true, Bool.true_and, Bool.and_eq_true]; omega)) ?_
  refine R1 (g' := (35, _, _, _, _, _)) rfl rfl ?_
  refine R1 (g' := (37, _, .int (nI 8) :: _, _, _, _)) rfl rfl ?_
  refine R_call2 (Or.inr (Or.inr ⟨rfl, rfl⟩)) rfl rfl ⟨Nat.le_of_ble_eq_true rfl, Nat.le_of_ble_eq_true rfl⟩ (Nat.le_of_ble_eq_true rfl) ⟨(by first | rfl | (simp only [okC, okL, okS, Option.toList_none, Option.toList_some, List.nil_append, List.cons_append, List.all_cons, List.all_nil, okV, Nat.blt_eq, Bool.and_true, Bool.true_and, Bool.and_eq_true]; omega)), (by first | rfl | (simp only [okC, okL, okS, Option.toList_none, Option.toList_some, List.nil_append, List.cons_append, List.all_cons, List.all_nil, okV, Nat.blt_eq, Bool.and_true, Bool.true_and, Bool.and_eq_true]; omega))⟩ ⟨⟨_, _, rfl⟩, c2.1⟩ ?_
  refine RG_put rfl rfl (by show _ < _; omega) (va_up_self _ _ _) (Nat.le_of_ble_eq_true rfl) ⟨_, rfl, Or.inr rfl, tyX0 10, tyX0_ok 10 (by decide), rfl⟩ ?_
  change xRun _ _ (43, _, _, (p + 7, va_up (va_up C p (.inr (0, [.int 0, .int 0, .int 0, .int 0, .int 0, .int 0, .int 0, .int 0, .ref (p + 1), .ref (p + 3), .null, .null, .null]))) p (.inr (0, [.int 0, .int 0, .int 0, .int 0, .int 0, .int 0, .int 0, .int 0, .ref (p + 1), .ref (p + 3), .ref (p + 5), .null, .null]))), _, _)
  rw [va_up_up]
  refine R1 (g' := (44, _, _, _, _, _)) rfl rfl ?_
  refine RG_new rfl rfl rfl (by decide) ⟨Nat.le_of_ble_eq_true rfl, Nat.le_of_ble_eq_true rfl⟩ o2 (by first | rfl | (simp only [okC, okL, okS, Option.toList_none, Option.toList_some, List.nil_append, List.cons_append, List.all_cons, List.all_nil, okV, Nat.blt_eq, Bool.and_true, Bool.true_and, Bool.and_eq_true]; omega)) (by first | rfl | (simp only [okC, okL, okS, Option.toList_none, Option.toList_some, List.nil_append, List.cons_append, List.all_cons, List.all_nil, okV, Nat.blt_eq, Bool.and_true, Bool.true_and, Bool.and_eq_true]; omega)) ?_
  refine R1 (g' := (48, _, _, _, _, _)) rfl rfl ?_
  refine R1 (g' := (50, _, .int (nI 8) :: _, _, _, _)) rfl rfl ?_
  refine R_call2 (Or.inr (Or.inr ⟨rfl, rfl⟩)) rfl rfl ⟨Nat.le_of_ble_eq_true rfl, Nat.le_of_ble_eq_true rfl⟩ (Nat.le_of_ble_eq_true rfl) ⟨(by first | rfl | (simp only [okC, okL, okS, Option.toList_none, Option.toList_some, List.nil_append, List.cons_append, List.all_cons, List.all_nil, okV, Nat.blt_eq, Bool.and_true, Bool.true_and, Bool.and_eq_true]; omega)), (by first | rfl | (simp only [okC, okL, okS, Option.toList_none, Option.toList_some, List.nil_append, List.cons_append, List.all_cons, List.all_nil, okV, Nat.blt_eq, Bool.and_true, Bool.true_and, Bool.and_eq_true]; omega))⟩ ⟨⟨_, _, rfl⟩, c3.1⟩ ?_
  refine RG_put rfl rfl (by show _ < _; omega) (va_up_self _ _ _) (Nat.le_of_ble_eq_true rfl) ⟨_, rfl, Or.inr rfl, tyX0 11, tyX0_ok 11 (by decide), rfl⟩ ?_
  change xRun _ _ (56, _, _, (p + 9, va_up (va_up C p (.inr (0, [.int 0, .int 0, .int 0, .int 0, .int 0, .int 0, .int 0, .int 0, .ref (p + 1), .ref (p + 3), .ref (p + 5), .null, .null]))) p (.inr (0, [.int 0, .int 0, .int 0, .int 0, .int 0, .int 0, .int 0, .int 0, .ref (p + 1), .ref (p + 3), .ref (p + 5), .ref (p + 7), .null]))), _, _)
  rw [va_up_up]
  refine R1 (g' := (57, _, _, _, _, _)) rfl rfl ?_
  refine RG_new rfl rfl rfl (by decide) ⟨Nat.le_of_ble_eq_true rfl, Nat.le_of_ble_eq_true rfl⟩ o3 (by first | rfl | (simp only [okC, okL, okS, Option.toList_none, Option.toList_some, List.nil_append, List.cons_append, List.all_cons, List.all_nil, okV, Nat.blt_eq, Bool.and_true, Bool.true_and, Bool.and_eq_true]; omega)) (by first | rfl | (simp only [okC, okL, okS, Option.toList_none, Option.toList_some, List.nil_append, List.cons_append, List.all_cons, List.all_nil, okV, Nat.blt_eq, Bool.and_true, Bool.true_and, Bool.and_eq_true]; omega)) ?_
  refine R1 (g' := (61, _, _, _, _, _)) rfl rfl ?_
  refine R_call1 (Or.inr (Or.inr ⟨rfl, rfl⟩)) rfl rfl ⟨Nat.le_of_ble_eq_true rfl, Nat.le_of_ble_eq_true rfl⟩ (Nat.le_of_ble_eq_true rfl) ⟨(by first | rfl | (simp only [okC, okL, okS, Option.toList_none, Option.toList_some, List.nil_append, List.cons_append, List.all_cons, List.all_nil, okV, Nat.blt_eq, Bool.and_true, Bool.true_and, Bool.and_eq_true]; omega)), (by first | rfl | (simp only [okC, okL, okS, Option.toList_none, Option.toList_some, List.nil_append, List.cons_append, List.all_cons, List.all_nil, okV, Nat.blt_eq, Bool.and_true, Bool.true_and, Bool.and_eq_true]; omega))⟩ ⟨⟨_, _, rfl⟩, c4.1⟩ ?_
  refine RG_put rfl rfl (by show _ < _; omega) (va_up_self _ _ _) (Nat.le_of_ble_eq_true rfl) ⟨_, rfl, Or.inr rfl, tyX0 12, tyX0_ok 12 (by decide), rfl⟩ ?_
  change xRun _ _ (67, _, _, (p + 10, va_up (va_up C p (.inr (0, [.int 0, .int 0, .int 0, .int 0, .int 0, .int 0, .int 0, .int 0, .ref (p + 1), .ref (p + 3), .ref (p + 5), .ref (p + 7), .null]))) p (.inr (0, [.int 0, .int 0, .int 0, .int 0, .int 0, .int 0, .int 0, .int 0, .ref (p + 1), .ref (p + 3), .ref (p + 5), .ref (p + 7), .ref (p + 9)]))), _, _)
  rw [va_up_up, va_up_id hp]
  refine R_vret rfl ?_
  exact ⟨rfl, rfl⟩
def kSteps (C : Nat → xC) (p : Nat) : Prop := C p = .inr (6, [.int 0, .ref (p + 1), .ref (p + 3), .ref (p + 5), .ref (p + 7)]) ∧ kRow C (p + 1) 8 ∧ kRow C (p + 3) 8 ∧ kRow C (p + 5) 8 ∧ kRow C (p + 7) 8
theorem kSteps_up {C : Nat → xC} {q p : Nat} {c : xC} (h : kSteps C q) (h1 : p < q ∨ q + 8 < p) : kSteps (va_up C p c) q := ⟨by rw [va_up_ne _ _ (by omega)]; exact h.1, kRow_up h.2.1 (by omega), kRow_up h.2.2.1 (by omega), kRow_up h.2.2.2.1 (by omega), kRow_up h.2.2.2.2 (by omega)⟩
theorem k_Steps {C : Nat → xC} {p : Nat} (h : kSteps C p) (hok : xok (p + 1, va_up C p (.inr (6, [.int 0, .null, .null, .null, .null])))) : Ev_X6_init [.ref p] (p + 1, va_up C p (.inr (6, [.int 0, .null, .null, .null, .null]))) (.inl none) (p + 9, C) ∧ xok (p + 9, C) := by
  obtain ⟨hp, hr0, hr1, hr2, hr3⟩ := h
  have c0 := k_Row (C := va_up C p (.inr (6, [.int 0, .null, .null, .null, .null]))) (p := p + 1) (N := 8) (by decide) (by decide) (kRow_up hr0 (by omega)) (xok_new hok rfl)
  have o0 : xok (p + 3, va_up C p (.inr (6, [.int 0, .ref (p + 1), .null, .null, .null]))) := xok_up c0.2 (by first | rfl | (simp only [okC, okL, okS, Option.toList_none, Option.toList_some, List.nil_append, List.cons_append, List.all_cons, List.all_nil, okV, Nat.blt_eq, Bool.and_true, Bool.true_and, Bool.and_eq_true]; omega))
  have c1 := k_Row (C := va_up C p (.inr (6, [.int 0, .ref (p + 1), .null, .null, .null]))) (p := p + 3) (N := 8) (by decide) (by decide) (kRow_up hr1 (by omega)) (xok_new o0 rfl)
  have o1 : xok (p + 5, va_up C p (.inr (6, [.int 0, .ref (p + 1), .ref (p + 3), .null, .null]))) := xok_up c1.2 (by first | rfl | (simp only [okC, okL, okS, Option.toList_none, Option.toList_some, List.nil_append, List.cons_append, List.all_cons, List.all_nil, okV, Nat.blt_eq, Bool.and_true, Bool.true_and, Bool.and_eq_true]; omega))
  have c2 := k_Row (C := va_up C p (.inr (6, [.int 0, .ref (p + 1), .ref (p + 3), .null, .null]))) (p := p + 5) (N := 8) (by decide) (by decide) (kRow_up hr2 (by omega)) (xok_new o1 rfl)
  have o2 : xok (p + 7, va_up C p (.inr (6, [.int 0, .ref (p + 1), .ref (p + 3), .ref (p + 5), .null]))) := xok_up c2.2 (by first | rfl | (simp only [okC, okL, okS, Option.toList_none, Option.toList_some, List.nil_append, List.cons_append, List.all_cons, List.all_nil, okV, Nat.blt_eq, Bool.and_true, Bool.true_and, Bool.and_eq_true]; omega))
  have c3 := k_Row (C := va_up C p (.inr (6, [.int 0, .ref (p + 1), .ref (p + 3), .ref (p + 5), .null]))) (p := p + 7) (N := 8) (by decide) (by decide) (kRow_up hr3 (by omega)) (xok_new o2 rfl)
  have o3 : xok (p + 9, va_up C p (.inr (6, [.int 0, .ref (p + 1), .ref (p + 3), .ref (p + 5), .ref (p + 7)]))) := xok_up c3.2 (by first | rfl | (simp only [okC, okL, okS, Option.toList_none, Option.toList_some, List.nil_append, List.cons_append, List.all_cons, List.all_nil, okV, Nat.blt_eq, Bool.and_true, Bool.true_and, Bool.and_eq_true]; omega))
  rw [va_up_id hp] at o3
  refine ⟨⟨Nat.le_of_ble_eq_true rfl, (by show p + 1 ≤ p + 9; omega), rfl, ?_⟩, o3⟩
  change xRun _ _ (0, [(0, .ref p)], [], _, _, _)
  refine R1 (g' := (1, _, _, _, _, _)) rfl rfl ?_
  refine R_call1 (Or.inr (Or.inr ⟨rfl, rfl⟩)) rfl rfl ⟨Nat.le_of_ble_eq_true rfl, Nat.le_of_ble_eq_true rfl⟩ (Nat.le_of_ble_eq_true rfl) ⟨(by first | rfl | (simp only [okC, okL, okS, Option.toList_none, Option.toList_some, List.nil_append, List.cons_append, List.all_cons, List.all_nil, okV, Nat.blt_eq, Bool.and_true, Bool.true_and, Bool.and_eq_true]; omega)), (by first | rfl | (simp only [okC, okL, okS, Option.toList_none, Option.toList_some, List.nil_append, List.cons_append, List.all_cons, List.all_nil, okV, Nat.blt_eq, Bool.and_true, Bool.true_and, Bool.and_eq_true]; omega))⟩ ⟨⟨_, rfl⟩, rfl, rfl⟩ ?_
  refine R1 (g' := (5, _, _, _, _, _)) rfl rfl ?_
  refine RG_new rfl rfl rfl (by decide) ⟨Nat.le_of_ble_eq_true rfl, Nat.le_of_ble_eq_true rfl⟩ hok (by first | rfl | (simp only [okC, okL, okS, Option.toList_none, Option.toList_some, List.nil_append, List.cons_append, List.all_cons, List.all_nil, okV, Nat.blt_eq, Bool.and_true, Bool.true_and, Bool.and_eq_true]; omega)) (by first | rfl | (simp only [okC, okL, okS, Option.toList_none, Option.toList_some, List.nil_append, List.cons_append, List.all_cons, List.all_nil, okV, Nat.blt_eq, Bool.and_true, Bool.true_and, Bool.and_eq_true]; omega)) ?_
  refine R1 (g' := (9, _, _, _, _, _)) rfl rfl ?_
  refine R1 (g' := (11, _, .int (nI 8) :: _, _, _, _)) rfl rfl ?_
  refine R_call2 (Or.inr (Or.inr ⟨rfl, rfl⟩)) rfl rfl ⟨Nat.le_of_ble_eq_true rfl, Nat.le_of_ble_eq_true rfl⟩ (Nat.le_of_ble_eq_true rfl) ⟨(by first | rfl | (simp only [okC, okL, okS, Option.toList_none, Option.toList_some, List.nil_append, List.cons_append, List.all_cons, List.all_nil, okV, Nat.blt_eq, Bool.and_true, Bool.true_and, Bool.and_eq_true]; omega)), (by first | rfl | (simp only [okC, okL, okS, Option.toList_none, Option.toList_some, List.nil_append, List.cons_append, List.all_cons, List.all_nil, okV, Nat.blt_eq, Bool.and_true, Bool.true_and, Bool.and_eq_true]; omega))⟩ ⟨⟨_, _, rfl⟩, c0.1⟩ ?_
  refine RG_put rfl rfl (by show _ < _; omega) (va_up_self _ _ _) (Nat.le_of_ble_eq_true rfl) ⟨_, rfl, Or.inr rfl, tyX6 1, tyX6_ok 1 (by decide), rfl⟩ ?_
  change xRun _ _ (17, _, _, (p + 3, va_up (va_up C p (.inr (6, [.int 0, .null, .null, .null, .null]))) p (.inr (6, [.int 0, .ref (p + 1), .null, .null, .null]))), _, _)
  rw [va_up_up]
  refine R1 (g' := (18, _, _, _, _, _)) rfl rfl ?_
  refine RG_new rfl rfl rfl (by decide) ⟨Nat.le_of_ble_eq_true rfl, Nat.le_of_ble_eq_true rfl⟩ o0 (by first | rfl | (simp only [okC, okL, okS, Option.toList_none, Option.toList_some, List.nil_append, List.cons_append, List.all_cons, List.all_nil, okV, Nat.blt_eq, Bool.and_true, Bool.true_and, Bool.and_eq_true]; omega)) (by first | rfl | (simp only [okC, okL, okS, Option.toList_none, Option.toList_some, List.nil_append, List.cons_append, List.all_cons, List.all_nil, okV, Nat.blt_eq, Bool.and_true, Bool.true_and, Bool.and_eq_true]; omega)) ?_
  refine R1 (g' := (22, _, _, _, _, _)) rfl rfl ?_
  refine R1 (g' := (24, _, .int (nI 8) :: _, _, _, _)) rfl rfl ?_
  refine R_call2 (Or.inr (Or.inr ⟨rfl, rfl⟩)) rfl rfl ⟨Nat.le_of_ble_eq_true rfl, Nat.le_of_ble_eq_true rfl⟩ (Nat.le_of_ble_eq_true rfl) ⟨(by first | rfl | (simp only [okC, okL, okS, Option.toList_none, Option.toList_some, List.nil_append, List.cons_append, List.all_cons, List.all_nil, okV, Nat.blt_eq, Bool.and_true, Bool.true_and, Bool.and_eq_true]; omega)), (by first | rfl | (simp only [okC, okL, okS, Option.toList_none, Option.toList_some, List.nil_append, List.cons_append, List.all_cons, List.all_nil, okV, Nat.blt_eq, Bool.and_true, Bool.true_and, Bool.and_eq_true]; omega))⟩ ⟨⟨_, _, rfl⟩, c1.1⟩ ?_
  refine RG_put rfl rfl (by show _ < _; omega) (va_up_self _ _ _) (Nat.le_of_ble_eq_true rfl) ⟨_, rfl, Or.inr rfl, tyX6 2, tyX6_ok 2 (by decide), rfl⟩ ?_
  change xRun _ _ (30, _, _, (p + 5, va_up (va_up C p (.inr (6, [.int 0, .ref (p + 1), .null, .null, .null]))) p (.inr (6, [.int 0, .ref (p + 1), .ref (p + 3), .null, .null]))), _, _)
  rw [va_up_up]
  refine R1 (g' := (31, _, _, _, _, _)) rfl rfl ?_
  refine RG_new rfl rfl rfl (by decide) ⟨Nat.le_of_ble_eq_true rfl, Nat.le_of_ble_eq_true rfl⟩ o1 (by first | rfl | (simp only [okC, okL, okS, Option.toList_none, Option.toList_some, List.nil_append, List.cons_append, List.all_cons, List.all_nil, okV, Nat.blt_eq, Bool.and_true, Bool.true_and, Bool.and_eq_true]; omega)) (by first | rfl | (simp only [okC, okL, okS, Option.toList_none, Option.toList_some, List.nil_append, List.cons_append, List.all_cons, List.all_nil, okV, Nat.blt_eq, Bool.and_true, Bool.true_and, Bool.and_eq_true]; omega)) ?_
  refine R1 (g' := (35, _, _, _, _, _)) rfl rfl ?_
  refine R1 (g' := (37, _, .int (nI 8) :: _, _, _, _)) rfl rfl ?_
  refine R_call2 (Or.inr (Or.inr ⟨rfl, rfl⟩)) rfl rfl ⟨Nat.le_of_ble_eq_true rfl, Nat.le_of_ble_eq_true rfl⟩ (Nat.le_of_ble_eq_true rfl) ⟨(by first | rfl | (simp only [okC, okL, okS, Option.toList_none, Option.toList_some, List.nil_append, List.cons_append, List.all_cons, List.all_nil, okV, Nat.blt_eq, Bool.and_true, Bool.true_and, Bool.and_eq_true]; omega)), (by first | rfl | (simp only [okC, okL, okS, Option.toList_none, Option.toList_some, List.nil_append, List.cons_append, List.all_cons, List.all_nil, okV, Nat.blt_eq, Bool.and_true, Bool.true_and, Bool.and_eq_true]; omega))⟩ ⟨⟨_, _, rfl⟩, c2.1⟩ ?_
  refine RG_put rfl rfl (by show _ < _; omega) (va_up_self _ _ _) (Nat.le_of_ble_eq_true rfl) ⟨_, rfl, Or.inr rfl, tyX6 3, tyX6_ok 3 (by decide), rfl⟩ ?_
  change xRun _ _ (43, _, _, (p + 7, va_up (va_up C p (.inr (6, [.int 0, .ref (p + 1), .ref (p + 3), .null, .null]))) p (.inr (6, [.int 0, .ref (p + 1), .ref (p + 3), .ref (p + 5), .null]))), _, _)
  rw [va_up_up]
  refine R1 (g' := (44, _, _, _, _, _)) rfl rfl ?_
  refine RG_new rfl rfl rfl (by decide) ⟨Nat.le_of_ble_eq_true rfl, Nat.le_of_ble_eq_true rfl⟩ o2 (by first | rfl | (simp only [okC, okL, okS, Option.toList_none, Option.toList_some, List.nil_append, List.cons_append, List.all_cons, List.all_nil, okV, Nat.blt_eq, Bool.and_true, Bool.true_and, Bool.and_eq_true]; omega)) (by first | rfl | (simp only [okC, okL, okS, Option.toList_none, Option.toList_some, List.nil_append, List.cons_append, List.all_cons, List.all_nil, okV, Nat.blt_eq, Bool.and_true, Bool.true_and, Bool.and_eq_true]; omega)) ?_
  refine R1 (g' := (48, _, _, _, _, _)) rfl rfl ?_
  refine R1 (g' := (50, _, .int (nI 8) :: _, _, _, _)) rfl rfl ?_
  refine R_call2 (Or.inr (Or.inr ⟨rfl, rfl⟩)) rfl rfl ⟨Nat.le_of_ble_eq_true rfl, Nat.le_of_ble_eq_true rfl⟩ (Nat.le_of_ble_eq_true rfl) ⟨(by first | rfl | (simp only [okC, okL, okS, Option.toList_none, Option.toList_some, List.nil_append, List.cons_append, List.all_cons, List.all_nil, okV, Nat.blt_eq, Bool.and_true, Bool.true_and, Bool.and_eq_true]; omega)), (by first | rfl | (simp only [okC, okL, okS, Option.toList_none, Option.toList_some, List.nil_append, List.cons_append, List.all_cons, List.all_nil, okV, Nat.blt_eq, Bool.and_true, Bool.true_and, Bool.and_eq_true]; omega))⟩ ⟨⟨_, _, rfl⟩, c3.1⟩ ?_
  refine RG_put rfl rfl (by show _ < _; omega) (va_up_self _ _ _) (Nat.le_of_ble_eq_true rfl) ⟨_, rfl, Or.inr rfl, tyX6 4, tyX6_ok 4 (by decide), rfl⟩ ?_
  change xRun _ _ (56, _, _, (p + 9, va_up (va_up C p (.inr (6, [.int 0, .ref (p + 1), .ref (p + 3), .ref (p + 5), .null]))) p (.inr (6, [.int 0, .ref (p + 1), .ref (p + 3), .ref (p + 5), .ref (p + 7)]))), _, _)
  rw [va_up_up, va_up_id hp]
  refine R_vret rfl ?_
  exact ⟨rfl, rfl⟩
def kState (C : Nat → xC) (p : Nat) : Prop := C p = .inr (5, [.ref (p + 1), .ref (p + 11)]) ∧ kBar C (p + 1) ∧ kSteps C (p + 11)
theorem kState_up {C : Nat → xC} {q p : Nat} {c : xC} (h : kState C q) (h1 : p < q ∨ q + 19 < p) : kState (va_up C p c) q := ⟨by rw [va_up_ne _ _ (by omega)]; exact h.1, kBar_up h.2.1 (by omega), kSteps_up h.2.2 (by omega)⟩
theorem k_State {C : Nat → xC} {p : Nat} (h : kState C p) (hok : xok (p + 1, va_up C p (.inr (5, [.null, .null])))) : Ev_X5_init [.ref p] (p + 1, va_up C p (.inr (5, [.null, .null]))) (.inl none) (p + 20, C) ∧ xok (p + 20, C) := by
  obtain ⟨hp, hr0, hr1⟩ := h
  have c0 := k_Bar (C := va_up C p (.inr (5, [.null, .null]))) (p := p + 1) (kBar_up hr0 (by omega)) (xok_new hok rfl)
  have o0 : xok (p + 11, va_up C p (.inr (5, [.ref (p + 1), .null]))) := xok_up c0.2 (by first | rfl | (simp only [okC, okL, okS, Option.toList_none, Option.toList_some, List.nil_append, List.cons_append, List.all_cons, List.all_nil, okV, Nat.blt_eq, Bool.and_true, Bool.true_and, Bool.and_eq_true]; omega))
  have c1 := k_Steps (C := va_up C p (.inr (5, [.ref (p + 1), .null]))) (p := p + 11) (kSteps_up hr1 (by omega)) (xok_new o0 rfl)
  have o1 : xok (p + 20, va_up C p (.inr (5, [.ref (p + 1), .ref (p + 11)]))) := xok_up c1.2 (by first | rfl | (simp only [okC, okL, okS, Option.toList_none, Option.toList_some, List.nil_append, List.cons_append, List.all_cons, List.all_nil, okV, Nat.blt_eq, Bool.and_true, Bool.true_and, Bool.and_eq_true]; omega))
  rw [va_up_id hp] at o1
  refine ⟨⟨Nat.le_of_ble_eq_true rfl, (by show p + 1 ≤ p + 20; omega), rfl, ?_⟩, o1⟩
  change xRun _ _ (0, [(0, .ref p)], [], _, _, _)
  refine R1 (g' := (1, _, _, _, _, _)) rfl rfl ?_
  refine R_call1 (Or.inr (Or.inr ⟨rfl, rfl⟩)) rfl rfl ⟨Nat.le_of_ble_eq_true rfl, Nat.le_of_ble_eq_true rfl⟩ (Nat.le_of_ble_eq_true rfl) ⟨(by first | rfl | (simp only [okC, okL, okS, Option.toList_none, Option.toList_some, List.nil_append, List.cons_append, List.all_cons, List.all_nil, okV, Nat.blt_eq, Bool.and_true, Bool.true_and, Bool.and_eq_true]; omega)), (by first | rfl | (simp only [okC, okL, okS, Option.toList_none, Option.toList_some, List.nil_append, List.cons_append, List.all_cons, List.all_nil, okV, Nat.blt_eq, Bool.and_true, Bool.true_and, Bool.and_eq_true]; omega))⟩ ⟨⟨_, rfl⟩, rfl, rfl⟩ ?_
  refine R1 (g' := (5, _, _, _, _, _)) rfl rfl ?_
  refine RG_new rfl rfl rfl (by decide) ⟨Nat.le_of_ble_eq_true rfl, Nat.le_of_ble_eq_true rfl⟩ hok (by first | rfl | (simp only [okC, okL, okS, Option.toList_none, Option.toList_some, List.nil_append, List.cons_append, List.all_cons, List.all_nil, okV, Nat.blt_eq, Bool.and_true, Bool.true_and, Bool.and_eq_true]; omega)) (by first | rfl | (simp only [okC, okL, okS, Option.toList_none, Option.toList_some, List.nil_append, List.cons_append, List.all_cons, List.all_nil, okV, Nat.blt_eq, Bool.and_true, Bool.true_and, Bool.and_eq_true]; omega)) ?_
  refine R1 (g' := (9, _, _, _, _, _)) rfl rfl ?_
  refine R_call1 (Or.inr (Or.inr ⟨rfl, rfl⟩)) rfl rfl ⟨Nat.le_of_ble_eq_true rfl, Nat.le_of_ble_eq_true rfl⟩ (Nat.le_of_ble_eq_true rfl) ⟨(by first | rfl | (simp only [okC, okL, okS, Option.toList_none, Option.toList_some, List.nil_append, List.cons_append, List.all_cons, List.all_nil, okV, Nat.blt_eq, Bool.and_true, Bool.true_and, Bool.and_eq_true]; omega)), (by first | rfl | (simp only [okC, okL, okS, Option.toList_none, Option.toList_some, List.nil_append, List.cons_append, List.all_cons, List.all_nil, okV, Nat.blt_eq, Bool.and_true, Bool.true_and, Bool.and_eq_true]; omega))⟩ ⟨⟨_, _, rfl⟩, c0.1⟩ ?_
  refine RG_put rfl rfl (by show _ < _; omega) (va_up_self _ _ _) (Nat.le_of_ble_eq_true rfl) ⟨_, rfl, Or.inr rfl, tyX5 0, tyX5_ok 0 (by decide), rfl⟩ ?_
  change xRun _ _ (15, _, _, (p + 11, va_up (va_up C p (.inr (5, [.null, .null]))) p (.inr (5, [.ref (p + 1), .null]))), _, _)
  rw [va_up_up]
  refine R1 (g' := (16, _, _, _, _, _)) rfl rfl ?_
  refine RG_new rfl rfl rfl (by decide) ⟨Nat.le_of_ble_eq_true rfl, Nat.le_of_ble_eq_true rfl⟩ o0 (by first | rfl | (simp only [okC, okL, okS, Option.toList_none, Option.toList_some, List.nil_append, List.cons_append, List.all_cons, List.all_nil, okV, Nat.blt_eq, Bool.and_true, Bool.true_and, Bool.and_eq_true]; omega)) (by first | rfl | (simp only [okC, okL, okS, Option.toList_none, Option.toList_some, List.nil_append, List.cons_append, List.all_cons, List.all_nil, okV, Nat.blt_eq, Bool.and_true, Bool.true_and, Bool.and_eq_true]; omega)) ?_
  refine R1 (g' := (20, _, _, _, _, _)) rfl rfl ?_
  refine R_call1 (Or.inr (Or.inr ⟨rfl, rfl⟩)) rfl rfl ⟨Nat.le_of_ble_eq_true rfl, Nat.le_of_ble_eq_true rfl⟩ (Nat.le_of_ble_eq_true rfl) ⟨(by first | rfl | (simp only [okC, okL, okS, Option.toList_none, Option.toList_some, List.nil_append, List.cons_append, List.all_cons, List.all_nil, okV, Nat.blt_eq, Bool.and_true, Bool.true_and, Bool.and_eq_true]; omega)), (by first | rfl | (simp only [okC, okL, okS, Option.toList_none, Option.toList_some, List.nil_append, List.cons_append, List.all_cons, List.all_nil, okV, Nat.blt_eq, Bool.and_true, Bool.true_and, Bool.and_eq_true]; omega))⟩ ⟨⟨_, _, rfl⟩, c1.1⟩ ?_
  refine RG_put rfl rfl (by show _ < _; omega) (va_up_self _ _ _) (Nat.le_of_ble_eq_true rfl) ⟨_, rfl, Or.inr rfl, tyX5 1, tyX5_ok 1 (by decide), rfl⟩ ?_
  change xRun _ _ (26, _, _, (p + 20, va_up (va_up C p (.inr (5, [.ref (p + 1), .null]))) p (.inr (5, [.ref (p + 1), .ref (p + 11)]))), _, _)
  rw [va_up_up, va_up_id hp]
  refine R_vret rfl ?_
  exact ⟨rfl, rfl⟩
def kWay (C : Nat → xC) (p : Nat) : Prop := C p = .inr (7, [.int 0, .ref (p + 1), .ref (p + 3), .ref (p + 5), .ref (p + 7), .ref (p + 9), .int 0, .int 0, .int 0, .int 0, .int 0]) ∧ kRow C (p + 1) 60 ∧ kRow C (p + 3) 9216 ∧ kRow C (p + 5) 9216 ∧ kRow C (p + 7) 9216 ∧ kSec C (p + 9)
theorem k_Way {C : Nat → xC} {p : Nat} (h : kWay C p) (hok : xok (p + 1, va_up C p (.inr (7, [.int 0, .null, .null, .null, .null, .null, .int 0, .int 0, .int 0, .int 0, .int 0])))) : Ev_X7_init [.ref p] (p + 1, va_up C p (.inr (7, [.int 0, .null, .null, .null, .null, .null, .int 0, .int 0, .int 0, .int 0, .int 0]))) (.inl none) (p + 10, C) ∧ xok (p + 10, C) := by
  obtain ⟨hp, hr0, hr1, hr2, hr3, hr4⟩ := h
  have c0 := k_Row (C := va_up C p (.inr (7, [.int 0, .null, .null, .null, .null, .null, .int 0, .int 0, .int 0, .int 0, .int 0]))) (p := p + 1) (N := 60) (by decide) (by decide) (kRow_up hr0 (by omega)) (xok_new hok rfl)
  have o0 : xok (p + 3, va_up C p (.inr (7, [.int 0, .ref (p + 1), .null, .null, .null, .null, .int 0, .int 0, .int 0, .int 0, .int 0]))) := xok_up c0.2 (by first | rfl | (simp only [okC, okL, okS, Option.toList_none, Option.toList_some, List.nil_append, List.cons_append, List.all_cons, List.all_nil, okV, Nat.blt_eq, Bool.and_true, Bool.true_and, Bool.and_eq_true]; omega))
  have c1 := k_Row (C := va_up C p (.inr (7, [.int 0, .ref (p + 1), .null, .null, .null, .null, .int 0, .int 0, .int 0, .int 0, .int 0]))) (p := p + 3) (N := 9216) (by decide) (by decide) (kRow_up hr1 (by omega)) (xok_new o0 rfl)
  have o1 : xok (p + 5, va_up C p (.inr (7, [.int 0, .ref (p + 1), .ref (p + 3), .null, .null, .null, .int 0, .int 0, .int 0, .int 0, .int 0]))) := xok_up c1.2 (by first | rfl | (simp only [okC, okL, okS, Option.toList_none, Option.toList_some, List.nil_append, List.cons_append, List.all_cons, List.all_nil, okV, Nat.blt_eq, Bool.and_true, Bool.true_and, Bool.and_eq_true]; omega))
  have c2 := k_Row (C := va_up C p (.inr (7, [.int 0, .ref (p + 1), .ref (p + 3), .null, .null, .null, .int 0, .int 0, .int 0, .int 0, .int 0]))) (p := p + 5) (N := 9216) (by decide) (by decide) (kRow_up hr2 (by omega)) (xok_new o1 rfl)
  have o2 : xok (p + 7, va_up C p (.inr (7, [.int 0, .ref (p + 1), .ref (p + 3), .ref (p + 5), .null, .null, .int 0, .int 0, .int 0, .int 0, .int 0]))) := xok_up c2.2 (by first | rfl | (simp only [okC, okL, okS, Option.toList_none, Option.toList_some, List.nil_append, List.cons_append, List.all_cons, List.all_nil, okV, Nat.blt_eq, Bool.and_true, Bool.true_and, Bool.and_eq_true]; omega))
  have c3 := k_Row (C := va_up C p (.inr (7, [.int 0, .ref (p + 1), .ref (p + 3), .ref (p + 5), .null, .null, .int 0, .int 0, .int 0, .int 0, .int 0]))) (p := p + 7) (N := 9216) (by decide) (by decide) (kRow_up hr3 (by omega)) (xok_new o2 rfl)
  have o3 : xok (p + 9, va_up C p (.inr (7, [.int 0, .ref (p + 1), .ref (p + 3), .ref (p + 5), .ref (p + 7), .null, .int 0, .int 0, .int 0, .int 0, .int 0]))) := xok_up c3.2 (by first | rfl | (simp only [okC, okL, okS, Option.toList_none, Option.toList_some, List.nil_append, List.cons_append, List.all_cons, List.all_nil, okV, Nat.blt_eq, Bool.and_true, Bool.true_and, Bool.and_eq_true]; omega))
  have c4 := k_Sec (C := va_up C p (.inr (7, [.int 0, .ref (p + 1), .ref (p + 3), .ref (p + 5), .ref (p + 7), .null, .int 0, .int 0, .int 0, .int 0, .int 0]))) (p := p + 9) (kSec_up hr4 (by omega)) (xok_new o3 rfl)
  have o4 : xok (p + 10, va_up C p (.inr (7, [.int 0, .ref (p + 1), .ref (p + 3), .ref (p + 5), .ref (p + 7), .ref (p + 9), .int 0, .int 0, .int 0, .int 0, .int 0]))) := xok_up c4.2 (by first | rfl | (simp only [okC, okL, okS, Option.toList_none, Option.toList_some, List.nil_append, List.cons_append, List.all_cons, List.all_nil, okV, Nat.blt_eq, Bool.and_true, Bool.true_and, Bool.and_eq_true]; omega))
  rw [va_up_id hp] at o4
  refine ⟨⟨Nat.le_of_ble_eq_true rfl, (by show p + 1 ≤ p + 10; omega), rfl, ?_⟩, o4⟩
  change xRun _ _ (0, [(0, .ref p)], [], _, _, _)
  refine R1 (g' := (1, _, _, _, _, _)) rfl rfl ?_
  refine R_call1 (Or.inr (Or.inr ⟨rfl, rfl⟩)) rfl rfl ⟨Nat.le_of_ble_eq_true rfl, Nat.le_of_ble_eq_true rfl⟩ (Nat.le_of_ble_eq_true rfl) ⟨(by first | rfl | (simp only [okC, okL, okS, Option.toList_none, Option.toList_some, List.nil_append, List.cons_append, List.all_cons, List.all_nil, okV, Nat.blt_eq, Bool.and_true, Bool.true_and, Bool.and_eq_true]; omega)), (by first | rfl | (simp only [okC, okL, okS, Option.toList_none, Option.toList_some, List.nil_append, List.cons_append, List.all_cons, List.all_nil, okV, Nat.blt_eq, Bool.and_true, Bool.true_and, Bool.and_eq_true]; omega))⟩ ⟨⟨_, rfl⟩, rfl, rfl⟩ ?_
  refine R1 (g' := (5, _, _, _, _, _)) rfl rfl ?_
  refine RG_new rfl rfl rfl (by decide) ⟨Nat.le_of_ble_eq_true rfl, Nat.le_of_ble_eq_true rfl⟩ hok (by first | rfl | (simp only [okC, okL, okS, Option.toList_none, Option.toList_some, List.nil_append, List.cons_append, List.all_cons, List.all_nil, okV, Nat.blt_eq, Bool.and_true, Bool.true_and, Bool.and_eq_true]; omega)) (by first | rfl | (simp only [okC, okL, okS, Option.toList_none, Option.toList_some, List.nil_append, List.cons_append, List.all_cons, List.all_nil, okV, Nat.blt_eq, Bool.and_true, Bool.true_and, Bool.and_eq_true]; omega)) ?_
  refine R1 (g' := (9, _, _, _, _, _)) rfl rfl ?_
  refine R1 (g' := (11, _, .int (nI 60) :: _, _, _, _)) rfl rfl ?_
  refine R_call2 (Or.inr (Or.inr ⟨rfl, rfl⟩)) rfl rfl ⟨Nat.le_of_ble_eq_true rfl, Nat.le_of_ble_eq_true rfl⟩ (Nat.le_of_ble_eq_true rfl) ⟨(by first | rfl | (simp only [okC, okL, okS, Option.toList_none, Option.toList_some, List.nil_append, List.cons_append, List.all_cons, List.all_nil, okV, Nat.blt_eq, Bool.and_true, Bool.true_and, Bool.and_eq_true]; omega)), (by first | rfl | (simp only [okC, okL, okS, Option.toList_none, Option.toList_some, List.nil_append, List.cons_append, List.all_cons, List.all_nil, okV, Nat.blt_eq, Bool.and_true, Bool.true_and, Bool.and_eq_true]; omega))⟩ ⟨⟨_, _, rfl⟩, c0.1⟩ ?_
  refine RG_put rfl rfl (by show _ < _; omega) (va_up_self _ _ _) (Nat.le_of_ble_eq_true rfl) ⟨_, rfl, Or.inr rfl, tyX7 1, tyX7_ok 1 (by decide), rfl⟩ ?_
  change xRun _ _ (17, _, _, (p + 3, va_up (va_up C p (.inr (7, [.int 0, .null, .null, .null, .null, .null, .int 0, .int 0, .int 0, .int 0, .int 0]))) p (.inr (7, [.int 0, .ref (p + 1), .null, .null, .null, .null, .int 0, .int 0, .int 0, .int 0, .int 0]))), _, _)
  rw [va_up_up]
  refine R1 (g' := (18, _, _, _, _, _)) rfl rfl ?_
  refine RG_new rfl rfl rfl (by decide) ⟨Nat.le_of_ble_eq_true rfl, Nat.le_of_ble_eq_true rfl⟩ o0 (by first | rfl | (simp only [okC, okL, okS, Option.toList_none, Option.toList_some, List.nil_append, List.cons_append, List.all_cons, List.all_nil, okV, Nat.blt_eq, Bool.and_true, Bool.true_and, Bool.and_eq_true]; omega)) (by first | rfl | (simp only [okC, okL, okS, Option.toList_none, Option.toList_some, List.nil_append, List.cons_append, List.all_cons, List.all_nil, okV, Nat.blt_eq, Bool.and_true, Bool.true_and, Bool.and_eq_true]; omega)) ?_
  refine R1 (g' := (22, _, _, _, _, _)) rfl rfl ?_
  refine R1 (g' := (25, _, .int (nI 9216) :: _, _, _, _)) rfl rfl ?_
  refine R_call2 (Or.inr (Or.inr ⟨rfl, rfl⟩)) rfl rfl ⟨Nat.le_of_ble_eq_true rfl, Nat.le_of_ble_eq_true rfl⟩ (Nat.le_of_ble_eq_true rfl) ⟨(by first | rfl | (simp only [okC, okL, okS, Option.toList_none, Option.toList_some, List.nil_append, List.cons_append, List.all_cons, List.all_nil, okV, Nat.blt_eq, Bool.and_true, Bool.true_and, Bool.and_eq_true]; omega)), (by first | rfl | (simp only [okC, okL, okS, Option.toList_none, Option.toList_some, List.nil_append, List.cons_append, List.all_cons, List.all_nil, okV, Nat.blt_eq, Bool.and_true, Bool.true_and, Bool.and_eq_true]; omega))⟩ ⟨⟨_, _, rfl⟩, c1.1⟩ ?_
  refine RG_put rfl rfl (by show _ < _; omega) (va_up_self _ _ _) (Nat.le_of_ble_eq_true rfl) ⟨_, rfl, Or.inr rfl, tyX7 2, tyX7_ok 2 (by decide), rfl⟩ ?_
  change xRun _ _ (31, _, _, (p + 5, va_up (va_up C p (.inr (7, [.int 0, .ref (p + 1), .null, .null, .null, .null, .int 0, .int 0, .int 0, .int 0, .int 0]))) p (.inr (7, [.int 0, .ref (p + 1), .ref (p + 3), .null, .null, .null, .int 0, .int 0, .int 0, .int 0, .int 0]))), _, _)
  rw [va_up_up]
  refine R1 (g' := (32, _, _, _, _, _)) rfl rfl ?_
  refine RG_new rfl rfl rfl (by decide) ⟨Nat.le_of_ble_eq_true rfl, Nat.le_of_ble_eq_true rfl⟩ o1 (by first | rfl | (simp only [okC, okL, okS, Option.toList_none, Option.toList_some, List.nil_append, List.cons_append, List.all_cons, List.all_nil, okV, Nat.blt_eq, Bool.and_true, Bool.true_and, Bool.and_eq_true]; omega)) (by first | rfl | (simp only [okC, okL, okS, Option.toList_none, Option.toList_some, List.nil_append, List.cons_append, List.all_cons, List.all_nil, okV, Nat.blt_eq, Bool.and_true, Bool.true_and, Bool.and_eq_true]; omega)) ?_
  refine R1 (g' := (36, _, _, _, _, _)) rfl rfl ?_
  refine R1 (g' := (39, _, .int (nI 9216) :: _, _, _, _)) rfl rfl ?_
  refine R_call2 (Or.inr (Or.inr ⟨rfl, rfl⟩)) rfl rfl ⟨Nat.le_of_ble_eq_true rfl, Nat.le_of_ble_eq_true rfl⟩ (Nat.le_of_ble_eq_true rfl) ⟨(by first | rfl | (simp only [okC, okL, okS, Option.toList_none, Option.toList_some, List.nil_append, List.cons_append, List.all_cons, List.all_nil, okV, Nat.blt_eq, Bool.and_true, Bool.true_and, Bool.and_eq_true]; omega)), (by first | rfl | (simp only [okC, okL, okS, Option.toList_none, Option.toList_some, List.nil_append, List.cons_append, List.all_cons, List.all_nil, okV, Nat.blt_eq, Bool.and_true, Bool.true_and, Bool.and_eq_true]; omega))⟩ ⟨⟨_, _, rfl⟩, c2.1⟩ ?_
  refine RG_put rfl rfl (by show _ < _; omega) (va_up_self _ _ _) (Nat.le_of_ble_eq_true rfl) ⟨_, rfl, Or.inr rfl, tyX7 3, tyX7_ok 3 (by decide), rfl⟩ ?_
  change xRun _ _ (45, _, _, (p + 7, va_up (va_up C p (.inr (7, [.int 0, .ref (p + 1), .ref (p + 3), .null, .null, .null, .int 0, .int 0, .int 0, .int 0, .int 0]))) p (.inr (7, [.int 0, .ref (p + 1), .ref (p + 3), .ref (p + 5), .null, .null, .int 0, .int 0, .int 0, .int 0, .int 0]))), _, _)
  rw [va_up_up]
  refine R1 (g' := (46, _, _, _, _, _)) rfl rfl ?_
  refine RG_new rfl rfl rfl (by decide) ⟨Nat.le_of_ble_eq_true rfl, Nat.le_of_ble_eq_true rfl⟩ o2 (by first | rfl | (simp only [okC, okL, okS, Option.toList_none, Option.toList_some, List.nil_append, List.cons_append, List.all_cons, List.all_nil, okV, Nat.blt_eq, Bool.and_true, Bool.true_and, Bool.and_eq_true]; omega)) (by first | rfl | (simp only [okC, okL, okS, Option.toList_none, Option.toList_some, List.nil_append, List.cons_append, List.all_cons, List.all_nil, okV, Nat.blt_eq, Bool.and_true, Bool.true_and, Bool.and_eq_true]; omega)) ?_
  refine R1 (g' := (50, _, _, _, _, _)) rfl rfl ?_
  refine R1 (g' := (53, _, .int (nI 9216) :: _, _, _, _)) rfl rfl ?_
  refine R_call2 (Or.inr (Or.inr ⟨rfl, rfl⟩)) rfl rfl ⟨Nat.le_of_ble_eq_true rfl, Nat.le_of_ble_eq_true rfl⟩ (Nat.le_of_ble_eq_true rfl) ⟨(by first | rfl | (simp only [okC, okL, okS, Option.toList_none, Option.toList_some, List.nil_append, List.cons_append, List.all_cons, List.all_nil, okV, Nat.blt_eq, Bool.and_true, Bool.true_and, Bool.and_eq_true]; omega)), (by first | rfl | (simp only [okC, okL, okS, Option.toList_none, Option.toList_some, List.nil_append, List.cons_append, List.all_cons, List.all_nil, okV, Nat.blt_eq, Bool.and_true, Bool.true_and, Bool.and_eq_true]; omega))⟩ ⟨⟨_, _, rfl⟩, c3.1⟩ ?_
  refine RG_put rfl rfl (by show _ < _; omega) (va_up_self _ _ _) (Nat.le_of_ble_eq_true rfl) ⟨_, rfl, Or.inr rfl, tyX7 4, tyX7_ok 4 (by decide), rfl⟩ ?_
  change xRun _ _ (59, _, _, (p + 9, va_up (va_up C p (.inr (7, [.int 0, .ref (p + 1), .ref (p + 3), .ref (p + 5), .null, .null, .int 0, .int 0, .int 0, .int 0, .int 0]))) p (.inr (7, [.int 0, .ref (p + 1), .ref (p + 3), .ref (p + 5), .ref (p + 7), .null, .int 0, .int 0, .int 0, .int 0, .int 0]))), _, _)
  rw [va_up_up]
  refine R1 (g' := (60, _, _, _, _, _)) rfl rfl ?_
  refine RG_new rfl rfl rfl (by decide) ⟨Nat.le_of_ble_eq_true rfl, Nat.le_of_ble_eq_true rfl⟩ o3 (by first | rfl | (simp only [okC, okL, okS, Option.toList_none, Option.toList_some, List.nil_append, List.cons_append, List.all_cons, List.all_nil, okV, Nat.blt_eq, Bool.and_true, Bool.true_and, Bool.and_eq_true]; omega)) (by first | rfl | (simp only [okC, okL, okS, Option.toList_none, Option.toList_some, List.nil_append, List.cons_append, List.all_cons, List.all_nil, okV, Nat.blt_eq, Bool.and_true, Bool.true_and, Bool.and_eq_true]; omega)) ?_
  refine R1 (g' := (64, _, _, _, _, _)) rfl rfl ?_
  refine R_call1 (Or.inr (Or.inr ⟨rfl, rfl⟩)) rfl rfl ⟨Nat.le_of_ble_eq_true rfl, Nat.le_of_ble_eq_true rfl⟩ (Nat.le_of_ble_eq_true rfl) ⟨(by first | rfl | (simp only [okC, okL, okS, Option.toList_none, Option.toList_some, List.nil_append, List.cons_append, List.all_cons, List.all_nil, okV, Nat.blt_eq, Bool.and_true, Bool.true_and, Bool.and_eq_true]; omega)), (by first | rfl | (simp only [okC, okL, okS, Option.toList_none, Option.toList_some, List.nil_append, List.cons_append, List.all_cons, List.all_nil, okV, Nat.blt_eq, Bool.and_true, Bool.true_and, Bool.and_eq_true]; omega))⟩ ⟨⟨_, _, rfl⟩, c4.1⟩ ?_
  refine RG_put rfl rfl (by show _ < _; omega) (va_up_self _ _ _) (Nat.le_of_ble_eq_true rfl) ⟨_, rfl, Or.inr rfl, tyX7 5, tyX7_ok 5 (by decide), rfl⟩ ?_
  change xRun _ _ (70, _, _, (p + 10, va_up (va_up C p (.inr (7, [.int 0, .ref (p + 1), .ref (p + 3), .ref (p + 5), .ref (p + 7), .null, .int 0, .int 0, .int 0, .int 0, .int 0]))) p (.inr (7, [.int 0, .ref (p + 1), .ref (p + 3), .ref (p + 5), .ref (p + 7), .ref (p + 9), .int 0, .int 0, .int 0, .int 0, .int 0]))), _, _)
  rw [va_up_up, va_up_id hp]
  refine R_vret rfl ?_
  exact ⟨rfl, rfl⟩
def kText (C : Nat → xC) (p : Nat) : Prop := C p = .inr (2, [.int 0, .int 0, .ref (p + 1), .ref (p + 3), .ref (p + 5), .ref (p + 7), .int 0, .int 0]) ∧ kRow C (p + 1) 90 ∧ kRow C (p + 3) 90 ∧ kRow C (p + 5) 90 ∧ kRow C (p + 7) 90
theorem k_Text {C : Nat → xC} {p : Nat} (h : kText C p) (hok : xok (p + 1, va_up C p (.inr (2, [.int 0, .int 0, .null, .null, .null, .null, .int 0, .int 0])))) : Ev_X2_init [.ref p] (p + 1, va_up C p (.inr (2, [.int 0, .int 0, .null, .null, .null, .null, .int 0, .int 0]))) (.inl none) (p + 9, C) ∧ xok (p + 9, C) := by
  obtain ⟨hp, hr0, hr1, hr2, hr3⟩ := h
  have c0 := k_Row (C := va_up C p (.inr (2, [.int 0, .int 0, .null, .null, .null, .null, .int 0, .int 0]))) (p := p + 1) (N := 90) (by decide) (by decide) (kRow_up hr0 (by omega)) (xok_new hok rfl)
  have o0 : xok (p + 3, va_up C p (.inr (2, [.int 0, .int 0, .ref (p + 1), .null, .null, .null, .int 0, .int 0]))) := xok_up c0.2 (by first | rfl | (simp only [okC, okL, okS, Option.toList_none, Option.toList_some, List.nil_append, List.cons_append, List.all_cons, List.all_nil, okV, Nat.blt_eq, Bool.and_true, Bool.true_and, Bool.and_eq_true]; omega))
  have c1 := k_Row (C := va_up C p (.inr (2, [.int 0, .int 0, .ref (p + 1), .null, .null, .null, .int 0, .int 0]))) (p := p + 3) (N := 90) (by decide) (by decide) (kRow_up hr1 (by omega)) (xok_new o0 rfl)
  have o1 : xok (p + 5, va_up C p (.inr (2, [.int 0, .int 0, .ref (p + 1), .ref (p + 3), .null, .null, .int 0, .int 0]))) := xok_up c1.2 (by first | rfl | (simp only [okC, okL, okS, Option.toList_none, Option.toList_some, List.nil_append, List.cons_append, List.all_cons, List.all_nil, okV, Nat.blt_eq, Bool.and_true, Bool.true_and, Bool.and_eq_true]; omega))
  have c2 := k_Row (C := va_up C p (.inr (2, [.int 0, .int 0, .ref (p + 1), .ref (p + 3), .null, .null, .int 0, .int 0]))) (p := p + 5) (N := 90) (by decide) (by decide) (kRow_up hr2 (by omega)) (xok_new o1 rfl)
  have o2 : xok (p + 7, va_up C p (.inr (2, [.int 0, .int 0, .ref (p + 1), .ref (p + 3), .ref (p + 5), .null, .int 0, .int 0]))) := xok_up c2.2 (by first | rfl | (simp only [okC, okL, okS, Option.toList_none, Option.toList_some, List.nil_append, List.cons_append, List.all_cons, List.all_nil, okV, Nat.blt_eq, Bool.and_true, Bool.true_and, Bool.and_eq_true]; omega))
  have c3 := k_Row (C := va_up C p (.inr (2, [.int 0, .int 0, .ref (p + 1), .ref (p + 3), .ref (p + 5), .null, .int 0, .int 0]))) (p := p + 7) (N := 90) (by decide) (by decide) (kRow_up hr3 (by omega)) (xok_new o2 rfl)
  have o3 : xok (p + 9, va_up C p (.inr (2, [.int 0, .int 0, .ref (p + 1), .ref (p + 3), .ref (p + 5), .ref (p + 7), .int 0, .int 0]))) := xok_up c3.2 (by first | rfl | (simp only [okC, okL, okS, Option.toList_none, Option.toList_some, List.nil_append, List.cons_append, List.all_cons, List.all_nil, okV, Nat.blt_eq, Bool.and_true, Bool.true_and, Bool.and_eq_true]; omega))
  rw [va_up_id hp] at o3
  refine ⟨⟨Nat.le_of_ble_eq_true rfl, (by show p + 1 ≤ p + 9; omega), rfl, ?_⟩, o3⟩
  change xRun _ _ (0, [(0, .ref p)], [], _, _, _)
  refine R1 (g' := (1, _, _, _, _, _)) rfl rfl ?_
  refine R_call1 (Or.inr (Or.inr ⟨rfl, rfl⟩)) rfl rfl ⟨Nat.le_of_ble_eq_true rfl, Nat.le_of_ble_eq_true rfl⟩ (Nat.le_of_ble_eq_true rfl) ⟨(by first | rfl | (simp only [okC, okL, okS, Option.toList_none, Option.toList_some, List.nil_append, List.cons_append, List.all_cons, List.all_nil, okV, Nat.blt_eq, Bool.and_true, Bool.true_and, Bool.and_eq_true]; omega)), (by first | rfl | (simp only [okC, okL, okS, Option.toList_none, Option.toList_some, List.nil_append, List.cons_append, List.all_cons, List.all_nil, okV, Nat.blt_eq, Bool.and_true, Bool.true_and, Bool.and_eq_true]; omega))⟩ ⟨⟨_, rfl⟩, rfl, rfl⟩ ?_
  refine R1 (g' := (5, _, _, _, _, _)) rfl rfl ?_
  refine RG_new rfl rfl rfl (by decide) ⟨Nat.le_of_ble_eq_true rfl, Nat.le_of_ble_eq_true rfl⟩ hok (by first | rfl | (simp only [okC, okL, okS, Option.toList_none, Option.toList_some, List.nil_append, List.cons_append, List.all_cons, List.all_nil, okV, Nat.blt_eq, Bool.and_true, Bool.true_and, Bool.and_eq_true]; omega)) (by first | rfl | (simp only [okC, okL, okS, Option.toList_none, Option.toList_some, List.nil_append, List.cons_append, List.all_cons, List.all_nil, okV, Nat.blt_eq, Bool.and_true, Bool.true_and, Bool.and_eq_true]; omega)) ?_
  refine R1 (g' := (9, _, _, _, _, _)) rfl rfl ?_
  refine R1 (g' := (11, _, .int (nI 90) :: _, _, _, _)) rfl rfl ?_
  refine R_call2 (Or.inr (Or.inr ⟨rfl, rfl⟩)) rfl rfl ⟨Nat.le_of_ble_eq_true rfl, Nat.le_of_ble_eq_true rfl⟩ (Nat.le_of_ble_eq_true rfl) ⟨(by first | rfl | (simp only [okC, okL, okS, Option.toList_none, Option.toList_some, List.nil_append, List.cons_append, List.all_cons, List.all_nil, okV, Nat.blt_eq, Bool.and_true, Bool.true_and, Bool.and_eq_true]; omega)), (by first | rfl | (simp only [okC, okL, okS, Option.toList_none, Option.toList_some, List.nil_append, List.cons_append, List.all_cons, List.all_nil, okV, Nat.blt_eq, Bool.and_true, Bool.true_and, Bool.and_eq_true]; omega))⟩ ⟨⟨_, _, rfl⟩, c0.1⟩ ?_
  refine RG_put rfl rfl (by show _ < _; omega) (va_up_self _ _ _) (Nat.le_of_ble_eq_true rfl) ⟨_, rfl, Or.inr rfl, tyX2 2, tyX2_ok 2 (by decide), rfl⟩ ?_
  change xRun _ _ (17, _, _, (p + 3, va_up (va_up C p (.inr (2, [.int 0, .int 0, .null, .null, .null, .null, .int 0, .int 0]))) p (.inr (2, [.int 0, .int 0, .ref (p + 1), .null, .null, .null, .int 0, .int 0]))), _, _)
  rw [va_up_up]
  refine R1 (g' := (18, _, _, _, _, _)) rfl rfl ?_
  refine RG_new rfl rfl rfl (by decide) ⟨Nat.le_of_ble_eq_true rfl, Nat.le_of_ble_eq_true rfl⟩ o0 (by first | rfl | (simp only [okC, okL, okS, Option.toList_none, Option.toList_some, List.nil_append, List.cons_append, List.all_cons, List.all_nil, okV, Nat.blt_eq, Bool.and_true, Bool.true_and, Bool.and_eq_true]; omega)) (by first | rfl | (simp only [okC, okL, okS, Option.toList_none, Option.toList_some, List.nil_append, List.cons_append, List.all_cons, List.all_nil, okV, Nat.blt_eq, Bool.and_true, Bool.true_and, Bool.and_eq_true]; omega)) ?_
  refine R1 (g' := (22, _, _, _, _, _)) rfl rfl ?_
  refine R1 (g' := (24, _, .int (nI 90) :: _, _, _, _)) rfl rfl ?_
  refine R_call2 (Or.inr (Or.inr ⟨rfl, rfl⟩)) rfl rfl ⟨Nat.le_of_ble_eq_true rfl, Nat.le_of_ble_eq_true rfl⟩ (Nat.le_of_ble_eq_true rfl) ⟨(by first | rfl | (simp only [okC, okL, okS, Option.toList_none, Option.toList_some, List.nil_append, List.cons_append, List.all_cons, List.all_nil, okV, Nat.blt_eq, Bool.and_true, Bool.true_and, Bool.and_eq_true]; omega)), (by first | rfl | (simp only [okC, okL, okS, Option.toList_none, Option.toList_some, List.nil_append, List.cons_append, List.all_cons, List.all_nil, okV, Nat.blt_eq, Bool.and_true, Bool.true_and, Bool.and_eq_true]; omega))⟩ ⟨⟨_, _, rfl⟩, c1.1⟩ ?_
  refine RG_put rfl rfl (by show _ < _; omega) (va_up_self _ _ _) (Nat.le_of_ble_eq_true rfl) ⟨_, rfl, Or.inr rfl, tyX2 3, tyX2_ok 3 (by decide), rfl⟩ ?_
  change xRun _ _ (30, _, _, (p + 5, va_up (va_up C p (.inr (2, [.int 0, .int 0, .ref (p + 1), .null, .null, .null, .int 0, .int 0]))) p (.inr (2, [.int 0, .int 0, .ref (p + 1), .ref (p + 3), .null, .null, .int 0, .int 0]))), _, _)
  rw [va_up_up]
  refine R1 (g' := (31, _, _, _, _, _)) rfl rfl ?_
  refine RG_new rfl rfl rfl (by decide) ⟨Nat.le_of_ble_eq_true rfl, Nat.le_of_ble_eq_true rfl⟩ o1 (by first | rfl | (simp only [okC, okL, okS, Option.toList_none, Option.toList_some, List.nil_append, List.cons_append, List.all_cons, List.all_nil, okV, Nat.blt_eq, Bool.and_true, Bool.true_and, Bool.and_eq_true]; omega)) (by first | rfl | (simp only [okC, okL, okS, Option.toList_none, Option.toList_some, List.nil_append, List.cons_append, List.all_cons, List.all_nil, okV, Nat.blt_eq, Bool.and_true, Bool.true_and, Bool.and_eq_true]; omega)) ?_
  refine R1 (g' := (35, _, _, _, _, _)) rfl rfl ?_
  refine R1 (g' := (37, _, .int (nI 90) :: _, _, _, _)) rfl rfl ?_
  refine R_call2 (Or.inr (Or.inr ⟨rfl, rfl⟩)) rfl rfl ⟨Nat.le_of_ble_eq_true rfl, Nat.le_of_ble_eq_true rfl⟩ (Nat.le_of_ble_eq_true rfl) ⟨(by first | rfl | (simp only [okC, okL, okS, Option.toList_none, Option.toList_some, List.nil_append, List.cons_append, List.all_cons, List.all_nil, okV, Nat.blt_eq, Bool.and_true, Bool.true_and, Bool.and_eq_true]; omega)), (by first | rfl | (simp only [okC, okL, okS, Option.toList_none, Option.toList_some, List.nil_append, List.cons_append, List.all_cons, List.all_nil, okV, Nat.blt_eq, Bool.and_true, Bool.true_and, Bool.and_eq_true]; omega))⟩ ⟨⟨_, _, rfl⟩, c2.1⟩ ?_
  refine RG_put rfl rfl (by show _ < _; omega) (va_up_self _ _ _) (Nat.le_of_ble_eq_true rfl) ⟨_, rfl, Or.inr rfl, tyX2 4, tyX2_ok 4 (by decide), rfl⟩ ?_
  change xRun _ _ (43, _, _, (p + 7, va_up (va_up C p (.inr (2, [.int 0, .int 0, .ref (p + 1), .ref (p + 3), .null, .null, .int 0, .int 0]))) p (.inr (2, [.int 0, .int 0, .ref (p + 1), .ref (p + 3), .ref (p + 5), .null, .int 0, .int 0]))), _, _)
  rw [va_up_up]
  refine R1 (g' := (44, _, _, _, _, _)) rfl rfl ?_
  refine RG_new rfl rfl rfl (by decide) ⟨Nat.le_of_ble_eq_true rfl, Nat.le_of_ble_eq_true rfl⟩ o2 (by first | rfl | (simp only [okC, okL, okS, Option.toList_none, Option.toList_some, List.nil_append, List.cons_append, List.all_cons, List.all_nil, okV, Nat.blt_eq, Bool.and_true, Bool.true_and, Bool.and_eq_true]; omega)) (by first | rfl | (simp only [okC, okL, okS, Option.toList_none, Option.toList_some, List.nil_append, List.cons_append, List.all_cons, List.all_nil, okV, Nat.blt_eq, Bool.and_true, Bool.true_and, Bool.and_eq_true]; omega)) ?_
  refine R1 (g' := (48, _, _, _, _, _)) rfl rfl ?_
  refine R1 (g' := (50, _, .int (nI 90) :: _, _, _, _)) rfl rfl ?_
  refine R_call2 (Or.inr (Or.inr ⟨rfl, rfl⟩)) rfl rfl ⟨Nat.le_of_ble_eq_true rfl, Nat.le_of_ble_eq_true rfl⟩ (Nat.le_of_ble_eq_true rfl) ⟨(by first | rfl | (simp only [okC, okL, okS, Option.toList_none, Option.toList_some, List.nil_append, List.cons_append, List.all_cons, List.all_nil, okV, Nat.blt_eq, Bool.and_true, Bool.true_and, Bool.and_eq_true]; omega)), (by first | rfl | (simp only [okC, okL, okS, Option.toList_none, Option.toList_some, List.nil_append, List.cons_append, List.all_cons, List.all_nil, okV, Nat.blt_eq, Bool.and_true, Bool.true_and, Bool.and_eq_true]; omega))⟩ ⟨⟨_, _, rfl⟩, c3.1⟩ ?_
  refine RG_put rfl rfl (by show _ < _; omega) (va_up_self _ _ _) (Nat.le_of_ble_eq_true rfl) ⟨_, rfl, Or.inr rfl, tyX2 5, tyX2_ok 5 (by decide), rfl⟩ ?_
  change xRun _ _ (56, _, _, (p + 9, va_up (va_up C p (.inr (2, [.int 0, .int 0, .ref (p + 1), .ref (p + 3), .ref (p + 5), .null, .int 0, .int 0]))) p (.inr (2, [.int 0, .int 0, .ref (p + 1), .ref (p + 3), .ref (p + 5), .ref (p + 7), .int 0, .int 0]))), _, _)
  rw [va_up_up, va_up_id hp]
  refine R_vret rfl ?_
  exact ⟨rfl, rfl⟩
