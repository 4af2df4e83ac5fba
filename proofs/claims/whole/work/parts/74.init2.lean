def hA : Nat → Nat → Option Nat
  | 0 => fun _ => none
  | k + 1 => va_up (hA k) k (some (43 + 20 * k))
theorem hA_lt : ∀ k j a, hA k j = some a → a < 43 + 20 * k
  | 0, _, _, h => by cases h
  | k + 1, j, a, h => by
    by_cases e : j = k
    · subst e
      have h2 : some (43 + 20 * j) = some a := (va_up_self _ _ _).symm.trans h
      cases h2
      omega
    · have h2 : hA k j = some a := (va_up_ne _ _ e).symm.trans h
      have := hA_lt k j a h2
      omega
def kHist (C : Nat → xC) : Prop := C 41 = .inr (1, [.int 0, .ref 42]) ∧ C 42 = (.inl (2, 4, .inr (.inr (.inr (.inr (hA 4)))))) ∧ kState C 43 ∧ kState C 63 ∧ kState C 83 ∧ kState C 103
theorem va_up_3 {α : Type} {f : Nat → α} {p q : Nat} {a b c : α} (h : p ≠ q) (e : f p = c) : va_up (va_up (va_up f p a) q b) p c = va_up f q b := by
  funext j
  by_cases h1 : j = p
  · rw [h1, va_up_self, va_up_ne _ _ h, e]
  · rw [va_up_ne _ _ h1]
    by_cases h2 : j = q
    · rw [h2, va_up_self, va_up_self]
    · rw [va_up_ne _ _ h2, va_up_ne _ _ h1, va_up_ne _ _ h2]
theorem up41 {C : Nat → xC} {c x : xC} (h : C 41 = x) : va_up C 42 c 41 = x := (va_up_ne _ _ (by decide)).trans h
theorem hi_4 {C : Nat → xC} (h : kHist C) : xRun M_X1_init (fun o1 w1 => o1 = .inl none ∧ w1 = (123, C)) (14, [(1, .int (nI 4)), (0, .ref 41)], [], (123, va_up C 42 (.inl (2, 4, .inr (.inr (.inr (.inr (hA 4))))))), 81, 295036) := by
  obtain ⟨h41, h42, hs0, hs1, hs2, hs3⟩ := h
  refine R1 (g' := (15, _, _, _, _, _)) rfl rfl ?_
  refine R1 (g' := (16, _, _, _, _, _)) rfl rfl ?_
  refine RG_get (fs := [.int 0, .ref 42]) rfl rfl (Nat.le_of_ble_eq_true rfl) h41 rfl ?_
  refine RG_alen2 rfl (Nat.le_of_ble_eq_true rfl) rfl ?_
  refine R_cgeN 42 (4) (4) rfl rfl (rfl) (rfl) (by omega) (by omega) (fun h20 => ?_) (fun h => by omega)
  refine R_vret rfl ?_
  exact ⟨rfl, by rw [va_up_id h42]⟩
theorem hi_3 {C : Nat → xC} (h : kHist C) (hok : xok (103, va_up C 42 (.inl (2, 4, .inr (.inr (.inr (.inr (hA 3)))))))) : xRun M_X1_init (fun o1 w1 => o1 = .inl none ∧ w1 = (123, C)) (14, [(1, .int (nI 3)), (0, .ref 41)], [], (103, va_up C 42 (.inl (2, 4, .inr (.inr (.inr (.inr (hA 3))))))), 61, 221278) := by
  have hn := hi_4 h
  obtain ⟨h41, h42, hs0, hs1, hs2, hs3⟩ := h
  have c0 := k_State (C := va_up C 42 (.inl (2, 4, .inr (.inr (.inr (.inr (hA 3))))))) (p := 103) (kState_up hs3 (by decide)) (xok_new hok rfl)
  refine R1 (g' := (15, _, _, _, _, _)) rfl rfl ?_
  refine R1 (g' := (16, _, _, _, _, _)) rfl rfl ?_
  refine RG_get (fs := [.int 0, .ref 42]) rfl rfl (Nat.le_of_ble_eq_true rfl) h41 rfl ?_
  refine RG_alen2 rfl (Nat.le_of_ble_eq_true rfl) rfl ?_
  refine R_cgeN 42 (3) (4) rfl rfl (rfl) (rfl) (by omega) (by omega) (fun h => by omega) (fun h20 => ?_)
  refine R1 (g' := (24, _, _, _, _, _)) rfl rfl ?_
  refine RG_get (fs := [.int 0, .ref 42]) rfl rfl (Nat.le_of_ble_eq_true rfl) h41 rfl ?_
  refine R1 (g' := (28, _, _, _, _, _)) rfl rfl ?_
  refine RG_new rfl rfl rfl (by decide) ⟨Nat.le_of_ble_eq_true rfl, Nat.le_of_ble_eq_true rfl⟩ hok (by first | rfl | (simp only [okC, okL, okS, Option.toList_none, Option.toList_some, List.nil_append, List.cons_append, List.all_cons, List.all_nil, okV, Nat.blt_eq, Bool.and_true, Bool.true_and, Bool.and_eq_true]; omega)) (by first | rfl | (simp only [okC, okL, okS, Option.toList_none, Option.toList_some, List.nil_append, List.cons_append, List.all_cons, List.all_nil, okV, Nat.blt_eq, Bool.and_true, Bool.true_and, Bool.and_eq_true]; omega)) ?_
  refine R1 (g' := (32, _, _, _, _, _)) rfl rfl ?_
  refine R_call1 (Or.inr (Or.inr ⟨rfl, rfl⟩)) rfl rfl ⟨Nat.le_of_ble_eq_true rfl, Nat.le_of_ble_eq_true rfl⟩ (Nat.le_of_ble_eq_true rfl) ⟨(by first | rfl | (simp only [okC, okL, okS, Option.toList_none, Option.toList_some, List.nil_append, List.cons_append, List.all_cons, List.all_nil, okV, Nat.blt_eq, Bool.and_true, Bool.true_and, Bool.and_eq_true]; omega)), (by first | rfl | (simp only [okC, okL, okS, Option.toList_none, Option.toList_some, List.nil_append, List.cons_append, List.all_cons, List.all_nil, okV, Nat.blt_eq, Bool.and_true, Bool.true_and, Bool.and_eq_true]; omega))⟩ ⟨⟨_, _, rfl⟩, c0.1⟩ ?_
  refine RG_aast 3 rfl (Nat.le_of_ble_eq_true rfl) rfl (by decide) (by decide) rfl (Nat.le_of_ble_eq_true rfl) hs3.1 ?_
  change xRun _ _ (36, _, _, (123, va_up (va_up C 42 (.inl (2, 4, .inr (.inr (.inr (.inr (hA 3))))))) 42 (.inl (2, 4, .inr (.inr (.inr (.inr (hA 4))))))), _, _)
  rw [va_up_up]
  refine R1 (g' := (39, _, _, _, _, _)) rfl rfl ?_
  refine R1 (g' := (14, _, _, _, _, _)) rfl rfl ?_
  refine R_lv [(1, .int (nI 4)), (0, .ref 41)] rfl (List.forall_mem_cons.mpr ⟨rfl, List.forall_mem_cons.mpr ⟨rfl, fun _ h => absurd h List.not_mem_nil⟩⟩) ⟨rfl, rfl⟩ ?_
  exact hn
theorem hi_2 {C : Nat → xC} (h : kHist C) (hok : xok (83, va_up C 42 (.inl (2, 4, .inr (.inr (.inr (.inr (hA 2)))))))) : xRun M_X1_init (fun o1 w1 => o1 = .inl none ∧ w1 = (123, C)) (14, [(1, .int (nI 2)), (0, .ref 41)], [], (83, va_up C 42 (.inl (2, 4, .inr (.inr (.inr (.inr (hA 2))))))), 41, 147520) := by
  have hn := hi_3 h
  obtain ⟨h41, h42, hs0, hs1, hs2, hs3⟩ := h
  have c0 := k_State (C := va_up C 42 (.inl (2, 4, .inr (.inr (.inr (.inr (hA 2))))))) (p := 83) (kState_up hs2 (by decide)) (xok_new hok rfl)
  have hn := hn (xok_up c0.2 (fun j a e => by have := hA_lt 3 j a e; omega))
  refine R1 (g' := (15, _, _, _, _, _)) rfl rfl ?_
  refine R1 (g' := (16, _, _, _, _, _)) rfl rfl ?_
  refine RG_get (fs := [.int 0, .ref 42]) rfl rfl (Nat.le_of_ble_eq_true rfl) h41 rfl ?_
  refine RG_alen2 rfl (Nat.le_of_ble_eq_true rfl) rfl ?_
  refine R_cgeN 42 (2) (4) rfl rfl (rfl) (rfl) (by omega) (by omega) (fun h => by omega) (fun h20 => ?_)
  refine R1 (g' := (24, _, _, _, _, _)) rfl rfl ?_
  refine RG_get (fs := [.int 0, .ref 42]) rfl rfl (Nat.le_of_ble_eq_true rfl) h41 rfl ?_
  refine R1 (g' := (28, _, _, _, _, _)) rfl rfl ?_
  refine RG_new rfl rfl rfl (by decide) ⟨Nat.le_of_ble_eq_true rfl, Nat.le_of_ble_eq_true rfl⟩ hok (by first | rfl | (simp only [okC, okL, okS, Option.toList_none, Option.toList_some, List.nil_append, List.cons_append, List.all_cons, List.all_nil, okV, Nat.blt_eq, Bool.and_true, Bool.true_and, Bool.and_eq_true]; omega)) (by first | rfl | (simp only [okC, okL, okS, Option.toList_none, Option.toList_some, List.nil_append, List.cons_append, List.all_cons, List.all_nil, okV, Nat.blt_eq, Bool.and_true, Bool.true_and, Bool.and_eq_true]; omega)) ?_
  refine R1 (g' := (32, _, _, _, _, _)) rfl rfl ?_
  refine R_call1 (Or.inr (Or.inr ⟨rfl, rfl⟩)) rfl rfl ⟨Nat.le_of_ble_eq_true rfl, Nat.le_of_ble_eq_true rfl⟩ (Nat.le_of_ble_eq_true rfl) ⟨(by first | rfl | (simp only [okC, okL, okS, Option.toList_none, Option.toList_some, List.nil_append, List.cons_append, List.all_cons, List.all_nil, okV, Nat.blt_eq, Bool.and_true, Bool.true_and, Bool.and_eq_true]; omega)), (by first | rfl | (simp only [okC, okL, okS, Option.toList_none, Option.toList_some, List.nil_append, List.cons_append, List.all_cons, List.all_nil, okV, Nat.blt_eq, Bool.and_true, Bool.true_and, Bool.and_eq_true]; omega))⟩ ⟨⟨_, _, rfl⟩, c0.1⟩ ?_
  refine RG_aast 2 rfl (Nat.le_of_ble_eq_true rfl) rfl (by decide) (by decide) rfl (Nat.le_of_ble_eq_true rfl) hs2.1 ?_
  change xRun _ _ (36, _, _, (103, va_up (va_up C 42 (.inl (2, 4, .inr (.inr (.inr (.inr (hA 2))))))) 42 (.inl (2, 4, .inr (.inr (.inr (.inr (hA 3))))))), _, _)
  rw [va_up_up]
  refine R1 (g' := (39, _, _, _, _, _)) rfl rfl ?_
  refine R1 (g' := (14, _, _, _, _, _)) rfl rfl ?_
  refine R_lv [(1, .int (nI 3)), (0, .ref 41)] rfl (List.forall_mem_cons.mpr ⟨rfl, List.forall_mem_cons.mpr ⟨rfl, fun _ h => absurd h List.not_mem_nil⟩⟩) ⟨rfl, rfl⟩ ?_
  exact hn
theorem hi_1 {C : Nat → xC} (h : kHist C) (hok : xok (63, va_up C 42 (.inl (2, 4, .inr (.inr (.inr (.inr (hA 1)))))))) : xRun M_X1_init (fun o1 w1 => o1 = .inl none ∧ w1 = (123, C)) (14, [(1, .int (nI 1)), (0, .ref 41)], [], (63, va_up C 42 (.inl (2, 4, .inr (.inr (.inr (.inr (hA 1))))))), 21, 73762) := by
  have hn := hi_2 h
  obtain ⟨h41, h42, hs0, hs1, hs2, hs3⟩ := h
  have c0 := k_State (C := va_up C 42 (.inl (2, 4, .inr (.inr (.inr (.inr (hA 1))))))) (p := 63) (kState_up hs1 (by decide)) (xok_new hok rfl)
  have hn := hn (xok_up c0.2 (fun j a e => by have := hA_lt 2 j a e; omega))
  refine R1 (g' := (15, _, _, _, _, _)) rfl rfl ?_
  refine R1 (g' := (16, _, _, _, _, _)) rfl rfl ?_
  refine RG_get (fs := [.int 0, .ref 42]) rfl rfl (Nat.le_of_ble_eq_true rfl) h41 rfl ?_
  refine RG_alen2 rfl (Nat.le_of_ble_eq_true rfl) rfl ?_
  refine R_cgeN 42 (1) (4) rfl rfl (rfl) (rfl) (by omega) (by omega) (fun h => by omega) (fun h20 => ?_)
  refine R1 (g' := (24, _, _, _, _, _)) rfl rfl ?_
  refine RG_get (fs := [.int 0, .ref 42]) rfl rfl (Nat.le_of_ble_eq_true rfl) h41 rfl ?_
  refine R1 (g' := (28, _, _, _, _, _)) rfl rfl ?_
  refine RG_new rfl rfl rfl (by decide) ⟨Nat.le_of_ble_eq_true rfl, Nat.le_of_ble_eq_true rfl⟩ hok (by first | rfl | (simp only [okC, okL, okS, Option.toList_none, Option.toList_some, List.nil_append, List.cons_append, List.all_cons, List.all_nil, okV, Nat.blt_eq, Bool.and_true, Bool.true_and, Bool.and_eq_true]; omega)) (by first | rfl | (simp only [okC, okL, okS, Option.toList_none, Option.toList_some, List.nil_append, List.cons_append, List.all_cons, List.all_nil, okV, Nat.blt_eq, Bool.and_true, Bool.true_and, Bool.and_eq_true]; omega)) ?_
  refine R1 (g' := (32, _, _, _, _, _)) rfl rfl ?_
  refine R_call1 (Or.inr (Or.inr ⟨rfl, rfl⟩)) rfl rfl ⟨Nat.le_of_ble_eq_true rfl, Nat.le_of_ble_eq_true rfl⟩ (Nat.le_of_ble_eq_true rfl) ⟨(by first | rfl | (simp only [okC, okL, okS, Option.toList_none, Option.toList_some, List.nil_append, List.cons_append, List.all_cons, List.all_nil, okV, Nat.blt_eq, Bool.and_true, Bool.true_and, Bool.and_eq_true]; omega)), (by first | rfl | (simp only [okC, okL, okS, Option.toList_none, Option.toList_some, List.nil_append, List.cons_append, List.all_cons, List.all_nil, okV, Nat.blt_eq, Bool.and_true, Bool.true_and, Bool.and_eq_true]; omega))⟩ ⟨⟨_, _, rfl⟩, c0.1⟩ ?_
  refine RG_aast 1 rfl (Nat.le_of_ble_eq_true rfl) rfl (by decide) (by decide) rfl (Nat.le_of_ble_eq_true rfl) hs1.1 ?_
  change xRun _ _ (36, _, _, (83, va_up (va_up C 42 (.inl (2, 4, .inr (.inr (.inr (.inr (hA 1))))))) 42 (.inl (2, 4, .inr (.inr (.inr (.inr (hA 2))))))), _, _)
  rw [va_up_up]
  refine R1 (g' := (39, _, _, _, _, _)) rfl rfl ?_
  refine R1 (g' := (14, _, _, _, _, _)) rfl rfl ?_
  refine R_lv [(1, .int (nI 2)), (0, .ref 41)] rfl (List.forall_mem_cons.mpr ⟨rfl, List.forall_mem_cons.mpr ⟨rfl, fun _ h => absurd h List.not_mem_nil⟩⟩) ⟨rfl, rfl⟩ ?_
  exact hn
theorem hi_0 {C : Nat → xC} (h : kHist C) (hok : xok (43, va_up C 42 (.inl (2, 4, .inr (.inr (.inr (.inr (hA 0)))))))) : xRun M_X1_init (fun o1 w1 => o1 = .inl none ∧ w1 = (123, C)) (14, [(1, .int (nI 0)), (0, .ref 41)], [], (43, va_up C 42 (.inl (2, 4, .inr (.inr (.inr (.inr (hA 0))))))), 1, 4) := by
  have hn := hi_1 h
  obtain ⟨h41, h42, hs0, hs1, hs2, hs3⟩ := h
  have c0 := k_State (C := va_up C 42 (.inl (2, 4, .inr (.inr (.inr (.inr (hA 0))))))) (p := 43) (kState_up hs0 (by decide)) (xok_new hok rfl)
  have hn := hn (xok_up c0.2 (fun j a e => by have := hA_lt 1 j a e; omega))
  refine R1 (g' := (15, _, _, _, _, _)) rfl rfl ?_
  refine R1 (g' := (16, _, _, _, _, _)) rfl rfl ?_
  refine RG_get (fs := [.int 0, .ref 42]) rfl rfl (Nat.le_of_ble_eq_true rfl) h41 rfl ?_
  refine RG_alen2 rfl (Nat.le_of_ble_eq_true rfl) rfl ?_
  refine R_cgeN 42 (0) (4) rfl rfl (rfl) (rfl) (by omega) (by omega) (fun h => by omega) (fun h20 => ?_)
  refine R1 (g' := (24, _, _, _, _, _)) rfl rfl ?_
  refine RG_get (fs := [.int 0, .ref 42]) rfl rfl (Nat.le_of_ble_eq_true rfl) h41 rfl ?_
  refine R1 (g' := (28, _, _, _, _, _)) rfl rfl ?_
  refine RG_new rfl rfl rfl (by decide) ⟨Nat.le_of_ble_eq_true rfl, Nat.le_of_ble_eq_true rfl⟩ hok (by first | rfl | (simp only [okC, okL, okS, Option.toList_none, Option.toList_some, List.nil_append, List.cons_append, List.all_cons, List.all_nil, okV, Nat.blt_eq, Bool.and_true, Bool.true_and, Bool.and_eq_true]; omega)) (by first | rfl | (simp only [okC, okL, okS, Option.toList_none, Option.toList_some, List.nil_append, List.cons_append, List.all_cons, List.all_nil, okV, Nat.blt_eq, Bool.and_true, Bool.true_and, Bool.and_eq_true]; omega)) ?_
  refine R1 (g' := (32, _, _, _, _, _)) rfl rfl ?_
  refine R_call1 (Or.inr (Or.inr ⟨rfl, rfl⟩)) rfl rfl ⟨Nat.le_of_ble_eq_true rfl, Nat.le_of_ble_eq_true rfl⟩ (Nat.le_of_ble_eq_true rfl) ⟨(by first | rfl | (simp only [okC, okL, okS, Option.toList_none, Option.toList_some, List.nil_append, List.cons_append, List.all_cons, List.all_nil, okV, Nat.blt_eq, Bool.and_true, Bool.true_and, Bool.and_eq_true]; omega)), (by first | rfl | (simp only [okC, okL, okS, Option.toList_none, Option.toList_some, List.nil_append, List.cons_append, List.all_cons, List.all_nil, okV, Nat.blt_eq, Bool.and_true, Bool.true_and, Bool.and_eq_true]; omega))⟩ ⟨⟨_, _, rfl⟩, c0.1⟩ ?_
  refine RG_aast 0 rfl (Nat.le_of_ble_eq_true rfl) rfl (by decide) (by decide) rfl (Nat.le_of_ble_eq_true rfl) hs0.1 ?_
  change xRun _ _ (36, _, _, (63, va_up (va_up C 42 (.inl (2, 4, .inr (.inr (.inr (.inr (hA 0))))))) 42 (.inl (2, 4, .inr (.inr (.inr (.inr (hA 1))))))), _, _)
  rw [va_up_up]
  refine R1 (g' := (39, _, _, _, _, _)) rfl rfl ?_
  refine R1 (g' := (14, _, _, _, _, _)) rfl rfl ?_
  refine R_lv [(1, .int (nI 1)), (0, .ref 41)] rfl (List.forall_mem_cons.mpr ⟨rfl, List.forall_mem_cons.mpr ⟨rfl, fun _ h => absurd h List.not_mem_nil⟩⟩) ⟨rfl, rfl⟩ ?_
  exact hn
theorem k_Hist {C : Nat → xC} (h : kHist C) (hok : xok (42, va_up C 41 (.inr (1, [.int 0, .null])))) : Ev_X1_init [.ref 41] (42, va_up C 41 (.inr (1, [.int 0, .null]))) (.inl none) (123, C) ∧ xok (123, C) := by
  have hx1 : xok (43, va_up (va_up C 41 (.inr (1, [.int 0, .null]))) 42 (.inl (2, 4, .inr (.inr (.inr (.inr (hA 0))))))) := xok_new hok (fun _ _ e => by cases e)
  have hx2 : xok (43, va_up C 42 (.inl (2, 4, .inr (.inr (.inr (.inr (hA 0))))))) := by
    have h1 : xok (43, va_up (va_up (va_up C 41 (.inr (1, [.int 0, .null]))) 42 (.inl (2, 4, .inr (.inr (.inr (.inr (hA 0))))))) 41 (.inr (1, [.int 0, .ref 42]))) := xok_set (w := (43, _)) (i := 41) hx1 rfl
    rw [va_up_3 (by decide) h.1] at h1
    exact h1
  have hn := hi_0 h hx2
  have y0 := k_State (C := va_up C 42 (.inl (2, 4, .inr (.inr (.inr (.inr (hA 0))))))) (p := 43) (kState_up h.2.2.1 (by decide)) (xok_new hx2 rfl)
  have z1 := xok_up (b := (.inl (2, 4, .inr (.inr (.inr (.inr (hA 1))))))) y0.2 (fun j a e => by have := hA_lt 1 j a e; omega)
  have y1 := k_State (C := va_up C 42 (.inl (2, 4, .inr (.inr (.inr (.inr (hA 1))))))) (p := 63) (kState_up h.2.2.2.1 (by decide)) (xok_new z1 rfl)
  have z2 := xok_up (b := (.inl (2, 4, .inr (.inr (.inr (.inr (hA 2))))))) y1.2 (fun j a e => by have := hA_lt 2 j a e; omega)
  have y2 := k_State (C := va_up C 42 (.inl (2, 4, .inr (.inr (.inr (.inr (hA 2))))))) (p := 83) (kState_up h.2.2.2.2.1 (by decide)) (xok_new z2 rfl)
  have z3 := xok_up (b := (.inl (2, 4, .inr (.inr (.inr (.inr (hA 3))))))) y2.2 (fun j a e => by have := hA_lt 3 j a e; omega)
  have y3 := k_State (C := va_up C 42 (.inl (2, 4, .inr (.inr (.inr (.inr (hA 3))))))) (p := 103) (kState_up h.2.2.2.2.2 (by decide)) (xok_new z3 rfl)
  have z4 := xok_up (b := (.inl (2, 4, .inr (.inr (.inr (.inr (hA 4))))))) y3.2 (fun j a e => by have := hA_lt 4 j a e; omega)
  rw [va_up_id h.2.1] at z4
  obtain ⟨h41, h42, hs0, hs1, hs2, hs3⟩ := h
  refine ⟨⟨Nat.le_of_ble_eq_true rfl, (by show 42 ≤ 123; omega), rfl, ?_⟩, z4⟩
  refine R1 (g' := (1, _, _, _, _, _)) rfl rfl ?_
  refine R_call1 (Or.inr (Or.inr ⟨rfl, rfl⟩)) rfl rfl ⟨Nat.le_of_ble_eq_true rfl, Nat.le_of_ble_eq_true rfl⟩ (Nat.le_of_ble_eq_true rfl) ⟨(by first | rfl | (simp only [okC, okL, okS, Option.toList_none, Option.toList_some, List.nil_append, List.cons_append, List.all_cons, List.all_nil, okV, Nat.blt_eq, Bool.and_true, Bool.true_and, Bool.and_eq_true]; omega)), (by first | rfl | (simp only [okC, okL, okS, Option.toList_none, Option.toList_some, List.nil_append, List.cons_append, List.all_cons, List.all_nil, okV, Nat.blt_eq, Bool.and_true, Bool.true_and, Bool.and_eq_true]; omega))⟩ ⟨⟨_, rfl⟩, rfl, rfl⟩ ?_
  refine R1 (g' := (5, _, _, _, _, _)) rfl rfl ?_
  refine R1 (g' := (6, _, .int (nI 4) :: _, _, _, _)) rfl rfl ?_
  refine RG_anewarr (N := 4) rfl rfl (by decide) ⟨Nat.le_of_ble_eq_true rfl, Nat.le_of_ble_eq_true rfl⟩ hok rfl rfl ?_
  refine RG_put rfl rfl (Nat.le_of_ble_eq_true rfl) (ci := 1) (fs := [.int 0, .null]) rfl (Nat.le_of_ble_eq_true rfl) ⟨_, rfl, Or.inr rfl, tyX1 1, tyX1_ok 1 (by decide), rfl⟩ ?_
  change xRun _ _ (12, _, _, (43, va_up (va_up (va_up C 41 (.inr (1, [.int 0, .null]))) 42 (.inl (2, 4, .inr (.inr (.inr (.inr (hA 0))))))) 41 (.inr (1, [.int 0, .ref 42]))), _, _)
  rw [va_up_3 (by decide) h41]
  refine R1 (g' := (13, _, .int (nI 0) :: _, _, _, _)) rfl rfl ?_
  refine R1 (g' := (14, _, _, _, _, _)) rfl rfl ?_
  refine R_lv [(1, .int (nI 0)), (0, .ref 41)] rfl (List.forall_mem_cons.mpr ⟨rfl, List.forall_mem_cons.mpr ⟨rfl, fun _ h => absurd h List.not_mem_nil⟩⟩) ⟨rfl, rfl⟩ ?_
  exact hn
def wn (N : Nat) (s : xs) : xw := (N, cells s)
section XN
variable {M : xM} {Po : xO → xw → Prop} {pc : Nat} {lv : List (Nat × Value)} {kc ks N : Nat} {s : xs}
theorem RN_put {a ci fk j : Nat} {v : Int32} {st : List Value} {fs : List Value} (h : xlk M.2.1 pc = some (.putfield j)) (hF : M.2.2.1 j = some (ci, fk)) (ha : a < N) (hc : cellAt a (s.1 a) (s.2.1 a) (s.2.2 a) = .inr (ci, fs)) (hl : fk < fs.length)
    (hq : ∃ q, vwCl[ci]? = some q ∧ ((q.2.1 fk).2.2.2 = false ∨ M.2.2.2.1 1000000 = some (.retAddr ci)) ∧ ∃ ty, parseFieldDescriptor (q.2.1 fk).2.2.1 = some ty ∧ xfits ty (.int v) = true)
    (hd : cellAt a (upd (s.1 a) fk v) (s.2.1 a) (s.2.2 a) = .inr (ci, fs.set fk (.int v))) (kk : xRun M Po (pc + 3, lv, st, wn N (setP s a (upd (s.1 a) fk v)), kc, ks)) : xRun M Po (pc, lv, .int v :: .ref a :: st, wn N s, kc, ks) := by
  refine R0 h rfl ⟨ci, fk, fs, hF, ha, hc, hl, hq, ?_⟩
  show xRun M Po (pc + 3, lv, st, (N, va_up (cells s) a (.inr (ci, fs.set fk (.int v)))), kc, ks)
  rw [cells_setP s a (upd (s.1 a) fk v) hd]
  exact kk
theorem RN_iast {a n : Nat} {x v : Int32} {st : List Value} (k : Nat) (h : xlk M.2.1 pc = some .iastore) (ha : a < N) (hc : ∀ f, cellAt a f (s.2.1 a) (s.2.2 a) = .inl (0, n, .inl f)) (hk : k < n) (hn : n < 2 ^ 31) (hx : x = nI k) (kk : xRun M Po (pc + 1, lv, st, wn N (setP s a (upd (s.1 a) k v)), kc, ks)) : xRun M Po (pc, lv, .int v :: .int x :: .ref a :: st, wn N s, kc, ks) := by
  subst hx
  refine R0 h rfl ⟨n, s.1 a, ⟨ha, hc _⟩, vp_in_nI hk hn, ?_⟩
  rw [nI_clamp (by omega)]
  show xRun M Po (pc + 1, lv, st, (N, va_up (cells s) a (.inl (0, n, .inl (upd (s.1 a) k v)))), kc, ks)
  rw [cells_setP s a (upd (s.1 a) k v) (hc _)]
  exact kk
theorem RN_alen {a n : Nat} {z} {st : List Value} (h : xlk M.2.1 pc = some .arraylength) (ha : a < N) (hc : cellAt a (s.1 a) (s.2.1 a) (s.2.2 a) = .inl (0, n, z)) (kk : xRun M Po (pc + 1, lv, .int (nI n) :: st, wn N s, kc, ks)) : xRun M Po (pc, lv, .ref a :: st, wn N s, kc, ks) := by
  refine R1 (g' := (pc + 1, lv, .int (nI n) :: st, wn N s, kc, ks)) h ?_ kk
  have h1 : (wn N s).2 a = .inl (0, n, z) := hc
  have h2 : Nat.blt a (wn N s).1 = true := Nat.blt_eq.mpr ha
  have h3 : Nat.blt 0 3 = true := rfl
  show xpick none (fun _ => xpick (xsd M.2.2.1 .arraylength (pc, lv, .ref a :: st, wn N s, kc, ks)) _) = _
  simp only [xpick, xsd, h1, h2, h3, Bool.and_self, cond_true]
  rfl
end XN
theorem eN_set {s : xs} {N i n k : Nat} {v : Int32} (hr : xrw i n) (hN : i + 1 < N) (hn : n < 2 ^ 31) (hk : k < n) : Ev_X3_set [.ref i, .int (nI k), .int v] (wn N s) (.inl none) (wn N (setP s (i + 1) (upd (s.1 (i + 1)) k v))) := by
  refine ⟨Nat.le_of_ble_eq_true rfl, Nat.le_refl _, rfl, ?_⟩
  refine R1 (g' := (1, _, _, _, _, _)) rfl rfl ?_
  refine R_lt 20 rfl rfl (fun h => by exact absurd h (nI_pos (by omega))) (fun h1 => ?_)
  refine R1 (g' := (5, _, _, _, _, _)) rfl rfl ?_
  refine R1 (g' := (6, _, _, _, _, _)) rfl rfl ?_
  refine RG_get rfl rfl (by show _ < N; omega) (hr.2.1 _ _ _) rfl ?_
  refine RN_alen rfl hN (hr.2.2 _ _ _) ?_
  refine R_cge 20 rfl rfl (fun h => by exact absurd h (nI_ge hk hn)) (fun h10 => ?_)
  refine R1 (g' := (14, _, _, _, _, _)) rfl rfl ?_
  refine RG_get rfl rfl (by show _ < N; omega) (hr.2.1 _ _ _) rfl ?_
  refine R1 (g' := (18, _, _, _, _, _)) rfl rfl ?_
  refine R1 (g' := (19, _, _, _, _, _)) rfl rfl ?_
  refine RN_iast k rfl hN (fun _ => hr.2.2 _ _ _) hk hn rfl ?_
  refine R_vret rfl ?_
  exact ⟨rfl, rfl⟩
theorem e142_begin {s : xs} {w h v : Int32} : Ev_X0_begin [.ref 2, .int w, .int h, .int v] (wn 142 s) (.inl none) (wn 142 (sBegin s 2 w h v)) := by
  refine ⟨Nat.le_of_ble_eq_true rfl, Nat.le_refl _, rfl, ?_⟩
  refine R1 (g' := (1, _, _, _, _, _)) rfl rfl ?_
  refine R1 (g' := (2, _, .int (nI 1) :: _, _, _, _)) rfl rfl ?_
  refine RN_put rfl rfl (Nat.le_of_ble_eq_true rfl) rfl (Nat.le_of_ble_eq_true rfl) ⟨_, rfl, Or.inl rfl, _, rfl, rfl⟩ rfl ?_
  refine R1 (g' := (6, _, _, _, _, _)) rfl rfl ?_
  refine R1 (g' := (9, _, .int (nI 1250) :: _, _, _, _)) rfl rfl ?_
  refine RN_put rfl rfl (Nat.le_of_ble_eq_true rfl) rfl (Nat.le_of_ble_eq_true rfl) ⟨_, rfl, Or.inl rfl, _, rfl, rfl⟩ rfl ?_
  refine R1 (g' := (13, _, _, _, _, _)) rfl rfl ?_
  refine R1 (g' := (14, _, .int (nI 0) :: _, _, _, _)) rfl rfl ?_
  refine RN_put rfl rfl (Nat.le_of_ble_eq_true rfl) rfl (Nat.le_of_ble_eq_true rfl) ⟨_, rfl, Or.inl rfl, _, rfl, rfl⟩ rfl ?_
  refine R1 (g' := (18, _, _, _, _, _)) rfl rfl ?_
  refine R1 (g' := (19, _, .int (nI 0) :: _, _, _, _)) rfl rfl ?_
  refine RN_put rfl rfl (Nat.le_of_ble_eq_true rfl) rfl (Nat.le_of_ble_eq_true rfl) ⟨_, rfl, Or.inl rfl, _, rfl, rfl⟩ rfl ?_
  refine R1 (g' := (23, _, _, _, _, _)) rfl rfl ?_
  refine R1 (g' := (24, _, .int (nI 0) :: _, _, _, _)) rfl rfl ?_
  refine RN_put rfl rfl (Nat.le_of_ble_eq_true rfl) rfl (Nat.le_of_ble_eq_true rfl) ⟨_, rfl, Or.inl rfl, _, rfl, rfl⟩ rfl ?_
  refine R1 (g' := (28, _, _, _, _, _)) rfl rfl ?_
  refine R1 (g' := (29, _, .int (nI 0) :: _, _, _, _)) rfl rfl ?_
  refine RN_put rfl rfl (Nat.le_of_ble_eq_true rfl) rfl (Nat.le_of_ble_eq_true rfl) ⟨_, rfl, Or.inl rfl, _, rfl, rfl⟩ rfl ?_
  refine R1 (g' := (33, _, _, _, _, _)) rfl rfl ?_
  refine R1 (g' := (34, _, _, _, _, _)) rfl rfl ?_
  refine RN_put rfl rfl (Nat.le_of_ble_eq_true rfl) rfl (Nat.le_of_ble_eq_true rfl) ⟨_, rfl, Or.inl rfl, _, rfl, rfl⟩ rfl ?_
  refine R1 (g' := (38, _, _, _, _, _)) rfl rfl ?_
  refine RG_get rfl rfl (Nat.le_of_ble_eq_true rfl) rfl rfl ?_
  refine R1 (g' := (42, _, .int (nI 0) :: _, _, _, _)) rfl rfl ?_
  refine R1 (g' := (43, _, _, _, _, _)) rfl rfl ?_
  refine R_call3 (Or.inr (Or.inl ⟨rfl, rfl⟩)) rfl rfl ⟨Nat.le_of_ble_eq_true rfl, Nat.le_of_ble_eq_true rfl⟩ (Nat.le_of_ble_eq_true rfl) ⟨rfl, rfl⟩ (⟨⟨_, _, _, rfl, (Nat.le_of_ble_eq_true rfl), rfl⟩, eN_set xbar_2.2.2.1 (by decide) (by decide) (show 0 < 8 by decide)⟩) ?_
  refine R1 (g' := (47, _, _, _, _, _)) rfl rfl ?_
  refine RG_get rfl rfl (Nat.le_of_ble_eq_true rfl) rfl rfl ?_
  refine R1 (g' := (51, _, .int (nI 0) :: _, _, _, _)) rfl rfl ?_
  refine R1 (g' := (52, _, _, _, _, _)) rfl rfl ?_
  refine R_call3 (Or.inr (Or.inl ⟨rfl, rfl⟩)) rfl rfl ⟨Nat.le_of_ble_eq_true rfl, Nat.le_of_ble_eq_true rfl⟩ (Nat.le_of_ble_eq_true rfl) ⟨rfl, rfl⟩ (⟨⟨_, _, _, rfl, (Nat.le_of_ble_eq_true rfl), rfl⟩, eN_set xbar_2.2.2.2.1 (by decide) (by decide) (show 0 < 8 by decide)⟩) ?_
  refine R1 (g' := (56, _, _, _, _, _)) rfl rfl ?_
  refine RG_get rfl rfl (Nat.le_of_ble_eq_true rfl) rfl rfl ?_
  refine R1 (g' := (60, _, .int (nI 0) :: _, _, _, _)) rfl rfl ?_
  refine R1 (g' := (61, _, _, _, _, _)) rfl rfl ?_
  refine R_call3 (Or.inr (Or.inl ⟨rfl, rfl⟩)) rfl rfl ⟨Nat.le_of_ble_eq_true rfl, Nat.le_of_ble_eq_true rfl⟩ (Nat.le_of_ble_eq_true rfl) ⟨rfl, rfl⟩ (⟨⟨_, _, _, rfl, (Nat.le_of_ble_eq_true rfl), rfl⟩, eN_set xbar_2.2.2.2.2.1 (by decide) (by decide) (show 0 < 8 by decide)⟩) ?_
  refine R1 (g' := (65, _, _, _, _, _)) rfl rfl ?_
  refine RG_get rfl rfl (Nat.le_of_ble_eq_true rfl) rfl rfl ?_
  refine R1 (g' := (69, _, .int (nI 0) :: _, _, _, _)) rfl rfl ?_
  refine R1 (g' := (70, _, .int (nI 0) :: _, _, _, _)) rfl rfl ?_
  refine R_call3 (Or.inr (Or.inl ⟨rfl, rfl⟩)) rfl rfl ⟨Nat.le_of_ble_eq_true rfl, Nat.le_of_ble_eq_true rfl⟩ (Nat.le_of_ble_eq_true rfl) ⟨rfl, rfl⟩ (⟨⟨_, _, _, rfl, (Nat.le_of_ble_eq_true rfl), rfl⟩, eN_set xbar_2.2.2.2.2.2.1 (by decide) (by decide) (show 0 < 8 by decide)⟩) ?_
  refine R_vret rfl ?_
  exact ⟨rfl, rfl⟩
def z0 : xs := (fun _ _ => 0, fun _ => hA 4, fun _ _ => 0)
def zS : xs := put z0 2 2 (nI 10)
def zA : xs := sBegin zS 2 (nI 40) (nI 40) (nI 400000)
theorem z_Row {q N : Nat} (h1 : cells z0 q = .inr (3, [.ref (q + 1)])) (h2 : cells z0 (q + 1) = .inl (0, N, .inl (fun _ => 0))) : kRow (cells z0) q N := ⟨h1, h2⟩
theorem z_St1 : kState (cells z0) 1 := ⟨rfl, ⟨rfl, z_Row rfl rfl, z_Row rfl rfl, z_Row rfl rfl, z_Row rfl rfl, rfl⟩, ⟨rfl, z_Row rfl rfl, z_Row rfl rfl, z_Row rfl rfl, z_Row rfl rfl⟩⟩
theorem z_St21 : kState (cells z0) 21 := ⟨rfl, ⟨rfl, z_Row rfl rfl, z_Row rfl rfl, z_Row rfl rfl, z_Row rfl rfl, rfl⟩, ⟨rfl, z_Row rfl rfl, z_Row rfl rfl, z_Row rfl rfl, z_Row rfl rfl⟩⟩
theorem z_St43 : kState (cells z0) 43 := ⟨rfl, ⟨rfl, z_Row rfl rfl, z_Row rfl rfl, z_Row rfl rfl, z_Row rfl rfl, rfl⟩, ⟨rfl, z_Row rfl rfl, z_Row rfl rfl, z_Row rfl rfl, z_Row rfl rfl⟩⟩
theorem z_St63 : kState (cells z0) 63 := ⟨rfl, ⟨rfl, z_Row rfl rfl, z_Row rfl rfl, z_Row rfl rfl, z_Row rfl rfl, rfl⟩, ⟨rfl, z_Row rfl rfl, z_Row rfl rfl, z_Row rfl rfl, z_Row rfl rfl⟩⟩
theorem z_St83 : kState (cells z0) 83 := ⟨rfl, ⟨rfl, z_Row rfl rfl, z_Row rfl rfl, z_Row rfl rfl, z_Row rfl rfl, rfl⟩, ⟨rfl, z_Row rfl rfl, z_Row rfl rfl, z_Row rfl rfl, z_Row rfl rfl⟩⟩
theorem z_St103 : kState (cells z0) 103 := ⟨rfl, ⟨rfl, z_Row rfl rfl, z_Row rfl rfl, z_Row rfl rfl, z_Row rfl rfl, rfl⟩, ⟨rfl, z_Row rfl rfl, z_Row rfl rfl, z_Row rfl rfl, z_Row rfl rfl⟩⟩
theorem z_Way : kWay (cells z0) 123 := ⟨rfl, z_Row rfl rfl, z_Row rfl rfl, z_Row rfl rfl, z_Row rfl rfl, rfl⟩
theorem z_Text : kText (cells z0) 133 := ⟨rfl, z_Row rfl rfl, z_Row rfl rfl, z_Row rfl rfl, z_Row rfl rfl⟩
theorem z_Hist : kHist (cells z0) := ⟨rfl, rfl, z_St43, z_St63, z_St83, z_St103⟩
theorem kWay_up {C : Nat → xC} {q p : Nat} {c : xC} (h : kWay C q) (h1 : p < q ∨ q + 9 < p) : kWay (va_up C p c) q := ⟨by rw [va_up_ne _ _ (by omega)]; exact h.1, kRow_up h.2.1 (by omega), kRow_up h.2.2.1 (by omega), kRow_up h.2.2.2.1 (by omega), kRow_up h.2.2.2.2.1 (by omega), kSec_up h.2.2.2.2.2 (by omega)⟩
theorem kText_up {C : Nat → xC} {q p : Nat} {c : xC} (h : kText C q) (h1 : p < q ∨ q + 8 < p) : kText (va_up C p c) q := ⟨by rw [va_up_ne _ _ (by omega)]; exact h.1, kRow_up h.2.1 (by omega), kRow_up h.2.2.1 (by omega), kRow_up h.2.2.2.1 (by omega), kRow_up h.2.2.2.2 (by omega)⟩
theorem kHist_up {C : Nat → xC} {c : xC} (h : kHist C) : kHist (va_up C 0 c) := ⟨by rw [va_up_ne _ _ (by decide)]; exact h.1, by rw [va_up_ne _ _ (by decide)]; exact h.2.1, kState_up h.2.2.1 (by decide), kState_up h.2.2.2.1 (by decide), kState_up h.2.2.2.2.1 (by decide), kState_up h.2.2.2.2.2 (by decide)⟩
theorem k_Forger (hok : xok (1, va_up (cells z0) 0 (.inr (8, [.null, .null, .null, .null, .null])))) : Ev_X8_init [.ref 0] (1, va_up (cells z0) 0 (.inr (8, [.null, .null, .null, .null, .null]))) (.inl none) (wn 142 zA) ∧ xok (wn 142 z0) := by
  have c0 := k_State (C := va_up (cells z0) 0 (.inr (8, [.null, .null, .null, .null, .null]))) (p := 1) (kState_up z_St1 (by decide)) (xok_new hok rfl)
  have o0 : xok (21, va_up (cells z0) 0 (.inr (8, [.ref 1, .null, .null, .null, .null]))) := xok_up c0.2 rfl
  have c1 := k_State (C := va_up (cells z0) 0 (.inr (8, [.ref 1, .null, .null, .null, .null]))) (p := 21) (kState_up z_St21 (by decide)) (xok_new o0 rfl)
  have o1 : xok (41, va_up (cells z0) 0 (.inr (8, [.ref 1, .ref 21, .null, .null, .null]))) := xok_up c1.2 rfl
  have c2 := k_Hist (C := va_up (cells z0) 0 (.inr (8, [.ref 1, .ref 21, .null, .null, .null]))) (kHist_up z_Hist) (xok_new o1 rfl)
  have o2 : xok (123, va_up (cells z0) 0 (.inr (8, [.ref 1, .ref 21, .ref 41, .null, .null]))) := xok_up c2.2 rfl
  have c3 := k_Way (C := va_up (cells z0) 0 (.inr (8, [.ref 1, .ref 21, .ref 41, .null, .null]))) (p := 123) (kWay_up z_Way (by decide)) (xok_new o2 rfl)
  have o3 : xok (133, va_up (cells z0) 0 (.inr (8, [.ref 1, .ref 21, .ref 41, .ref 123, .null]))) := xok_up c3.2 rfl
  have c4 := k_Text (C := va_up (cells z0) 0 (.inr (8, [.ref 1, .ref 21, .ref 41, .ref 123, .null]))) (p := 133) (kText_up z_Text (by decide)) (xok_new o3 rfl)
  have o4 : xok (142, va_up (cells z0) 0 (.inr (8, [.ref 1, .ref 21, .ref 41, .ref 123, .ref 133]))) := xok_up c4.2 rfl
  have e0 : va_up (cells z0) 0 (.inr (8, [.ref 1, .ref 21, .ref 41, .ref 123, .ref 133])) = cells z0 := va_up_id rfl
  rw [e0] at o4
  refine ⟨⟨Nat.le_of_ble_eq_true rfl, (by show 1 ≤ 142; omega), rfl, ?_⟩, o4⟩
  refine R1 (g' := (1, _, _, _, _, _)) rfl rfl ?_
  refine R_call1 (Or.inr (Or.inr ⟨rfl, rfl⟩)) rfl rfl ⟨Nat.le_of_ble_eq_true rfl, Nat.le_of_ble_eq_true rfl⟩ (Nat.le_of_ble_eq_true rfl) ⟨(by first | rfl | (simp only [okC, okL, okS, Option.toList_none, Option.toList_some, List.nil_append, List.cons_append, List.all_cons, List.all_nil, okV, Nat.blt_eq, Bool.and_true, Bool.true_and, Bool.and_eq_true]; omega)), (by first | rfl | (simp only [okC, okL, okS, Option.toList_none, Option.toList_some, List.nil_append, List.cons_append, List.all_cons, List.all_nil, okV, Nat.blt_eq, Bool.and_true, Bool.true_and, Bool.and_eq_true]; omega))⟩ ⟨⟨_, rfl⟩, rfl, rfl⟩ ?_
  refine R1 (g' := (5, _, _, _, _, _)) rfl rfl ?_
  refine RG_new rfl rfl rfl (by decide) ⟨Nat.le_of_ble_eq_true rfl, Nat.le_of_ble_eq_true rfl⟩ hok (by first | rfl | (simp only [okC, okL, okS, Option.toList_none, Option.toList_some, List.nil_append, List.cons_append, List.all_cons, List.all_nil, okV, Nat.blt_eq, Bool.and_true, Bool.true_and, Bool.and_eq_true]; omega)) (by first | rfl | (simp only [okC, okL, okS, Option.toList_none, Option.toList_some, List.nil_append, List.cons_append, List.all_cons, List.all_nil, okV, Nat.blt_eq, Bool.and_true, Bool.true_and, Bool.and_eq_true]; omega)) ?_
  refine R1 (g' := (9, _, _, _, _, _)) rfl rfl ?_
  refine R_call1 (Or.inr (Or.inr ⟨rfl, rfl⟩)) rfl rfl ⟨Nat.le_of_ble_eq_true rfl, Nat.le_of_ble_eq_true rfl⟩ (Nat.le_of_ble_eq_true rfl) ⟨(by first | rfl | (simp only [okC, okL, okS, Option.toList_none, Option.toList_some, List.nil_append, List.cons_append, List.all_cons, List.all_nil, okV, Nat.blt_eq, Bool.and_true, Bool.true_and, Bool.and_eq_true]; omega)), (by first | rfl | (simp only [okC, okL, okS, Option.toList_none, Option.toList_some, List.nil_append, List.cons_append, List.all_cons, List.all_nil, okV, Nat.blt_eq, Bool.and_true, Bool.true_and, Bool.and_eq_true]; omega))⟩ ⟨⟨_, _, rfl⟩, c0.1⟩ ?_
  refine RG_put rfl rfl (Nat.le_of_ble_eq_true rfl) rfl (Nat.le_of_ble_eq_true rfl) ⟨_, rfl, Or.inr rfl, tyX8 0, tyX8_ok 0 (by decide), rfl⟩ ?_
  change xRun _ _ (15, _, _, (21, va_up (va_up (cells z0) 0 (.inr (8, [.null, .null, .null, .null, .null]))) 0 (.inr (8, [.ref 1, .null, .null, .null, .null]))), _, _)
  rw [va_up_up]
  refine R1 (g' := (16, _, _, _, _, _)) rfl rfl ?_
  refine RG_new rfl rfl rfl (by decide) ⟨Nat.le_of_ble_eq_true rfl, Nat.le_of_ble_eq_true rfl⟩ o0 (by first | rfl | (simp only [okC, okL, okS, Option.toList_none, Option.toList_some, List.nil_append, List.cons_append, List.all_cons, List.all_nil, okV, Nat.blt_eq, Bool.and_true, Bool.true_and, Bool.and_eq_true]; omega)) (by first | rfl | (simp only [okC, okL, okS, Option.toList_none, Option.toList_some, List.nil_append, List.cons_append, List.all_cons, List.all_nil, okV, Nat.blt_eq, Bool.and_true, Bool.true_and, Bool.and_eq_true]; omega)) ?_
  refine R1 (g' := (20, _, _, _, _, _)) rfl rfl ?_
  refine R_call1 (Or.inr (Or.inr ⟨rfl, rfl⟩)) rfl rfl ⟨Nat.le_of_ble_eq_true rfl, Nat.le_of_ble_eq_true rfl⟩ (Nat.le_of_ble_eq_true rfl) ⟨(by first | rfl | (simp only [okC, okL, okS, Option.toList_none, Option.toList_some, List.nil_append, List.cons_append, List.all_cons, List.all_nil, okV, Nat.blt_eq, Bool.and_true, Bool.true_and, Bool.and_eq_true]; omega)), (by first | rfl | (simp only [okC, okL, okS, Option.toList_none, Option.toList_some, List.nil_append, List.cons_append, List.all_cons, List.all_nil, okV, Nat.blt_eq, Bool.and_true, Bool.true_and, Bool.and_eq_true]; omega))⟩ ⟨⟨_, _, rfl⟩, c1.1⟩ ?_
  refine RG_put rfl rfl (Nat.le_of_ble_eq_true rfl) rfl (Nat.le_of_ble_eq_true rfl) ⟨_, rfl, Or.inr rfl, tyX8 1, tyX8_ok 1 (by decide), rfl⟩ ?_
  change xRun _ _ (26, _, _, (41, va_up (va_up (cells z0) 0 (.inr (8, [.ref 1, .null, .null, .null, .null]))) 0 (.inr (8, [.ref 1, .ref 21, .null, .null, .null]))), _, _)
  rw [va_up_up]
  refine R1 (g' := (27, _, _, _, _, _)) rfl rfl ?_
  refine RG_new rfl rfl rfl (by decide) ⟨Nat.le_of_ble_eq_true rfl, Nat.le_of_ble_eq_true rfl⟩ o1 (by first | rfl | (simp only [okC, okL, okS, Option.toList_none, Option.toList_some, List.nil_append, List.cons_append, List.all_cons, List.all_nil, okV, Nat.blt_eq, Bool.and_true, Bool.true_and, Bool.and_eq_true]; omega)) (by first | rfl | (simp only [okC, okL, okS, Option.toList_none, Option.toList_some, List.nil_append, List.cons_append, List.all_cons, List.all_nil, okV, Nat.blt_eq, Bool.and_true, Bool.true_and, Bool.and_eq_true]; omega)) ?_
  refine R1 (g' := (31, _, _, _, _, _)) rfl rfl ?_
  refine R_call1 (Or.inr (Or.inr ⟨rfl, rfl⟩)) rfl rfl ⟨Nat.le_of_ble_eq_true rfl, Nat.le_of_ble_eq_true rfl⟩ (Nat.le_of_ble_eq_true rfl) ⟨(by first | rfl | (simp only [okC, okL, okS, Option.toList_none, Option.toList_some, List.nil_append, List.cons_append, List.all_cons, List.all_nil, okV, Nat.blt_eq, Bool.and_true, Bool.true_and, Bool.and_eq_true]; omega)), (by first | rfl | (simp only [okC, okL, okS, Option.toList_none, Option.toList_some, List.nil_append, List.cons_append, List.all_cons, List.all_nil, okV, Nat.blt_eq, Bool.and_true, Bool.true_and, Bool.and_eq_true]; omega))⟩ ⟨⟨_, _, rfl⟩, c2.1⟩ ?_
  refine RG_put rfl rfl (Nat.le_of_ble_eq_true rfl) rfl (Nat.le_of_ble_eq_true rfl) ⟨_, rfl, Or.inr rfl, tyX8 2, tyX8_ok 2 (by decide), rfl⟩ ?_
  change xRun _ _ (37, _, _, (123, va_up (va_up (cells z0) 0 (.inr (8, [.ref 1, .ref 21, .null, .null, .null]))) 0 (.inr (8, [.ref 1, .ref 21, .ref 41, .null, .null]))), _, _)
  rw [va_up_up]
  refine R1 (g' := (38, _, _, _, _, _)) rfl rfl ?_
  refine RG_new rfl rfl rfl (by decide) ⟨Nat.le_of_ble_eq_true rfl, Nat.le_of_ble_eq_true rfl⟩ o2 (by first | rfl | (simp only [okC, okL, okS, Option.toList_none, Option.toList_some, List.nil_append, List.cons_append, List.all_cons, List.all_nil, okV, Nat.blt_eq, Bool.and_true, Bool.true_and, Bool.and_eq_true]; omega)) (by first | rfl | (simp only [okC, okL, okS, Option.toList_none, Option.toList_some, List.nil_append, List.cons_append, List.all_cons, List.all_nil, okV, Nat.blt_eq, Bool.and_true, Bool.true_and, Bool.and_eq_true]; omega)) ?_
  refine R1 (g' := (42, _, _, _, _, _)) rfl rfl ?_
  refine R_call1 (Or.inr (Or.inr ⟨rfl, rfl⟩)) rfl rfl ⟨Nat.le_of_ble_eq_true rfl, Nat.le_of_ble_eq_true rfl⟩ (Nat.le_of_ble_eq_true rfl) ⟨(by first | rfl | (simp only [okC, okL, okS, Option.toList_none, Option.toList_some, List.nil_append, List.cons_append, List.all_cons, List.all_nil, okV, Nat.blt_eq, Bool.and_true, Bool.true_and, Bool.and_eq_true]; omega)), (by first | rfl | (simp only [okC, okL, okS, Option.toList_none, Option.toList_some, List.nil_append, List.cons_append, List.all_cons, List.all_nil, okV, Nat.blt_eq, Bool.and_true, Bool.true_and, Bool.and_eq_true]; omega))⟩ ⟨⟨_, _, rfl⟩, c3.1⟩ ?_
  refine RG_put rfl rfl (Nat.le_of_ble_eq_true rfl) rfl (Nat.le_of_ble_eq_true rfl) ⟨_, rfl, Or.inr rfl, tyX8 3, tyX8_ok 3 (by decide), rfl⟩ ?_
  change xRun _ _ (48, _, _, (133, va_up (va_up (cells z0) 0 (.inr (8, [.ref 1, .ref 21, .ref 41, .null, .null]))) 0 (.inr (8, [.ref 1, .ref 21, .ref 41, .ref 123, .null]))), _, _)
  rw [va_up_up]
  refine R1 (g' := (49, _, _, _, _, _)) rfl rfl ?_
  refine RG_new rfl rfl rfl (by decide) ⟨Nat.le_of_ble_eq_true rfl, Nat.le_of_ble_eq_true rfl⟩ o3 (by first | rfl | (simp only [okC, okL, okS, Option.toList_none, Option.toList_some, List.nil_append, List.cons_append, List.all_cons, List.all_nil, okV, Nat.blt_eq, Bool.and_true, Bool.true_and, Bool.and_eq_true]; omega)) (by first | rfl | (simp only [okC, okL, okS, Option.toList_none, Option.toList_some, List.nil_append, List.cons_append, List.all_cons, List.all_nil, okV, Nat.blt_eq, Bool.and_true, Bool.true_and, Bool.and_eq_true]; omega)) ?_
  refine R1 (g' := (53, _, _, _, _, _)) rfl rfl ?_
  refine R_call1 (Or.inr (Or.inr ⟨rfl, rfl⟩)) rfl rfl ⟨Nat.le_of_ble_eq_true rfl, Nat.le_of_ble_eq_true rfl⟩ (Nat.le_of_ble_eq_true rfl) ⟨(by first | rfl | (simp only [okC, okL, okS, Option.toList_none, Option.toList_some, List.nil_append, List.cons_append, List.all_cons, List.all_nil, okV, Nat.blt_eq, Bool.and_true, Bool.true_and, Bool.and_eq_true]; omega)), (by first | rfl | (simp only [okC, okL, okS, Option.toList_none, Option.toList_some, List.nil_append, List.cons_append, List.all_cons, List.all_nil, okV, Nat.blt_eq, Bool.and_true, Bool.true_and, Bool.and_eq_true]; omega))⟩ ⟨⟨_, _, rfl⟩, c4.1⟩ ?_
  refine RG_put rfl rfl (Nat.le_of_ble_eq_true rfl) rfl (Nat.le_of_ble_eq_true rfl) ⟨_, rfl, Or.inr rfl, tyX8 4, tyX8_ok 4 (by decide), rfl⟩ ?_
  change xRun _ _ (59, _, _, (142, va_up (va_up (cells z0) 0 (.inr (8, [.ref 1, .ref 21, .ref 41, .ref 123, .null]))) 0 (.inr (8, [.ref 1, .ref 21, .ref 41, .ref 123, .ref 133]))), _, _)
  rw [va_up_up]
  rw [e0]
  change xRun _ _ (59, _, _, wn 142 z0, _, _)
  refine R1 (g' := (60, _, _, _, _, _)) rfl rfl ?_
  refine RG_get rfl rfl (Nat.le_of_ble_eq_true rfl) rfl rfl ?_
  refine RG_get rfl rfl (Nat.le_of_ble_eq_true rfl) rfl rfl ?_
  refine R1 (g' := (68, _, .int (nI 10) :: _, _, _, _)) rfl rfl ?_
  refine RN_put rfl rfl (Nat.le_of_ble_eq_true rfl) rfl (Nat.le_of_ble_eq_true rfl) ⟨_, rfl, Or.inl rfl, _, rfl, rfl⟩ rfl ?_
  change xRun _ _ (71, _, _, wn 142 zS, _, _)
  refine R1 (g' := (72, _, _, _, _, _)) rfl rfl ?_
  refine RG_get rfl rfl (Nat.le_of_ble_eq_true rfl) rfl rfl ?_
  refine RG_get rfl rfl (Nat.le_of_ble_eq_true rfl) rfl rfl ?_
  refine R1 (g' := (80, _, .int (nI 40) :: _, _, _, _)) rfl rfl ?_
  refine R1 (g' := (82, _, .int (nI 40) :: _, _, _, _)) rfl rfl ?_
  refine R1 (g' := (84, _, .int (nI 400000) :: _, _, _, _)) rfl rfl ?_
  refine R_call4 (Or.inr (Or.inl ⟨rfl, rfl⟩)) rfl rfl ⟨Nat.le_of_ble_eq_true rfl, Nat.le_of_ble_eq_true rfl⟩ (Nat.le_of_ble_eq_true rfl) ⟨rfl, rfl⟩ (⟨⟨_, _, _, rfl, (Nat.le_of_ble_eq_true rfl), rfl⟩, e142_begin⟩) ?_
  refine R_vret rfl ?_
  exact ⟨rfl, rfl⟩
theorem e151_put {s : xs} {p w i : Nat} {x : Int32} (hi : 9 + 4 * p + w = i) (h : i < 73) : Ev_X9_put [.ref 142, .int (nI p), .int (nI w), .int x] (wn 151 s) (.inl none) (wn 151 (setP s 143 (upd (s.1 143) i x))) := by
  refine ⟨Nat.le_of_ble_eq_true rfl, Nat.le_refl _, rfl, ?_⟩
  refine R1 (g' := (1, _, _, _, _, _)) rfl rfl ?_
  refine RG_get rfl rfl (Nat.le_of_ble_eq_true rfl) rfl rfl ?_
  refine R1 (g' := (6, _, .int (nI 9) :: _, _, _, _)) rfl rfl ?_
  refine R1 (g' := (7, _, .int (nI 4) :: _, _, _, _)) rfl rfl ?_
  refine R1 (g' := (8, _, _, _, _, _)) rfl rfl ?_
  refine R1 (g' := (9, _, _, _, _, _)) rfl rfl ?_
  refine R1 (g' := (10, _, _, _, _, _)) rfl rfl ?_
  refine R1 (g' := (11, _, _, _, _, _)) rfl rfl ?_
  refine R1 (g' := (12, _, _, _, _, _)) rfl rfl ?_
  refine R1 (g' := (13, _, _, _, _, _)) rfl rfl ?_
  refine RN_iast i rfl (Nat.le_of_ble_eq_true rfl) (fun _ => rfl) h (by decide) (by rw [pk_mul, nI_add, nI_add, hi]) ?_
  refine R_vret rfl ?_
  exact ⟨rfl, rfl⟩
theorem e151_begins {s : xs} {w h v : Int32} : Ev_X9_begins [.ref 142, .int w, .int h, .int v] (wn 151 s) (.inl none) (wn 151 (setP s 143 (qBegin (s.1 143) w h v))) := by
  refine ⟨Nat.le_of_ble_eq_true rfl, Nat.le_refl _, rfl, ?_⟩
  refine R1 (g' := (1, _, _, _, _, _)) rfl rfl ?_
  refine RG_get rfl rfl (Nat.le_of_ble_eq_true rfl) rfl rfl ?_
  refine R1 (g' := (5, _, .int (nI 0) :: _, _, _, _)) rfl rfl ?_
  refine R1 (g' := (8, _, .int (nI 1250) :: _, _, _, _)) rfl rfl ?_
  refine RN_iast 0 rfl (Nat.le_of_ble_eq_true rfl) (fun _ => rfl) (by decide) (by decide) rfl ?_
  refine R1 (g' := (10, _, _, _, _, _)) rfl rfl ?_
  refine RG_get rfl rfl (Nat.le_of_ble_eq_true rfl) rfl rfl ?_
  refine R1 (g' := (14, _, .int (nI 2) :: _, _, _, _)) rfl rfl ?_
  refine R1 (g' := (15, _, .int (nI 0) :: _, _, _, _)) rfl rfl ?_
  refine RN_iast 2 rfl (Nat.le_of_ble_eq_true rfl) (fun _ => rfl) (by decide) (by decide) rfl ?_
  refine R1 (g' := (17, _, _, _, _, _)) rfl rfl ?_
  refine RG_get rfl rfl (Nat.le_of_ble_eq_true rfl) rfl rfl ?_
  refine R1 (g' := (21, _, .int (nI 3) :: _, _, _, _)) rfl rfl ?_
  refine R1 (g' := (22, _, .int (nI 0) :: _, _, _, _)) rfl rfl ?_
  refine RN_iast 3 rfl (Nat.le_of_ble_eq_true rfl) (fun _ => rfl) (by decide) (by decide) rfl ?_
  refine R1 (g' := (24, _, _, _, _, _)) rfl rfl ?_
  refine RG_get rfl rfl (Nat.le_of_ble_eq_true rfl) rfl rfl ?_
  refine R1 (g' := (28, _, .int (nI 4) :: _, _, _, _)) rfl rfl ?_
  refine R1 (g' := (29, _, .int (nI 0) :: _, _, _, _)) rfl rfl ?_
  refine RN_iast 4 rfl (Nat.le_of_ble_eq_true rfl) (fun _ => rfl) (by decide) (by decide) rfl ?_
  refine R1 (g' := (31, _, _, _, _, _)) rfl rfl ?_
  refine RG_get rfl rfl (Nat.le_of_ble_eq_true rfl) rfl rfl ?_
  refine R1 (g' := (35, _, .int (nI 5) :: _, _, _, _)) rfl rfl ?_
  refine R1 (g' := (36, _, .int (nI 0) :: _, _, _, _)) rfl rfl ?_
  refine RN_iast 5 rfl (Nat.le_of_ble_eq_true rfl) (fun _ => rfl) (by decide) (by decide) rfl ?_
  refine R1 (g' := (38, _, _, _, _, _)) rfl rfl ?_
  refine RG_get rfl rfl (Nat.le_of_ble_eq_true rfl) rfl rfl ?_
  refine R1 (g' := (43, _, .int (nI 6) :: _, _, _, _)) rfl rfl ?_
  refine R1 (g' := (44, _, _, _, _, _)) rfl rfl ?_
  refine RN_iast 6 rfl (Nat.le_of_ble_eq_true rfl) (fun _ => rfl) (by decide) (by decide) rfl ?_
  refine R1 (g' := (46, _, _, _, _, _)) rfl rfl ?_
  refine RG_get rfl rfl (Nat.le_of_ble_eq_true rfl) rfl rfl ?_
  refine R1 (g' := (51, _, .int (nI 7) :: _, _, _, _)) rfl rfl ?_
  refine R1 (g' := (52, _, .int (nI 1) :: _, _, _, _)) rfl rfl ?_
  refine RN_iast 7 rfl (Nat.le_of_ble_eq_true rfl) (fun _ => rfl) (by decide) (by decide) rfl ?_
  refine R1 (g' := (54, _, _, _, _, _)) rfl rfl ?_
  refine R1 (g' := (55, _, .int (nI 0) :: _, _, _, _)) rfl rfl ?_
  refine R1 (g' := (56, _, .int (nI 0) :: _, _, _, _)) rfl rfl ?_
  refine R1 (g' := (57, _, _, _, _, _)) rfl rfl ?_
  refine R_call4 (Or.inr (Or.inl ⟨rfl, rfl⟩)) rfl rfl ⟨Nat.le_of_ble_eq_true rfl, Nat.le_of_ble_eq_true rfl⟩ (Nat.le_of_ble_eq_true rfl) ⟨rfl, rfl⟩ (⟨⟨_, _, _, rfl, (Nat.le_of_ble_eq_true rfl), rfl⟩, e151_put (i := 9) (by omega) (by decide)⟩) ?_
  refine R1 (g' := (61, _, _, _, _, _)) rfl rfl ?_
  refine R1 (g' := (62, _, .int (nI 0) :: _, _, _, _)) rfl rfl ?_
  refine R1 (g' := (63, _, .int (nI 1) :: _, _, _, _)) rfl rfl ?_
  refine R1 (g' := (64, _, _, _, _, _)) rfl rfl ?_
  refine R_call4 (Or.inr (Or.inl ⟨rfl, rfl⟩)) rfl rfl ⟨Nat.le_of_ble_eq_true rfl, Nat.le_of_ble_eq_true rfl⟩ (Nat.le_of_ble_eq_true rfl) ⟨rfl, rfl⟩ (⟨⟨_, _, _, rfl, (Nat.le_of_ble_eq_true rfl), rfl⟩, e151_put (i := 10) (by omega) (by decide)⟩) ?_
  refine R1 (g' := (68, _, _, _, _, _)) rfl rfl ?_
  refine R1 (g' := (69, _, .int (nI 0) :: _, _, _, _)) rfl rfl ?_
  refine R1 (g' := (70, _, .int (nI 2) :: _, _, _, _)) rfl rfl ?_
  refine R1 (g' := (71, _, _, _, _, _)) rfl rfl ?_
  refine R_call4 (Or.inr (Or.inl ⟨rfl, rfl⟩)) rfl rfl ⟨Nat.le_of_ble_eq_true rfl, Nat.le_of_ble_eq_true rfl⟩ (Nat.le_of_ble_eq_true rfl) ⟨rfl, rfl⟩ (⟨⟨_, _, _, rfl, (Nat.le_of_ble_eq_true rfl), rfl⟩, e151_put (i := 11) (by omega) (by decide)⟩) ?_
  refine R1 (g' := (75, _, _, _, _, _)) rfl rfl ?_
  refine R1 (g' := (76, _, .int (nI 0) :: _, _, _, _)) rfl rfl ?_
  refine R1 (g' := (77, _, .int (nI 3) :: _, _, _, _)) rfl rfl ?_
  refine R1 (g' := (78, _, .int (nI 0) :: _, _, _, _)) rfl rfl ?_
  refine R_call4 (Or.inr (Or.inl ⟨rfl, rfl⟩)) rfl rfl ⟨Nat.le_of_ble_eq_true rfl, Nat.le_of_ble_eq_true rfl⟩ (Nat.le_of_ble_eq_true rfl) ⟨rfl, rfl⟩ (⟨⟨_, _, _, rfl, (Nat.le_of_ble_eq_true rfl), rfl⟩, e151_put (i := 12) (by omega) (by decide)⟩) ?_
  refine R_vret rfl ?_
  refine ⟨rfl, congrArg (wn 151) ?_⟩
  simp only [setP_setP, setP_at]
  congr 1
  funext i
  simp only [upd, qBegin]
  by_cases h0 : i ≤ 12
  · rcases (show i = 0 ∨ i = 1 ∨ i = 2 ∨ i = 3 ∨ i = 4 ∨ i = 5 ∨ i = 6 ∨ i = 7 ∨ i = 8 ∨ i = 9 ∨ i = 10 ∨ i = 11 ∨ i = 12 by omega) with rfl | rfl | rfl | rfl | rfl | rfl | rfl | rfl | rfl | rfl | rfl | rfl | rfl <;> rfl
  · repeat (first | rw [if_pos (by omega)] | rw [if_neg (by omega)])
def zQ : Nat → Int32 := qBegin (upd (fun _ => 0) 1 (nI 10)) (nI 40) (nI 40) (nI 400000)
def zB : xs := setP zA 143 zQ
theorem k_Model (hok : xok (143, va_up (cells zA) 142 (.inr (9, [.null, .null, .null, .int 0, .null, .int 0, .int 0, .int 0, .int 0, .null, .null, .null, .null, .int 0, .int 0, .int 0, .int 0, .long 0])))) : Ev_X9_init [.ref 142] (143, va_up (cells zA) 142 (.inr (9, [.null, .null, .null, .int 0, .null, .int 0, .int 0, .int 0, .int 0, .null, .null, .null, .null, .int 0, .int 0, .int 0, .int 0, .long 0]))) (.inl none) (wn 151 zB) ∧ xok (wn 151 zA) := by
  have a0 : va_up (va_up (cells zA) 142 (.inr (9, [.null, .null, .null, .int 0, .null, .int 0, .int 0, .int 0, .int 0, .null, .null, .null, .null, .int 0, .int 0, .int 0, .int 0, .long 0]))) 143 (.inl (0, 73, .inl (fun _ => 0))) = va_up (cells zA) 142 (.inr (9, [.null, .null, .null, .int 0, .null, .int 0, .int 0, .int 0, .int 0, .null, .null, .null, .null, .int 0, .int 0, .int 0, .int 0, .long 0])) := va_up_id rfl
  have x0 : xok (144, va_up (cells zA) 142 (.inr (9, [.null, .null, .null, .int 0, .null, .int 0, .int 0, .int 0, .int 0, .null, .null, .null, .null, .int 0, .int 0, .int 0, .int 0, .long 0]))) := by
    have h1 := xok_new (c := .inl (0, 73, .inl (fun _ => 0))) hok trivial
    rw [a0] at h1
    exact h1
  have o0 : xok (144, va_up (cells zA) 142 (.inr (9, [.ref 143, .null, .null, .int 0, .null, .int 0, .int 0, .int 0, .int 0, .null, .null, .null, .null, .int 0, .int 0, .int 0, .int 0, .long 0]))) := xok_up x0 rfl
  have a1 : va_up (va_up (cells zA) 142 (.inr (9, [.ref 143, .null, .null, .int 0, .null, .int 0, .int 0, .int 0, .int 0, .null, .null, .null, .null, .int 0, .int 0, .int 0, .int 0, .long 0]))) 144 (.inl (0, 73, .inl (fun _ => 0))) = va_up (cells zA) 142 (.inr (9, [.ref 143, .null, .null, .int 0, .null, .int 0, .int 0, .int 0, .int 0, .null, .null, .null, .null, .int 0, .int 0, .int 0, .int 0, .long 0])) := va_up_id rfl
  have x1 : xok (145, va_up (cells zA) 142 (.inr (9, [.ref 143, .null, .null, .int 0, .null, .int 0, .int 0, .int 0, .int 0, .null, .null, .null, .null, .int 0, .int 0, .int 0, .int 0, .long 0]))) := by
    have h1 := xok_new (c := .inl (0, 73, .inl (fun _ => 0))) o0 trivial
    rw [a1] at h1
    exact h1
  have o1 : xok (145, va_up (cells zA) 142 (.inr (9, [.ref 143, .ref 144, .null, .int 0, .null, .int 0, .int 0, .int 0, .int 0, .null, .null, .null, .null, .int 0, .int 0, .int 0, .int 0, .long 0]))) := xok_up x1 rfl
  have a2 : va_up (va_up (cells zA) 142 (.inr (9, [.ref 143, .ref 144, .null, .int 0, .null, .int 0, .int 0, .int 0, .int 0, .null, .null, .null, .null, .int 0, .int 0, .int 0, .int 0, .long 0]))) 145 (.inl (0, 292, .inl (fun _ => 0))) = va_up (cells zA) 142 (.inr (9, [.ref 143, .ref 144, .null, .int 0, .null, .int 0, .int 0, .int 0, .int 0, .null, .null, .null, .null, .int 0, .int 0, .int 0, .int 0, .long 0])) := va_up_id rfl
  have x2 : xok (146, va_up (cells zA) 142 (.inr (9, [.ref 143, .ref 144, .null, .int 0, .null, .int 0, .int 0, .int 0, .int 0, .null, .null, .null, .null, .int 0, .int 0, .int 0, .int 0, .long 0]))) := by
    have h1 := xok_new (c := .inl (0, 292, .inl (fun _ => 0))) o1 trivial
    rw [a2] at h1
    exact h1
  have o2 : xok (146, va_up (cells zA) 142 (.inr (9, [.ref 143, .ref 144, .ref 145, .int 0, .null, .int 0, .int 0, .int 0, .int 0, .null, .null, .null, .null, .int 0, .int 0, .int 0, .int 0, .long 0]))) := xok_up x2 rfl
  have a3 : va_up (va_up (cells zA) 142 (.inr (9, [.ref 143, .ref 144, .ref 145, .int 0, .null, .int 0, .int 0, .int 0, .int 0, .null, .null, .null, .null, .int 0, .int 0, .int 0, .int 0, .long 0]))) 146 (.inl (0, 90, .inl (fun _ => 0))) = va_up (cells zA) 142 (.inr (9, [.ref 143, .ref 144, .ref 145, .int 0, .null, .int 0, .int 0, .int 0, .int 0, .null, .null, .null, .null, .int 0, .int 0, .int 0, .int 0, .long 0])) := va_up_id rfl
  have x3 : xok (147, va_up (cells zA) 142 (.inr (9, [.ref 143, .ref 144, .ref 145, .int 0, .null, .int 0, .int 0, .int 0, .int 0, .null, .null, .null, .null, .int 0, .int 0, .int 0, .int 0, .long 0]))) := by
    have h1 := xok_new (c := .inl (0, 90, .inl (fun _ => 0))) o2 trivial
    rw [a3] at h1
    exact h1
  have o3 : xok (147, va_up (cells zA) 142 (.inr (9, [.ref 143, .ref 144, .ref 145, .int 0, .ref 146, .int 0, .int 0, .int 0, .int 0, .null, .null, .null, .null, .int 0, .int 0, .int 0, .int 0, .long 0]))) := xok_up x3 rfl
  have a4 : va_up (va_up (cells zA) 142 (.inr (9, [.ref 143, .ref 144, .ref 145, .int 0, .ref 146, .int 0, .int 0, .int 0, .int 0, .null, .null, .null, .null, .int 0, .int 0, .int 0, .int 0, .long 0]))) 147 (.inl (0, 9216, .inl (fun _ => 0))) = va_up (cells zA) 142 (.inr (9, [.ref 143, .ref 144, .ref 145, .int 0, .ref 146, .int 0, .int 0, .int 0, .int 0, .null, .null, .null, .null, .int 0, .int 0, .int 0, .int 0, .long 0])) := va_up_id rfl
  have x4 : xok (148, va_up (cells zA) 142 (.inr (9, [.ref 143, .ref 144, .ref 145, .int 0, .ref 146, .int 0, .int 0, .int 0, .int 0, .null, .null, .null, .null, .int 0, .int 0, .int 0, .int 0, .long 0]))) := by
    have h1 := xok_new (c := .inl (0, 9216, .inl (fun _ => 0))) o3 trivial
    rw [a4] at h1
    exact h1
  have o4 : xok (148, va_up (cells zA) 142 (.inr (9, [.ref 143, .ref 144, .ref 145, .int 0, .ref 146, .int 0, .int 0, .int 0, .int 0, .ref 147, .null, .null, .null, .int 0, .int 0, .int 0, .int 0, .long 0]))) := xok_up x4 rfl
  have a5 : va_up (va_up (cells zA) 142 (.inr (9, [.ref 143, .ref 144, .ref 145, .int 0, .ref 146, .int 0, .int 0, .int 0, .int 0, .ref 147, .null, .null, .null, .int 0, .int 0, .int 0, .int 0, .long 0]))) 148 (.inl (0, 9216, .inl (fun _ => 0))) = va_up (cells zA) 142 (.inr (9, [.ref 143, .ref 144, .ref 145, .int 0, .ref 146, .int 0, .int 0, .int 0, .int 0, .ref 147, .null, .null, .null, .int 0, .int 0, .int 0, .int 0, .long 0])) := va_up_id rfl
  have x5 : xok (149, va_up (cells zA) 142 (.inr (9, [.ref 143, .ref 144, .ref 145, .int 0, .ref 146, .int 0, .int 0, .int 0, .int 0, .ref 147, .null, .null, .null, .int 0, .int 0, .int 0, .int 0, .long 0]))) := by
    have h1 := xok_new (c := .inl (0, 9216, .inl (fun _ => 0))) o4 trivial
    rw [a5] at h1
    exact h1
  have o5 : xok (149, va_up (cells zA) 142 (.inr (9, [.ref 143, .ref 144, .ref 145, .int 0, .ref 146, .int 0, .int 0, .int 0, .int 0, .ref 147, .ref 148, .null, .null, .int 0, .int 0, .int 0, .int 0, .long 0]))) := xok_up x5 rfl
  have a6 : va_up (va_up (cells zA) 142 (.inr (9, [.ref 143, .ref 144, .ref 145, .int 0, .ref 146, .int 0, .int 0, .int 0, .int 0, .ref 147, .ref 148, .null, .null, .int 0, .int 0, .int 0, .int 0, .long 0]))) 149 (.inl (0, 9216, .inl (fun _ => 0))) = va_up (cells zA) 142 (.inr (9, [.ref 143, .ref 144, .ref 145, .int 0, .ref 146, .int 0, .int 0, .int 0, .int 0, .ref 147, .ref 148, .null, .null, .int 0, .int 0, .int 0, .int 0, .long 0])) := va_up_id rfl
  have x6 : xok (150, va_up (cells zA) 142 (.inr (9, [.ref 143, .ref 144, .ref 145, .int 0, .ref 146, .int 0, .int 0, .int 0, .int 0, .ref 147, .ref 148, .null, .null, .int 0, .int 0, .int 0, .int 0, .long 0]))) := by
    have h1 := xok_new (c := .inl (0, 9216, .inl (fun _ => 0))) o5 trivial
    rw [a6] at h1
    exact h1
  have o6 : xok (150, va_up (cells zA) 142 (.inr (9, [.ref 143, .ref 144, .ref 145, .int 0, .ref 146, .int 0, .int 0, .int 0, .int 0, .ref 147, .ref 148, .ref 149, .null, .int 0, .int 0, .int 0, .int 0, .long 0]))) := xok_up x6 rfl
  have a7 : va_up (va_up (cells zA) 142 (.inr (9, [.ref 143, .ref 144, .ref 145, .int 0, .ref 146, .int 0, .int 0, .int 0, .int 0, .ref 147, .ref 148, .ref 149, .null, .int 0, .int 0, .int 0, .int 0, .long 0]))) 150 (.inl (0, 60, .inl (fun _ => 0))) = va_up (cells zA) 142 (.inr (9, [.ref 143, .ref 144, .ref 145, .int 0, .ref 146, .int 0, .int 0, .int 0, .int 0, .ref 147, .ref 148, .ref 149, .null, .int 0, .int 0, .int 0, .int 0, .long 0])) := va_up_id rfl
  have x7 : xok (151, va_up (cells zA) 142 (.inr (9, [.ref 143, .ref 144, .ref 145, .int 0, .ref 146, .int 0, .int 0, .int 0, .int 0, .ref 147, .ref 148, .ref 149, .null, .int 0, .int 0, .int 0, .int 0, .long 0]))) := by
    have h1 := xok_new (c := .inl (0, 60, .inl (fun _ => 0))) o6 trivial
    rw [a7] at h1
    exact h1
  have o7 : xok (151, va_up (cells zA) 142 (.inr (9, [.ref 143, .ref 144, .ref 145, .int 0, .ref 146, .int 0, .int 0, .int 0, .int 0, .ref 147, .ref 148, .ref 149, .ref 150, .int 0, .int 0, .int 0, .int 0, .long 0]))) := xok_up x7 rfl
  have e0 : va_up (cells zA) 142 (.inr (9, [.ref 143, .ref 144, .ref 145, .int 0, .ref 146, .int 0, .int 0, .int 0, .int 0, .ref 147, .ref 148, .ref 149, .ref 150, .int 0, .int 0, .int 0, .int 0, .long 0])) = cells zA := va_up_id rfl
  rw [e0] at o7
  refine ⟨⟨Nat.le_of_ble_eq_true rfl, (by show 143 ≤ 151; omega), rfl, ?_⟩, o7⟩
  refine R1 (g' := (1, _, _, _, _, _)) rfl rfl ?_
  refine R_call1 (Or.inr (Or.inr ⟨rfl, rfl⟩)) rfl rfl ⟨Nat.le_of_ble_eq_true rfl, Nat.le_of_ble_eq_true rfl⟩ (Nat.le_of_ble_eq_true rfl) ⟨(by first | rfl | (simp only [okC, okL, okS, Option.toList_none, Option.toList_some, List.nil_append, List.cons_append, List.all_cons, List.all_nil, okV, Nat.blt_eq, Bool.and_true, Bool.true_and, Bool.and_eq_true]; omega)), (by first | rfl | (simp only [okC, okL, okS, Option.toList_none, Option.toList_some, List.nil_append, List.cons_append, List.all_cons, List.all_nil, okV, Nat.blt_eq, Bool.and_true, Bool.true_and, Bool.and_eq_true]; omega))⟩ ⟨⟨_, rfl⟩, rfl, rfl⟩ ?_
  refine R1 (g' := (5, _, _, _, _, _)) rfl rfl ?_
  refine R1 (g' := (7, _, .int (nI 73) :: _, _, _, _)) rfl rfl ?_
  refine RG_newarr (N := 73) rfl (by decide) ⟨Nat.le_of_ble_eq_true rfl, Nat.le_of_ble_eq_true rfl⟩ hok rfl rfl ?_
  change xRun _ _ (9, _, _, (144, va_up (va_up (cells zA) 142 (.inr (9, [.null, .null, .null, .int 0, .null, .int 0, .int 0, .int 0, .int 0, .null, .null, .null, .null, .int 0, .int 0, .int 0, .int 0, .long 0]))) 143 (.inl (0, 73, .inl (fun _ => 0)))), _, _)
  rw [a0]
  refine RG_put rfl rfl (Nat.le_of_ble_eq_true rfl) rfl (Nat.le_of_ble_eq_true rfl) ⟨_, rfl, Or.inr rfl, tyX9 0, tyX9_ok 0 (by decide), rfl⟩ ?_
  change xRun _ _ (12, _, _, (144, va_up (va_up (cells zA) 142 (.inr (9, [.null, .null, .null, .int 0, .null, .int 0, .int 0, .int 0, .int 0, .null, .null, .null, .null, .int 0, .int 0, .int 0, .int 0, .long 0]))) 142 (.inr (9, [.ref 143, .null, .null, .int 0, .null, .int 0, .int 0, .int 0, .int 0, .null, .null, .null, .null, .int 0, .int 0, .int 0, .int 0, .long 0]))), _, _)
  rw [va_up_up]
  refine R1 (g' := (13, _, _, _, _, _)) rfl rfl ?_
  refine R1 (g' := (15, _, .int (nI 73) :: _, _, _, _)) rfl rfl ?_
  refine RG_newarr (N := 73) rfl (by decide) ⟨Nat.le_of_ble_eq_true rfl, Nat.le_of_ble_eq_true rfl⟩ o0 rfl rfl ?_
  change xRun _ _ (17, _, _, (145, va_up (va_up (cells zA) 142 (.inr (9, [.ref 143, .null, .null, .int 0, .null, .int 0, .int 0, .int 0, .int 0, .null, .null, .null, .null, .int 0, .int 0, .int 0, .int 0, .long 0]))) 144 (.inl (0, 73, .inl (fun _ => 0)))), _, _)
  rw [a1]
  refine RG_put rfl rfl (Nat.le_of_ble_eq_true rfl) rfl (Nat.le_of_ble_eq_true rfl) ⟨_, rfl, Or.inr rfl, tyX9 1, tyX9_ok 1 (by decide), rfl⟩ ?_
  change xRun _ _ (20, _, _, (145, va_up (va_up (cells zA) 142 (.inr (9, [.ref 143, .null, .null, .int 0, .null, .int 0, .int 0, .int 0, .int 0, .null, .null, .null, .null, .int 0, .int 0, .int 0, .int 0, .long 0]))) 142 (.inr (9, [.ref 143, .ref 144, .null, .int 0, .null, .int 0, .int 0, .int 0, .int 0, .null, .null, .null, .null, .int 0, .int 0, .int 0, .int 0, .long 0]))), _, _)
  rw [va_up_up]
  refine R1 (g' := (21, _, _, _, _, _)) rfl rfl ?_
  refine R1 (g' := (24, _, .int (nI 292) :: _, _, _, _)) rfl rfl ?_
  refine RG_newarr (N := 292) rfl (by decide) ⟨Nat.le_of_ble_eq_true rfl, Nat.le_of_ble_eq_true rfl⟩ o1 rfl rfl ?_
  change xRun _ _ (26, _, _, (146, va_up (va_up (cells zA) 142 (.inr (9, [.ref 143, .ref 144, .null, .int 0, .null, .int 0, .int 0, .int 0, .int 0, .null, .null, .null, .null, .int 0, .int 0, .int 0, .int 0, .long 0]))) 145 (.inl (0, 292, .inl (fun _ => 0)))), _, _)
  rw [a2]
  refine RG_put rfl rfl (Nat.le_of_ble_eq_true rfl) rfl (Nat.le_of_ble_eq_true rfl) ⟨_, rfl, Or.inr rfl, tyX9 2, tyX9_ok 2 (by decide), rfl⟩ ?_
  change xRun _ _ (29, _, _, (146, va_up (va_up (cells zA) 142 (.inr (9, [.ref 143, .ref 144, .null, .int 0, .null, .int 0, .int 0, .int 0, .int 0, .null, .null, .null, .null, .int 0, .int 0, .int 0, .int 0, .long 0]))) 142 (.inr (9, [.ref 143, .ref 144, .ref 145, .int 0, .null, .int 0, .int 0, .int 0, .int 0, .null, .null, .null, .null, .int 0, .int 0, .int 0, .int 0, .long 0]))), _, _)
  rw [va_up_up]
  refine R1 (g' := (30, _, _, _, _, _)) rfl rfl ?_
  refine R1 (g' := (32, _, .int (nI 90) :: _, _, _, _)) rfl rfl ?_
  refine RG_newarr (N := 90) rfl (by decide) ⟨Nat.le_of_ble_eq_true rfl, Nat.le_of_ble_eq_true rfl⟩ o2 rfl rfl ?_
  change xRun _ _ (34, _, _, (147, va_up (va_up (cells zA) 142 (.inr (9, [.ref 143, .ref 144, .ref 145, .int 0, .null, .int 0, .int 0, .int 0, .int 0, .null, .null, .null, .null, .int 0, .int 0, .int 0, .int 0, .long 0]))) 146 (.inl (0, 90, .inl (fun _ => 0)))), _, _)
  rw [a3]
  refine RG_put rfl rfl (Nat.le_of_ble_eq_true rfl) rfl (Nat.le_of_ble_eq_true rfl) ⟨_, rfl, Or.inr rfl, tyX9 4, tyX9_ok 4 (by decide), rfl⟩ ?_
  change xRun _ _ (37, _, _, (147, va_up (va_up (cells zA) 142 (.inr (9, [.ref 143, .ref 144, .ref 145, .int 0, .null, .int 0, .int 0, .int 0, .int 0, .null, .null, .null, .null, .int 0, .int 0, .int 0, .int 0, .long 0]))) 142 (.inr (9, [.ref 143, .ref 144, .ref 145, .int 0, .ref 146, .int 0, .int 0, .int 0, .int 0, .null, .null, .null, .null, .int 0, .int 0, .int 0, .int 0, .long 0]))), _, _)
  rw [va_up_up]
  refine R1 (g' := (38, _, _, _, _, _)) rfl rfl ?_
  refine R1 (g' := (41, _, .int (nI 9216) :: _, _, _, _)) rfl rfl ?_
  refine RG_newarr (N := 9216) rfl (by decide) ⟨Nat.le_of_ble_eq_true rfl, Nat.le_of_ble_eq_true rfl⟩ o3 rfl rfl ?_
  change xRun _ _ (43, _, _, (148, va_up (va_up (cells zA) 142 (.inr (9, [.ref 143, .ref 144, .ref 145, .int 0, .ref 146, .int 0, .int 0, .int 0, .int 0, .null, .null, .null, .null, .int 0, .int 0, .int 0, .int 0, .long 0]))) 147 (.inl (0, 9216, .inl (fun _ => 0)))), _, _)
  rw [a4]
  refine RG_put rfl rfl (Nat.le_of_ble_eq_true rfl) rfl (Nat.le_of_ble_eq_true rfl) ⟨_, rfl, Or.inr rfl, tyX9 9, tyX9_ok 9 (by decide), rfl⟩ ?_
  change xRun _ _ (46, _, _, (148, va_up (va_up (cells zA) 142 (.inr (9, [.ref 143, .ref 144, .ref 145, .int 0, .ref 146, .int 0, .int 0, .int 0, .int 0, .null, .null, .null, .null, .int 0, .int 0, .int 0, .int 0, .long 0]))) 142 (.inr (9, [.ref 143, .ref 144, .ref 145, .int 0, .ref 146, .int 0, .int 0, .int 0, .int 0, .ref 147, .null, .null, .null, .int 0, .int 0, .int 0, .int 0, .long 0]))), _, _)
  rw [va_up_up]
  refine R1 (g' := (47, _, _, _, _, _)) rfl rfl ?_
  refine R1 (g' := (50, _, .int (nI 9216) :: _, _, _, _)) rfl rfl ?_
  refine RG_newarr (N := 9216) rfl (by decide) ⟨Nat.le_of_ble_eq_true rfl, Nat.le_of_ble_eq_true rfl⟩ o4 rfl rfl ?_
  change xRun _ _ (52, _, _, (149, va_up (va_up (cells zA) 142 (.inr (9, [.ref 143, .ref 144, .ref 145, .int 0, .ref 146, .int 0, .int 0, .int 0, .int 0, .ref 147, .null, .null, .null, .int 0, .int 0, .int 0, .int 0, .long 0]))) 148 (.inl (0, 9216, .inl (fun _ => 0)))), _, _)
  rw [a5]
  refine RG_put rfl rfl (Nat.le_of_ble_eq_true rfl) rfl (Nat.le_of_ble_eq_true rfl) ⟨_, rfl, Or.inr rfl, tyX9 10, tyX9_ok 10 (by decide), rfl⟩ ?_
  change xRun _ _ (55, _, _, (149, va_up (va_up (cells zA) 142 (.inr (9, [.ref 143, .ref 144, .ref 145, .int 0, .ref 146, .int 0, .int 0, .int 0, .int 0, .ref 147, .null, .null, .null, .int 0, .int 0, .int 0, .int 0, .long 0]))) 142 (.inr (9, [.ref 143, .ref 144, .ref 145, .int 0, .ref 146, .int 0, .int 0, .int 0, .int 0, .ref 147, .ref 148, .null, .null, .int 0, .int 0, .int 0, .int 0, .long 0]))), _, _)
  rw [va_up_up]
  refine R1 (g' := (56, _, _, _, _, _)) rfl rfl ?_
  refine R1 (g' := (59, _, .int (nI 9216) :: _, _, _, _)) rfl rfl ?_
  refine RG_newarr (N := 9216) rfl (by decide) ⟨Nat.le_of_ble_eq_true rfl, Nat.le_of_ble_eq_true rfl⟩ o5 rfl rfl ?_
  change xRun _ _ (61, _, _, (150, va_up (va_up (cells zA) 142 (.inr (9, [.ref 143, .ref 144, .ref 145, .int 0, .ref 146, .int 0, .int 0, .int 0, .int 0, .ref 147, .ref 148, .null, .null, .int 0, .int 0, .int 0, .int 0, .long 0]))) 149 (.inl (0, 9216, .inl (fun _ => 0)))), _, _)
  rw [a6]
  refine RG_put rfl rfl (Nat.le_of_ble_eq_true rfl) rfl (Nat.le_of_ble_eq_true rfl) ⟨_, rfl, Or.inr rfl, tyX9 11, tyX9_ok 11 (by decide), rfl⟩ ?_
  change xRun _ _ (64, _, _, (150, va_up (va_up (cells zA) 142 (.inr (9, [.ref 143, .ref 144, .ref 145, .int 0, .ref 146, .int 0, .int 0, .int 0, .int 0, .ref 147, .ref 148, .null, .null, .int 0, .int 0, .int 0, .int 0, .long 0]))) 142 (.inr (9, [.ref 143, .ref 144, .ref 145, .int 0, .ref 146, .int 0, .int 0, .int 0, .int 0, .ref 147, .ref 148, .ref 149, .null, .int 0, .int 0, .int 0, .int 0, .long 0]))), _, _)
  rw [va_up_up]
  refine R1 (g' := (65, _, _, _, _, _)) rfl rfl ?_
  refine R1 (g' := (67, _, .int (nI 60) :: _, _, _, _)) rfl rfl ?_
  refine RG_newarr (N := 60) rfl (by decide) ⟨Nat.le_of_ble_eq_true rfl, Nat.le_of_ble_eq_true rfl⟩ o6 rfl rfl ?_
  change xRun _ _ (69, _, _, (151, va_up (va_up (cells zA) 142 (.inr (9, [.ref 143, .ref 144, .ref 145, .int 0, .ref 146, .int 0, .int 0, .int 0, .int 0, .ref 147, .ref 148, .ref 149, .null, .int 0, .int 0, .int 0, .int 0, .long 0]))) 150 (.inl (0, 60, .inl (fun _ => 0)))), _, _)
  rw [a7]
  refine RG_put rfl rfl (Nat.le_of_ble_eq_true rfl) rfl (Nat.le_of_ble_eq_true rfl) ⟨_, rfl, Or.inr rfl, tyX9 12, tyX9_ok 12 (by decide), rfl⟩ ?_
  change xRun _ _ (72, _, _, (151, va_up (va_up (cells zA) 142 (.inr (9, [.ref 143, .ref 144, .ref 145, .int 0, .ref 146, .int 0, .int 0, .int 0, .int 0, .ref 147, .ref 148, .ref 149, .null, .int 0, .int 0, .int 0, .int 0, .long 0]))) 142 (.inr (9, [.ref 143, .ref 144, .ref 145, .int 0, .ref 146, .int 0, .int 0, .int 0, .int 0, .ref 147, .ref 148, .ref 149, .ref 150, .int 0, .int 0, .int 0, .int 0, .long 0]))), _, _)
  rw [va_up_up]
  rw [e0]
  change xRun _ _ (72, _, _, wn 151 zA, _, _)
  refine R1 (g' := (73, _, _, _, _, _)) rfl rfl ?_
  refine RG_get rfl rfl (Nat.le_of_ble_eq_true rfl) rfl rfl ?_
  refine R1 (g' := (77, _, .int (nI 1) :: _, _, _, _)) rfl rfl ?_
  refine R1 (g' := (79, _, .int (nI 10) :: _, _, _, _)) rfl rfl ?_
  refine RN_iast 1 rfl (Nat.le_of_ble_eq_true rfl) (fun _ => rfl) (by decide) (by decide) rfl ?_
  change xRun _ _ (80, _, _, wn 151 (setP zA 143 (upd (fun _ => 0) 1 (nI 10))), _, _)
  refine R1 (g' := (81, _, _, _, _, _)) rfl rfl ?_
  refine R1 (g' := (83, _, .int (nI 40) :: _, _, _, _)) rfl rfl ?_
  refine R1 (g' := (85, _, .int (nI 40) :: _, _, _, _)) rfl rfl ?_
  refine R1 (g' := (87, _, .int (nI 400000) :: _, _, _, _)) rfl rfl ?_
  refine R_call4 (Or.inr (Or.inl ⟨rfl, rfl⟩)) rfl rfl ⟨Nat.le_of_ble_eq_true rfl, Nat.le_of_ble_eq_true rfl⟩ (Nat.le_of_ble_eq_true rfl) ⟨rfl, rfl⟩ (⟨⟨_, _, _, rfl, (Nat.le_of_ble_eq_true rfl), rfl⟩, e151_begins⟩) ?_
  refine R_vret rfl ?_
  refine ⟨rfl, ?_⟩
  rw [setP_at, setP_setP]
  rfl
