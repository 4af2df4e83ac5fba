def xret (i : Instr) (st : List Value) : Option (Option Value) := match i with
  | .ireturn => (match st with
    | [.int x] => some (some (.int x))
    | _ => none)
  | .lreturn => (match st with
    | [.long x] => some (some (.long x))
    | _ => none)
  | .dreturn => (match st with
    | [.double x] => some (some (.double x))
    | _ => none)
  | .areturn => (match st with
    | [.ref x] => some (some (.ref x))
    | [.null] => some (some .null)
    | _ => none)
  | .return_ => (match st with
    | [] => some none
    | _ => none)
  | _ => none
theorem rV_no {ρ : Nat → Nat} {fs : List Value} (h : okS 0 fs = true) : fs.map (rV ρ) = fs := by
  have h1 : fs.map (rV ρ) = fs.map id := List.map_congr_left fun v hm => by
    have hv := List.all_eq_true.mp h v hm
    cases v with
    | ref a => exact absurd (Nat.blt_eq.mp hv) (Nat.not_lt_zero a)
    | _ => rfl
  rw [h1, List.map_id]
theorem rV_rf {ρ : Nat → Nat} (o : Option Nat) : rV ρ (va_rf o) = va_rf (o.map ρ) := by cases o <;> rfl
theorem rV_cats (ρ : Nat → Nat) (r : List Value) : ((r.map (rV ρ)).map (fun v => v.category)).sum = (r.map (fun v => v.category)).sum := by
  congr 1
  rw [List.map_map]
  exact List.map_congr_left fun v _ => rV_cat ρ v
def xNWok (own : String) (NW : Nat → Option (Nat × List Value)) : Prop := ∀ j ci fs, NW j = some (ci, fs) → (ci = 99 ∧ Cond.classLink own (j - 100000) "BarForger$State" ∈ gW) ∨
  (ci ≠ 99 ∧ ∃ q : vw_C, vwCl[ci]? = some q ∧ Cond.classLink own j q.1 ∈ gW ∧ Cond.instantiable q.1 q.2.2 ∈ gW ∧ Cond.initialized q.1 ∈ gW ∧ fs.length = q.2.2 ∧ okS 0 fs = true ∧ ∃ ty : Nat → FieldType, (∀ k, k < q.2.2 → parseFieldDescriptor (q.2.1 k).2.2.1 = some (ty k)) ∧ ∀ k, k < q.2.2 → defaultValue (ty k) = vp_V fs k)
section XS2
variable {p : Program} {l : Launch} {e : Env} {R : Room} {s : State} {m : MethodId} {args : Array Value} {below : List Frame} {meth : Method} {c : Code} {Q : State → Prop}
variable {D : va_G} {tc : Nat → ClassId} {own : String} {cc : ByteArray} {nL N0 : Nat} {ρ0 : Nat → Nat} {A0 : Nat → Prop}
def xRet (p : Program) (l : Launch) (e : Env) (R : Room) (s : State) (m : MethodId) (args : Array Value) (below : List Frame) (meth : Method) (c : Code) (D : va_G) (tc : Nat → ClassId) (cc : ByteArray) (N0 : Nat) (ρ0 : Nat → Nat) (A0 : Nat → Prop) (Q : State → Prop) (Po : xO → xw → Prop) : Prop :=
  ∀ (ρ : Nat → Nat) (H : Heap) (locs : List Loc) (ls : Array Slot) (pc : Nat) (w : xw) (kc ks : Nat) (st : List Value) (i : Instr) (o : Option Value), xSt s D tc N0 ρ0 A0 ρ w H locs → kc ≤ R.cells → ks ≤ R.slots → xret i st = some o → decode cc pc = .ok (i, 1) → Po (.inl o) w →
    W p l e R s m args below meth c H locs kc ks Q (F0 m pc ls (st.map (rV ρ)))
def xThr (p : Program) (l : Launch) (e : Env) (R : Room) (s : State) (m : MethodId) (args : Array Value) (below : List Frame) (meth : Method) (c : Code) (D : va_G) (tc : Nat → ClassId) (cc : ByteArray) (nL N0 : Nat) (ρ0 : Nat → Nat) (A0 : Nat → Prop) (Q : State → Prop) (TH : Nat → Option String) (Po : xO → xw → Prop) : Prop :=
  ∀ (ρ : Nat → Nat) (H : Heap) (locs : List Loc) (ls : Array Slot) (pc : Nat) (w : xw) (kc ks j : Nat) (rest : List Value) (E : String), xSt s D tc N0 ρ0 A0 ρ w H locs → ls.size = nL → TH pc = some E → decode cc pc = .ok (.new j, 3) → kc + 1 ≤ R.cells → ks + 6 ≤ R.slots → (rest.map (fun v => v.category)).sum ≤ 8 → Po (.inr E) w →
    W p l e R s m args below meth c H locs kc ks Q (F0 m pc ls rest)
def xExc (p : Program) (l : Launch) (e : Env) (R : Room) (s : State) (m : MethodId) (args : Array Value) (below : List Frame) (meth : Method) (c : Code) (D : va_G) (tc : Nat → ClassId) (nL N0 : Nat) (ρ0 : Nat → Nat) (A0 : Nat → Prop) (Q : State → Prop) (HD : Nat → String → Option Int32) (Po : xO → xw → Prop) : Prop :=
  ∀ (ρ ρ1 : Nat → Nat) (H : Heap) (locs : List Loc) (ls : Array Slot) (lv : List (Nat × Value)) (pc : Nat) (w : xw) (kc ks : Nat) (rest : List Value) (E : String) (ce : Cell) (q9 : Nat), xSt s D tc N0 ρ0 A0 ρ w H locs → lv_has ls nL (lv.map (fun q => (q.1, rV ρ1 q.2))) → kc ≤ R.cells → ks ≤ R.slots → H[q9]? = some ce → ce.vm = .none → s.vm.findClass E = some ce.cls →
    (match HD pc E with
      | none => Po (.inr E) w
      | some j => Po (.inl (some (.int j))) w) → vx_W p l e R s m args below meth c H locs kc ks Q (F0 m pc ls rest) q9
def xCOK (p : Program) (l : Launch) (e : Env) (R : Room) (s : State) (m : MethodId) (args : Array Value) (below : List Frame) (meth : Method) (c : Code) (D : va_G) (tc : Nat → ClassId) (cc : ByteArray) (nL N0 : Nat) (ρ0 : Nat → Nat) (A0 : Nat → Prop) (Q : State → Prop) (i : Instr) (argc mc ms : Nat) (rel : xR) : Prop :=
  ∀ (ρ : Nat → Nat) (H : Heap) (locs : List Loc) (ls : Array Slot) (pc : Nat) (w w1 : xw) (kc ks : Nat) (avs r : List Value) (o : xO), xSt s D tc N0 ρ0 A0 ρ w H locs → ls.size = nL → decode cc pc = .ok (i, 3) → avs.length = argc → rel avs w o w1 → kc + mc ≤ R.cells → ks + ms ≤ R.slots → (r.map (fun v => v.category)).sum ≤ 8 →
    (∀ (ρ' : Nat → Nat) (H1 : Heap) (locs1 : List Loc) (v : Option Value), o = .inl v → (∀ i, i < w.1 → ρ' i = ρ i) → xSt s D tc N0 ρ0 A0 ρ' w1 H1 locs1 → W p l e R s m args below meth c H1 locs1 (kc + mc) (ks + ms) Q (F0 m (pc + 3) ls ((v.toList ++ []).map (rV ρ') ++ r.map (rV ρ)))) →
    (∀ (ρ' : Nat → Nat) (H1 : Heap) (locs1 : List Loc) (E : String) (ce : Cell) (q9 : Nat), o = .inr E → xSt s D tc N0 ρ0 A0 ρ' w1 H1 locs1 → H1[q9]? = some ce → ce.vm = .none → s.vm.findClass E = some ce.cls → vx_W p l e R s m args below meth c H1 locs1 (kc + mc) (ks + ms) Q (F0 m pc ls (r.map (rV ρ))) q9) →
    W p l e R s m args below meth c H locs kc ks Q (F0 m pc ls ((avs.reverse ++ r).map (rV ρ)))
def xCall (p : Program) (l : Launch) (e : Env) (R : Room) (s : State) (m : MethodId) (args : Array Value) (below : List Frame) (meth : Method) (c : Code) (D : va_G) (tc : Nat → ClassId) (cc : ByteArray) (nL N0 : Nat) (ρ0 : Nat → Nat) (A0 : Nat → Prop) (Q : State → Prop) (C : Nat → Option (Nat × Nat × Nat × xR)) : Prop :=
  ∀ j argc mc ms rel, (C (3 * j) = some (argc, mc, ms, rel) → xCOK p l e R s m args below meth c D tc cc nL N0 ρ0 A0 Q (.invokestatic j) argc mc ms rel) ∧ (C (3 * j + 1) = some (argc, mc, ms, rel) → xCOK p l e R s m args below meth c D tc cc nL N0 ρ0 A0 Q (.invokevirtual j) argc mc ms rel) ∧ (C (3 * j + 2) = some (argc, mc, ms, rel) → xCOK p l e R s m args below meth c D tc cc nL N0 ρ0 A0 Q (.invokespecial j) argc mc ms rel)
theorem xSt_set {ρ : Nat → Nat} {w : xw} {H H1 : Heap} {locs locs1 : List Loc} {a : Nat} {c1 : xC} (h : xSt s D tc N0 ρ0 A0 ρ w H locs) (ha : a < w.1) (hP : va_P D vwCl ((xws ρ tc w).set a (ρ a, rC ρ tc c1)) H1) (hD : va_D A0 ((xws ρ tc w).set a (ρ a, rC ρ tc c1))) (hS : va_S A0 s.heap H1 locs1) : xSt s D tc N0 ρ0 A0 ρ (w.1, va_up w.2 a c1) H1 locs1 := by
  rw [xws_set ha] at hP hD
  exact ⟨h.1, h.2.1, hP, hD, hS⟩
theorem xSt_push {ρ : Nat → Nat} {w : xw} {H H1 : Heap} {locs : List Loc} {q : Nat} {c1 : xC} (h : xSt s D tc N0 ρ0 A0 ρ w H locs) (hw : xok w) (hc : okC w.1 c1) (hP : va_P D vwCl (xws ρ tc w ++ [(q, rC ρ tc c1)]) H1) (hD : va_D A0 (xws ρ tc w ++ [(q, rC ρ tc c1)])) (hS : va_S A0 s.heap H1 locs) : xSt s D tc N0 ρ0 A0 (va_up ρ w.1 q) (w.1 + 1, va_up w.2 w.1 c1) H1 locs := by
  rw [xws_push hw hc] at hP hD
  exact ⟨fun i hi => by
    have hi2 : i < N0 ∨ w.1 + 1 ≤ i := hi
    have h0 := h.2.1
    rw [va_up_ne ρ q (by omega)]
    exact h.1 i (hi2.elim Or.inl (fun z => Or.inr (by omega))), Nat.le_succ_of_le h.2.1, hP, hD, hS⟩
theorem xbr_sound {P : xG → Prop} {pc : Nat} {off : Int} {lv : List (Nat × Value)} {r : List Value} {w : xw} {kc ks : Nat} {a b : Prop} (k : xbr P pc off lv r w kc ks a b) : ∃ t : Nat, (pc : Int) + off = (t : Int) ∧ (a → P (t, lv, r, w, kc, ks)) ∧ (b → P (pc + 3, lv, r, w, kc, ks)) := by
  obtain ⟨t, h1, h2, h3⟩ := k
  exact ⟨t, xtg_eq h1, h2, h3⟩
theorem xnar {ty : FieldType} {v : Value} (h : xfits ty v = true) (ρ : Nat → Nat) : narrow ty (rV ρ v) = rV ρ v ∧ fits ty (rV ρ v) = true := by
  cases ty <;> cases v <;> first | (cases h; done) | exact ⟨rfl, rfl⟩
theorem xcal_sound {HD : Nat → String → Option Int32} {Po : xO → xw → Prop} {pc : Nat} {lv : List (Nat × Value)} {st : List Value} {w : xw} {kc ks : Nat} {C : Option (Nat × Nat × Nat × xR)} {i : Instr}
    (hE : xExc p l e R s m args below meth c D tc nL N0 ρ0 A0 Q HD Po) (hCs : ∀ argc mc ms rel, C = some (argc, mc, ms, rel) → xCOK p l e R s m args below meth c D tc cc nL N0 ρ0 A0 Q i argc mc ms rel)
    (hdg : decode cc pc = .ok (i, 3)) (k : xcal HD R.cells R.slots Po (xSem p l e R s m args below meth c D tc nL N0 ρ0 A0 Q) pc lv st w kc ks C) : xSem p l e R s m args below meth c D tc nL N0 ρ0 A0 Q (pc, lv, st, w, kc, ks) := by
  obtain ⟨argc, mc, ms, rel, avs, r, o, w1, h1, h2, h3, h4, h5, h6, h7, h8, h9, h10⟩ := k
  intro ρ H locs ls hS hl k1 k2
  dsimp only at hl k1 k2 hS ⊢
  subst h2
  refine hCs argc mc ms rel h1 ρ H locs ls pc w w1 kc ks avs r o hS hl.1 hdg h3 h4 h5 h6 h7 ?_ ?_
  · intro ρ' H1 locs1 v hv hρ hS1
    subst hv
    have h11 : xSem p l e R s m args below meth c D tc nL N0 ρ0 A0 Q (pc + 3, lv, v.toList ++ r, w1, kc + mc, ks + ms) := h10
    have h12 := h11 ρ' H1 locs1 ls hS1 (by dsimp only; rw [rL_ext hρ h8]; exact hl) h5 h6
    dsimp only at h12
    rw [List.map_append, rS_ext hρ h9] at h12
    rw [List.append_nil]
    exact h12
  · intro ρ' H1 locs1 E ce q9 hv hS1 g1 g2 g3
    subst hv
    exact hE ρ' ρ H1 locs1 ls lv pc w1 (kc + mc) (ks + ms) (r.map (rV ρ)) E ce q9 hS1 hl h5 h6 g1 g2 g3 h10
end XS2
