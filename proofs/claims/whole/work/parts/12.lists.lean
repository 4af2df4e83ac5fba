def xal {α : Type} : List (Nat × α) → Nat → Option α
  | [], _ => none
  | q :: r, i => bif Nat.beq q.1 i then some q.2 else xal r i
def xalp {α : Type 1} : List (Nat × α) → Nat → Option α
  | [], _ => none
  | q :: r, i => bif Nat.beq q.1 i then some q.2 else xalp r i
theorem xal_mem {α : Type} : ∀ {L : List (Nat × α)} {i : Nat} {v : α}, xal L i = some v → (i, v) ∈ L
  | [], _, _, h => by cases h
  | q :: r, i, v, h => by
    unfold xal at h
    cases hb : Nat.beq q.1 i with
    | true =>
      rw [hb] at h
      have h1 := Nat.eq_of_beq_eq_true hb
      have h2 : q.2 = v := Option.some.inj h
      rw [← h1, ← h2]
      exact List.mem_cons_self
    | false =>
      rw [hb] at h
      exact List.mem_cons_of_mem _ (xal_mem h)
theorem xTb_of {T : List (Nat × Instr)} {cc : ByteArray} (h : T.all (fun q => match decode cc q.1 with | .ok (i, n) => decide (i = q.2) && Nat.beq n (xlen q.2 n) | _ => false) = true) : ∀ pc i, xlk T pc = some i → ∃ n, decode cc pc = .ok (i, xlen i n) := by
  intro pc i hi
  have h1 := List.all_eq_true.mp h _ (xlk_mem hi)
  dsimp only at h1
  split at h1
  · rename_i j n hd
    simp only [Bool.and_eq_true, decide_eq_true_eq] at h1
    obtain ⟨rfl, h2⟩ := h1
    exact ⟨n, by rw [hd, ← Nat.eq_of_beq_eq_true h2]⟩
  · cases h1
theorem xKok_of {own : String} {L : List (Nat × Value)} (h : ∀ q ∈ L, (∀ x, q.2 = .int x → Cond.constant own q.1 x ∈ gW) ∧ (∀ x, q.2 = .long x → Cond.constantLong own q.1 x ∈ gW)) : xKok own (xal L) := fun j v hv => h (j, v) (xal_mem hv)
theorem xFok_of {own : String} {L : List (Nat × Nat × Nat)} (h : ∀ e ∈ L, ∃ q : vw_C, vwCl[e.2.1]? = some q ∧ e.2.2 < q.2.2 ∧ Cond.fieldLink own e.1 (q.2.1 e.2.2).1 (q.2.1 e.2.2).2.1 (q.2.1 e.2.2).2.2.1 ∈ gW) : xFok own (xal L) := fun j ci k hv => h (j, ci, k) (xal_mem hv)
theorem xNWok_of {own : String} {L : List (Nat × Nat × List Value)} (h : ∀ e ∈ L, (e.2.1 = 99 ∧ Cond.classLink own (e.1 - 100000) "BarForger$State" ∈ gW) ∨
  (e.2.1 ≠ 99 ∧ ∃ q : vw_C, vwCl[e.2.1]? = some q ∧ Cond.classLink own e.1 q.1 ∈ gW ∧ Cond.instantiable q.1 q.2.2 ∈ gW ∧ Cond.initialized q.1 ∈ gW ∧ e.2.2.length = q.2.2 ∧ okS 0 e.2.2 = true ∧ ∃ ty : Nat → FieldType, (∀ k, k < q.2.2 → parseFieldDescriptor (q.2.1 k).2.2.1 = some (ty k)) ∧ ∀ k, k < q.2.2 → defaultValue (ty k) = vp_V e.2.2 k)) : xNWok own (xal L) := fun j ci fs hv => h (j, ci, fs) (xal_mem hv)
theorem xTok_of {own : String} {cc : ByteArray} {rm : Room} {L : List (Nat × String)} (h : ∀ q ∈ L, ∃ (ik is ic : Nat) (text : String) (names : List String), decode cc q.1 = .ok (.new ik, 3) ∧ decode cc (q.1 + 3) = .ok (.dup, 1) ∧
  ((decode cc (q.1 + 4) = .ok (.ldc is, 2) ∧ decode cc (q.1 + 6) = .ok (.invokespecial ic, 3) ∧ decode cc (q.1 + 9) = .ok (.athrow, 1)) ∨ (decode cc (q.1 + 4) = .ok (.ldc_w is, 3) ∧ decode cc (q.1 + 7) = .ok (.invokespecial ic, 3) ∧ decode cc (q.1 + 10) = .ok (.athrow, 1))) ∧
  (own, is, text) ∈ xStr ∧ Bundle.fit q.2 = true ∧ (∀ n ∈ names, Bundle.fit n = true) ∧ Cond.classLink own ik q.2 ∈ gW ∧ Cond.initialized q.2 ∈ gW ∧ (∀ w ∈ vx_atS own ic q.2 names, w ∈ gW ∨ w ∈ xB) ∧ names.length + 3 < rm.frames ∧ 8 + (13 * (names.length + 1) + 43) ≤ rm.locals) : xTok own cc rm (xal L) := fun pc E hv => h (pc, E) (xal_mem hv)
/-- calls: three times the entry's number, and the kind (0 static, 1 virtual, 2 special) -/
def xcl : List (Nat × Nat × Nat × Nat × xR) → Nat → Option (Nat × Nat × Nat × xR)
  | [], _ => none
  | q :: r, i => bif Nat.beq q.1 i then some q.2 else xcl r i
theorem xcl_mem : ∀ {L : List (Nat × Nat × Nat × Nat × xR)} {i : Nat} {v : Nat × Nat × Nat × xR}, xcl L i = some v → (i, v) ∈ L
  | [], _, _, h => by cases h
  | q :: r, i, v, h => by
    unfold xcl at h
    cases hb : Nat.beq q.1 i with
    | true =>
      rw [hb] at h
      have h1 := Nat.eq_of_beq_eq_true hb
      have h2 : q.2 = v := Option.some.inj h
      rw [← h1, ← h2]
      exact List.mem_cons_self
    | false =>
      rw [hb] at h
      exact List.mem_cons_of_mem _ (xcl_mem h)
section XL
variable {p : Program} {l : Launch} {e : Env} {R : Room} {s : State} {m : MethodId} {args : Array Value} {below : List Frame} {meth : Method} {c : Code} {Q : State → Prop}
variable {D : va_G} {tc : Nat → ClassId} {cc : ByteArray} {nL N0 : Nat} {ρ0 : Nat → Nat} {A0 : Nat → Prop}
def xki (k : Nat) : Instr := match k % 3 with
  | 0 => .invokestatic (k / 3)
  | 1 => .invokevirtual (k / 3)
  | _ => .invokespecial (k / 3)
theorem xCall_of {L : List (Nat × Nat × Nat × Nat × xR)} (h : ∀ q ∈ L, xCOK p l e R s m args below meth c D tc cc nL N0 ρ0 A0 Q (xki q.1) q.2.1 q.2.2.1 q.2.2.2.1 q.2.2.2.2) : xCall p l e R s m args below meth c D tc cc nL N0 ρ0 A0 Q (xcl L) := by
  intro j argc mc ms rel
  refine ⟨fun hv => ?_, fun hv => ?_, fun hv => ?_⟩
  · have h1 := h _ (xcl_mem hv)
    have e1 : xki (3 * j) = .invokestatic j := by
      have a1 : 3 * j % 3 = 0 := by omega
      have a2 : 3 * j / 3 = j := by omega
      simp only [xki, a1, a2]
    rwa [e1] at h1
  · have h1 := h _ (xcl_mem hv)
    have e1 : xki (3 * j + 1) = .invokevirtual j := by
      have a1 : (3 * j + 1) % 3 = 1 := by omega
      have a2 : (3 * j + 1) / 3 = j := by omega
      simp only [xki, a1, a2]
    rwa [e1] at h1
  · have h1 := h _ (xcl_mem hv)
    have e1 : xki (3 * j + 2) = .invokespecial j := by
      have a1 : (3 * j + 2) % 3 = 2 := by omega
      have a2 : (3 * j + 2) / 3 = j := by omega
      simp only [xki, a1, a2]
    rwa [e1] at h1
end XL
