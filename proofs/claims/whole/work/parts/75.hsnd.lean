/-! methods with handlers: the law's own helpers -/
def xNp : List (String × String) := [("java/lang/IllegalArgumentException", "java/lang/IndexOutOfBoundsException"), ("java/lang/IllegalStateException", "java/lang/IndexOutOfBoundsException"), ("java/lang/IllegalStateException", "java/lang/IllegalArgumentException")]
def xN3 (U : State) : Prop := ∀ q ∈ xNp, va_Nc q.1 q.2 U
theorem xN3.moved {u U : State} (hvm : u.vm.Alike U.vm) (h : xN3 u) : xN3 U := fun q hq => va_Nc.moved hvm (h q hq)
def xHk (own : String) (cc : ByteArray) (nL : Nat) (hh : List (Nat × Nat × Nat × Nat)) (pc : Nat) (E : String) (j : Int32) : Prop :=
  ∃ (pre : List ExceptionTableEntry) (x : ExceptionTableEntry) (suf : List ExceptionTableEntry) (nm : String) (k n0 : Nat) (i : Instr) (jc : Int), tableOf hh = pre ++ x :: suf ∧
    (∀ z ∈ pre, z.catchType ≠ 0 ∧ ∃ nm2, Cond.classLink own z.catchType nm2 ∈ gW ∧ (E, nm2) ∈ xNp) ∧ covers x pc = true ∧ x.catchType ≠ 0 ∧ Cond.classLink own x.catchType nm ∈ gW ∧ Cond.castable E nm ∈ xB ∧ k < nL ∧
    ((i = .astore k ∧ n0 = 2) ∨ ∃ kf : Fin 4, i = .astore_n kf ∧ kf.val = k ∧ n0 = 1) ∧ decode cc x.handlerPc = .ok (i, n0) ∧ decode cc (x.handlerPc + n0) = .ok (.iconst jc, 1) ∧ j = Int32.ofInt jc ∧ decode cc (x.handlerPc + n0 + 1) = .ok (.ireturn, 1)
def xPcL (D : va_G) (tc : Nat → ClassId) (ρ : Nat → Nat) (avs : List Value) (w : xw) (sz : Nat) : Array Value → State → Prop := fun a U => xPc D tc ρ avs w sz a U ∧ xN3 U
theorem xPcL_blind {D : va_G} {tc : Nat → ClassId} {ρ : Nat → Nat} {avs : List Value} {w : xw} {sz : Nat} : FrameBlind (xPcL D tc ρ avs w sz) := by
  intro a U g mk h
  have hal : U.vm.Alike (U.calling g mk a).vm := Vm.Alike.refl U.vm
  exact ⟨xPc_blind _ _ _ _ h.1, h.2.moved hal⟩
def xCTW (l : Launch) (D : va_G) (tc : Nat → ClassId) (y : MethodName) (ws : List Cond) (rm : Room) : xR := fun avs w o w1 =>
  ∀ (ρ : Nat → Nat) (sz : Nat), vx_Met l y ws rm (xPcL D tc ρ avs w sz) (xQc D tc ρ w sz o w1) (xXc D tc ρ w sz o w1) rm.cells rm.slots (va_A (xws ρ tc w) sz)
theorem met_soundW {l : Launch} {D : va_G} {tc : Nat → ClassId} {M : xM} {y : MethodName} {cc : ByteArray} {hh : List (Nat × Nat × Nat × Nat)} {rm : Room} (hy : plainName y.cls = true)
    (hTb : ∀ pc i, xlk M.2.1 pc = some i → ∃ n, decode cc pc = .ok (i, xlen i n)) (hKo : xKok y.cls M.2.2.2.1) (hCl : xClok) (hF : xFok y.cls M.2.2.1) (hNW : xNWok y.cls M.2.2.2.2.1)
    (hini : ∀ ci, M.2.2.2.1 1000000 = some (.retAddr ci) → y.name = "<init>" ∧ ∀ q, vwCl[ci]? = some q → ∀ k, k < q.2.2 → (q.2.1 k).1 = y.cls) (hty : ∀ ty, goodWord (.arrayClass ty) = true → (ty = .int ∨ ty = .long) → Cond.arrayClass ty ∈ gW)
    (hRc : M.2.2.2.2.2.2.2.2.1 = rm.cells) (hRs : M.2.2.2.2.2.2.2.2.2 = rm.slots) (hTH : ∀ pc E, M.2.2.2.2.2.1 pc = some E → False) (hHD : ∀ pc E j, M.2.2.2.2.2.2.1 pc E = some j → xHk y.cls cc M.1 hh pc E j)
    (hCs : ∀ (p : Program) (e : Env) (s : State) (m : MethodId) (args : Array Value) (below : List Frame) (meth : Method) (c : Code) (N0 : Nat) (ρ0 : Nat → Nat) (A0 : Nat → Prop) (Q : State → Prop), xCx p s m args c D tc y.cls cc M.1 A0 → xNs s → xZ A0 s s.heap → xCall p l e rm s m args below meth c D tc cc M.1 N0 ρ0 A0 Q M.2.2.2.2.2.2.2.1)
    {avs : List Value} {w w1 : xw} {v0 : Int32} (h : xEv M (some .int) avs w (.inl (some (.int v0))) w1) : w.1 ≤ w1.1 ∧ xCTW l D tc y (.codeWith y cc M.1 (some .int) hh :: gW) rm avs w (.inl (some (.int v0))) w1 := by
  obtain ⟨hsl, hw, hro, hrun⟩ := h
  refine ⟨hw, fun ρ sz => ?_⟩
  refine vx_ofWH (cc := cc) (maxL := M.1) (ret := some .int) (hh := hh) hy rfl ?_
  intro p e s m args below meth c s₁ B hml hv
  obtain ⟨⟨rfl, hsz, hP, hK, hD0, hNs, hZ⟩, hN3⟩ := hv
  subst hsz
  have hx := B.exec
  have hb := B.bytes
  have hr := B.returns
  have hts0 := atoms_spec (ws := .codeWith y cc M.1 (some .int) hh :: gW) B.pre
  have htab : c.exceptionTable.toList = tableOf hh := vx_table (x := y) B (hts0 _ List.mem_cons_self)
  have hts : ∀ w ∈ gW, w.before (avs.map (rV ρ)).toArray s = true := fun w hw => hts0 w (List.mem_cons_of_mem _ hw)
  have hown : s.vm.findClass y.cls = some m.cls := findClass_of_methodNamed B.named
  have hlocks := B.notSynchronized
  have hin : meth.name = y.name := (name_of_methodNamed B.named B.method).1
  have hD := hD0.self (sz := s.heap.size)
  have hA : ∀ q : Nat, s.heap.size ≤ q → va_A (xws ρ tc w) s.heap.size q := fun q h => Or.inr h
  have hC : xCx p s m (avs.map (rV ρ)).toArray c D tc y.cls cc M.1 (va_A (xws ρ tc w) s.heap.size) := ⟨hx, hb, hml, hown, hts, hK, hA⟩
  have hl0 := lv_entry (avs.map (rV ρ)) (n := M.1) (by rw [sl_map]; exact hsl)
  rw [lg_entry_eq]
  generalize (lg_sl (avs.map (rV ρ)) ++ List.replicate (M.1 - (lg_sl (avs.map (rV ρ))).length) Slot.unset).toArray = ls at hl0 ⊢
  have hS0 : xSt s D tc w.1 ρ (va_A (xws ρ tc w) s.heap.size) ρ w s.heap [] := ⟨fun _ _ => rfl, Nat.le_refl _, hP, hD, va_S.rf⟩
  have endI : ∀ (ρ' : Nat → Nat) (H : Heap) (locs : List Loc) (ls : Array Slot) (pc kc ks : Nat) (x : Int32) (w2 : xw), xSt s D tc w.1 ρ (va_A (xws ρ tc w) s.heap.size) ρ' w2 H locs → kc ≤ (headSpec (.codeWith y cc M.1 (some .int) hh :: gW) rm).room.cells → ks ≤ (headSpec (.codeWith y cc M.1 (some .int) hh :: gW) rm).room.slots → decode cc pc = .ok (.ireturn, 1) → x = v0 → w2 = w1 →
      W p l e (headSpec (.codeWith y cc M.1 (some .int) hh :: gW) rm).room s m (avs.map (rV ρ)).toArray below meth c H locs kc ks (vx_MQ below (xQc D tc ρ w s.heap.size (.inl (some (.int v0))) w1) (xXc D tc ρ w s.heap.size (.inl (some (.int v0))) w1) (avs.map (rV ρ)).toArray s rm.cells rm.slots (va_A (xws ρ tc w) s.heap.size)) (F0 m pc ls [.int x]) := by
    intro ρ' H locs ls pc kc ks x w2 hS k1 k2 hdg e1 e2
    subst e1
    subst e2
    refine W.widen k1 k2 ?_
    refine vx_ret ?_
    exact W.iret hx hb hr (fun t ht hW => ⟨⟨some (.int x), ρ', rfl, rfl, hS.1, by rw [ht]; exact hS.2.2.1, hS.2.2.2.1⟩, hS.2.2.2.2.F ht⟩) hS.2.2.2.2.2.2 hdg
  refine run_sound (l := l) (e := e) (R := (headSpec (.codeWith y cc M.1 (some .int) hh :: gW) rm).room) (below := below) (meth := meth) (N0 := w.1) (ρ0 := ρ) (own := y.cls) rfl hTb hKo hC hCl hF hNW hNs.2.1 (fun ci hci => ⟨hin.trans (hini ci hci).1, (hini ci hci).2⟩) hty hRc hRs ?_ ?_ ?_ (hCs p e s m _ below meth c w.1 ρ _ _ hC hNs hZ) hrun ρ s.heap [] ls hS0 (by dsimp only; rw [xarg_map]; exact hl0) (Nat.zero_le _) (Nat.zero_le _)
  · -- the ends
    intro ρ' H locs ls pc w2 kc ks st i o1 hS k1 k2 hret hdg hpo
    obtain ⟨e1, e2⟩ := hpo
    cases i <;> first | (cases hret; done) | skip
    case areturn =>
      simp only [xret] at hret
      split at hret <;> cases hret <;> cases e1
    case dreturn =>
      simp only [xret] at hret
      split at hret <;> cases hret
      cases e1
    case ireturn =>
      simp only [xret] at hret
      split at hret <;> cases hret
      cases e1
      exact endI ρ' H locs ls pc kc ks _ w2 hS k1 k2 hdg rfl e2
    case lreturn =>
      simp only [xret] at hret
      split at hret <;> cases hret
      cases e1
    case return_ =>
      simp only [xret] at hret
      split at hret <;> cases hret
      cases e1
  · -- a throw
    intro ρ' H locs ls pc w2 kc ks j rest E hS hsz hth hdg g1 g2 g3 hpo
    exact (hTH _ _ hth).elim
  · -- what comes through
    intro ρ' ρ1 H locs ls lv pc w2 kc ks rest E ce q9 hS hlv k1 k2 hce hcv hcl hpo
    cases hz : M.2.2.2.2.2.2.1 pc E with
    | none =>
      rw [hz] at hpo
      cases hpo.1
    | some j =>
      rw [hz] at hpo
      obtain ⟨e1, e2⟩ := hpo
      cases e1
      obtain ⟨pre, x, suf, nm, k, n0, i, jc, t1, t2, t3, t4, t5, t6, t7, t8, t9, t10, t11, t12⟩ := hHD _ _ _ hz
      have hcast : (Cond.castable E nm).before (avs.map (rV ρ)).toArray s = true := va_Nw.use (xB_on t6) (hNs.1 _ t6)
      refine vx_catch hown pre x suf (htab.trans t1) (fun z hz => ?_) t3 t4 (hts _ t5) hcast hce hcv hcl ?_
      · obtain ⟨z1, nm2, z2, z3⟩ := t2 z hz
        exact Or.inr ⟨z1, nm2, hts _ z2, hN3 _ z3⟩
      · rcases t8 with ⟨rfl, rfl⟩ | ⟨kf, rfl, z1, rfl⟩
        · refine lv_astore (lv' := _) hx hb t9 hlv t7 rfl (fun ls' _ => ?_)
          refine lv_iconst hx hb t10 rfl ?_
          exact endI ρ' H locs ls' _ kc ks _ w2 hS k1 k2 t12 t11.symm e2
        · refine lv_astore_n (lv' := _) hx hb t9 z1 hlv t7 rfl (fun ls' _ => ?_)
          refine lv_iconst hx hb t10 rfl ?_
          exact endI ρ' H locs ls' _ kc ks _ w2 hS k1 k2 t12 t11.symm e2
section XCW
variable {p : Program} {l : Launch} {e : Env} {R : Room} {s : State} {m : MethodId} {args : Array Value} {below : List Frame} {meth : Method} {c : Code} {Q : State → Prop}
variable {D : va_G} {tc : Nat → ClassId} {own : String} {cc : ByteArray} {nL N0 : Nat} {ρ0 : Nat → Nat} {A0 : Nat → Prop}
theorem cok_SW {j maxL n : Nat} {y : MethodName} {bytes : ByteArray} {ret : Option FieldType} {hh : List (Nat × Nat × Nat × Nat)} {rm : Room} {rel : xR}
    (hC : xCx p s m args c D tc own cc nL A0) (hNs : xNs s) (hN3 : xN3 s) (hZ : xZ A0 s s.heap)
    (hwd : Cond.codeWith y bytes maxL ret hh ∈ gW ∧ Cond.initialized y.cls ∈ gW ∧ Cond.methodLink own j y ∈ gW ∧ Cond.static y ∈ gW)
    (hd : y.cls ≠ "java/lang/invoke/MethodHandle" ∧ y.cls ≠ "java/lang/invoke/VarHandle" ∧ (parseMethodDescriptor y.desc).map (fun d => d.parameters.length) = some n) (hR : rm.frames + 1 ≤ R.frames ∧ 8 + (maxL + 11) + rm.locals ≤ R.locals)
    (hM : ∀ avs w o w1, rel avs w o w1 → w.1 ≤ w1.1 ∧ xCTW l D tc y (.codeWith y bytes maxL ret hh :: gW) rm avs w o w1) :
    xCOK p l e R s m args below meth c D tc cc nL N0 ρ0 A0 Q (.invokestatic j) n rm.cells rm.slots rel := by
  obtain ⟨hx, hb, hml, hown, hts, hK, hA⟩ := hC
  obtain ⟨w1', w2', w3', w4'⟩ := hwd
  intro ρ H locs ls pc w w1 kc ks avs r o hS hsz hdg hlen hrel h5 h6 h7 kk kx
  obtain ⟨hw, hct⟩ := hM _ _ _ _ hrel
  have hcw : vx_CSW R s args own j y bytes maxL ret hh (.codeWith y bytes maxL ret hh :: gW) rm rm.cells rm.slots n := by
    refine ⟨⟨rfl, rfl, hR.1, hR.2, pay_in hts (xGood w1'), List.mem_cons_self⟩, hts _ w1', hts _ w2', ⟨hd.1, hd.2.1⟩, fun sig h => ?_, hts _ w3', hts _ w4'⟩
    have h2 := hd.2.2
    rw [h] at h2
    exact (Option.some.inj h2).symm
  have hr := vx_runSX (l := l) (e := e) (R := R) (below := below) (meth := meth) (locs := locs) (cells := kc) (slots := ks) (As := avs.map (rV ρ)) (rest := r.map (rV ρ)) (g := F0 m pc ls ((avs.reverse ++ r).map (rV ρ))) ⟨hx, hb, hml, hown, hts⟩ (hct ρ H.size)
    hcw ⟨xPcL_blind, fun U hU hW => ⟨xPc_at hK hA hNs hZ hS hU hW, hN3.moved hW.alike⟩⟩ rfl (by simpa using hlen) hsz (by simp) (lv_room (by rw [rV_cats]; exact h7)) hdg ⟨h5, h6⟩
  exact xgo hA hS hw hr kk kx
end XCW
