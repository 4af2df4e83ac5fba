def xMax : xR := fun avs w o w1 => ∃ x y : Int32, avs = [.int x, .int y] ∧ o = .inl (some (.int (if x < y then y else x))) ∧ w1 = w
def xMin : xR := fun avs w o w1 => ∃ x y : Int32, avs = [.int x, .int y] ∧ o = .inl (some (.int (if y < x then y else x))) ∧ w1 = w
def xAbs : xR := fun avs w o w1 => ∃ x : Int32, avs = [.int x] ∧ o = .inl (some (.int (if 0 ≤ x then x else 0 - x))) ∧ w1 = w
def xCopy : xR := fun avs w o w1 => ∃ (a0 a : Nat) (sp dp n : Int32) (n0 n1 : Nat) (f g : Nat → Int32), avs = [.ref a0, .int sp, .ref a, .int dp, .int n] ∧ xarr w a0 0 n0 (.inl f) ∧ xarr w a 0 n1 (.inl g) ∧
  ¬ sp < 0 ∧ ¬ dp < 0 ∧ ¬ n < 0 ∧ sp.toNatClampNeg + n.toNatClampNeg ≤ n0 ∧ dp.toNatClampNeg + n.toNatClampNeg ≤ n1 ∧ o = .inl none ∧ w1 = (w.1, va_up w.2 a (.inl (0, n1, .inl (va_cpy f g sp.toNatClampNeg dp.toNatClampNeg n.toNatClampNeg))))
section XM1
variable {p : Program} {l : Launch} {e : Env} {R : Room} {s : State} {m : MethodId} {args : Array Value} {below : List Frame} {meth : Method} {c : Code} {Q : State → Prop}
variable {D : va_G} {tc : Nat → ClassId} {own : String} {cc : ByteArray} {nL N0 : Nat} {ρ0 : Nat → Nat} {A0 : Nat → Prop}
theorem cok_max {j : Nat} (hC : xCx p s m args c D tc own cc nL A0) (hwd : Cond.methodLink own j Lib.Math.max.name ∈ gW ∧ Cond.static Lib.Math.max.name ∈ gW ∧ Cond.initialized "java/lang/Math" ∈ gW ∧ Cond.code Lib.Math.max.name Lib.Math.max.code 2 (some .int) ∈ gW) (hR : 1 ≤ R.frames ∧ 21 ≤ R.locals) :
    xCOK p l e R s m args below meth c D tc cc nL N0 ρ0 A0 Q (.invokestatic j) 2 0 0 xMax := by
  obtain ⟨hx, hb, hml, hown, hts, hK, hA⟩ := hC
  intro ρ H locs ls pc w w1 kc ks avs r o hS hsz hdg hlen hrel h5 h6 h7 kk kx
  obtain ⟨x, y, rfl, rfl, rfl⟩ := hrel
  have h77 : ((r.map (rV ρ)).map (fun v => v.category)).sum + 13 ≤ R.locals := by rw [rV_cats]; omega
  exact va_mmax hx hb (hml.trans hsz.symm) hown (hts _ hwd.1) (hts _ hwd.2.1) (hts _ hwd.2.2.1) (hts _ hwd.2.2.2) hR.1 h77 h5 h6 hdg (kk ρ H locs _ rfl (fun _ _ => rfl) hS)
theorem cok_min {j : Nat} (hC : xCx p s m args c D tc own cc nL A0) (hwd : Cond.methodLink own j Lib.Math.min.name ∈ gW ∧ Cond.static Lib.Math.min.name ∈ gW ∧ Cond.initialized "java/lang/Math" ∈ gW ∧ Cond.code Lib.Math.min.name Lib.Math.min.code 2 (some .int) ∈ gW) (hR : 1 ≤ R.frames ∧ 21 ≤ R.locals) :
    xCOK p l e R s m args below meth c D tc cc nL N0 ρ0 A0 Q (.invokestatic j) 2 0 0 xMin := by
  obtain ⟨hx, hb, hml, hown, hts, hK, hA⟩ := hC
  intro ρ H locs ls pc w w1 kc ks avs r o hS hsz hdg hlen hrel h5 h6 h7 kk kx
  obtain ⟨x, y, rfl, rfl, rfl⟩ := hrel
  have h77 : ((r.map (rV ρ)).map (fun v => v.category)).sum + 13 ≤ R.locals := by rw [rV_cats]; omega
  exact va_mmin hx hb (hml.trans hsz.symm) hown (hts _ hwd.1) (hts _ hwd.2.1) (hts _ hwd.2.2.1) (hts _ hwd.2.2.2) hR.1 h77 h5 h6 hdg (kk ρ H locs _ rfl (fun _ _ => rfl) hS)
theorem cok_abs {j : Nat} (hC : xCx p s m args c D tc own cc nL A0) (hwd : Cond.methodLink own j Lib.Math.abs.name ∈ gW ∧ Cond.static Lib.Math.abs.name ∈ gW ∧ Cond.initialized "java/lang/Math" ∈ gW ∧ Cond.code Lib.Math.abs.name Lib.Math.abs.code 1 (some .int) ∈ gW) (hR : 1 ≤ R.frames ∧ 21 ≤ R.locals) :
    xCOK p l e R s m args below meth c D tc cc nL N0 ρ0 A0 Q (.invokestatic j) 1 0 0 xAbs := by
  obtain ⟨hx, hb, hml, hown, hts, hK, hA⟩ := hC
  intro ρ H locs ls pc w w1 kc ks avs r o hS hsz hdg hlen hrel h5 h6 h7 kk kx
  obtain ⟨x, rfl, rfl, rfl⟩ := hrel
  have h77 : ((r.map (rV ρ)).map (fun v => v.category)).sum + 13 ≤ R.locals := by rw [rV_cats]; omega
  exact va_mabs hx hb (hml.trans hsz.symm) hown (hts _ hwd.1) (hts _ hwd.2.1) (hts _ hwd.2.2.1) (hts _ hwd.2.2.2) hR.1 h77 h5 h6 hdg (kk ρ H locs _ rfl (fun _ _ => rfl) hS)
theorem cok_copy {j : Nat} (hC : xCx p s m args c D tc own cc nL A0) (hwd : Cond.methodLink own j arraycopyName ∈ gW ∧ Cond.native arraycopyName ∈ gW ∧ Cond.static arraycopyName ∈ gW ∧ Cond.initialized "java/lang/System" ∈ gW) (hR : 1 ≤ R.frames ∧ 8 + (nativeFrameWords "java/lang/System" "arraycopy" 5 + 11) ≤ R.locals) :
    xCOK p l e R s m args below meth c D tc cc nL N0 ρ0 A0 Q (.invokestatic j) 5 0 0 xCopy := by
  obtain ⟨hx, hb, hml, hown, hts, hK, hA⟩ := hC
  intro ρ H locs ls pc w w1 kc ks avs r o hS hsz hdg hlen hrel h5 h6 h7 kk kx
  obtain ⟨a0, a, sp, dp, n, n0, n1, f, g, rfl, ⟨ha0, hw0⟩, ⟨ha, hwa⟩, z1, z2, z3, z4, z5, rfl, rfl⟩ := hrel
  have hg0 := xws_get (ρ := ρ) (tc := tc) ha0
  rw [hw0] at hg0
  have hg := xws_get (ρ := ρ) (tc := tc) ha
  rw [hwa] at hg
  have h77 : ((r.map (rV ρ)).map (fun v => v.category)).sum + (nativeFrameWords "java/lang/System" "arraycopy" 5 + 11) ≤ R.locals := by rw [rV_cats]; omega
  exact va_copyi (D := D) (ty := .int) hx hb (hml.trans hsz.symm) hown (hts _ hwd.1) (hts _ hwd.2.1) (hts _ hwd.2.2.1) (hts _ hwd.2.2.2) hK hS.2.2.1 hS.2.2.2.1 hS.2.2.2.2 a0 a 0 0 hg0 hg rfl rfl rfl z1 z2 z3 z4 z5 (fun _ _ => rfl) hR.1 h77 hdg
    (fun H1 locs1 hP hD hS1 => kk ρ H1 locs1 none rfl (fun _ _ => rfl) (xSt_set (c1 := .inl (0, n1, .inl (va_cpy f g sp.toNatClampNeg dp.toNatClampNeg n.toNatClampNeg))) hS ha hP hD hS1))
end XM1
theorem xarg_map (ρ : Nat → Nat) : ∀ (avs : List Value) (i : Nat), (xarg i avs).map (fun q => (q.1, rV ρ q.2)) = lv_args i (avs.map (rV ρ))
  | [], _ => rfl
  | v :: r, i => by
    have h : (if (rV ρ v).category = 2 then i + 2 else i + 1) = i + v.category := by
      rw [rV_cat]
      rcases lv_cat v with h1 | h1
      · rw [h1]; rfl
      · rw [h1]; rfl
    simp only [xarg, List.map_cons, lv_args, h]
    rw [xarg_map ρ r (i + v.category)]
theorem sl_map (ρ : Nat → Nat) (avs : List Value) : (lg_sl (avs.map (rV ρ))).length = (lg_sl avs).length := by
  induction avs with
  | nil => rfl
  | cons v r ih =>
    simp only [lg_sl, List.map_cons, List.flatMap_cons, List.length_append] at ih ⊢
    rw [ih, rV_cat]
    congr 1
    split <;> rfl
/-- where a text's exception is thrown -/
def xTok (own : String) (cc : ByteArray) (rm : Room) (TH : Nat → Option String) : Prop := ∀ pc E, TH pc = some E → ∃ (ik is ic : Nat) (text : String) (names : List String), decode cc pc = .ok (.new ik, 3) ∧ decode cc (pc + 3) = .ok (.dup, 1) ∧
  ((decode cc (pc + 4) = .ok (.ldc is, 2) ∧ decode cc (pc + 6) = .ok (.invokespecial ic, 3) ∧ decode cc (pc + 9) = .ok (.athrow, 1)) ∨ (decode cc (pc + 4) = .ok (.ldc_w is, 3) ∧ decode cc (pc + 7) = .ok (.invokespecial ic, 3) ∧ decode cc (pc + 10) = .ok (.athrow, 1))) ∧
  (own, is, text) ∈ xStr ∧ Bundle.fit E = true ∧ (∀ n ∈ names, Bundle.fit n = true) ∧ Cond.classLink own ik E ∈ gW ∧ Cond.initialized E ∈ gW ∧ (∀ w ∈ vx_atS own ic E names, w ∈ gW ∨ w ∈ xB) ∧ names.length + 3 < rm.frames ∧ 8 + (13 * (names.length + 1) + 43) ≤ rm.locals
theorem xB_ot {w : Cond} (h : w ∈ xB) : vx_ot w = true := by
  have hk := (List.mem_filter.mp h).2
  cases w <;> first | (cases hk; done) | rfl
theorem xB_on {w : Cond} (h : w ∈ xB) : w.onTables = true := by
  have hk := (List.mem_filter.mp h).2
  cases w <;> first | (cases hk; done) | rfl
theorem gW_ot {w : Cond} (h : w ∈ gW) : vx_ot w = true := by
  have hk := (List.mem_filter.mp h).2
  simp [vx_ot, hk]
/-- THE STEP FROM NUMBERS TO THE MACHINE: what the small machine does, the method does -/
theorem met_sound {l : Launch} {D : va_G} {tc : Nat → ClassId} {M : xM} {y : MethodName} {cc : ByteArray} {ret : Option FieldType} {rm : Room} (hl : l.stackTraces = false) (hy : plainName y.cls = true)
    (hTb : ∀ pc i, xlk M.2.1 pc = some i → ∃ n, decode cc pc = .ok (i, xlen i n)) (hKo : xKok y.cls M.2.2.2.1) (hCl : xClok) (hF : xFok y.cls M.2.2.1) (hNW : xNWok y.cls M.2.2.2.2.1)
    (hini : ∀ ci, M.2.2.2.1 1000000 = some (.retAddr ci) → y.name = "<init>" ∧ ∀ q, vwCl[ci]? = some q → ∀ k, k < q.2.2 → (q.2.1 k).1 = y.cls) (hty : ∀ ty, goodWord (.arrayClass ty) = true → (ty = .int ∨ ty = .long) → Cond.arrayClass ty ∈ gW)
    (hRc : M.2.2.2.2.2.2.2.2.1 = rm.cells) (hRs : M.2.2.2.2.2.2.2.2.2 = rm.slots) (hTH : xTok y.cls cc rm M.2.2.2.2.2.1) (hHD : ∀ pc E, M.2.2.2.2.2.2.1 pc E = none)
    (hCs : ∀ (p : Program) (e : Env) (s : State) (m : MethodId) (args : Array Value) (below : List Frame) (meth : Method) (c : Code) (N0 : Nat) (ρ0 : Nat → Nat) (A0 : Nat → Prop) (Q : State → Prop), xCx p s m args c D tc y.cls cc M.1 A0 → xNs s → xZ A0 s s.heap → xCall p l e rm s m args below meth c D tc cc M.1 N0 ρ0 A0 Q M.2.2.2.2.2.2.2.1)
    {avs : List Value} {w w1 : xw} {o : xO} (h : xEv M ret avs w o w1) : w.1 ≤ w1.1 ∧ xCT l D tc y (.code y cc M.1 ret :: gW) rm avs w o w1 := by
  obtain ⟨hsl, hw, hro, hrun⟩ := h
  refine ⟨hw, fun ρ sz => ?_⟩
  refine vx_ofW (cc := cc) (maxL := M.1) (ret := ret) hy rfl ?_
  intro p e s m args below meth c s₁ B hml htab hv
  obtain ⟨rfl, hsz, hP, hK, hD0, hNs, hZ⟩ := hv
  subst hsz
  have hx := B.exec
  have hb := B.bytes
  have hr := B.returns
  have hts0 := atoms_spec (ws := .code y cc M.1 ret :: gW) B.pre
  have hts : ∀ w ∈ gW, w.before (avs.map (rV ρ)).toArray s = true := fun w hw => hts0 w (List.mem_cons_of_mem _ hw)
  have hown : s.vm.findClass y.cls = some m.cls := findClass_of_methodNamed B.named
  have hlocks := B.notSynchronized
  have hin : meth.name = y.name := (name_of_methodNamed B.named B.method).1
  have hD := hD0.self (sz := s.heap.size)
  have hA : ∀ q : Nat, s.heap.size ≤ q → va_A (xws ρ tc w) s.heap.size q := fun q h => Or.inr h
  have hC : xCx p s m (avs.map (rV ρ)).toArray c D tc y.cls cc M.1 (va_A (xws ρ tc w) s.heap.size) := ⟨hx, hb, hml, hown, hts, hK, hA⟩
  have hl0 := lv_entry (avs.map (rV ρ)) (n := M.1) (by rw [sl_map]; exact hsl)
  rw [lg_entry_eq]
  generalize (lg_sl (avs.map (rV ρ)) ++ List.replicate (M.1 - (lg_sl (avs.map (rV ρ))).length) Slot.unset).toArray = ls at hl0 ⊢
  have hS0 : xSt s D tc w.1 ρ (va_A (xws ρ tc w) s.heap.size) ρ w s.heap [] := ⟨fun _ _ => rfl, Nat.le_refl _, hP, hD, va_S.rf⟩
  refine run_sound (l := l) (e := e) (R := (headSpec (.code y cc M.1 ret :: gW) rm).room) (below := below) (meth := meth) (N0 := w.1) (ρ0 := ρ) (own := y.cls) rfl hTb hKo hC hCl hF hNW hNs.2.1 (fun ci hci => ⟨hin.trans (hini ci hci).1, (hini ci hci).2⟩) hty hRc hRs ?_ ?_ ?_ (hCs p e s m _ below meth c w.1 ρ _ _ hC hNs hZ) hrun ρ s.heap [] ls hS0 (by dsimp only; rw [xarg_map]; exact hl0) (Nat.zero_le _) (Nat.zero_le _)
  · -- the ends
    intro ρ' H locs ls pc w2 kc ks st i o1 hS k1 k2 hret hdg hpo
    obtain ⟨rfl, rfl⟩ := hpo
    refine W.widen k1 k2 ?_
    refine vx_ret ?_
    have fin : ∀ (v : Option Value), v = o1.map (rV ρ') → ∀ t : State, t.heap = H → s.WarmedH t.vm → xQc D tc ρ w s.heap.size (.inl o1) w2 (avs.map (rV ρ)).toArray s (.returned v) t := by
      intro v hv t ht hW
      exact ⟨⟨o1, ρ', rfl, by rw [hv], hS.1, by rw [ht]; exact hS.2.2.1, hS.2.2.2.1⟩, hS.2.2.2.2.F ht⟩
    cases i <;> first | (cases hret; done) | skip
    case areturn =>
      simp only [xret] at hret
      split at hret <;> cases hret
      · obtain ⟨n, hn⟩ := hro
        exact W.aret hx hb (hr.trans hn) (Or.inl ⟨n, rfl⟩) (Or.inr ⟨_, rfl⟩) (fun t ht hW => fin _ rfl t ht hW) hS.2.2.2.2.2.2 hdg
      · obtain ⟨n, hn⟩ := hro
        exact W.aret hx hb (hr.trans hn) (Or.inl ⟨n, rfl⟩) (Or.inl rfl) (fun t ht hW => fin _ rfl t ht hW) hS.2.2.2.2.2.2 hdg
    case dreturn =>
      simp only [xret] at hret
      split at hret <;> cases hret
      exact W.dret hx hb (hr.trans hro) (fun t ht hW => fin _ rfl t ht hW) hS.2.2.2.2.2.2 hdg
    case ireturn =>
      simp only [xret] at hret
      split at hret <;> cases hret
      rcases hro with hn | ⟨hn, hv⟩
      · exact W.iret hx hb (hr.trans hn) (fun t ht hW => fin _ rfl t ht hW) hS.2.2.2.2.2.2 hdg
      · refine W.zret hx hb (hr.trans hn) ?_ (fun t ht hW => fin _ rfl t ht hW) hS.2.2.2.2.2.2 hdg
        rcases hv with rfl | rfl <;> rfl
    case lreturn =>
      simp only [xret] at hret
      split at hret <;> cases hret
      exact W.lret hx hb (hr.trans hro) (fun t ht hW => fin _ rfl t ht hW) hS.2.2.2.2.2.2 hdg
    case return_ =>
      simp only [xret] at hret
      split at hret <;> cases hret
      exact W.vret hx hb (hr.trans hro) (fun t ht hW => fin _ rfl t ht hW) hS.2.2.2.2.2.2 hdg
  · -- a throw
    intro ρ' H locs ls pc w2 kc ks j rest E hS hsz hth hdg g1 g2 g3 hpo
    obtain ⟨rfl, rfl⟩ := hpo
    obtain ⟨ik, is, ic, text, names, d0, d3, dd, q1, q2, q3, q4, q5, q6, q7, q8⟩ := hTH _ _ hth
    obtain ⟨sa, hsa⟩ := hNs.2.2 _ q1
    have hat : ∀ w ∈ vx_atS y.cls ic E names, w.before (avs.map (rV ρ)).toArray s = true := fun w hw => (q6 w hw).elim (fun h => hts _ h) (fun h => va_Nw.use (xB_on h) (hNs.1 _ h))
    have hgood : ∀ w ∈ Cond.classLink y.cls ik E :: Cond.initialized E :: vx_atS y.cls ic E names, vx_ot w = true := by
      intro w hw
      rcases List.mem_cons.mp hw with rfl | hw
      · exact gW_ot q4
      · rcases List.mem_cons.mp hw with rfl | hw
        · exact gW_ot q5
        · exact (q6 w hw).elim gW_ot xB_ot
    have hfin : ∀ t : State, s.vm.Alike t.vm → H.size ≤ t.heap.size → (∀ q : Nat, q < H.size → t.heap[q]? = H[q]?) → xXc D tc ρ w s.heap.size (.inr E) w2 E s t := by
      intro t _ hz hq
      refine ⟨⟨ρ', rfl, hS.1, hS.2.2.1.kept (fun k q hk => hq _ (hS.2.2.1 k q hk).lt), hS.2.2.2.1⟩, Nat.le_trans hS.2.2.2.2.1 hz, fun q h1 h2 => ?_⟩
      rw [hq q (Nat.lt_of_lt_of_le h1 hS.2.2.2.2.1)]
      exact hS.2.2.2.2.2.1 q h1 h2
    have hloc : (rest.map (fun v => v.category)).sum + (13 * (names.length + 1) + 43) ≤ (headSpec (.code y cc M.1 ret :: gW) rm).room.locals := Nat.le_trans (Nat.add_le_add_right g3 _) q8
    have hxt : ∀ k, ∀ x ∈ c.exceptionTable.toList, covers x k = false := fun k x hx => (htab x hx).elim
    rcases dd with ⟨d4, d6, d9⟩ | ⟨d4, d7, d10⟩
    · exact vx_throwS hx hb hl hown q2 q3 (hts _ q4) (hts _ q5) hsa hat hgood hZ.1 hZ.2 hS.2.2.2.2 (hsz.trans hml.symm) d0 d3 d4 d6 d9 (hxt _) q7 hloc g1 g2 hlocks hfin hS.2.2.2.2.2.2 g1 g2
    · exact vx_throwSW hx hb hl hown q2 q3 (hts _ q4) (hts _ q5) hsa hat hgood hZ.1 hZ.2 hS.2.2.2.2 (hsz.trans hml.symm) d0 d3 d4 d7 d10 (hxt _) q7 hloc g1 g2 hlocks hfin hS.2.2.2.2.2.2 g1 g2
  · -- what comes through
    intro ρ' ρ1 H locs ls lv pc w2 kc ks rest E ce q9 hS hlv k1 k2 hce hcv hcl hpo
    rw [hHD] at hpo
    obtain ⟨rfl, rfl⟩ := hpo
    exact vx_out (fun x hx => (htab x hx).elim) hlocks hce hcv hcl (fun t ht _ => ⟨⟨ρ', rfl, hS.1, by rw [ht]; exact hS.2.2.1, hS.2.2.2.1⟩, hS.2.2.2.2.F ht⟩) hS.2.2.2.2.2.2 k1 k2
