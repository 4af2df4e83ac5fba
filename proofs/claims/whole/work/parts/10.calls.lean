def xVR (ci : Nat) (rel : xR) : xR := fun avs w o w1 => (∃ (a : Nat) (as fs : List Value), avs = .ref a :: as ∧ a < w.1 ∧ w.2 a = .inr (ci, fs)) ∧ rel avs w o w1
theorem xGood {w0 : Cond} (h : w0 ∈ gW) : GoodIn gW (w0 :: gW) := fun w hw => (List.mem_cons.mp hw).elim (fun e => by rw [e]; exact gW_good w0 h) (gW_good w)
section XC2
variable {p : Program} {l : Launch} {e : Env} {R : Room} {s : State} {m : MethodId} {args : Array Value} {below : List Frame} {meth : Method} {c : Code} {Q : State → Prop}
variable {D : va_G} {tc : Nat → ClassId} {own : String} {cc : ByteArray} {nL N0 : Nat} {ρ0 : Nat → Nat} {A0 : Nat → Prop}
theorem xCB {j maxL n : Nat} {y : MethodName} {bytes : ByteArray} {ret : Option FieldType} {rm : Room} (hts : ∀ w ∈ gW, w.before args s = true) (h1 : Cond.code y bytes maxL ret ∈ gW) (h2 : Cond.initialized y.cls ∈ gW) (h3 : Cond.methodLink own j y ∈ gW)
    (hd : y.cls ≠ "java/lang/invoke/MethodHandle" ∧ y.cls ≠ "java/lang/invoke/VarHandle" ∧ (parseMethodDescriptor y.desc).map (fun d => d.parameters.length) = some n) (hR : rm.frames + 1 ≤ R.frames ∧ 8 + (maxL + 11) + rm.locals ≤ R.locals) :
    CallB R s args own j y bytes maxL ret (.code y bytes maxL ret :: gW) rm rm.cells rm.slots n :=
  callB_of n hts (xGood h1) rfl rfl rfl (hts _ h2) (hts _ h3) hd hR
theorem xCN {j maxL n : Nat} {y : MethodName} {host : String} {bytes : ByteArray} {ret : Option FieldType} {rm : Room} (hts : ∀ w ∈ gW, w.before args s = true) (hNs : xNs s) (h1 : Cond.code y bytes maxL ret ∈ gW) (h2 : Cond.initialized y.cls ∈ gW) (h3 : Cond.methodLinkNest own j y host ∈ xB)
    (hd : y.cls ≠ "java/lang/invoke/MethodHandle" ∧ y.cls ≠ "java/lang/invoke/VarHandle" ∧ (parseMethodDescriptor y.desc).map (fun d => d.parameters.length) = some n) (hR : rm.frames + 1 ≤ R.frames ∧ 8 + (maxL + 11) + rm.locals ≤ R.locals) :
    va_CN R s args own j y host bytes maxL ret (.code y bytes maxL ret :: gW) rm rm.cells rm.slots n :=
  va_cnB n hts (xGood h1) rfl rfl rfl (hNs.1 _ h3) (hts _ h2) hd hR
theorem cok_V {j maxL n ci : Nat} {q : vw_C} {y : MethodName} {bytes : ByteArray} {ret : Option FieldType} {rm : Room} {rel : xR}
    (hC : xCx p s m args c D tc own cc nL A0) (hNs : xNs s) (hZ : xZ A0 s s.heap) (hq : vwCl[ci]? = some q) (hyc : y.cls = q.1)
    (hwd : Cond.code y bytes maxL ret ∈ gW ∧ Cond.initialized y.cls ∈ gW ∧ Cond.methodLink own j y ∈ gW ∧ Cond.instanceMethod y ∈ gW ∧ Cond.selects y.cls y y ∈ gW)
    (hd : y.cls ≠ "java/lang/invoke/MethodHandle" ∧ y.cls ≠ "java/lang/invoke/VarHandle" ∧ (parseMethodDescriptor y.desc).map (fun d => d.parameters.length) = some n) (hR : rm.frames + 1 ≤ R.frames ∧ 8 + (maxL + 11) + rm.locals ≤ R.locals)
    (hM : ∀ avs w o w1, rel avs w o w1 → w.1 ≤ w1.1 ∧ xCT l D tc y (.code y bytes maxL ret :: gW) rm avs w o w1) :
    xCOK p l e R s m args below meth c D tc cc nL N0 ρ0 A0 Q (.invokevirtual j) (n + 1) rm.cells rm.slots (xVR ci rel) := by
  obtain ⟨hx, hb, hml, hown, hts, hK, hA⟩ := hC
  obtain ⟨w1', w2', w3', w4', w5'⟩ := hwd
  intro ρ H locs ls pc w w1 kc ks avs r o hS hsz hdg hlen hrel h5 h6 h7 kk kx
  obtain ⟨⟨a, as, fs, rfl, ha, hwa⟩, hrel⟩ := hrel
  obtain ⟨hw, hct⟩ := hM _ _ _ _ hrel
  have hg := xws_get (ρ := ρ) (tc := tc) ha
  rw [hwa] at hg
  have hs5 := hts _ w5'
  rw [hyc] at hs5
  have hr := vx_runV (l := l) (e := e) (R := R) (below := below) (meth := meth) (locs := locs) (cells := kc) (slots := ks) (As := as.map (rV ρ)) (rest := r.map (rV ρ)) (b := ρ a) (g := F0 m pc ls ((((Value.ref a :: as).reverse ++ r).map (rV ρ)))) (C := q.1) ⟨hx, hb, hml, hown, hts⟩ (hct ρ H.size)
    ⟨xCB (R := R) hts w1' w2' w3' hd hR, hts _ w4', hs5⟩ ⟨xPc_blind, va_recv hK hS.2.2.1 hq hg, fun U hU hW => xPc_at hK hA hNs hZ hS hU hW⟩ rfl (by simpa using hlen) hsz (by simp [rV]) (lv_room (by rw [rV_cats]; exact h7)) hdg ⟨h5, h6⟩
  exact xgo hA hS hw hr kk kx
theorem cok_S {j maxL n : Nat} {y : MethodName} {bytes : ByteArray} {ret : Option FieldType} {rm : Room} {rel : xR}
    (hC : xCx p s m args c D tc own cc nL A0) (hNs : xNs s) (hZ : xZ A0 s s.heap)
    (hwd : Cond.code y bytes maxL ret ∈ gW ∧ Cond.initialized y.cls ∈ gW ∧ Cond.methodLink own j y ∈ gW ∧ Cond.static y ∈ gW)
    (hd : y.cls ≠ "java/lang/invoke/MethodHandle" ∧ y.cls ≠ "java/lang/invoke/VarHandle" ∧ (parseMethodDescriptor y.desc).map (fun d => d.parameters.length) = some n) (hR : rm.frames + 1 ≤ R.frames ∧ 8 + (maxL + 11) + rm.locals ≤ R.locals)
    (hM : ∀ avs w o w1, rel avs w o w1 → w.1 ≤ w1.1 ∧ xCT l D tc y (.code y bytes maxL ret :: gW) rm avs w o w1) :
    xCOK p l e R s m args below meth c D tc cc nL N0 ρ0 A0 Q (.invokestatic j) n rm.cells rm.slots rel := by
  obtain ⟨hx, hb, hml, hown, hts, hK, hA⟩ := hC
  obtain ⟨w1', w2', w3', w4'⟩ := hwd
  intro ρ H locs ls pc w w1 kc ks avs r o hS hsz hdg hlen hrel h5 h6 h7 kk kx
  obtain ⟨hw, hct⟩ := hM _ _ _ _ hrel
  have hr := vx_runS (l := l) (e := e) (R := R) (below := below) (meth := meth) (locs := locs) (cells := kc) (slots := ks) (As := avs.map (rV ρ)) (rest := r.map (rV ρ)) (g := F0 m pc ls ((avs.reverse ++ r).map (rV ρ))) ⟨hx, hb, hml, hown, hts⟩ (hct ρ H.size)
    ⟨xCB (R := R) hts w1' w2' w3' hd hR, hts _ w4'⟩ ⟨xPc_blind, fun U hU hW => xPc_at hK hA hNs hZ hS hU hW⟩ rfl (by simpa using hlen) hsz (by simp) (lv_room (by rw [rV_cats]; exact h7)) hdg ⟨h5, h6⟩
  exact xgo hA hS hw hr kk kx
theorem cok_SN {j maxL n : Nat} {y : MethodName} {host : String} {bytes : ByteArray} {ret : Option FieldType} {rm : Room} {rel : xR}
    (hC : xCx p s m args c D tc own cc nL A0) (hNs : xNs s) (hZ : xZ A0 s s.heap)
    (hwd : Cond.code y bytes maxL ret ∈ gW ∧ Cond.initialized y.cls ∈ gW ∧ Cond.methodLinkNest own j y host ∈ xB ∧ Cond.static y ∈ gW)
    (hd : y.cls ≠ "java/lang/invoke/MethodHandle" ∧ y.cls ≠ "java/lang/invoke/VarHandle" ∧ (parseMethodDescriptor y.desc).map (fun d => d.parameters.length) = some n) (hR : rm.frames + 1 ≤ R.frames ∧ 8 + (maxL + 11) + rm.locals ≤ R.locals)
    (hM : ∀ avs w o w1, rel avs w o w1 → w.1 ≤ w1.1 ∧ xCT l D tc y (.code y bytes maxL ret :: gW) rm avs w o w1) :
    xCOK p l e R s m args below meth c D tc cc nL N0 ρ0 A0 Q (.invokestatic j) n rm.cells rm.slots rel := by
  obtain ⟨hx, hb, hml, hown, hts, hK, hA⟩ := hC
  obtain ⟨w1', w2', w3', w4'⟩ := hwd
  intro ρ H locs ls pc w w1 kc ks avs r o hS hsz hdg hlen hrel h5 h6 h7 kk kx
  obtain ⟨hw, hct⟩ := hM _ _ _ _ hrel
  have hr := vx_runSN (l := l) (e := e) (R := R) (below := below) (meth := meth) (locs := locs) (cells := kc) (slots := ks) (As := avs.map (rV ρ)) (rest := r.map (rV ρ)) (g := F0 m pc ls ((avs.reverse ++ r).map (rV ρ))) ⟨hx, hb, hml, hown, hts⟩ (hct ρ H.size)
    ⟨xCN (R := R) hts hNs w1' w2' w3' hd hR, hts _ w4', trivial⟩ ⟨xPc_blind, fun U hU hW => xPc_at hK hA hNs hZ hS hU hW⟩ rfl (by simpa using hlen) hsz (by simp) (lv_room (by rw [rV_cats]; exact h7)) hdg ⟨h5, h6⟩
  exact xgo hA hS hw hr kk kx
def xIR (rel : xR) : xR := fun avs w o w1 => (∃ (a : Nat) (as : List Value), avs = .ref a :: as) ∧ rel avs w o w1
theorem cok_I {j maxL n : Nat} {y : MethodName} {bytes : ByteArray} {rm : Room} {rel : xR}
    (hC : xCx p s m args c D tc own cc nL A0) (hNs : xNs s) (hZ : xZ A0 s s.heap) (hy : y.name = "<init>")
    (hwd : Cond.code y bytes maxL none ∈ gW ∧ Cond.initialized y.cls ∈ gW ∧ Cond.methodLink own j y ∈ gW ∧ Cond.instanceMethod y ∈ gW)
    (hd : y.cls ≠ "java/lang/invoke/MethodHandle" ∧ y.cls ≠ "java/lang/invoke/VarHandle" ∧ (parseMethodDescriptor y.desc).map (fun d => d.parameters.length) = some n) (hR : rm.frames + 1 ≤ R.frames ∧ 8 + (maxL + 11) + rm.locals ≤ R.locals)
    (hM : ∀ avs w o w1, rel avs w o w1 → w.1 ≤ w1.1 ∧ xCT l D tc y (.code y bytes maxL none :: gW) rm avs w o w1) :
    xCOK p l e R s m args below meth c D tc cc nL N0 ρ0 A0 Q (.invokespecial j) (n + 1) rm.cells rm.slots (xIR rel) := by
  obtain ⟨hx, hb, hml, hown, hts, hK, hA⟩ := hC
  obtain ⟨w1', w2', w3', w4'⟩ := hwd
  intro ρ H locs ls pc w w1 kc ks avs r o hS hsz hdg hlen hrel h5 h6 h7 kk kx
  obtain ⟨⟨a, as, rfl⟩, hrel⟩ := hrel
  obtain ⟨hw, hct⟩ := hM _ _ _ _ hrel
  have hr := vx_runI (l := l) (e := e) (R := R) (below := below) (meth := meth) (locs := locs) (cells := kc) (slots := ks) (As := as.map (rV ρ)) (rest := r.map (rV ρ)) (b := ρ a) (g := F0 m pc ls ((((Value.ref a :: as).reverse ++ r).map (rV ρ)))) ⟨hx, hb, hml, hown, hts⟩ (hct ρ H.size)
    ⟨xCB (R := R) hts w1' w2' w3' hd hR, hy, hts _ w4'⟩ ⟨xPc_blind, fun U hU hW => xPc_at (avs := .ref a :: as) hK hA hNs hZ hS hU hW⟩ rfl (by simpa using hlen) hsz (by simp [rV]) (lv_room (by rw [rV_cats]; exact h7)) hdg ⟨h5, h6⟩
  exact xgo hA hS hw hr kk kx
theorem cok_IN {j maxL n : Nat} {y : MethodName} {host : String} {bytes : ByteArray} {rm : Room} {rel : xR}
    (hC : xCx p s m args c D tc own cc nL A0) (hNs : xNs s) (hZ : xZ A0 s s.heap) (hy : y.name = "<init>")
    (hwd : Cond.code y bytes maxL none ∈ gW ∧ Cond.initialized y.cls ∈ gW ∧ Cond.methodLinkNest own j y host ∈ xB ∧ Cond.instanceMethod y ∈ gW)
    (hd : y.cls ≠ "java/lang/invoke/MethodHandle" ∧ y.cls ≠ "java/lang/invoke/VarHandle" ∧ (parseMethodDescriptor y.desc).map (fun d => d.parameters.length) = some n) (hR : rm.frames + 1 ≤ R.frames ∧ 8 + (maxL + 11) + rm.locals ≤ R.locals)
    (hM : ∀ avs w o w1, rel avs w o w1 → w.1 ≤ w1.1 ∧ xCT l D tc y (.code y bytes maxL none :: gW) rm avs w o w1) :
    xCOK p l e R s m args below meth c D tc cc nL N0 ρ0 A0 Q (.invokespecial j) (n + 1) rm.cells rm.slots (xIR rel) := by
  obtain ⟨hx, hb, hml, hown, hts, hK, hA⟩ := hC
  obtain ⟨w1', w2', w3', w4'⟩ := hwd
  intro ρ H locs ls pc w w1 kc ks avs r o hS hsz hdg hlen hrel h5 h6 h7 kk kx
  obtain ⟨⟨a, as, rfl⟩, hrel⟩ := hrel
  obtain ⟨hw, hct⟩ := hM _ _ _ _ hrel
  have hr := vx_runIN (l := l) (e := e) (R := R) (below := below) (meth := meth) (H := H) (locs := locs) (cells := kc) (slots := ks) (As := as.map (rV ρ)) (rest := r.map (rV ρ)) (b := ρ a) (g := F0 m pc ls ((((Value.ref a :: as).reverse ++ r).map (rV ρ)))) ⟨hx, hb, hml, hown, hts⟩ (hct ρ H.size)
    ⟨xCN (R := R) hts hNs w1' w2' w3' hd hR, hy, hts _ w4'⟩ ⟨xPc_blind, fun U hU hW => xPc_at (avs := .ref a :: as) hK hA hNs hZ hS hU hW⟩ rfl (by simpa using hlen) hsz (by simp [rV]) (lv_room (by rw [rV_cats]; exact h7)) hdg ⟨h5, h6⟩
  exact xgo hA hS hw hr kk kx
def xOI : xR := fun avs w o w1 => (∃ a, avs = [.ref a]) ∧ o = .inl none ∧ w1 = w
theorem cok_OI {j : Nat} (hC : xCx p s m args c D tc own cc nL A0) (hwd : Cond.methodLink own j objectInit ∈ gW ∧ Cond.instanceMethod objectInit ∈ gW ∧ Cond.code objectInit ⟨#[0xb1]⟩ 1 none ∈ gW) (hR : 1 ≤ R.frames ∧ 20 ≤ R.locals) :
    xCOK p l e R s m args below meth c D tc cc nL N0 ρ0 A0 Q (.invokespecial j) 1 0 0 xOI := by
  obtain ⟨hx, hb, hml, hown, hts, hK, hA⟩ := hC
  intro ρ H locs ls pc w w1 kc ks avs r o hS hsz hdg hlen hrel h5 h6 h7 kk kx
  obtain ⟨⟨a, rfl⟩, rfl, rfl⟩ := hrel
  refine W.objInit hx hb hown (hts _ hwd.1) (hts _ hwd.2.1) (hts _ hwd.2.2) rfl (by rw [hml]; exact hsz) (a := ρ a) (rest := r.map (rV ρ)) rfl hdg hR.1 ?_ ?_
  · have := lv_room (ls := ls) (m := m) (pc := pc) (rest := ([Value.ref a].reverse ++ r).map (rV ρ)) (st := r.map (rV ρ)) (by rw [rV_cats]; exact h7)
    omega
  · exact kk ρ H locs none rfl (fun _ _ => rfl) hS
end XC2
