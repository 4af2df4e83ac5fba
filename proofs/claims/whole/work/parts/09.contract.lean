def xStr : List (String × Nat × String) := [("BarForger", 106, "the bar has 8 parts, or the part is not longer"), ("BarForger", 120, "no such part, or the last one"), ("BarForger", 126, "the parts cannot be welded"), ("BarForger", 131, "the only part"), ("BarForger", 143, "no way of at most 60 blows"), ("BarForger", 164, "there are 8 steps"), ("BarForger", 171, "no such step"), ("BarForger", 176, "a negative index"), ("BarForger", 218, "the text has 90 bytes"), ("BarForger", 233, "no saved state"), ("BarForger", 252, "no such part"), ("BarForger", 256, "an argument is out of range"), ("BarForger", 81, "one of the blows is not possible")]
def xNs (U : State) : Prop := (∀ w ∈ xB, va_Nw w U) ∧ va_AO "BarForger$State" U ∧ ∀ q ∈ xStr, ∃ a, vk_R q.1 q.2.1 q.2.2 a U
def xZ (A : Nat → Prop) (U : State) (H : Heap) : Prop := vx_Zq Bundle.tN "UNASSIGNED_STACK" Bundle.steD A U H ∧ vx_Zq Bundle.tN "SUPPRESSED_SENTINEL" Bundle.listD A U H
theorem xB_warm {s U : State} (hW : s.WarmedH U.vm) {w : Cond} (hw : w ∈ xB) (h : va_Nw w s) : va_Nw w U := by
  have hk := (List.mem_filter.mp hw).2
  cases w <;> first | (cases hk; done) | skip
  · exact va_Nw.warmM hW h
  · exact va_Nw.warmD hW h
  · exact va_Nw.warmC hW h
theorem xNs.warm {s U : State} (hW : s.WarmedH U.vm) (h : xNs s) : xNs U :=
  ⟨fun w hw => xB_warm hW hw (h.1 w hw), va_AO.moved hW.alike h.2.1, fun q hq => by
    obtain ⟨a, ha⟩ := h.2.2 q hq
    exact ⟨a, vk_R.warm hW ha⟩⟩
def xPc (D : va_G) (tc : Nat → ClassId) (ρ : Nat → Nat) (avs : List Value) (w : xw) (sz : Nat) : Array Value → State → Prop :=
  va_Pc (avs.map (rV ρ)) (fun U => U.heap.size = sz ∧ va_P D vwCl (xws ρ tc w) U.heap ∧ va_K D vwCl (tysx tc) U ∧ va_D (fun _ => True) (xws ρ tc w) ∧ xNs U ∧ xZ (va_A (xws ρ tc w) sz) U U.heap)
def xWo (D : va_G) (tc : Nat → ClassId) (ρ : Nat → Nat) (w : xw) (sz : Nat) (w1 : xw) (ρ' : Nat → Nat) (H : Heap) : Prop :=
  (∀ i, (i < w.1 ∨ w1.1 ≤ i) → ρ' i = ρ i) ∧ va_P D vwCl (xws ρ' tc w1) H ∧ va_D (va_A (xws ρ tc w) sz) (xws ρ' tc w1)
def xQc (D : va_G) (tc : Nat → ClassId) (ρ : Nat → Nat) (w : xw) (sz : Nat) (o : xO) (w1 : xw) : Array Value → State → Outcome → State → Prop :=
  fun _ st oc t => (∃ (v : Option Value) (ρ' : Nat → Nat), o = .inl v ∧ oc = .returned (v.map (rV ρ')) ∧ xWo D tc ρ w sz w1 ρ' t.heap) ∧ va_F (va_A (xws ρ tc w) sz) st t
def xXc (D : va_G) (tc : Nat → ClassId) (ρ : Nat → Nat) (w : xw) (sz : Nat) (o : xO) (w1 : xw) : String → State → State → Prop :=
  fun E st t => (∃ ρ' : Nat → Nat, o = .inr E ∧ xWo D tc ρ w sz w1 ρ' t.heap) ∧ va_F (va_A (xws ρ tc w) sz) st t
def xCT (l : Launch) (D : va_G) (tc : Nat → ClassId) (y : MethodName) (ws : List Cond) (rm : Room) : xR := fun avs w o w1 =>
  ∀ (ρ : Nat → Nat) (sz : Nat), vx_Met l y ws rm (xPc D tc ρ avs w sz) (xQc D tc ρ w sz o w1) (xXc D tc ρ w sz o w1) rm.cells rm.slots (va_A (xws ρ tc w) sz)
theorem xPc_blind {D : va_G} {tc : Nat → ClassId} {ρ : Nat → Nat} {avs : List Value} {w : xw} {sz : Nat} : FrameBlind (xPc D tc ρ avs w sz) := by
  intro a U g mk h
  obtain ⟨h1, h2, h3, h4, h5, h6, h7⟩ := h
  have hvm : (U.calling g mk a).vm = U.vm := rfl
  have hal : U.vm.Alike (U.calling g mk a).vm := Vm.Alike.refl U.vm
  refine ⟨h1, h2, h3, va_K.moved hal h4, h5, ⟨fun w hw => ?_, va_AO.moved hal h6.2.1, fun q hq => ?_⟩, ?_⟩
  · refine va_Nw.same (u := U) ?_ rfl (h6.1 w hw)
    have hk := (List.mem_filter.mp hw).2
    cases w <;> first | (cases hk; done) | rfl
  · obtain ⟨a1, ha1⟩ := h6.2.2 q hq
    exact ⟨a1, vk_R.same hvm ha1⟩
  · exact ⟨vx_Zq.moved hal h7.1, vx_Zq.moved hal h7.2⟩
theorem xA_sub {ρ ρ' : Nat → Nat} {tc : Nat → ClassId} {w : xw} {A0 : Nat → Prop} {H0 H : Heap} {locs : List Loc} (hD : va_D A0 (xws ρ tc w)) (hS : va_S A0 H0 H locs) (hA : ∀ q, H0.size ≤ q → A0 q) : ∀ q, va_A (xws ρ tc w) H.size q → A0 q := by
  intro q h
  rcases h with ⟨k, e, h⟩ | h
  · exact hD.2 k _ h
  · exact hA q (Nat.le_trans hS.1 h)
section XC1
variable {p : Program} {l : Launch} {e : Env} {R : Room} {s : State} {m : MethodId} {args : Array Value} {below : List Frame} {meth : Method} {c : Code} {Q : State → Prop}
variable {D : va_G} {tc : Nat → ClassId} {own : String} {cc : ByteArray} {nL N0 : Nat} {ρ0 : Nat → Nat} {A0 : Nat → Prop}
/-- what a callee finds -/
theorem xPc_at {ρ : Nat → Nat} {avs : List Value} {w : xw} {H : Heap} {locs : List Loc} {U : State} (hK : va_K D vwCl (tysx tc) s) (hA : ∀ q, s.heap.size ≤ q → A0 q) (hNs : xNs s) (hZ : xZ A0 s s.heap) (hS : xSt s D tc N0 ρ0 A0 ρ w H locs) (hU : U.heap = H) (hW : s.WarmedH U.vm) : xPc D tc ρ avs w H.size (avs.map (rV ρ)).toArray U := by
  obtain ⟨s1, s2, s3, s4, s5⟩ := hS
  have hsub := xA_sub (ρ' := ρ) s4 s5 hA
  refine ⟨rfl, by rw [hU], by rw [hU]; exact s3, va_K.moved hW.alike hK, s4.weaken (fun _ _ _ _ => trivial), hNs.warm hW, ?_⟩
  rw [hU]
  exact ⟨((vx_Zq.moved hW.alike hZ.1).kept s5.2.1).narrow hsub, ((vx_Zq.moved hW.alike hZ.2).kept s5.2.1).narrow hsub⟩
/-- behind a call -/
theorem xgo {ρ : Nat → Nat} {w w1 : xw} {H : Heap} {locs : List Loc} {ls : Array Slot} {pc kc ks mc ms : Nat} {r st0 : List Value} {o : xO} {a : Array Value}
    (hA : ∀ q, s.heap.size ≤ q → A0 q) (hS : xSt s D tc N0 ρ0 A0 ρ w H locs) (hw : w.1 ≤ w1.1)
    (hr : vx_Run p l e R s m args below meth c H locs kc ks mc ms (F0 m pc ls st0) (r.map (rV ρ)) (xQc D tc ρ w H.size o w1 a) (xXc D tc ρ w H.size o w1) (va_A (xws ρ tc w) H.size))
    (kk : ∀ (ρ' : Nat → Nat) (H1 : Heap) (locs1 : List Loc) (v : Option Value), o = .inl v → (∀ i, i < w.1 → ρ' i = ρ i) → xSt s D tc N0 ρ0 A0 ρ' w1 H1 locs1 → W p l e R s m args below meth c H1 locs1 (kc + mc) (ks + ms) Q (F0 m (pc + 3) ls ((v.toList ++ []).map (rV ρ') ++ r.map (rV ρ))))
    (kx : ∀ (ρ' : Nat → Nat) (H1 : Heap) (locs1 : List Loc) (E : String) (ce : Cell) (q9 : Nat), o = .inr E → xSt s D tc N0 ρ0 A0 ρ' w1 H1 locs1 → H1[q9]? = some ce → ce.vm = .none → s.vm.findClass E = some ce.cls → vx_W p l e R s m args below meth c H1 locs1 (kc + mc) (ks + ms) Q (F0 m pc ls (r.map (rV ρ))) q9) :
    W p l e R s m args below meth c H locs kc ks Q (F0 m pc ls st0) := by
  obtain ⟨s1, s2, s3, s4, s5⟩ := hS
  have hsub := xA_sub (ρ' := ρ) s4 s5 hA
  intro T hT X
  rcases hr T hT X with ⟨v, st₀, t, T', L, h0, X', hL, e1, e2, ⟨⟨v1, ρ', ho, hv, hx, hP, hD⟩, hF⟩, st⟩ | ⟨q, st₀, t, T', L, E, ce, h0, X', hL, e1, e2, ⟨⟨ρ', ho, hx, hP, hD⟩, hF⟩, hce, hcv, hcl, st⟩
  · obtain ⟨k1, k2, k3⟩ := vx_keep h0 e1 s5 (fun q _ h => hsub q h) hsub hL hF
    have hv2 : v = v1.map (rV ρ') := by cases hv; rfl
    subst hv2
    obtain ⟨t2, a1, b1⟩ := kk ρ' T'.heap (locs ++ L) v1 ho (fun i hi => hx i (Or.inl hi)) ⟨fun i hi => (hx i (hi.elim (fun z => Or.inl (by omega)) Or.inr)).trans (s1 i (hi.elim Or.inl (fun z => Or.inr (by omega)))), by omega, by rw [e1]; exact hP, hD.weaken (fun _ q _ h => hsub _ h), k3⟩ T' rfl X'
    refine ⟨t2, st t2 ?_, b1⟩
    cases v1 with
    | none => exact a1
    | some v2 => exact a1
  · obtain ⟨k1, k2, k3⟩ := vx_keep h0 e1 s5 (fun q _ h => hsub q h) hsub hL hF
    obtain ⟨t2, a1, b1⟩ := kx ρ' T'.heap (locs ++ L) E ce q ho ⟨fun i hi => (hx i (hi.elim (fun z => Or.inl (by omega)) Or.inr)).trans (s1 i (hi.elim Or.inl (fun z => Or.inr (by omega)))), by omega, by rw [e1]; exact hP, hD.weaken (fun _ q _ h => hsub _ h), k3⟩ (by rw [e1]; exact hce) hcv hcl T' rfl X'
    exact ⟨t2, st.trans a1, b1⟩
end XC1
