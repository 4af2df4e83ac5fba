/-! a call in a world with one more place (the array that takes the answers), which the callee doesn't know -/
theorem xws_pre {ρ : Nat → Nat} {tc : Nat → ClassId} {c : Nat → xC} {x : xC} {k : Nat} {q : Nat × va_E} (h : (xws ρ tc (151, c))[k]? = some q) : k < 151 ∧ (xws ρ tc (152, va_up c 151 x))[k]? = some q := by
  obtain ⟨h1, rfl⟩ := xws_of h
  have h2 : k < 151 := h1
  refine ⟨h2, ?_⟩
  rw [xws_get (w := (152, va_up c 151 x)) (by show k < 152; omega)]
  show some (ρ k, rC ρ tc (va_up c 151 x k)) = some (ρ k, rC ρ tc (c k))
  rw [va_up_ne c x (by omega)]
def xFr (rel : xR) : xR := fun avs w o w1 => ∃ (c c1 : Nat → xC) (F : Nat → Int64), w = (152, va_up c 151 (.inl (1, 1, .inr (.inl F)))) ∧ w1 = (152, va_up c1 151 (.inl (1, 1, .inr (.inl F)))) ∧ rel avs (151, c) o (151, c1)
section XF
variable {p : Program} {l : Launch} {e : Env} {R : Room} {s : State} {m : MethodId} {args : Array Value} {below : List Frame} {meth : Method} {c : Code} {Q : State → Prop}
variable {D : va_G} {tc : Nat → ClassId} {own : String} {cc : ByteArray} {nL N0 : Nat} {ρ0 : Nat → Nat} {A0 : Nat → Prop}
theorem xSt_pre {ρ : Nat → Nat} {c0 : Nat → xC} {x : xC} {H : Heap} {locs : List Loc} (h : xSt s D tc N0 ρ0 A0 ρ (152, va_up c0 151 x) H locs) : xSt s D tc 0 ρ A0 ρ (151, c0) H locs := by
  obtain ⟨s1, s2, s3, s4, s5⟩ := h
  exact ⟨fun _ _ => rfl, Nat.zero_le _, fun k q h => s3 k q (xws_pre h).2, ⟨fun i j p q h1 h2 h3 => s4.1 i j p q (xws_pre h1).2 (xws_pre h2).2 h3, fun k q h => s4.2 k q (xws_pre h).2⟩, s5⟩
theorem xSt_app {ρ : Nat → Nat} {c0 c1 : Nat → xC} {F : Nat → Int64} {H H1 : Heap} {locs locs1 : List Loc} (hA : ∀ q, s.heap.size ≤ q → A0 q) (h : xSt s D tc N0 ρ0 A0 ρ (152, va_up c0 151 (.inl (1, 1, .inr (.inl F)))) H locs)
    (hk : ∀ q : Nat, q < H.size → ¬ va_A (xws ρ tc (151, c0)) H.size q → H1[q]? = H[q]?) (hP : va_P D vwCl (xws ρ tc (151, c1)) H1) (hD : va_D (va_A (xws ρ tc (151, c0)) H.size) (xws ρ tc (151, c1))) (hS : va_S A0 s.heap H1 locs1) :
    xSt s D tc N0 ρ0 A0 ρ (152, va_up c1 151 (.inl (1, 1, .inr (.inl F)))) H1 locs1 := by
  have hP0 := xSt_pre h
  have hsub := xA_sub (ρ' := ρ) hP0.2.2.2.1 hP0.2.2.2.2 hA
  obtain ⟨s1, s2, s3, s4, s5⟩ := h
  have h151 : (xws ρ tc (152, va_up c0 151 (.inl (1, 1, .inr (.inl F)))))[151]? = some (ρ 151, rC ρ tc (.inl (1, 1, .inr (.inl F)))) := by
    rw [xws_get (w := (152, va_up c0 151 (.inl (1, 1, .inr (.inl F))))) (by show 151 < 152; omega)]
    show some (ρ 151, rC ρ tc (va_up c0 151 (.inl (1, 1, .inr (.inl F))) 151)) = _
    rw [va_up_self]
  have hlt : ρ 151 < H.size := va_at.lt (s3 _ _ h151)
  have hout : ¬ va_A (xws ρ tc (151, c0)) H.size (ρ 151) := by
    rintro (⟨k, e9, h9⟩ | h9)
    · obtain ⟨g1, g2⟩ := xws_pre (x := .inl (1, 1, .inr (.inl F))) h9
      have := s4.1 k 151 _ _ g2 h151 rfl
      omega
    · exact absurd hlt (Nat.not_lt.mpr h9)
  have hcase : ∀ (k : Nat) (q : Nat × va_E), (xws ρ tc (152, va_up c1 151 (.inl (1, 1, .inr (.inl F)))))[k]? = some q → (k < 151 ∧ (xws ρ tc (151, c1))[k]? = some q) ∨ (k = 151 ∧ q = (ρ 151, rC ρ tc (.inl (1, 1, .inr (.inl F))))) := by
    intro k q hq
    obtain ⟨g1, rfl⟩ := xws_of hq
    have g2 : k < 152 := g1
    by_cases hk9 : k = 151
    · subst hk9
      refine Or.inr ⟨rfl, ?_⟩
      show (ρ 151, rC ρ tc (va_up c1 151 (.inl (1, 1, .inr (.inl F))) 151)) = _
      rw [va_up_self]
    · have g3 : k < 151 := by omega
      refine Or.inl ⟨g3, ?_⟩
      rw [xws_get (w := (151, c1)) g3]
      show some (ρ k, rC ρ tc (c1 k)) = some (ρ k, rC ρ tc (va_up c1 151 (.inl (1, 1, .inr (.inl F))) k))
      rw [va_up_ne c1 _ hk9]
  refine ⟨s1, s2, fun k q hq => ?_, ⟨fun i j p q h1 h2 h3 => ?_, fun k q hq => ?_⟩, hS⟩
  · rcases hcase k q hq with ⟨g1, g2⟩ | ⟨rfl, rfl⟩
    · exact hP k q g2
    · exact va_at.kept (s3 _ _ h151) (hk _ hlt hout)
  · rcases hcase i p h1 with ⟨g1, g2⟩ | ⟨rfl, rfl⟩
    · rcases hcase j q h2 with ⟨g3, g4⟩ | ⟨rfl, rfl⟩
      · exact hD.1 i j p q g2 g4 h3
      · exact absurd (by rw [show ρ 151 = p.1 from h3.symm]; exact hD.2 i p g2) hout
    · rcases hcase j q h2 with ⟨g3, g4⟩ | ⟨rfl, rfl⟩
      · exact absurd (by rw [show ρ 151 = q.1 from h3]; exact hD.2 j q g4) hout
      · rfl
  · rcases hcase k q hq with ⟨g1, g2⟩ | ⟨rfl, rfl⟩
    · exact hsub _ (hD.2 k q g2)
    · exact s4.2 151 _ h151
theorem xgoF {ρ : Nat → Nat} {c0 c1 : Nat → xC} {F : Nat → Int64} {H : Heap} {locs : List Loc} {ls : Array Slot} {pc kc ks mc ms : Nat} {r st0 : List Value} {o : xO} {a : Array Value}
    (hA : ∀ q, s.heap.size ≤ q → A0 q) (hS : xSt s D tc N0 ρ0 A0 ρ (152, va_up c0 151 (.inl (1, 1, .inr (.inl F)))) H locs)
    (hr : vx_Run p l e R s m args below meth c H locs kc ks mc ms (F0 m pc ls st0) (r.map (rV ρ)) (xQc D tc ρ (151, c0) H.size o (151, c1) a) (xXc D tc ρ (151, c0) H.size o (151, c1)) (va_A (xws ρ tc (151, c0)) H.size))
    (kk : ∀ (ρ' : Nat → Nat) (H1 : Heap) (locs1 : List Loc) (v : Option Value), o = .inl v → (∀ i, i < 152 → ρ' i = ρ i) → xSt s D tc N0 ρ0 A0 ρ' (152, va_up c1 151 (.inl (1, 1, .inr (.inl F)))) H1 locs1 → W p l e R s m args below meth c H1 locs1 (kc + mc) (ks + ms) Q (F0 m (pc + 3) ls ((v.toList ++ []).map (rV ρ') ++ r.map (rV ρ))))
    (kx : ∀ (ρ' : Nat → Nat) (H1 : Heap) (locs1 : List Loc) (E : String) (ce : Cell) (q9 : Nat), o = .inr E → xSt s D tc N0 ρ0 A0 ρ' (152, va_up c1 151 (.inl (1, 1, .inr (.inl F)))) H1 locs1 → H1[q9]? = some ce → ce.vm = .none → s.vm.findClass E = some ce.cls → vx_W p l e R s m args below meth c H1 locs1 (kc + mc) (ks + ms) Q (F0 m pc ls (r.map (rV ρ))) q9) :
    W p l e R s m args below meth c H locs kc ks Q (F0 m pc ls st0) := by
  have hP0 := xSt_pre hS
  have hsub := xA_sub (ρ' := ρ) hP0.2.2.2.1 hP0.2.2.2.2 hA
  intro T hT X
  rcases hr T hT X with ⟨v, st₀, t, T', L, h0, X', hL, e1, e2, ⟨⟨v1, ρ', ho, hv, hx, hP, hD⟩, hF⟩, st⟩ | ⟨q, st₀, t, T', L, E, ce, h0, X', hL, e1, e2, ⟨⟨ρ', ho, hx, hP, hD⟩, hF⟩, hce, hcv, hcl, st⟩
  · have hρ : ρ' = ρ := funext fun i => hx i (Nat.lt_or_ge i 151)
    subst hρ
    obtain ⟨k1, k2, k3⟩ := vx_keep h0 e1 hS.2.2.2.2 (fun q _ h => hsub q h) hsub hL hF
    have hv2 : v = v1.map (rV ρ') := by cases hv; rfl
    subst hv2
    obtain ⟨t2, a1, b1⟩ := kk ρ' T'.heap (locs ++ L) v1 ho (fun _ _ => rfl) (xSt_app hA hS k2 (by rw [e1]; exact hP) hD k3) T' rfl X'
    refine ⟨t2, st t2 ?_, b1⟩
    cases v1 with
    | none => exact a1
    | some v2 => exact a1
  · have hρ : ρ' = ρ := funext fun i => hx i (Nat.lt_or_ge i 151)
    subst hρ
    obtain ⟨k1, k2, k3⟩ := vx_keep h0 e1 hS.2.2.2.2 (fun q _ h => hsub q h) hsub hL hF
    obtain ⟨t2, a1, b1⟩ := kx ρ' T'.heap (locs ++ L) E ce q ho (xSt_app hA hS k2 (by rw [e1]; exact hP) hD k3) (by rw [e1]; exact hce) hcv hcl T' rfl X'
    exact ⟨t2, st.trans a1, b1⟩
theorem cok_VF {j maxL n ci : Nat} {q : vw_C} {y : MethodName} {bytes : ByteArray} {ret : Option FieldType} {rm : Room} {rel : xR}
    (hC : xCx p s m args c D tc own cc nL A0) (hNs : xNs s) (hZ : xZ A0 s s.heap) (hq : vwCl[ci]? = some q) (hyc : y.cls = q.1)
    (hwd : Cond.code y bytes maxL ret ∈ gW ∧ Cond.initialized y.cls ∈ gW ∧ Cond.methodLink own j y ∈ gW ∧ Cond.instanceMethod y ∈ gW ∧ Cond.selects y.cls y y ∈ gW)
    (hd : y.cls ≠ "java/lang/invoke/MethodHandle" ∧ y.cls ≠ "java/lang/invoke/VarHandle" ∧ (parseMethodDescriptor y.desc).map (fun d => d.parameters.length) = some n) (hR : rm.frames + 1 ≤ R.frames ∧ 8 + (maxL + 11) + rm.locals ≤ R.locals)
    (hM : ∀ avs w o w1, rel avs w o w1 → w.1 ≤ w1.1 ∧ xCT l D tc y (.code y bytes maxL ret :: gW) rm avs w o w1) :
    xCOK p l e R s m args below meth c D tc cc nL N0 ρ0 A0 Q (.invokevirtual j) (n + 1) rm.cells rm.slots (xVR ci (xFr rel)) := by
  obtain ⟨hx, hb, hml, hown, hts, hK, hA⟩ := hC
  obtain ⟨w1', w2', w3', w4', w5'⟩ := hwd
  intro ρ H locs ls pc w w1 kc ks avs r o hS hsz hdg hlen hrel h5 h6 h7 kk kx
  obtain ⟨⟨a, as, fs, rfl, ha, hwa⟩, c0, c1, F, rfl, rfl, hrel⟩ := hrel
  obtain ⟨hw, hct⟩ := hM _ _ _ _ hrel
  have hg := xws_get (ρ := ρ) (tc := tc) ha
  rw [hwa] at hg
  have hs5 := hts _ w5'
  rw [hyc] at hs5
  have hr := vx_runV (l := l) (e := e) (R := R) (below := below) (meth := meth) (locs := locs) (cells := kc) (slots := ks) (As := as.map (rV ρ)) (rest := r.map (rV ρ)) (b := ρ a) (g := F0 m pc ls ((((Value.ref a :: as).reverse ++ r).map (rV ρ)))) (C := q.1) ⟨hx, hb, hml, hown, hts⟩ (hct ρ H.size)
    ⟨xCB (R := R) hts w1' w2' w3' hd hR, hts _ w4', hs5⟩ ⟨xPc_blind, va_recv hK hS.2.2.1 hq hg, fun U hU hW => xPc_at hK hA hNs hZ (xSt_pre hS) hU hW⟩ rfl (by simpa using hlen) hsz (by simp [rV]) (lv_room (by rw [rV_cats]; exact h7)) hdg ⟨h5, h6⟩
  exact xgoF hA hS hr kk kx
end XF
