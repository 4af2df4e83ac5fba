/-- the words that every method bears: the good ones of the tables, and those of three other kinds -/
def gW : List Cond := lw_tbl.filter goodWord
def xkind (w : Cond) : Bool := match w with
  | .declares _ => true
  | .castable .. => true
  | .methodLinkNest .. => true
  | _ => false
def xB : List Cond := tables_1.filter xkind
def tysx (tc : Nat → ClassId) : List (ClassId × FieldType) := [(tc 0, .int), (tc 1, .long), (tc 2, .object "BarForger$State")]
theorem gW_in {w : Cond} (h : w ∈ tables_1) (hg : goodWord w = true) : w ∈ gW := List.mem_filter.mpr ⟨List.mem_append_right _ h, hg⟩
theorem gW_sel {y : MethodName} {n : Nat} (h : (y, n) ∈ lw_privs) (hg : goodWord (.selects y.cls y y) = true) : Cond.selects y.cls y y ∈ gW := List.mem_filter.mpr ⟨List.mem_append_left _ (List.mem_map.mpr ⟨(y, n), h, rfl⟩), hg⟩
theorem gW_good : GoodIn gW gW := fun w h => ⟨h, good_of_word (List.mem_filter.mp h).2⟩
/-- where the machine stands -/
def xSt (s : State) (D : va_G) (tc : Nat → ClassId) (N0 : Nat) (ρ0 : Nat → Nat) (A0 : Nat → Prop) (ρ : Nat → Nat) (w : xw) (H : Heap) (locs : List Loc) : Prop :=
  (∀ i, (i < N0 ∨ w.1 ≤ i) → ρ i = ρ0 i) ∧ N0 ≤ w.1 ∧ va_P D vwCl (xws ρ tc w) H ∧ va_D A0 (xws ρ tc w) ∧ va_S A0 s.heap H locs
def xCx (p : Program) (s : State) (m : MethodId) (args : Array Value) (c : Code) (D : va_G) (tc : Nat → ClassId) (own : String) (cc : ByteArray) (nL : Nat) (A0 : Nat → Prop) : Prop :=
  p.tables.exec = Jvm.exec ∧ c.code = cc ∧ c.maxLocals = nL ∧ s.vm.findClass own = some m.cls ∧ (∀ w ∈ gW, w.before args s = true) ∧ va_K D vwCl (tysx tc) s ∧ ∀ q, s.heap.size ≤ q → A0 q
section XS
variable {p : Program} {l : Launch} {e : Env} {R : Room} {s : State} {m : MethodId} {args : Array Value} {below : List Frame} {meth : Method} {c : Code} {Q : State → Prop}
variable {D : va_G} {tc : Nat → ClassId} {own : String} {cc : ByteArray} {nL N0 : Nat} {ρ0 : Nat → Nat} {A0 : Nat → Prop}
def xSem (p : Program) (l : Launch) (e : Env) (R : Room) (s : State) (m : MethodId) (args : Array Value) (below : List Frame) (meth : Method) (c : Code) (D : va_G) (tc : Nat → ClassId) (nL N0 : Nat) (ρ0 : Nat → Nat) (A0 : Nat → Prop) (Q : State → Prop) (g : xG) : Prop :=
  ∀ (ρ : Nat → Nat) (H : Heap) (locs : List Loc) (ls : Array Slot), xSt s D tc N0 ρ0 A0 ρ g.2.2.2.1 H locs → lv_has ls nL (g.2.1.map (fun q => (q.1, rV ρ q.2))) → g.2.2.2.2.1 ≤ R.cells → g.2.2.2.2.2 ≤ R.slots →
    W p l e R s m args below meth c H locs g.2.2.2.2.1 g.2.2.2.2.2 Q (F0 m g.1 ls (g.2.2.1.map (rV ρ)))
def xKok (own : String) (K : Nat → Option Value) : Prop := ∀ j v, K j = some v → (∀ x, v = .int x → Cond.constant own j x ∈ gW) ∧ (∀ x, v = .long x → Cond.constantLong own j x ∈ gW)
def xFok (own : String) (F : Nat → Option (Nat × Nat)) : Prop := ∀ j ci k, F j = some (ci, k) → ∃ q : vw_C, vwCl[ci]? = some q ∧ k < q.2.2 ∧ Cond.fieldLink own j (q.2.1 k).1 (q.2.1 k).2.1 (q.2.1 k).2.2.1 ∈ gW
def xClok : Prop := ∀ (ci : Nat) (q : vw_C), vwCl[ci]? = some q → (∀ w ∈ u_ws q.1 q.2.1 q.2.2, w ∈ gW) ∧ (∀ a, a < q.2.2 → ∀ b, b < q.2.2 → a ≠ b → (q.2.1 a).2.1 ≠ (q.2.1 b).2.1) ∧ ∃ ty : Nat → FieldType, ∀ k, k < q.2.2 → parseFieldDescriptor (q.2.1 k).2.2.1 = some (ty k)
theorem xsa_sound {K : Nat → Option Value} {i : Instr} {n : Nat} {g g' : xG} (hC : xCx p s m args c D tc own cc nL A0) (hKo : xKok own K) (hdg : decode cc g.1 = .ok (i, xlen i n)) (h : xsa K i g = some g') (k : xSem p l e R s m args below meth c D tc nL N0 ρ0 A0 Q g') : xSem p l e R s m args below meth c D tc nL N0 ρ0 A0 Q g := by
  obtain ⟨hx, hb, hml, hown, hts, hK, hA⟩ := hC
  obtain ⟨pc, lv, st, w, kc, ks⟩ := g
  intro ρ H locs ls hS hl h1 h2
  cases i
  case iload_n j =>
    simp only [xsa] at h
    split at h <;> cases h
    rename_i x hv
    exact lv_iload_n hx hb hdg rfl (xlv_has hl hv) (k ρ H locs ls hS hl h1 h2)
  case iload j =>
    simp only [xsa] at h
    split at h <;> cases h
    rename_i x hv
    exact lv_iload hx hb hdg (xlv_has hl hv) (k ρ H locs ls hS hl h1 h2)
  case aload_n j =>
    simp only [xsa] at h
    split at h
    · rename_i x hv
      cases h
      exact lv_aload_n hx hb hdg rfl (xlv_has hl hv) (k ρ H locs ls hS hl h1 h2)
    · rename_i hv
      cases h
      exact lv_aload_nN hx hb hdg rfl (xlv_has hl hv) (k ρ H locs ls hS hl h1 h2)
    · cases h
  case aload j =>
    simp only [xsa] at h
    split at h <;> cases h
    rename_i x hv
    exact lv_aload hx hb hdg (xlv_has hl hv) (k ρ H locs ls hS hl h1 h2)
  case lload_n j =>
    simp only [xsa] at h
    split at h <;> cases h
    rename_i x hv
    exact lv_lload_n hx hb hdg rfl (xlv_has hl hv) (k ρ H locs ls hS hl h1 h2)
  case lload j =>
    simp only [xsa] at h
    split at h <;> cases h
    rename_i x hv
    exact lv_lload hx hb hdg (xlv_has hl hv) (k ρ H locs ls hS hl h1 h2)
  case dload_n j =>
    simp only [xsa] at h
    split at h <;> cases h
    rename_i x hv
    exact lv_dload_n hx hb hdg rfl (xlv_has hl hv) (k ρ H locs ls hS hl h1 h2)
  case dload j =>
    simp only [xsa] at h
    split at h <;> cases h
    rename_i x hv
    exact lv_dload hx hb hdg (xlv_has hl hv) (k ρ H locs ls hS hl h1 h2)
  case iconst j =>
    cases h
    exact lv_iconst hx hb hdg rfl (k ρ H locs ls hS hl h1 h2)
  case bipush j =>
    cases h
    exact lv_bipush hx hb hdg rfl (k ρ H locs ls hS hl h1 h2)
  case sipush j =>
    cases h
    exact lv_sipush hx hb hdg rfl (k ρ H locs ls hS hl h1 h2)
  case lconst j =>
    cases h
    exact lv_lconst hx hb hdg rfl (k ρ H locs ls hS hl h1 h2)
  case dconst j =>
    obtain ⟨jv, hj⟩ := j
    match jv, hj with
    | 0, hj =>
      cases h
      exact lv_dconst0 hx hb hdg (k ρ H locs ls hS hl h1 h2)
    | 1, hj => cases h
  case aconst_null =>
    cases h
    exact lv_null hx hb hdg (k ρ H locs ls hS hl h1 h2)
  case ldc j =>
    simp only [xsa] at h
    split at h <;> cases h
    rename_i x hv
    exact lv_ldc hx hb hown (hts _ ((hKo j _ hv).1 x rfl)) hdg (k ρ H locs ls hS hl h1 h2)
  case ldc_w j =>
    simp only [xsa] at h
    split at h <;> cases h
    rename_i x hv
    exact lv_ldcw hx hb hown (hts _ ((hKo j _ hv).1 x rfl)) hdg (k ρ H locs ls hS hl h1 h2)
  case ldc2_w j =>
    simp only [xsa] at h
    split at h <;> cases h
    rename_i x hv
    exact lv_ldc2 hx hb hown (hts _ ((hKo j _ hv).2 x rfl)) hdg (k ρ H locs ls hS hl h1 h2)
  all_goals cases h
theorem xblt {a n : Nat} {α : Type} {x : α} {y : Option α} (h : (bif Nat.blt a n then y else none) = some x) : a < n ∧ y = some x := by
  cases hb : Nat.blt a n with
  | true =>
    rw [hb] at h
    exact ⟨Nat.blt_eq.mp hb, h⟩
  | false =>
    rw [hb] at h
    cases h
theorem xsb_sound {i : Instr} {n : Nat} {g g' : xG} (hC : xCx p s m args c D tc own cc nL A0) (hdg : decode cc g.1 = .ok (i, xlen i n)) (h : xsb nL i g = some g') (k : xSem p l e R s m args below meth c D tc nL N0 ρ0 A0 Q g') : xSem p l e R s m args below meth c D tc nL N0 ρ0 A0 Q g := by
  obtain ⟨hx, hb, hml, hown, hts, hK, hA⟩ := hC
  obtain ⟨pc, lv, st, w, kc, ks⟩ := g
  intro ρ H locs ls hS hl h1 h2
  cases i
  case istore_n j =>
    simp only [xsb] at h
    split at h
    · rename_i x r
      obtain ⟨hj, h⟩ := xblt h
      cases h
      exact lv_istore_n hx hb hdg rfl hl hj (xput1_map ρ lv j.val (.int x)) (fun ls' hl' => k ρ H locs ls' hS hl' h1 h2)
    · cases h
  case istore j =>
    simp only [xsb] at h
    split at h
    · rename_i x r
      obtain ⟨hj, h⟩ := xblt h
      cases h
      exact lv_istore hx hb hdg hl hj (xput1_map ρ lv j (.int x)) (fun ls' hl' => k ρ H locs ls' hS hl' h1 h2)
    · cases h
  case astore_n j =>
    simp only [xsb] at h
    split at h
    · rename_i x r
      obtain ⟨hj, h⟩ := xblt h
      cases h
      exact lv_astore_n hx hb hdg rfl hl hj (xput1_map ρ lv j.val (.ref x)) (fun ls' hl' => k ρ H locs ls' hS hl' h1 h2)
    · rename_i r
      obtain ⟨hj, h⟩ := xblt h
      cases h
      exact lv_astore_nN hx hb hdg rfl hl hj (xput1_map ρ lv j.val .null) (fun ls' hl' => k ρ H locs ls' hS hl' h1 h2)
    · cases h
  case astore j =>
    simp only [xsb] at h
    split at h
    · rename_i x r
      obtain ⟨hj, h⟩ := xblt h
      cases h
      exact lv_astore hx hb hdg hl hj (xput1_map ρ lv j (.ref x)) (fun ls' hl' => k ρ H locs ls' hS hl' h1 h2)
    · cases h
  case lstore_n j =>
    simp only [xsb] at h
    split at h
    · rename_i x r
      obtain ⟨hj, h⟩ := xblt h
      cases h
      exact lv_lstore_n hx hb hdg rfl hl hj (xput2_map ρ lv j.val (.long x)) (fun ls' hl' => k ρ H locs ls' hS hl' h1 h2)
    · cases h
  case lstore j =>
    simp only [xsb] at h
    split at h
    · rename_i x r
      obtain ⟨hj, h⟩ := xblt h
      cases h
      exact lv_lstore hx hb hdg hl hj (xput2_map ρ lv j (.long x)) (fun ls' hl' => k ρ H locs ls' hS hl' h1 h2)
    · cases h
  case dstore_n j =>
    simp only [xsb] at h
    split at h
    · rename_i x r
      obtain ⟨hj, h⟩ := xblt h
      cases h
      exact lv_dstore_n hx hb hdg rfl hl hj (xput2_map ρ lv j.val (.double x)) (fun ls' hl' => k ρ H locs ls' hS hl' h1 h2)
    · cases h
  case dstore j =>
    simp only [xsb] at h
    split at h
    · rename_i x r
      obtain ⟨hj, h⟩ := xblt h
      cases h
      exact lv_dstore hx hb hdg hl hj (xput2_map ρ lv j (.double x)) (fun ls' hl' => k ρ H locs ls' hS hl' h1 h2)
    · cases h
  case iinc j z =>
    simp only [xsb] at h
    split at h
    · rename_i x hv
      obtain ⟨hj, h⟩ := xblt h
      cases h
      obtain ⟨k0, hk0⟩ := List.getElem?_of_mem (List.mem_map.mpr ⟨(j, .int x), xlv_mem hv, rfl⟩ : (j, rV ρ (.int x)) ∈ lv.map (fun q => (q.1, rV ρ q.2)))
      exact lv_iinc hx hb hdg hl hk0 rfl hj (xput1_map ρ lv _ (.int (x + Int32.ofInt z))) (fun ls' hl' => k ρ H locs ls' hS hl' h1 h2)
    · cases h
  all_goals cases h
theorem xsc_sound {i : Instr} {n : Nat} {g g' : xG} (hC : xCx p s m args c D tc own cc nL A0) (hdg : decode cc g.1 = .ok (i, xlen i n)) (h : xsc i g = some g') (k : xSem p l e R s m args below meth c D tc nL N0 ρ0 A0 Q g') : xSem p l e R s m args below meth c D tc nL N0 ρ0 A0 Q g := by
  obtain ⟨hx, hb, hml, hown, hts, hK, hA⟩ := hC
  obtain ⟨pc, lv, st, w, kc, ks⟩ := g
  intro ρ H locs ls hS hl h1 h2
  cases i
  case iadd =>
    simp only [xsc] at h
    split at h <;> cases h
    exact lv_iadd hx hb hdg (k ρ H locs ls hS hl h1 h2)
  case isub =>
    simp only [xsc] at h
    split at h <;> cases h
    exact lv_isub hx hb hdg (k ρ H locs ls hS hl h1 h2)
  case imul =>
    simp only [xsc] at h
    split at h <;> cases h
    exact lv_imul hx hb hdg (k ρ H locs ls hS hl h1 h2)
  case iand =>
    simp only [xsc] at h
    split at h <;> cases h
    exact lv_iand hx hb hdg (k ρ H locs ls hS hl h1 h2)
  case ineg =>
    simp only [xsc] at h
    split at h <;> cases h
    exact lv_ineg hx hb hdg (k ρ H locs ls hS hl h1 h2)
  case ladd =>
    simp only [xsc] at h
    split at h <;> cases h
    exact lv_ladd hx hb hdg (k ρ H locs ls hS hl h1 h2)
  case lmul =>
    simp only [xsc] at h
    split at h <;> cases h
    exact lv_lmul hx hb hdg (k ρ H locs ls hS hl h1 h2)
  case lcmp =>
    simp only [xsc] at h
    split at h <;> cases h
    exact W.lcmp hx hb hdg (k ρ H locs ls hS hl h1 h2)
  case i2l =>
    simp only [xsc] at h
    split at h <;> cases h
    exact lv_i2l hx hb hdg rfl (k ρ H locs ls hS hl h1 h2)
  case i2d =>
    simp only [xsc] at h
    split at h <;> cases h
    exact lv_i2d hx hb hdg (k ρ H locs ls hS hl h1 h2)
  case dcmp op =>
    simp only [xsc] at h
    split at h <;> cases h
    exact lv_dcmp hx hb hdg (k ρ H locs ls hS hl h1 h2)
  case dup =>
    simp only [xsc] at h
    split at h <;> cases h
    · exact lv_dup hx hb hdg rfl (k ρ H locs ls hS hl h1 h2)
    · exact lv_dup hx hb hdg rfl (k ρ H locs ls hS hl h1 h2)
  case dup2 =>
    simp only [xsc] at h
    split at h <;> cases h
    exact lv_dup2_11 hx hb hdg rfl rfl (k ρ H locs ls hS hl h1 h2)
  case pop =>
    simp only [xsc] at h
    split at h <;> cases h
    exact lv_pop hx hb hdg rfl (k ρ H locs ls hS hl h1 h2)
  case goto off =>
    simp only [xsc] at h
    split at h <;> cases h
    rename_i t ht
    exact lv_goto hx hb hdg (xtg_eq ht) (k ρ H locs ls hS hl h1 h2)
  case ifnull off =>
    simp only [xsc] at h
    split at h
    · cases h
      exact lv_ifnull hx hb hdg (k ρ H locs ls hS hl h1 h2)
    · split at h <;> cases h
      rename_i t ht
      exact lv_ifnullN hx hb hdg (xtg_eq ht) (k ρ H locs ls hS hl h1 h2)
    · cases h
  case ifnonnull off =>
    simp only [xsc] at h
    split at h
    · cases h
      exact lv_ifnonnullN hx hb hdg (k ρ H locs ls hS hl h1 h2)
    · split at h <;> cases h
      rename_i t ht
      exact lv_ifnonnull hx hb hdg (xtg_eq ht) (k ρ H locs ls hS hl h1 h2)
    · cases h
  all_goals cases h
theorem xsd_sound {F : Nat → Option (Nat × Nat)} {i : Instr} {n : Nat} {g g' : xG} (hC : xCx p s m args c D tc own cc nL A0) (hCl : xClok) (hF : xFok own F) (hdg : decode cc g.1 = .ok (i, xlen i n)) (h : xsd F i g = some g') (k : xSem p l e R s m args below meth c D tc nL N0 ρ0 A0 Q g') : xSem p l e R s m args below meth c D tc nL N0 ρ0 A0 Q g := by
  obtain ⟨hx, hb, hml, hown, hts, hK, hA⟩ := hC
  obtain ⟨pc, lv, st, w, kc, ks⟩ := g
  intro ρ H locs ls hS hl h1 h2
  cases i
  case getfield j =>
    simp only [xsd] at h
    split at h
    · rename_i a r
      split at h
      · rename_i ci kf hj
        split at h
        · rename_i cj fs hw
          cases hb1 : Nat.blt a w.1 with
          | false => rw [hb1] at h; cases h
          | true =>
            cases hb2 : Nat.beq cj ci with
            | false => rw [hb1, hb2] at h; cases h
            | true =>
              rw [hb1, hb2] at h
              have hcj := Nat.eq_of_beq_eq_true hb2
              subst hcj
              have ha := Nat.blt_eq.mp hb1
              simp only [Bool.and_self, cond_true] at h
              split at h <;> cases h
              rename_i v hv
              obtain ⟨q, hq, hkf, hw2⟩ := hF j _ _ hj
              obtain ⟨C, T, N⟩ := q
              have hg := xws_get (ρ := ρ) (tc := tc) ha
              rw [hw] at hg
              refine va_get (D := D) (C := C) (T := T) (N := N) (v := rV ρ v) hx hb hts (hCl _ _ hq).1 hown hK hS.2.2.1 a hg hq kf hkf (hts _ hw2) (fun _ h9 => h9) ?_ hdg (k ρ H locs ls hS hl h1 h2)
              rw [List.getElem?_map, hv]
              rfl
        · cases h
      · cases h
    · cases h
  case arraylength =>
    simp only [xsd] at h
    split at h
    · rename_i a r
      split at h
      · rename_i t n2 c2 hw
        cases hb1 : Nat.blt a w.1 with
        | false => rw [hb1] at h; cases h
        | true =>
          cases hb2 : Nat.blt t 3 with
          | false => rw [hb1, hb2] at h; cases h
          | true =>
            rw [hb1, hb2] at h
            have ha := Nat.blt_eq.mp hb1
            have ht := Nat.blt_eq.mp hb2
            simp only [Bool.and_self, cond_true] at h
            cases h
            have hg := xws_get (ρ := ρ) (tc := tc) ha
            rw [hw] at hg
            have hty : ∃ ty, (tysx tc)[t]? = some (tc t, ty) := by
              rcases (show t = 0 ∨ t = 1 ∨ t = 2 by omega) with rfl | rfl | rfl
              · exact ⟨_, rfl⟩
              · exact ⟨_, rfl⟩
              · exact ⟨_, rfl⟩
            obtain ⟨ty, hty⟩ := hty
            refine va_alen (D := D) hx hb hK hS.2.2.1 a t hg hty (v := Int32.ofNat n2) ?_ hdg (k ρ H locs ls hS hl h1 h2)
            rcases c2 with f | f | f | f | f <;> rfl
      · cases h
    · cases h
  all_goals cases h
end XS
