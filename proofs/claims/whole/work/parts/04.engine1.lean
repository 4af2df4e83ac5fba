/-! A small machine of numbers: places instead of addresses. Its runs are runs of the real one (the next part). -/
abbrev xC : Type := (Nat × vp_A) ⊕ (Nat × List Value)
abbrev xw : Type := Nat × (Nat → xC)
abbrev xO : Type := Option Value ⊕ String
abbrev xR : Type := List Value → xw → xO → xw → Prop
abbrev xG : Type := Nat × List (Nat × Value) × List Value × xw × Nat × Nat
abbrev xM : Type := Nat × List (Nat × Instr) × (Nat → Option (Nat × Nat)) × (Nat → Option Value) × (Nat → Option (Nat × List Value)) × (Nat → Option String) × (Nat → String → Option Int32) × (Nat → Option (Nat × Nat × Nat × xR)) × Nat × Nat
def rV (ρ : Nat → Nat) (v : Value) : Value := match v with
  | .ref a => .ref (ρ a)
  | v => v
def rA (ρ : Nat → Nat) (a : vp_A) : vp_A := match a with
  | (n, .inr (.inr (.inr (.inr f)))) => (n, .inr (.inr (.inr (.inr (fun j => (f j).map ρ)))))
  | a => a
def rC (ρ : Nat → Nat) (tc : Nat → ClassId) (c : xC) : va_E := match c with
  | .inl (t, a) => .inl (tc t, rA ρ a)
  | .inr (ci, fs) => .inr (ci, fs.map (rV ρ))
def xws (ρ : Nat → Nat) (tc : Nat → ClassId) (w : xw) : va_W := (List.range w.1).map (fun i => (ρ i, rC ρ tc (w.2 i)))
theorem xws_get {ρ : Nat → Nat} {tc : Nat → ClassId} {w : xw} {i : Nat} (h : i < w.1) : (xws ρ tc w)[i]? = some (ρ i, rC ρ tc (w.2 i)) := by
  simp [xws, h]
theorem xws_no {ρ : Nat → Nat} {tc : Nat → ClassId} {w : xw} {i : Nat} (h : w.1 ≤ i) : (xws ρ tc w)[i]? = none := by
  simp [xws, h]
theorem xws_of {ρ : Nat → Nat} {tc : Nat → ClassId} {w : xw} {i : Nat} {q : Nat × va_E} (h : (xws ρ tc w)[i]? = some q) : i < w.1 ∧ q = (ρ i, rC ρ tc (w.2 i)) := by
  rcases Nat.lt_or_ge i w.1 with hl | hl
  · rw [xws_get hl] at h
    exact ⟨hl, (Option.some.inj h).symm⟩
  · rw [xws_no hl] at h
    cases h
theorem xws_set {ρ : Nat → Nat} {tc : Nat → ClassId} {w : xw} {i : Nat} {c : xC} (h : i < w.1) : (xws ρ tc w).set i (ρ i, rC ρ tc c) = xws ρ tc (w.1, va_up w.2 i c) := by
  apply List.ext_getElem?
  intro j
  rcases Nat.lt_or_ge j w.1 with hj | hj
  · rw [xws_get (w := (w.1, va_up w.2 i c)) hj]
    by_cases hij : i = j
    · subst hij
      rw [List.getElem?_set_self (by simp [xws, h])]
      simp [va_up]
    · rw [List.getElem?_set_ne hij, xws_get hj]
      simp [va_up, Ne.symm hij]
  · rw [xws_no (w := (w.1, va_up w.2 i c)) hj]
    apply List.getElem?_eq_none
    simp [xws, hj]
/-- references below n -/
def okV (n : Nat) (v : Value) : Bool := match v with
  | .ref a => Nat.blt a n
  | _ => true
def okS (n : Nat) (st : List Value) : Bool := st.all (okV n)
def okL (n : Nat) (lv : List (Nat × Value)) : Bool := lv.all (fun q => okV n q.2)
def okC (n : Nat) (c : xC) : Prop := match c with
  | .inl (_, (_, .inr (.inr (.inr (.inr f))))) => ∀ j a, f j = some a → a < n
  | .inl _ => True
  | .inr (_, fs) => okS n fs = true
def xok (w : xw) : Prop := ∀ i, i < w.1 → okC w.1 (w.2 i)
theorem rV_ext {ρ ρ' : Nat → Nat} {n : Nat} (h : ∀ i, i < n → ρ' i = ρ i) {v : Value} (hv : okV n v = true) : rV ρ' v = rV ρ v := by
  cases v with
  | ref a =>
    simp only [okV, Nat.blt_eq] at hv
    simp only [rV, h a hv]
  | _ => rfl
theorem rS_ext {ρ ρ' : Nat → Nat} {n : Nat} (h : ∀ i, i < n → ρ' i = ρ i) {st : List Value} (hv : okS n st = true) : st.map (rV ρ') = st.map (rV ρ) := by
  apply List.map_congr_left
  intro v hm
  exact rV_ext h (List.all_eq_true.mp hv v hm)
theorem rL_ext {ρ ρ' : Nat → Nat} {n : Nat} (h : ∀ i, i < n → ρ' i = ρ i) {lv : List (Nat × Value)} (hv : okL n lv = true) : lv.map (fun q => (q.1, rV ρ' q.2)) = lv.map (fun q => (q.1, rV ρ q.2)) := by
  apply List.map_congr_left
  intro q hm
  rw [rV_ext h (List.all_eq_true.mp hv q hm)]
theorem rC_ext {ρ ρ' : Nat → Nat} {tc : Nat → ClassId} {n : Nat} (h : ∀ i, i < n → ρ' i = ρ i) {c : xC} (hc : okC n c) : rC ρ' tc c = rC ρ tc c := by
  rcases c with ⟨t, k, a⟩ | ⟨ci, fs⟩
  · rcases a with f | f | f | f | f
    · rfl
    · rfl
    · rfl
    · rfl
    · simp only [okC] at hc
      simp only [rC, rA]
      have e : (fun j => Option.map ρ' (f j)) = fun j => Option.map ρ (f j) := by
        funext j
        cases hf : f j with
        | none => rfl
        | some a => simp [h a (hc j a hf)]
      rw [e]
  · simp only [rC]
    rw [rS_ext h hc]
theorem xws_push {ρ : Nat → Nat} {tc : Nat → ClassId} {w : xw} {q : Nat} {c : xC} (hw : xok w) (hc : okC w.1 c) : xws ρ tc w ++ [(q, rC ρ tc c)] = xws (va_up ρ w.1 q) tc (w.1 + 1, va_up w.2 w.1 c) := by
  have hx : ∀ i, i < w.1 → va_up ρ w.1 q i = ρ i := fun i hi => va_up_ne ρ q (by omega)
  apply List.ext_getElem?
  intro j
  have hlen : (xws ρ tc w).length = w.1 := by simp [xws]
  rcases Nat.lt_trichotomy j w.1 with hj | hj | hj
  · rw [List.getElem?_append_left (by omega), xws_get hj, xws_get (w := (w.1 + 1, va_up w.2 w.1 c)) (by show j < w.1 + 1; omega), hx j hj]
    show some (ρ j, rC ρ tc (w.2 j)) = some (ρ j, rC (va_up ρ w.1 q) tc (va_up w.2 w.1 c j))
    rw [va_up_ne w.2 c (by omega), rC_ext hx (hw j hj)]
  · subst hj
    rw [List.getElem?_append_right (by omega), xws_get (w := (w.1 + 1, va_up w.2 w.1 c)) (by show w.1 < w.1 + 1; omega), hlen, Nat.sub_self]
    show some (q, rC ρ tc c) = some (va_up ρ w.1 q w.1, rC (va_up ρ w.1 q) tc (va_up w.2 w.1 c w.1))
    rw [va_up_self, va_up_self, rC_ext hx hc]
  · rw [xws_no (w := (w.1 + 1, va_up w.2 w.1 c)) (by show w.1 + 1 ≤ j; omega)]
    apply List.getElem?_eq_none
    simp [hlen]
    omega
theorem okV_mono {n n' : Nat} (h : n ≤ n') {v : Value} (hv : okV n v = true) : okV n' v = true := by
  cases v with
  | ref a =>
    simp only [okV, Nat.blt_eq] at hv ⊢
    omega
  | _ => rfl
theorem okS_mono {n n' : Nat} (h : n ≤ n') {st : List Value} (hv : okS n st = true) : okS n' st = true :=
  List.all_eq_true.mpr fun v hm => okV_mono h (List.all_eq_true.mp hv v hm)
theorem okC_mono {n n' : Nat} (h : n ≤ n') {c : xC} (hc : okC n c) : okC n' c := by
  rcases c with ⟨t, k, a⟩ | ⟨ci, fs⟩
  · rcases a with f | f | f | f | f
    · trivial
    · trivial
    · trivial
    · trivial
    · exact fun j a hf => Nat.lt_of_lt_of_le (hc j a hf) h
  · exact okS_mono h hc
theorem xok_set {w : xw} {i : Nat} {c : xC} (hw : xok w) (hc : okC w.1 c) : xok (w.1, va_up w.2 i c) := by
  intro j hj
  by_cases h : j = i
  · subst h
    show okC w.1 (va_up w.2 j c j)
    rw [va_up_self]
    exact hc
  · show okC w.1 (va_up w.2 i c j)
    rw [va_up_ne w.2 c h]
    exact hw j hj
theorem xok_push {w : xw} {c : xC} (hw : xok w) (hc : okC (w.1 + 1) c) : xok (w.1 + 1, va_up w.2 w.1 c) := by
  intro j hj
  by_cases h : j = w.1
  · subst h
    show okC (w.1 + 1) (va_up w.2 w.1 c w.1)
    rw [va_up_self]
    exact hc
  · show okC (w.1 + 1) (va_up w.2 w.1 c j)
    rw [va_up_ne w.2 c h]
    exact okC_mono (by omega) (hw j (by have : j < w.1 + 1 := hj; omega))
/-! the steps -/
def xlk : List (Nat × Instr) → Nat → Option Instr
  | [], _ => none
  | q :: r, pc => bif Nat.beq q.1 pc then some q.2 else xlk r pc
def xlv : List (Nat × Value) → Nat → Option Value
  | [], _ => none
  | q :: r, i => bif Nat.beq q.1 i then some q.2 else xlv r i
def xput1 (lv : List (Nat × Value)) (i : Nat) (v : Value) : List (Nat × Value) := (i, v) :: lv.filter (fun q => !(q.1 == i) && !(q.1 + 1 == i && q.2.category == 2))
def xput2 (lv : List (Nat × Value)) (i : Nat) (v : Value) : List (Nat × Value) := (i, v) :: lv.filter (fun q => !(q.1 == i) && (!(q.1 == i + 1) && !(q.1 + 1 == i && q.2.category == 2)))
def xtg (pc : Nat) (off : Int) : Option Nat := match (pc : Int) + off with
  | .ofNat t => some t
  | .negSucc _ => none
theorem xtg_eq {pc t : Nat} {off : Int} (h : xtg pc off = some t) : (pc : Int) + off = (t : Int) := by
  unfold xtg at h
  split at h
  · rename_i u hu
    cases h
    exact hu
  · cases h
theorem xlk_mem : ∀ {T : List (Nat × Instr)} {pc : Nat} {i : Instr}, xlk T pc = some i → (pc, i) ∈ T
  | [], _, _, h => by cases h
  | q :: r, pc, i, h => by
    unfold xlk at h
    cases hb : Nat.beq q.1 pc with
    | true =>
      rw [hb] at h
      have h1 := Nat.eq_of_beq_eq_true hb
      have h2 : q.2 = i := Option.some.inj h
      rw [← h1, ← h2]
      exact List.mem_cons_self
    | false =>
      rw [hb] at h
      exact List.mem_cons_of_mem _ (xlk_mem h)
theorem xlv_mem : ∀ {lv : List (Nat × Value)} {i : Nat} {v : Value}, xlv lv i = some v → (i, v) ∈ lv
  | [], _, _, h => by cases h
  | q :: r, i, v, h => by
    unfold xlv at h
    cases hb : Nat.beq q.1 i with
    | true =>
      rw [hb] at h
      have h1 := Nat.eq_of_beq_eq_true hb
      have h2 : q.2 = v := Option.some.inj h
      rw [← h1, ← h2]
      exact List.mem_cons_self
    | false =>
      rw [hb] at h
      exact List.mem_cons_of_mem _ (xlv_mem h)
theorem xlv_has {ls : Array Slot} {nL : Nat} {lv : List (Nat × Value)} {ρ : Nat → Nat} (h : lv_has ls nL (lv.map (fun q => (q.1, rV ρ q.2)))) {i : Nat} {v : Value} (hv : xlv lv i = some v) : ls[i]? = some (.val (rV ρ v)) :=
  h.2.2 (i, rV ρ v) (List.mem_map.mpr ⟨(i, v), xlv_mem hv, rfl⟩)
theorem rV_cat (ρ : Nat → Nat) (v : Value) : (rV ρ v).category = v.category := by cases v <;> rfl
theorem xput1_map (ρ : Nat → Nat) (lv : List (Nat × Value)) (i : Nat) (v : Value) : (i, rV ρ v) :: (lv.map (fun q => (q.1, rV ρ q.2))).filter (fun q => !(q.1 == i) && !(q.1 + 1 == i && q.2.category == 2)) = (xput1 lv i v).map (fun q => (q.1, rV ρ q.2)) := by
  simp only [xput1, List.map_cons, List.filter_map]
  congr 2
  apply List.filter_congr
  intro q _
  simp only [Function.comp, rV_cat]
theorem xput2_map (ρ : Nat → Nat) (lv : List (Nat × Value)) (i : Nat) (v : Value) : (i, rV ρ v) :: (lv.map (fun q => (q.1, rV ρ q.2))).filter (fun q => !(q.1 == i) && (!(q.1 == i + 1) && !(q.1 + 1 == i && q.2.category == 2))) = (xput2 lv i v).map (fun q => (q.1, rV ρ q.2)) := by
  simp only [xput2, List.map_cons, List.filter_map]
  congr 2
  apply List.filter_congr
  intro q _
  simp only [Function.comp, rV_cat]
def xlen (i : Instr) (n : Nat) : Nat := match i with
  | .tableswitch .. => n
  | .lookupswitch .. => n
  | .bipush _ => 2
  | .sipush _ => 3
  | .ldc _ => 2
  | .ldc_w _ => 3
  | .ldc2_w _ => 3
  | .iload _ => 2
  | .aload _ => 2
  | .lload _ => 2
  | .dload _ => 2
  | .istore _ => 2
  | .astore _ => 2
  | .lstore _ => 2
  | .dstore _ => 2
  | .iinc .. => 3
  | .ifCond .. => 3
  | .if_icmp .. => 3
  | .ifnull _ => 3
  | .ifnonnull _ => 3
  | .goto _ => 3
  | .getfield _ => 3
  | .putfield _ => 3
  | .invokestatic _ => 3
  | .invokevirtual _ => 3
  | .invokespecial _ => 3
  | .new _ => 3
  | .newarray _ => 2
  | .anewarray _ => 3
  | _ => 1
/-- loads and constants -/
def xsa (K : Nat → Option Value) (i : Instr) (g : xG) : Option xG := match g with
  | (pc, lv, st, w, kc, ks) => match i with
    | .iload_n j => match xlv lv j.val with
      | some (.int x) => some (pc + 1, lv, .int x :: st, w, kc, ks)
      | _ => none
    | .iload j => match xlv lv j with
      | some (.int x) => some (pc + 2, lv, .int x :: st, w, kc, ks)
      | _ => none
    | .aload_n j => match xlv lv j.val with
      | some (.ref x) => some (pc + 1, lv, .ref x :: st, w, kc, ks)
      | some .null => some (pc + 1, lv, .null :: st, w, kc, ks)
      | _ => none
    | .aload j => match xlv lv j with
      | some (.ref x) => some (pc + 2, lv, .ref x :: st, w, kc, ks)
      | _ => none
    | .lload_n j => match xlv lv j.val with
      | some (.long x) => some (pc + 1, lv, .long x :: st, w, kc, ks)
      | _ => none
    | .lload j => match xlv lv j with
      | some (.long x) => some (pc + 2, lv, .long x :: st, w, kc, ks)
      | _ => none
    | .dload_n j => match xlv lv j.val with
      | some (.double x) => some (pc + 1, lv, .double x :: st, w, kc, ks)
      | _ => none
    | .dload j => match xlv lv j with
      | some (.double x) => some (pc + 2, lv, .double x :: st, w, kc, ks)
      | _ => none
    | .iconst n => some (pc + 1, lv, .int (Int32.ofInt n) :: st, w, kc, ks)
    | .bipush n => some (pc + 2, lv, .int (Int8.ofInt n).toInt32 :: st, w, kc, ks)
    | .sipush n => some (pc + 3, lv, .int (Int16.ofInt n).toInt32 :: st, w, kc, ks)
    | .lconst n => some (pc + 1, lv, .long (Int64.ofNat n.val) :: st, w, kc, ks)
    | .dconst n => match n.val with
      | 0 => some (pc + 1, lv, .double FP.dconst0 :: st, w, kc, ks)
      | _ => none
    | .aconst_null => some (pc + 1, lv, .null :: st, w, kc, ks)
    | .ldc j => match K j with
      | some (.int x) => some (pc + 2, lv, .int x :: st, w, kc, ks)
      | _ => none
    | .ldc_w j => match K j with
      | some (.int x) => some (pc + 3, lv, .int x :: st, w, kc, ks)
      | _ => none
    | .ldc2_w j => match K j with
      | some (.long x) => some (pc + 3, lv, .long x :: st, w, kc, ks)
      | _ => none
    | _ => none
/-- stores -/
def xsb (nL : Nat) (i : Instr) (g : xG) : Option xG := match g with
  | (pc, lv, st, w, kc, ks) => match i with
    | .istore_n j => match st with
      | .int x :: r => bif Nat.blt j.val nL then some (pc + 1, xput1 lv j.val (.int x), r, w, kc, ks) else none
      | _ => none
    | .istore j => match st with
      | .int x :: r => bif Nat.blt j nL then some (pc + 2, xput1 lv j (.int x), r, w, kc, ks) else none
      | _ => none
    | .astore_n j => match st with
      | .ref x :: r => bif Nat.blt j.val nL then some (pc + 1, xput1 lv j.val (.ref x), r, w, kc, ks) else none
      | .null :: r => bif Nat.blt j.val nL then some (pc + 1, xput1 lv j.val .null, r, w, kc, ks) else none
      | _ => none
    | .astore j => match st with
      | .ref x :: r => bif Nat.blt j nL then some (pc + 2, xput1 lv j (.ref x), r, w, kc, ks) else none
      | _ => none
    | .lstore_n j => match st with
      | .long x :: r => bif Nat.blt (j.val + 1) nL then some (pc + 1, xput2 lv j.val (.long x), r, w, kc, ks) else none
      | _ => none
    | .lstore j => match st with
      | .long x :: r => bif Nat.blt (j + 1) nL then some (pc + 2, xput2 lv j (.long x), r, w, kc, ks) else none
      | _ => none
    | .dstore_n j => match st with
      | .double x :: r => bif Nat.blt (j.val + 1) nL then some (pc + 1, xput2 lv j.val (.double x), r, w, kc, ks) else none
      | _ => none
    | .dstore j => match st with
      | .double x :: r => bif Nat.blt (j + 1) nL then some (pc + 2, xput2 lv j (.double x), r, w, kc, ks) else none
      | _ => none
    | .iinc j n => match xlv lv j with
      | some (.int x) => bif Nat.blt j nL then some (pc + 3, xput1 lv j (.int (x + Int32.ofInt n)), st, w, kc, ks) else none
      | _ => none
    | _ => none
/-- arithmetic, the stack -/
def xsc (i : Instr) (g : xG) : Option xG := match g with
  | (pc, lv, st, w, kc, ks) => match i with
    | .iadd => match st with
      | .int y :: .int x :: r => some (pc + 1, lv, .int (x + y) :: r, w, kc, ks)
      | _ => none
    | .isub => match st with
      | .int y :: .int x :: r => some (pc + 1, lv, .int (x - y) :: r, w, kc, ks)
      | _ => none
    | .imul => match st with
      | .int y :: .int x :: r => some (pc + 1, lv, .int (x * y) :: r, w, kc, ks)
      | _ => none
    | .iand => match st with
      | .int y :: .int x :: r => some (pc + 1, lv, .int (x &&& y) :: r, w, kc, ks)
      | _ => none
    | .ineg => match st with
      | .int x :: r => some (pc + 1, lv, .int (-x) :: r, w, kc, ks)
      | _ => none
    | .ladd => match st with
      | .long y :: .long x :: r => some (pc + 1, lv, .long (x + y) :: r, w, kc, ks)
      | _ => none
    | .lmul => match st with
      | .long y :: .long x :: r => some (pc + 1, lv, .long (x * y) :: r, w, kc, ks)
      | _ => none
    | .lcmp => match st with
      | .long y :: .long x :: r => some (pc + 1, lv, .int (lg_cmp x y) :: r, w, kc, ks)
      | _ => none
    | .i2l => match st with
      | .int x :: r => some (pc + 1, lv, .long x.toInt64 :: r, w, kc, ks)
      | _ => none
    | .i2d => match st with
      | .int x :: r => some (pc + 1, lv, .double (FP.i2d x) :: r, w, kc, ks)
      | _ => none
    | .dcmp op => match st with
      | .double y :: .double x :: r => some (pc + 1, lv, .int (Op.cmpValue (FP.dcmp x y) op) :: r, w, kc, ks)
      | _ => none
    | .dup => match st with
      | .int x :: r => some (pc + 1, lv, .int x :: .int x :: r, w, kc, ks)
      | .ref x :: r => some (pc + 1, lv, .ref x :: .ref x :: r, w, kc, ks)
      | _ => none
    | .dup2 => match st with
      | .int y :: .ref x :: r => some (pc + 1, lv, .int y :: .ref x :: .int y :: .ref x :: r, w, kc, ks)
      | _ => none
    | .pop => match st with
      | .int _ :: r => some (pc + 1, lv, r, w, kc, ks)
      | _ => none
    | .goto off => match xtg pc off with
      | some t => some (t, lv, st, w, kc, ks)
      | none => none
    | .ifnull off => match st with
      | .ref _ :: r => some (pc + 3, lv, r, w, kc, ks)
      | .null :: r => match xtg pc off with
        | some t => some (t, lv, r, w, kc, ks)
        | none => none
      | _ => none
    | .ifnonnull off => match st with
      | .null :: r => some (pc + 3, lv, r, w, kc, ks)
      | .ref _ :: r => match xtg pc off with
        | some t => some (t, lv, r, w, kc, ks)
        | none => none
      | _ => none
    | _ => none
/-- what is read of the cells -/
def xsd (F : Nat → Option (Nat × Nat)) (i : Instr) (g : xG) : Option xG := match g with
  | (pc, lv, st, w, kc, ks) => match i with
    | .getfield j => match st with
      | .ref a :: r => match F j with
        | some (ci, k) => match w.2 a with
          | .inr (cj, fs) => bif Nat.blt a w.1 && Nat.beq cj ci then (match fs[k]? with
            | some v => some (pc + 3, lv, v :: r, w, kc, ks)
            | none => none) else none
          | _ => none
        | none => none
      | _ => none
    | .arraylength => match st with
      | .ref a :: r => match w.2 a with
        | .inl (t, n, _) => bif Nat.blt a w.1 && Nat.blt t 3 then some (pc + 1, lv, .int (Int32.ofNat n) :: r, w, kc, ks) else none
        | _ => none
      | _ => none
    | _ => none
