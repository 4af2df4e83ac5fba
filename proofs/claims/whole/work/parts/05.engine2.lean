/-- the rest: branches, checks, stores into cells, new cells, calls, ends -/
def xbr (P : xG → Prop) (pc : Nat) (off : Int) (lv : List (Nat × Value)) (r : List Value) (w : xw) (kc ks : Nat) (a b : Prop) : Prop :=
  ∃ t : Nat, xtg pc off = some t ∧ (a → P (t, lv, r, w, kc, ks)) ∧ (b → P (pc + 3, lv, r, w, kc, ks))
def xfits (ty : FieldType) (v : Value) : Bool := match ty, v with
  | .int, .int _ => true
  | .long, .long _ => true
  | .object _, .ref _ => true
  | .array _, .ref _ => true
  | _, _ => false
def xarr (w : xw) (a t n : Nat) (c : (Nat → Int32) ⊕ (Nat → Int64) ⊕ (Nat → UInt32) ⊕ (Nat → UInt64) ⊕ (Nat → Option Nat)) : Prop := a < w.1 ∧ w.2 a = .inl (t, n, c)
def xcal (HD : Nat → String → Option Int32) (Rc Rs : Nat) (Po : xO → xw → Prop) (P : xG → Prop) (pc : Nat) (lv : List (Nat × Value)) (st : List Value) (w : xw) (kc ks : Nat) (C : Option (Nat × Nat × Nat × xR)) : Prop :=
  ∃ (argc mc ms : Nat) (rel : xR) (avs r : List Value) (o : xO) (w1 : xw), C = some (argc, mc, ms, rel) ∧ st = avs.reverse ++ r ∧ avs.length = argc ∧ rel avs w o w1 ∧ kc + mc ≤ Rc ∧ ks + ms ≤ Rs ∧ (r.map (fun v => v.category)).sum ≤ 8 ∧ okL w.1 lv = true ∧ okS w.1 r = true ∧
    (match o with
      | .inl v => P (pc + 3, lv, v.toList ++ r, w1, kc + mc, ks + ms)
      | .inr E => match HD pc E with
        | none => Po (.inr E) w1
        | some j => Po (.inl (some (.int j))) w1)
def xnd (K : Nat → Option Value) (F : Nat → Option (Nat × Nat)) (NW : Nat → Option (Nat × List Value)) (TH : Nat → Option String) (HD : Nat → String → Option Int32) (C : Nat → Option (Nat × Nat × Nat × xR)) (Rc Rs : Nat) (Po : xO → xw → Prop) (P : xG → Prop) (i : Instr) (g : xG) : Prop := match g with
  | (pc, lv, st, w, kc, ks) => match i with
    | .ifCond op off => match st with
      | .int x :: r => (match op with
        | .eq => xbr P pc off lv r w kc ks (x = 0) (¬ x = 0)
        | .ne => xbr P pc off lv r w kc ks (¬ x = 0) (x = 0)
        | .lt => xbr P pc off lv r w kc ks (x < 0) (¬ x < 0)
        | .ge => xbr P pc off lv r w kc ks (0 ≤ x) (¬ 0 ≤ x)
        | .gt => xbr P pc off lv r w kc ks (0 < x) (¬ 0 < x)
        | .le => xbr P pc off lv r w kc ks (x ≤ 0) (¬ x ≤ 0))
      | _ => False
    | .if_icmp op off => match st with
      | .int y :: .int x :: r => (match op with
        | .eq => xbr P pc off lv r w kc ks (x = y) (¬ x = y)
        | .ne => xbr P pc off lv r w kc ks (¬ x = y) (x = y)
        | .lt => xbr P pc off lv r w kc ks (x < y) (¬ x < y)
        | .ge => xbr P pc off lv r w kc ks (y ≤ x) (¬ y ≤ x)
        | .gt => xbr P pc off lv r w kc ks (y < x) (¬ y < x)
        | .le => xbr P pc off lv r w kc ks (x ≤ y) (¬ x ≤ y))
      | _ => False
    | .idiv => match st with
      | .int y :: .int x :: r => ¬ y = 0 ∧ P (pc + 1, lv, .int (x / y) :: r, w, kc, ks)
      | _ => False
    | .irem => match st with
      | .int y :: .int x :: r => ¬ y = 0 ∧ P (pc + 1, lv, .int (x - x / y * y) :: r, w, kc, ks)
      | _ => False
    | .ddiv => match st with
      | .double y :: .double x :: r => vf_n64 (FP.ddiv x y) ∧ P (pc + 1, lv, .double (FP.ddiv x y) :: r, w, kc, ks)
      | _ => False
    | .iaload => match st with
      | .int j :: .ref a :: r => ∃ (n : Nat) (f : Nat → Int32), xarr w a 0 n (.inl f) ∧ vp_in j n ∧ P (pc + 1, lv, .int (f j.toNatClampNeg) :: r, w, kc, ks)
      | _ => False
    | .laload => match st with
      | .int j :: .ref a :: r => ∃ (n : Nat) (f : Nat → Int64), xarr w a 1 n (.inr (.inl f)) ∧ vp_in j n ∧ P (pc + 1, lv, .long (f j.toNatClampNeg) :: r, w, kc, ks)
      | _ => False
    | .aaload => match st with
      | .int j :: .ref a :: r => ∃ (n : Nat) (f : Nat → Option Nat), xarr w a 2 n (.inr (.inr (.inr (.inr f)))) ∧ vp_in j n ∧ P (pc + 1, lv, va_rf (f j.toNatClampNeg) :: r, w, kc, ks)
      | _ => False
    | .iastore => match st with
      | .int x :: .int j :: .ref a :: r => ∃ (n : Nat) (f : Nat → Int32), xarr w a 0 n (.inl f) ∧ vp_in j n ∧ P (pc + 1, lv, r, (w.1, va_up w.2 a (.inl (0, n, .inl (upd f j.toNatClampNeg x)))), kc, ks)
      | _ => False
    | .lastore => match st with
      | .long x :: .int j :: .ref a :: r => ∃ (n : Nat) (f : Nat → Int64), xarr w a 1 n (.inr (.inl f)) ∧ vp_in j n ∧ P (pc + 1, lv, r, (w.1, va_up w.2 a (.inl (1, n, .inr (.inl (vp_updL f j.toNatClampNeg x))))), kc, ks)
      | _ => False
    | .aastore => match st with
      | .ref v :: .int j :: .ref a :: r => ∃ (n : Nat) (f : Nat → Option Nat) (vs : List Value), xarr w a 2 n (.inr (.inr (.inr (.inr f)))) ∧ v < w.1 ∧ w.2 v = .inr (5, vs) ∧ vp_in j n ∧ P (pc + 1, lv, r, (w.1, va_up w.2 a (.inl (2, n, .inr (.inr (.inr (.inr (va_up f j.toNatClampNeg (some v)))))))), kc, ks)
      | _ => False
    | .putfield j => match st with
      | v :: .ref a :: r => ∃ (ci k : Nat) (fs : List Value), F j = some (ci, k) ∧ a < w.1 ∧ w.2 a = .inr (ci, fs) ∧ k < fs.length ∧ (∃ q, vwCl[ci]? = some q ∧ ((q.2.1 k).2.2.2 = false ∨ K 1000000 = some (.retAddr ci)) ∧ ∃ ty, parseFieldDescriptor (q.2.1 k).2.2.1 = some ty ∧ xfits ty v = true) ∧ P (pc + 3, lv, r, (w.1, va_up w.2 a (.inr (ci, fs.set k v))), kc, ks)
      | _ => False
    | .newarray ty => match st with
      | .int n :: r => ∃ N : Nat, ¬ n < 0 ∧ n.toNatClampNeg = N ∧ N ≤ 100000 ∧ kc + 1 ≤ Rc ∧ ks + N ≤ Rs ∧ xok w ∧ okL w.1 lv = true ∧ okS w.1 r = true ∧ (match ty with
        | .int => P (pc + 2, lv, .ref w.1 :: r, (w.1 + 1, va_up w.2 w.1 (.inl (0, N, .inl (fun _ => 0)))), kc + 1, ks + N)
        | .long => P (pc + 2, lv, .ref w.1 :: r, (w.1 + 1, va_up w.2 w.1 (.inl (1, N, .inr (.inl (fun _ => 0))))), kc + 1, ks + N)
        | _ => False)
      | _ => False
    | .anewarray j => match st with
      | .int n :: r => ∃ N : Nat, NW (100000 + j) = some (99, []) ∧ ¬ n < 0 ∧ n.toNatClampNeg = N ∧ N ≤ 100000 ∧ kc + 1 ≤ Rc ∧ ks + N ≤ Rs ∧ xok w ∧ okL w.1 lv = true ∧ okS w.1 r = true ∧
          P (pc + 3, lv, .ref w.1 :: r, (w.1 + 1, va_up w.2 w.1 (.inl (2, N, .inr (.inr (.inr (.inr (fun _ => none))))))), kc + 1, ks + N)
      | _ => False
    | .new j => match TH pc with
      | some E => kc + 1 ≤ Rc ∧ ks + 6 ≤ Rs ∧ (st.map (fun v => v.category)).sum ≤ 8 ∧ Po (.inr E) w
      | none => ∃ (ci : Nat) (fs : List Value), NW j = some (ci, fs) ∧ ci < 99 ∧ kc + 1 ≤ Rc ∧ ks + fs.length ≤ Rs ∧ xok w ∧ okL w.1 lv = true ∧ okS w.1 st = true ∧
          P (pc + 3, lv, .ref w.1 :: st, (w.1 + 1, va_up w.2 w.1 (.inr (ci, fs))), kc + 1, ks + fs.length)
    | .invokestatic j => xcal HD Rc Rs Po P pc lv st w kc ks (C (3 * j))
    | .invokevirtual j => xcal HD Rc Rs Po P pc lv st w kc ks (C (3 * j + 1))
    | .invokespecial j => xcal HD Rc Rs Po P pc lv st w kc ks (C (3 * j + 2))
    | .tableswitch d lo hi offs => match st with
      | .int x :: r => ((x.toInt < lo ∨ hi < x.toInt) → ∃ t : Nat, xtg pc d = some t ∧ P (t, lv, r, w, kc, ks)) ∧
          (¬ x.toInt < lo → ¬ hi < x.toInt → ∃ (off : Int) (t : Nat), offs[(x.toInt - lo).toNat]? = some off ∧ xtg pc off = some t ∧ P (t, lv, r, w, kc, ks))
      | _ => False
    | .lookupswitch d ps => match st with
      | .int x :: r => (ps.toList.zip (ps.toList.drop 1)).all (fun (a, b) => a.1 < b.1) = true ∧ ∃ (t : Nat), xtg pc (Op.lookupswitch.offset ps.toList d x.toInt) = some t ∧ P (t, lv, r, w, kc, ks)
      | _ => False
    | .ireturn => match st with
      | [.int x] => Po (.inl (some (.int x))) w
      | _ => False
    | .lreturn => match st with
      | [.long x] => Po (.inl (some (.long x))) w
      | _ => False
    | .dreturn => match st with
      | [.double x] => Po (.inl (some (.double x))) w
      | _ => False
    | .areturn => match st with
      | [.ref x] => Po (.inl (some (.ref x))) w
      | [.null] => Po (.inl (some .null)) w
      | _ => False
    | .return_ => match st with
      | [] => Po (.inl none) w
      | _ => False
    | _ => False
def xpick (a : Option xG) (b : Unit → Option xG) : Option xG := match a with
  | some g => some g
  | none => b ()
def xst (M : xM) (i : Instr) (g : xG) : Option xG := xpick (xsa M.2.2.2.1 i g) fun _ => xpick (xsd M.2.2.1 i g) fun _ => xpick (xsc i g) fun _ => xsb M.1 i g
def xstep (M : xM) (Po : xO → xw → Prop) (P : xG → Prop) (g : xG) : Prop := match xlk M.2.1 g.1 with
  | none => False
  | some i => match xst M i g with
    | some g' => P g'
    | none => xnd M.2.2.2.1 M.2.2.1 M.2.2.2.2.1 M.2.2.2.2.2.1 M.2.2.2.2.2.2.1 M.2.2.2.2.2.2.2.1 M.2.2.2.2.2.2.2.2.1 M.2.2.2.2.2.2.2.2.2 Po P i g
theorem xbr_mono {P Q : xG → Prop} (h : ∀ g, P g → Q g) {pc : Nat} {off : Int} {lv : List (Nat × Value)} {r : List Value} {w : xw} {kc ks : Nat} {a b : Prop} (k : xbr P pc off lv r w kc ks a b) : xbr Q pc off lv r w kc ks a b := by
  obtain ⟨t, h1, h2, h3⟩ := k
  exact ⟨t, h1, fun z => h _ (h2 z), fun z => h _ (h3 z)⟩
theorem xcal_mono {HD : Nat → String → Option Int32} {Rc Rs : Nat} {Po : xO → xw → Prop} {P Q : xG → Prop} (h : ∀ g, P g → Q g) {pc : Nat} {lv : List (Nat × Value)} {st : List Value} {w : xw} {kc ks : Nat} {C : Option (Nat × Nat × Nat × xR)} (k : xcal HD Rc Rs Po P pc lv st w kc ks C) : xcal HD Rc Rs Po Q pc lv st w kc ks C := by
  obtain ⟨argc, mc, ms, rel, avs, r, o, w1, h1, h2, h3, h4, h5, h6, h7, h8, h9, h10⟩ := k
  refine ⟨argc, mc, ms, rel, avs, r, o, w1, h1, h2, h3, h4, h5, h6, h7, h8, h9, ?_⟩
  cases o with
  | inl v => exact h _ h10
  | inr E => exact h10
theorem xnd_mono {K : Nat → Option Value} {F : Nat → Option (Nat × Nat)} {NW : Nat → Option (Nat × List Value)} {TH : Nat → Option String} {HD : Nat → String → Option Int32} {C : Nat → Option (Nat × Nat × Nat × xR)} {Rc Rs : Nat} {Po : xO → xw → Prop} {P Q : xG → Prop} (h : ∀ g, P g → Q g) {i : Instr} {g : xG} (k : xnd K F NW TH HD C Rc Rs Po P i g) : xnd K F NW TH HD C Rc Rs Po Q i g := by
  obtain ⟨pc, lv, st, w, kc, ks⟩ := g
  cases i
  case invokestatic => exact xcal_mono h k
  case invokevirtual => exact xcal_mono h k
  case invokespecial => exact xcal_mono h k
  all_goals first
    | exact k
    | (simp only [xnd] at k ⊢
       repeat' split at k
       all_goals first
         | exact k
         | exact xbr_mono h k
         | exact h _ k
         | exact ⟨k.1, h _ k.2⟩
         | (obtain ⟨n, f, h1, h2, h3⟩ := k; exact ⟨n, f, h1, h2, h _ h3⟩)
         | (obtain ⟨n, f, vs, h1, h2, h3, h4, h5⟩ := k; exact ⟨n, f, vs, h1, h2, h3, h4, h _ h5⟩)
         | (obtain ⟨n, f, vs, h1, h2, h3, h4, h5, h6⟩ := k; exact ⟨n, f, vs, h1, h2, h3, h4, h5, h _ h6⟩)
         | (obtain ⟨h1, t, h2, h3⟩ := k; exact ⟨h1, t, h2, h _ h3⟩)
         | (obtain ⟨h1, h2⟩ := k
            refine ⟨fun z => ?_, fun z1 z2 => ?_⟩
            · obtain ⟨t, a1, a2⟩ := h1 z
              exact ⟨t, a1, h _ a2⟩
            · obtain ⟨off, t, a1, a2, a3⟩ := h2 z1 z2
              exact ⟨off, t, a1, a2, h _ a3⟩)
         | (obtain ⟨N, h1, h2, h3, h4, h5, h6, h7, h8, h9⟩ := k; exact ⟨N, h1, h2, h3, h4, h5, h6, h7, h8, h _ h9⟩)
         | (obtain ⟨N, h1, h2, h3, h4, h5, h6, h7, h8, h9⟩ := k; exact h9.elim)
         | (obtain ⟨N, h1, h2, h3, h4, h5, h6, h7, h8, h9, h10⟩ := k; exact ⟨N, h1, h2, h3, h4, h5, h6, h7, h8, h9, h _ h10⟩)
         | (obtain ⟨ci, fs, h1, h0, h2, h3, h4, h5, h6, h7⟩ := k; exact ⟨ci, fs, h1, h0, h2, h3, h4, h5, h6, h _ h7⟩))
theorem xstep_mono {M : xM} {Po : xO → xw → Prop} {P Q : xG → Prop} (h : ∀ g, P g → Q g) {g : xG} (k : xstep M Po P g) : xstep M Po Q g := by
  unfold xstep at k ⊢
  split at k
  · exact k
  · split at k
    · exact h _ k
    · exact xnd_mono h k
/-- a run that comes to an end of the kind Po -/
def xRun (M : xM) (Po : xO → xw → Prop) (g : xG) : Prop := ∀ P : xG → Prop, (∀ g, xstep M Po P g → P g) → P g
theorem xRun.step {M : xM} {Po : xO → xw → Prop} {g : xG} (h : xstep M Po (xRun M Po) g) : xRun M Po g := fun P hP => hP g (xstep_mono (fun _ hg => hg P hP) h)
/-- a method's run from its arguments -/
def xarg : Nat → List Value → List (Nat × Value)
  | _, [] => []
  | i, v :: r => (i, v) :: xarg (i + v.category) r
def xro (ret : Option FieldType) (o : xO) : Prop := match o with
  | .inl none => ret = none
  | .inl (some (.int x)) => ret = some .int ∨ (ret = some .boolean ∧ (x = 0 ∨ x = 1))
  | .inl (some (.long _)) => ret = some .long
  | .inl (some (.double _)) => ret = some .double
  | .inl (some (.ref _)) => ∃ n, ret = some (.object n)
  | .inl (some .null) => ∃ n, ret = some (.object n)
  | .inl _ => False
  | .inr _ => True
def xEv (M : xM) (ret : Option FieldType) : xR := fun avs w o w' => (lg_sl avs).length ≤ M.1 ∧ w.1 ≤ w'.1 ∧ xro ret o ∧ xRun M (fun o1 w1 => o1 = o ∧ w1 = w') (0, xarg 0 avs, [], w, 0, 0)
