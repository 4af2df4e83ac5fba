/-! locals may be put in another order, and numbers among them forgotten -/
def nonref (v : Value) : Bool := match v with
  | .ref _ => false
  | _ => true
def xndk : List (Nat × Value) → Bool
  | [] => true
  | q :: r => !(r.any (fun z => Nat.beq z.1 q.1)) && xndk r
def xsub (lv lv' : List (Nat × Value)) : Prop := xndk lv' = true ∧ (∀ q ∈ lv', xlv lv q.1 = some q.2) ∧ ∀ q ∈ lv, q ∈ lv' ∨ nonref q.2 = true
theorem xndk_cons {q : Nat × Value} {r : List (Nat × Value)} (h : xndk (q :: r) = true) : (∀ z ∈ r, z.1 ≠ q.1) ∧ xndk r = true := by
  simp only [xndk, Bool.and_eq_true, Bool.not_eq_true'] at h
  refine ⟨fun z hz e => ?_, h.2⟩
  have h1 := h.1
  have h2 : r.any (fun z => Nat.beq z.1 q.1) = true := List.any_eq_true.mpr ⟨z, hz, by rw [e]; exact Nat.beq_refl _⟩
  rw [h1] at h2
  cases h2
theorem xlv_nd : ∀ {lv : List (Nat × Value)} (_ : xndk lv = true) {q : Nat × Value} (_ : q ∈ lv), xlv lv q.1 = some q.2
  | [], _, _, hq => by cases hq
  | z :: r, h, q, hq => by
    obtain ⟨h1, h2⟩ := xndk_cons h
    unfold xlv
    rcases List.mem_cons.mp hq with rfl | hq
    · rw [Nat.beq_refl]; rfl
    · have : Nat.beq z.1 q.1 = false := by
        cases hb : Nat.beq z.1 q.1
        · rfl
        · exact absurd (Nat.eq_of_beq_eq_true hb).symm (h1 q hq)
      rw [this]
      exact xlv_nd h2 hq
theorem xsub_lv {lv lv' : List (Nat × Value)} (h : xsub lv lv') {j : Nat} {v : Value} (hv : xlv lv' j = some v) : xlv lv j = some v := h.2.1 (j, v) (xlv_mem hv)
theorem xsub_ok {lv lv' : List (Nat × Value)} (h : xsub lv lv') {n : Nat} (hv : okL n lv' = true) : okL n lv = true := by
  apply List.all_eq_true.mpr
  intro q hq
  rcases h.2.2 q hq with h1 | h1
  · exact List.all_eq_true.mp hv q h1
  · obtain ⟨a, v⟩ := q
    cases v <;> first | rfl | cases h1
theorem xlv_filter {p : Nat × Value → Bool} : ∀ {lv : List (Nat × Value)} {j : Nat} {v : Value} (_ : xlv lv j = some v) (_ : p (j, v) = true), xlv (lv.filter p) j = some v
  | [], _, _, h, _ => by cases h
  | q :: r, j, v, h, hp => by
    unfold xlv at h
    cases hb : Nat.beq q.1 j with
    | true =>
      rw [hb] at h
      have h1 := Nat.eq_of_beq_eq_true hb
      have h2 : q.2 = v := Option.some.inj h
      have h3 : q = (j, v) := by rw [← h1, ← h2]
      rw [List.filter_cons_of_pos (by rw [h3]; exact hp)]
      unfold xlv
      rw [hb, h2]
      rfl
    | false =>
      rw [hb] at h
      by_cases hq : p q = true
      · rw [List.filter_cons_of_pos hq]
        unfold xlv
        rw [hb]
        exact xlv_filter h hp
      · rw [List.filter_cons_of_neg hq]
        exact xlv_filter h hp
theorem xndk_filter {p : Nat × Value → Bool} : ∀ {lv : List (Nat × Value)} (_ : xndk lv = true), xndk (lv.filter p) = true
  | [], _ => rfl
  | q :: r, h => by
    obtain ⟨h1, h2⟩ := xndk_cons h
    by_cases hq : p q = true
    · rw [List.filter_cons_of_pos hq]
      simp only [xndk, Bool.and_eq_true, Bool.not_eq_true']
      refine ⟨?_, xndk_filter h2⟩
      apply List.any_eq_false.mpr
      intro z hz
      intro e
      exact h1 z (List.mem_filter.mp hz).1 (Nat.eq_of_beq_eq_true e)
    · rw [List.filter_cons_of_neg hq]
      exact xndk_filter h2
theorem xsub_put {p : Nat × Value → Bool} {lv lv' : List (Nat × Value)} {i : Nat} {v : Value} (hp : ∀ u, p (i, u) = false) (h : xsub lv lv') : xsub ((i, v) :: lv.filter p) ((i, v) :: lv'.filter p) := by
  refine ⟨?_, fun q hq => ?_, fun q hq => ?_⟩
  · simp only [xndk, Bool.and_eq_true, Bool.not_eq_true']
    refine ⟨?_, xndk_filter h.1⟩
    apply List.any_eq_false.mpr
    intro z hz e
    have h1 := (List.mem_filter.mp hz).2
    have h2 : z = (i, z.2) := by rw [← Nat.eq_of_beq_eq_true e]
    rw [h2, hp] at h1
    cases h1
  · rcases List.mem_cons.mp hq with rfl | hq
    · unfold xlv
      rw [Nat.beq_refl]
      rfl
    · obtain ⟨h1, h2⟩ := List.mem_filter.mp hq
      unfold xlv
      cases hb : Nat.beq i q.1 with
      | true =>
        have h3 : q = (i, q.2) := by rw [Nat.eq_of_beq_eq_true hb]
        rw [h3, hp] at h2
        cases h2
      | false => exact xlv_filter (h.2.1 q h1) h2
  · rcases List.mem_cons.mp hq with rfl | hq
    · exact Or.inl List.mem_cons_self
    · obtain ⟨h1, h2⟩ := List.mem_filter.mp hq
      rcases h.2.2 q h1 with h3 | h3
      · exact Or.inl (List.mem_cons_of_mem _ (List.mem_filter.mpr ⟨h3, h2⟩))
      · exact Or.inr h3
theorem xsub_put1 {lv lv' : List (Nat × Value)} {i : Nat} {v : Value} (h : xsub lv lv') : xsub (xput1 lv i v) (xput1 lv' i v) := xsub_put (fun u => by simp) h
theorem xsub_put2 {lv lv' : List (Nat × Value)} {i : Nat} {v : Value} (h : xsub lv lv') : xsub (xput2 lv i v) (xput2 lv' i v) := xsub_put (fun u => by simp) h
theorem xsa_sub {K : Nat → Option Value} {i : Instr} {pc : Nat} {lv lv' : List (Nat × Value)} {st : List Value} {w : xw} {kc ks : Nat} {g' : xG} (h : xsub lv lv') (hs : xsa K i (pc, lv', st, w, kc, ks) = some g') : xsa K i (pc, lv, st, w, kc, ks) = some (g'.1, lv, g'.2.2) ∧ g'.2.1 = lv' := by
  cases i
  case dconst j =>
    obtain ⟨jv, hj⟩ := j
    match jv, hj with
    | 0, hj => cases hs; exact ⟨rfl, rfl⟩
    | 1, hj => cases hs
  case aload_n j =>
    simp only [xsa] at hs ⊢
    split at hs
    · rename_i hv
      cases hs
      rw [xsub_lv h hv]
      exact ⟨rfl, rfl⟩
    · rename_i hv
      cases hs
      rw [xsub_lv h hv]
      exact ⟨rfl, rfl⟩
    · cases hs
  all_goals first
    | (cases hs; done)
    | (cases hs; exact ⟨rfl, rfl⟩)
    | (simp only [xsa] at hs ⊢
       split at hs <;> cases hs
       rename_i hv
       first
         | (rw [xsub_lv h hv]; exact ⟨rfl, rfl⟩)
         | exact ⟨rfl, rfl⟩)
theorem xsb_sub {nL : Nat} {i : Instr} {pc : Nat} {lv lv' : List (Nat × Value)} {st : List Value} {w : xw} {kc ks : Nat} {g' : xG} (h : xsub lv lv') (hs : xsb nL i (pc, lv', st, w, kc, ks) = some g') : ∃ lv3, xsb nL i (pc, lv, st, w, kc, ks) = some (g'.1, lv3, g'.2.2) ∧ xsub lv3 g'.2.1 := by
  cases i
  case iinc j n =>
    simp only [xsb] at hs ⊢
    split at hs
    · rename_i hv
      obtain ⟨hj, hs⟩ := xblt hs
      cases hs
      rw [xsub_lv h hv, Nat.blt_eq.mpr hj]
      exact ⟨_, rfl, xsub_put1 h⟩
    · cases hs
  case astore_n j =>
    simp only [xsb] at hs ⊢
    split at hs
    · obtain ⟨hj, hs⟩ := xblt hs
      cases hs
      rw [Nat.blt_eq.mpr hj]
      exact ⟨_, rfl, xsub_put1 h⟩
    · obtain ⟨hj, hs⟩ := xblt hs
      cases hs
      rw [Nat.blt_eq.mpr hj]
      exact ⟨_, rfl, xsub_put1 h⟩
    · cases hs
  all_goals first
    | (cases hs; done)
    | (simp only [xsb] at hs ⊢
       split at hs
       · obtain ⟨hj, hs⟩ := xblt hs
         cases hs
         rw [Nat.blt_eq.mpr hj]
         first
           | exact ⟨_, rfl, xsub_put1 h⟩
           | exact ⟨_, rfl, xsub_put2 h⟩
       · cases hs)
theorem xsc_sub {i : Instr} {pc : Nat} {lv lv' : List (Nat × Value)} {st : List Value} {w : xw} {kc ks : Nat} {g' : xG} (hs : xsc i (pc, lv', st, w, kc, ks) = some g') : xsc i (pc, lv, st, w, kc, ks) = some (g'.1, lv, g'.2.2) ∧ g'.2.1 = lv' := by
  cases i <;> first
    | (cases hs; done)
    | (simp only [xsc] at hs ⊢
       repeat' split at hs
       all_goals first
         | (cases hs; done)
         | (cases hs; exact ⟨rfl, rfl⟩)
         | (cases hs
            rename_i hv
            rw [hv]
            exact ⟨rfl, rfl⟩))
theorem xsd_sub {F : Nat → Option (Nat × Nat)} {i : Instr} {pc : Nat} {lv lv' : List (Nat × Value)} {st : List Value} {w : xw} {kc ks : Nat} {g' : xG} (hs : xsd F i (pc, lv', st, w, kc, ks) = some g') : xsd F i (pc, lv, st, w, kc, ks) = some (g'.1, lv, g'.2.2) ∧ g'.2.1 = lv' := by
  cases i <;> first
    | (cases hs; done)
    | skip
  case getfield j =>
    simp only [xsd] at hs ⊢
    split at hs
    · rename_i a r
      split at hs
      · rename_i ci kf hj
        split at hs
        · rename_i cj fs hw
          cases hb : (Nat.blt a w.1 && Nat.beq cj ci) with
          | false => rw [hb] at hs; cases hs
          | true =>
            rw [hb] at hs
            dsimp only [cond_true] at hs ⊢
            split at hs
            · rename_i v hv
              cases hs
              exact ⟨rfl, rfl⟩
            · cases hs
        · cases hs
      · cases hs
    · cases hs
  case arraylength =>
    simp only [xsd] at hs ⊢
    split at hs
    · rename_i a r
      split at hs
      · rename_i t n c hw
        cases hb : (Nat.blt a w.1 && Nat.blt t 3) with
        | false => rw [hb] at hs; cases hs
        | true =>
          rw [hb] at hs
          cases hs
          exact ⟨rfl, rfl⟩
      · cases hs
    · cases hs
theorem xsa_no {K : Nat → Option Value} {F : Nat → Option (Nat × Nat)} {i : Instr} {g g2 g' : xG} {nL : Nat} (h : xsd F i g = some g' ∨ xsc i g = some g' ∨ xsb nL i g = some g') : xsa K i g2 = none := by
  cases i <;> first
    | rfl
    | (rcases h with h | h | h <;> cases h)
theorem xsd_no {F : Nat → Option (Nat × Nat)} {i : Instr} {g g2 g' : xG} {nL : Nat} (h : xsc i g = some g' ∨ xsb nL i g = some g') : xsd F i g2 = none := by
  cases i <;> first
    | rfl
    | (rcases h with h | h <;> cases h)
theorem xsc_no {i : Instr} {g g2 g' : xG} {nL : Nat} (h : xsb nL i g = some g') : xsc i g2 = none := by
  cases i <;> first
    | rfl
    | cases h
theorem xst_sub {M : xM} {i : Instr} {pc : Nat} {lv lv' : List (Nat × Value)} {st : List Value} {w : xw} {kc ks : Nat} {g' : xG} (h : xsub lv lv') (hs : xst M i (pc, lv', st, w, kc, ks) = some g') : ∃ lv3, xst M i (pc, lv, st, w, kc, ks) = some (g'.1, lv3, g'.2.2) ∧ xsub lv3 g'.2.1 := by
  unfold xst xpick at hs ⊢
  split at hs
  · rename_i g2 hg
    cases hs
    obtain ⟨h1, h2⟩ := xsa_sub h hg
    rw [h1]
    exact ⟨lv, rfl, by rw [h2]; exact h⟩
  · split at hs
    · rename_i g2 hg
      cases hs
      obtain ⟨h1, h2⟩ := xsd_sub (lv := lv) hg
      rw [xsa_no (nL := M.1) (Or.inl hg), h1]
      exact ⟨lv, rfl, by rw [h2]; exact h⟩
    · split at hs
      · rename_i g2 hg
        cases hs
        obtain ⟨h1, h2⟩ := xsc_sub (lv := lv) hg
        rw [xsa_no (F := M.2.2.1) (nL := M.1) (Or.inr (Or.inl hg)), xsd_no (nL := M.1) (Or.inl hg), h1]
        exact ⟨lv, rfl, by rw [h2]; exact h⟩
      · obtain ⟨lv3, h1, h2⟩ := xsb_sub h hs
        rw [xsa_no (F := M.2.2.1) (Or.inr (Or.inr hs)), xsd_no (Or.inr hs), xsc_no hs]
        exact ⟨lv3, h1, h2⟩
def xgsub (g g' : xG) : Prop := g.1 = g'.1 ∧ xsub g.2.1 g'.2.1 ∧ g.2.2 = g'.2.2
theorem xcal_sub {HD : Nat → String → Option Int32} {Rc Rs : Nat} {Po : xO → xw → Prop} {P Q : xG → Prop} (hPQ : ∀ (pc : Nat) (lv lv' : List (Nat × Value)) (x : List Value × xw × Nat × Nat), xsub lv lv' → P (pc, lv', x) → Q (pc, lv, x)) {pc : Nat} {lv lv' : List (Nat × Value)} {st : List Value} {w : xw} {kc ks : Nat} {C : Option (Nat × Nat × Nat × xR)} (h : xsub lv lv') (k : xcal HD Rc Rs Po P pc lv' st w kc ks C) : xcal HD Rc Rs Po Q pc lv st w kc ks C := by
  obtain ⟨argc, mc, ms, rel, avs, r, o, w1, h1, h2, h3, h4, h5, h6, h7, h8, h9, h10⟩ := k
  refine ⟨argc, mc, ms, rel, avs, r, o, w1, h1, h2, h3, h4, h5, h6, h7, xsub_ok h h8, h9, ?_⟩
  cases o with
  | inl v => exact hPQ _ _ _ _ h h10
  | inr E => exact h10
theorem xbr_sub {P Q : xG → Prop} (hPQ : ∀ (pc : Nat) (lv lv' : List (Nat × Value)) (x : List Value × xw × Nat × Nat), xsub lv lv' → P (pc, lv', x) → Q (pc, lv, x)) {pc : Nat} {off : Int} {lv lv' : List (Nat × Value)} {r : List Value} {w : xw} {kc ks : Nat} {a b : Prop} (h : xsub lv lv') (k : xbr P pc off lv' r w kc ks a b) : xbr Q pc off lv r w kc ks a b := by
  obtain ⟨t, h1, h2, h3⟩ := k
  exact ⟨t, h1, fun z => hPQ _ _ _ _ h (h2 z), fun z => hPQ _ _ _ _ h (h3 z)⟩
theorem xnd_sub {K : Nat → Option Value} {F : Nat → Option (Nat × Nat)} {NW : Nat → Option (Nat × List Value)} {TH : Nat → Option String} {HD : Nat → String → Option Int32} {C : Nat → Option (Nat × Nat × Nat × xR)} {Rc Rs : Nat} {Po : xO → xw → Prop} {P Q : xG → Prop} (hPQ : ∀ (pc : Nat) (lv lv' : List (Nat × Value)) (x : List Value × xw × Nat × Nat), xsub lv lv' → P (pc, lv', x) → Q (pc, lv, x)) {i : Instr} {pc : Nat} {lv lv' : List (Nat × Value)} {st : List Value} {w : xw} {kc ks : Nat} (h : xsub lv lv') (k : xnd K F NW TH HD C Rc Rs Po P i (pc, lv', st, w, kc, ks)) : xnd K F NW TH HD C Rc Rs Po Q i (pc, lv, st, w, kc, ks) := by
  have hq : ∀ {pc1 : Nat} {x : List Value × xw × Nat × Nat}, P (pc1, lv', x) → Q (pc1, lv, x) := fun hp => hPQ _ _ _ _ h hp
  cases i
  case invokestatic => exact xcal_sub hPQ h k
  case invokevirtual => exact xcal_sub hPQ h k
  case invokespecial => exact xcal_sub hPQ h k
  all_goals first
    | exact k
    | (simp only [xnd] at k ⊢
       repeat' split at k
       all_goals first
         | exact k
         | exact xbr_sub hPQ h k
         | exact hq k
         | exact ⟨k.1, hq k.2⟩
         | (obtain ⟨n, f, h1, h2, h3⟩ := k; exact ⟨n, f, h1, h2, hq h3⟩)
         | (obtain ⟨n, f, vs, h1, h2, h3, h4, h5⟩ := k; exact ⟨n, f, vs, h1, h2, h3, h4, hq h5⟩)
         | (obtain ⟨n, f, vs, h1, h2, h3, h4, h5, h6⟩ := k; exact ⟨n, f, vs, h1, h2, h3, h4, h5, hq h6⟩)
         | (obtain ⟨h1, t, h2, h3⟩ := k; exact ⟨h1, t, h2, hq h3⟩)
         | (obtain ⟨h1, h2⟩ := k
            refine ⟨fun z => ?_, fun z1 z2 => ?_⟩
            · obtain ⟨t, a1, a2⟩ := h1 z
              exact ⟨t, a1, hq a2⟩
            · obtain ⟨off, t, a1, a2, a3⟩ := h2 z1 z2
              exact ⟨off, t, a1, a2, hq a3⟩)
         | (obtain ⟨N, h1, h2, h3, h4, h5, h6, h7, h8, h9⟩ := k; exact ⟨N, h1, h2, h3, h4, h5, h6, xsub_ok h h7, h8, hq h9⟩)
         | (obtain ⟨N, h1, h2, h3, h4, h5, h6, h7, h8, h9⟩ := k; exact h9.elim)
         | (obtain ⟨N, h1, h2, h3, h4, h5, h6, h7, h8, h9, h10⟩ := k; exact ⟨N, h1, h2, h3, h4, h5, h6, h7, xsub_ok h h8, h9, hq h10⟩)
         | (obtain ⟨ci, fs, h1, h0, h2, h3, h4, h5, h6, h7⟩ := k; exact ⟨ci, fs, h1, h0, h2, h3, h4, xsub_ok h h5, h6, hq h7⟩))
theorem xRun_sub {M : xM} {Po : xO → xw → Prop} {g g' : xG} (hg : xgsub g g') (k : xRun M Po g') : xRun M Po g := by
  refine k (fun g' => ∀ g, xgsub g g' → xRun M Po g) (fun g' hs g hg => ?_) g hg
  obtain ⟨pc, lv, x⟩ := g
  obtain ⟨pc', lv', st, w, kc, ks⟩ := g'
  obtain ⟨h1, h2, h3⟩ := hg
  dsimp only at h1 h2 h3
  subst h1
  subst h3
  refine xRun.step ?_
  unfold xstep at hs ⊢
  dsimp only at hs ⊢
  split at hs
  · exact hs.elim
  · rename_i i hi
    split at hs
    · rename_i g2 hg2
      obtain ⟨lv3, q1, q2⟩ := xst_sub h2 hg2
      rw [q1]
      exact hs (g2.1, lv3, g2.2.2) ⟨rfl, q2, rfl⟩
    · rename_i hn
      cases hx : xst M i (pc, lv, st, w, kc, ks) with
      | none => exact xnd_sub (fun pc lv lv' x q1 q2 => q2 (pc, lv, x) ⟨rfl, q1, rfl⟩) h2 hs
      | some g3 =>
        exfalso
        have hz : xnd M.2.2.2.1 M.2.2.1 M.2.2.2.2.1 M.2.2.2.2.2.1 M.2.2.2.2.2.2.1 M.2.2.2.2.2.2.2.1 M.2.2.2.2.2.2.2.2.1 M.2.2.2.2.2.2.2.2.2 Po (fun g' => ∀ g, xgsub g g' → xRun M Po g) i (pc, lv', st, w, kc, ks) := hs
        unfold xst xpick at hx
        cases i <;> first
          | exact hz
          | (cases hx; done)
/-- locals in another order, or fewer -/
theorem R_lv {M : xM} {Po : xO → xw → Prop} {pc : Nat} {lv : List (Nat × Value)} {x : List Value × xw × Nat × Nat} (lv' : List (Nat × Value)) (h1 : xndk lv' = true) (h2 : ∀ q ∈ lv', xlv lv q.1 = some q.2) (h3 : xndk lv = true ∧ lv.all (fun q => lv'.any (fun z => Nat.beq z.1 q.1) || nonref q.2) = true) (k : xRun M Po (pc, lv', x)) : xRun M Po (pc, lv, x) := by
  refine xRun_sub (g := (pc, lv, x)) (g' := (pc, lv', x)) ⟨rfl, ⟨h1, h2, fun q hq => ?_⟩, rfl⟩ k
  have h4 := List.all_eq_true.mp h3.2 q hq
  rcases Bool.or_eq_true_iff.mp h4 with h5 | h5
  · obtain ⟨z, hz, he⟩ := List.any_eq_true.mp h5
    have e1 := Nat.eq_of_beq_eq_true he
    have e2 := h2 z hz
    rw [e1, xlv_nd h3.1 hq] at e2
    have e3 : q = z := by
      obtain ⟨a, b⟩ := q
      obtain ⟨c, d⟩ := z
      dsimp only at e1 e2
      rw [e1, Option.some.inj e2]
    rw [e3]
    exact Or.inl hz
  · exact Or.inr h5
