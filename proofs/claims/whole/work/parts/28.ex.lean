/-! a run to an end of a kind has an end of that kind -/
def xEx (M : xM) (Po : xO → xw → Prop) (g : xG) : Prop := ∃ o w, Po o w ∧ xRun M (fun o1 w1 => o1 = o ∧ w1 = w) g
theorem xbr_ex {M : xM} {Po : xO → xw → Prop} {pc : Nat} {off : Int} {lv : List (Nat × Value)} {r : List Value} {w : xw} {kc ks : Nat} {a b : Prop} (hab : (a ∧ ¬ b) ∨ (¬ a ∧ b)) (k : xbr (xEx M Po) pc off lv r w kc ks a b) : ∃ o w1, Po o w1 ∧ xbr (xRun M (fun o2 w2 => o2 = o ∧ w2 = w1)) pc off lv r w kc ks a b := by
  obtain ⟨t, h1, h2, h3⟩ := k
  rcases hab with ⟨ha, hb⟩ | ⟨ha, hb⟩
  · obtain ⟨o, w1, hp, hr⟩ := h2 ha
    exact ⟨o, w1, hp, t, h1, fun _ => hr, fun h => absurd h hb⟩
  · obtain ⟨o, w1, hp, hr⟩ := h3 hb
    exact ⟨o, w1, hp, t, h1, fun h => absurd h ha, fun _ => hr⟩
theorem xab1 (a : Prop) : (a ∧ ¬ ¬ a) ∨ (¬ a ∧ ¬ a) := (Classical.em a).elim (fun h => Or.inl ⟨h, fun z => z h⟩) (fun h => Or.inr ⟨h, h⟩)
theorem xab2 (a : Prop) : (¬ a ∧ ¬ a) ∨ (¬ ¬ a ∧ a) := (Classical.em a).elim (fun h => Or.inr ⟨fun z => z h, h⟩) (fun h => Or.inl ⟨h, h⟩)
theorem xcal_ex {M : xM} {HD : Nat → String → Option Int32} {Rc Rs : Nat} {Po : xO → xw → Prop} {pc : Nat} {lv : List (Nat × Value)} {st : List Value} {w : xw} {kc ks : Nat} {C : Option (Nat × Nat × Nat × xR)} (k : xcal HD Rc Rs Po (xEx M Po) pc lv st w kc ks C) : ∃ o w1, Po o w1 ∧ xcal HD Rc Rs (fun o2 w2 => o2 = o ∧ w2 = w1) (xRun M (fun o2 w2 => o2 = o ∧ w2 = w1)) pc lv st w kc ks C := by
  obtain ⟨argc, mc, ms, rel, avs, r, o, w1, h1, h2, h3, h4, h5, h6, h7, h8, h9, h10⟩ := k
  cases o with
  | inl v =>
    obtain ⟨o, w2, hp, hr⟩ := h10
    exact ⟨o, w2, hp, argc, mc, ms, rel, avs, r, .inl v, w1, h1, h2, h3, h4, h5, h6, h7, h8, h9, hr⟩
  | inr E =>
    cases hd : HD pc E with
    | none =>
      simp only [hd] at h10
      exact ⟨_, _, h10, argc, mc, ms, rel, avs, r, .inr E, w1, h1, h2, h3, h4, h5, h6, h7, h8, h9, by simp [hd]⟩
    | some j =>
      simp only [hd] at h10
      exact ⟨_, _, h10, argc, mc, ms, rel, avs, r, .inr E, w1, h1, h2, h3, h4, h5, h6, h7, h8, h9, by simp [hd]⟩
theorem xts_ex {M : xM} {Po : xO → xw → Prop} {A B : Prop} {X : Nat → Prop} {Y : Int → Prop} {Z : Int → Nat → Prop} {g1 g2 : Nat → xG} (h1 : A ∨ B → ∃ t, X t ∧ xEx M Po (g1 t)) (h2 : ¬ A → ¬ B → ∃ off t, Y off ∧ Z off t ∧ xEx M Po (g2 t)) : ∃ o w1, Po o w1 ∧ ((A ∨ B → ∃ t, X t ∧ xRun M (fun o2 w2 => o2 = o ∧ w2 = w1) (g1 t)) ∧ (¬ A → ¬ B → ∃ off t, Y off ∧ Z off t ∧ xRun M (fun o2 w2 => o2 = o ∧ w2 = w1) (g2 t))) := by
  by_cases z : A ∨ B
  · obtain ⟨t, a1, o, w1, hp, hr⟩ := h1 z
    exact ⟨o, w1, hp, fun _ => ⟨t, a1, hr⟩, fun z1 z2 => (z.elim (fun q => absurd q z1) (fun q => absurd q z2))⟩
  · obtain ⟨off, t, a1, a2, o, w1, hp, hr⟩ := h2 (fun q => z (Or.inl q)) (fun q => z (Or.inr q))
    exact ⟨o, w1, hp, fun q => absurd q z, fun _ _ => ⟨off, t, a1, a2, hr⟩⟩
theorem xnd_ex {M : xM} {K : Nat → Option Value} {F : Nat → Option (Nat × Nat)} {NW : Nat → Option (Nat × List Value)} {TH : Nat → Option String} {HD : Nat → String → Option Int32} {C : Nat → Option (Nat × Nat × Nat × xR)} {Rc Rs : Nat} {Po : xO → xw → Prop} {i : Instr} {g : xG} (k : xnd K F NW TH HD C Rc Rs Po (xEx M Po) i g) : ∃ o w1, Po o w1 ∧ xnd K F NW TH HD C Rc Rs (fun o2 w2 => o2 = o ∧ w2 = w1) (xRun M (fun o2 w2 => o2 = o ∧ w2 = w1)) i g := by
  obtain ⟨pc, lv, st, w, kc, ks⟩ := g
  cases i
  case invokestatic => exact xcal_ex k
  case invokevirtual => exact xcal_ex k
  case invokespecial => exact xcal_ex k
  all_goals first
    | exact k.elim
    | (simp only [xnd] at k ⊢
       repeat' split at k
       all_goals first
         | exact k.elim
         | exact ⟨_, _, k, rfl, rfl⟩
         | exact xbr_ex (xab1 _) k
         | exact xbr_ex (xab2 _) k
         | (obtain ⟨o, w1, hp, hr⟩ := k; exact ⟨o, w1, hp, hr⟩)
         | (obtain ⟨h1, o, w1, hp, hr⟩ := k; exact ⟨o, w1, hp, h1, hr⟩)
         | (obtain ⟨n, f, h1, h2, o, w1, hp, hr⟩ := k; exact ⟨o, w1, hp, n, f, h1, h2, hr⟩)
         | (obtain ⟨n, f, vs, h1, h2, h3, h4, o, w1, hp, hr⟩ := k; exact ⟨o, w1, hp, n, f, vs, h1, h2, h3, h4, hr⟩)
         | (obtain ⟨n, f, vs, h1, h2, h3, h4, h5, o, w1, hp, hr⟩ := k; exact ⟨o, w1, hp, n, f, vs, h1, h2, h3, h4, h5, hr⟩)
         | (obtain ⟨h1, t, h2, o, w1, hp, hr⟩ := k; exact ⟨o, w1, hp, h1, t, h2, hr⟩)
         | exact xts_ex k.1 k.2
         | (obtain ⟨h1, h2, h3, h4⟩ := k; exact ⟨_, _, h4, h1, h2, h3, rfl, rfl⟩)
         | (obtain ⟨N, h1, h2, h3, h4, h5, h6, h7, h8, o, w1, hp, hr⟩ := k; exact ⟨o, w1, hp, N, h1, h2, h3, h4, h5, h6, h7, h8, hr⟩)
         | (obtain ⟨N, h1, h2, h3, h4, h5, h6, h7, h8, h9⟩ := k; exact h9.elim)
         | (obtain ⟨N, h1, h2, h3, h4, h5, h6, h7, h8, h9, o, w1, hp, hr⟩ := k; exact ⟨o, w1, hp, N, h1, h2, h3, h4, h5, h6, h7, h8, h9, hr⟩)
         | (obtain ⟨ci, fs, h1, h0, h2, h3, h4, h5, h6, o, w1, hp, hr⟩ := k; exact ⟨o, w1, hp, ci, fs, h1, h0, h2, h3, h4, h5, h6, hr⟩))
theorem xRun_ex {M : xM} {Po : xO → xw → Prop} {g : xG} (h : xRun M Po g) : ∃ o w, Po o w ∧ xRun M (fun o1 w1 => o1 = o ∧ w1 = w) g := h (xEx M Po) (fun g hs => by
  unfold xstep at hs
  split at hs
  · exact hs.elim
  · rename_i i hi
    split at hs
    · rename_i g' hg
      obtain ⟨o, w, hp, hr⟩ := hs
      exact ⟨o, w, hp, xRun.step (by unfold xstep; simp only [hi, hg]; exact hr)⟩
    · rename_i hg
      obtain ⟨o, w, hp, hr⟩ := xnd_ex hs
      exact ⟨o, w, hp, xRun.step (by unfold xstep; simp only [hi, hg]; exact hr)⟩)
theorem xEv_ex {M : xM} {ret : Option FieldType} {avs : List Value} {w : xw} {Po : xO → xw → Prop} (h1 : (lg_sl avs).length ≤ M.1) (h2 : ∀ o w', Po o w' → w.1 ≤ w'.1 ∧ xro ret o) (h : xRun M Po (0, xarg 0 avs, [], w, 0, 0)) : ∃ o w', Po o w' ∧ xEv M ret avs w o w' := by
  obtain ⟨o, w', hp, hr⟩ := xRun_ex h
  exact ⟨o, w', hp, h1, (h2 _ _ hp).1, (h2 _ _ hp).2, hr⟩
