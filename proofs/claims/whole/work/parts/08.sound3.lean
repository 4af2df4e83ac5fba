section XS3
variable {p : Program} {l : Launch} {e : Env} {R : Room} {s : State} {m : MethodId} {args : Array Value} {below : List Frame} {meth : Method} {c : Code} {Q : State → Prop}
variable {D : va_G} {tc : Nat → ClassId} {own : String} {cc : ByteArray} {nL N0 : Nat} {ρ0 : Nat → Nat} {A0 : Nat → Prop}
theorem xtc {cA : ClassId} {ty : FieldType} {t : Nat} (h1 : va_K D vwCl (tysx tc ++ [(cA, ty)]) s) (ht : (tysx tc)[t]? = some (tc t, ty)) : cA = tc t := by
  have h3 : (tysx tc ++ [(cA, ty)])[3]? = some (cA, ty) := rfl
  have ht3 : t < 3 := (List.getElem?_eq_some_iff.mp ht).1
  have h4 : (tysx tc ++ [(cA, ty)])[t]? = some (tc t, ty) := by
    rw [List.getElem?_append_left ht3]
    exact ht
  have q1 := (h1.2 3 _ h3).2
  have q2 := (h1.2 t _ h4).2
  cases ty with
  | object C =>
    obtain ⟨kA, comp, -, -, -, a4⟩ := q1
    obtain ⟨kB, comp2, -, -, -, b4⟩ := q2
    exact Option.some.inj (a4.symm.trans b4)
  | _ => exact Option.some.inj (Eq.trans (Eq.symm q1) q2)
set_option maxHeartbeats 4000000 in
theorem xnd_sound {K : Nat → Option Value} {F : Nat → Option (Nat × Nat)} {NW : Nat → Option (Nat × List Value)} {TH : Nat → Option String} {HD : Nat → String → Option Int32} {C : Nat → Option (Nat × Nat × Nat × xR)} {Po : xO → xw → Prop} {i : Instr} {n : Nat} {g : xG}
    (hC : xCx p s m args c D tc own cc nL A0) (hCl : xClok) (hF : xFok own F) (hNW : xNWok own NW) (hAO : va_AO "BarForger$State" s) (hini : ∀ ci, K 1000000 = some (.retAddr ci) → meth.name = "<init>" ∧ ∀ q, vwCl[ci]? = some q → ∀ k, k < q.2.2 → (q.2.1 k).1 = own) (hty : ∀ ty, goodWord (.arrayClass ty) = true → (ty = .int ∨ ty = .long) → Cond.arrayClass ty ∈ gW)
    (hR : xRet p l e R s m args below meth c D tc cc N0 ρ0 A0 Q Po) (hT : xThr p l e R s m args below meth c D tc cc nL N0 ρ0 A0 Q TH Po) (hE : xExc p l e R s m args below meth c D tc nL N0 ρ0 A0 Q HD Po)
    (hCs : xCall p l e R s m args below meth c D tc cc nL N0 ρ0 A0 Q C)
    (hdg : decode cc g.1 = .ok (i, xlen i n)) (k : xnd K F NW TH HD C R.cells R.slots Po (xSem p l e R s m args below meth c D tc nL N0 ρ0 A0 Q) i g) : xSem p l e R s m args below meth c D tc nL N0 ρ0 A0 Q g := by
  have hC0 := hC
  obtain ⟨hx, hb, hml, hown, hts, hK, hA⟩ := hC
  obtain ⟨pc, lv, st, w, kc, ks⟩ := g
  cases i
  case invokestatic j => exact xcal_sound hE (fun a b c d => (hCs j a b c d).1) hdg k
  case invokevirtual j => exact xcal_sound hE (fun a b c d => (hCs j a b c d).2.1) hdg k
  case invokespecial j => exact xcal_sound hE (fun a b c d => (hCs j a b c d).2.2) hdg k
  case ifCond op off =>
    simp only [xnd] at k
    split at k
    · rename_i x r
      cases op
      · obtain ⟨t, ht, ka, kb⟩ := xbr_sound k
        exact fun ρ H locs ls hS hl h1 h2 => lv_if_eq hx hb hdg ht (fun z => ka z ρ H locs ls hS hl h1 h2) (fun z => kb z ρ H locs ls hS hl h1 h2)
      · obtain ⟨t, ht, ka, kb⟩ := xbr_sound k
        exact fun ρ H locs ls hS hl h1 h2 => lv_if_ne hx hb hdg ht (fun z => ka z ρ H locs ls hS hl h1 h2) (fun z => kb z ρ H locs ls hS hl h1 h2)
      · obtain ⟨t, ht, ka, kb⟩ := xbr_sound k
        exact fun ρ H locs ls hS hl h1 h2 => lv_if_lt hx hb hdg ht (fun z => ka z ρ H locs ls hS hl h1 h2) (fun z => kb z ρ H locs ls hS hl h1 h2)
      · obtain ⟨t, ht, ka, kb⟩ := xbr_sound k
        exact fun ρ H locs ls hS hl h1 h2 => lv_if_ge hx hb hdg ht (fun z => ka z ρ H locs ls hS hl h1 h2) (fun z => kb z ρ H locs ls hS hl h1 h2)
      · obtain ⟨t, ht, ka, kb⟩ := xbr_sound k
        exact fun ρ H locs ls hS hl h1 h2 => lv_if_gt hx hb hdg ht (fun z => ka z ρ H locs ls hS hl h1 h2) (fun z => kb z ρ H locs ls hS hl h1 h2)
      · obtain ⟨t, ht, ka, kb⟩ := xbr_sound k
        exact fun ρ H locs ls hS hl h1 h2 => lv_if_le hx hb hdg ht (fun z => ka z ρ H locs ls hS hl h1 h2) (fun z => kb z ρ H locs ls hS hl h1 h2)
    · exact k.elim
  case if_icmp op off =>
    simp only [xnd] at k
    split at k
    · rename_i y x r
      cases op
      · obtain ⟨t, ht, ka, kb⟩ := xbr_sound k
        exact fun ρ H locs ls hS hl h1 h2 => lv_icmp_eq hx hb hdg ht (fun z => ka z ρ H locs ls hS hl h1 h2) (fun z => kb z ρ H locs ls hS hl h1 h2)
      · obtain ⟨t, ht, ka, kb⟩ := xbr_sound k
        exact fun ρ H locs ls hS hl h1 h2 => lv_icmp_ne hx hb hdg ht (fun z => ka z ρ H locs ls hS hl h1 h2) (fun z => kb z ρ H locs ls hS hl h1 h2)
      · obtain ⟨t, ht, ka, kb⟩ := xbr_sound k
        exact fun ρ H locs ls hS hl h1 h2 => lv_icmp_lt hx hb hdg ht (fun z => ka z ρ H locs ls hS hl h1 h2) (fun z => kb z ρ H locs ls hS hl h1 h2)
      · obtain ⟨t, ht, ka, kb⟩ := xbr_sound k
        exact fun ρ H locs ls hS hl h1 h2 => lv_icmp_ge hx hb hdg ht (fun z => ka z ρ H locs ls hS hl h1 h2) (fun z => kb z ρ H locs ls hS hl h1 h2)
      · obtain ⟨t, ht, ka, kb⟩ := xbr_sound k
        exact fun ρ H locs ls hS hl h1 h2 => lv_icmp_gt hx hb hdg ht (fun z => ka z ρ H locs ls hS hl h1 h2) (fun z => kb z ρ H locs ls hS hl h1 h2)
      · obtain ⟨t, ht, ka, kb⟩ := xbr_sound k
        exact fun ρ H locs ls hS hl h1 h2 => lv_icmp_le hx hb hdg ht (fun z => ka z ρ H locs ls hS hl h1 h2) (fun z => kb z ρ H locs ls hS hl h1 h2)
    · exact k.elim
  case idiv =>
    simp only [xnd] at k
    split at k
    · exact fun ρ H locs ls hS hl h1 h2 => lv_idiv hx hb hdg k.1 (k.2 ρ H locs ls hS hl h1 h2)
    · exact k.elim
  case irem =>
    simp only [xnd] at k
    split at k
    · exact fun ρ H locs ls hS hl h1 h2 => lv_irem hx hb hdg k.1 (k.2 ρ H locs ls hS hl h1 h2)
    · exact k.elim
  case ddiv =>
    simp only [xnd] at k
    split at k
    · exact fun ρ H locs ls hS hl h1 h2 => lv_ddiv hx hb hdg k.1 (k.2 ρ H locs ls hS hl h1 h2)
    · exact k.elim
  case iaload =>
    simp only [xnd] at k
    split at k
    · obtain ⟨n1, f, ⟨ha, hw⟩, hin, k⟩ := k
      intro ρ H locs ls hS hl h1 h2
      have hg := xws_get (ρ := ρ) (tc := tc) ha
      rw [hw] at hg
      exact va_iald (D := D) hx hb hK hS.2.2.1 _ 0 hg rfl hin hdg (k ρ H locs ls hS hl h1 h2)
    · exact k.elim
  case laload =>
    simp only [xnd] at k
    split at k
    · obtain ⟨n1, f, ⟨ha, hw⟩, hin, k⟩ := k
      intro ρ H locs ls hS hl h1 h2
      have hg := xws_get (ρ := ρ) (tc := tc) ha
      rw [hw] at hg
      exact va_lald (D := D) hx hb hK hS.2.2.1 _ 1 hg rfl hin hdg (k ρ H locs ls hS hl h1 h2)
    · exact k.elim
  case aaload =>
    simp only [xnd] at k
    split at k
    · obtain ⟨n1, f, ⟨ha, hw⟩, hin, k⟩ := k
      intro ρ H locs ls hS hl h1 h2
      have hg := xws_get (ρ := ρ) (tc := tc) ha
      rw [hw] at hg
      have k1 := k ρ H locs ls hS hl h1 h2
      simp only [List.map_cons, rV_rf] at k1
      exact va_aldq (D := D) hx hb hK hS.2.2.1 _ 2 hg rfl hin hdg k1
    · exact k.elim
  case iastore =>
    simp only [xnd] at k
    split at k
    · obtain ⟨n1, f, ⟨ha, hw⟩, hin, k⟩ := k
      intro ρ H locs ls hS hl h1 h2
      have hg := xws_get (ρ := ρ) (tc := tc) ha
      rw [hw] at hg
      exact va_iast (D := D) hx hb hK hS.2.2.1 hS.2.2.2.1 hS.2.2.2.2 _ 0 hg rfl hin hdg (fun H1 locs1 hP hD hS1 => k ρ H1 locs1 ls (xSt_set hS ha hP hD hS1) hl h1 h2)
    · exact k.elim
  case lastore =>
    simp only [xnd] at k
    split at k
    · obtain ⟨n1, f, ⟨ha, hw⟩, hin, k⟩ := k
      intro ρ H locs ls hS hl h1 h2
      have hg := xws_get (ρ := ρ) (tc := tc) ha
      rw [hw] at hg
      exact va_last (D := D) hx hb hK hS.2.2.1 hS.2.2.2.1 hS.2.2.2.2 _ 1 hg rfl hin hdg (fun H1 locs1 hP hD hS1 => k ρ H1 locs1 ls (xSt_set hS ha hP hD hS1) hl h1 h2)
    · exact k.elim
  case aastore =>
    simp only [xnd] at k
    split at k
    · rename_i v j a r
      obtain ⟨n1, f, vs, ⟨ha, hw⟩, hv, hwv, hin, k⟩ := k
      intro ρ H locs ls hS hl h1 h2
      have hg := xws_get (ρ := ρ) (tc := tc) ha
      rw [hw] at hg
      have hgv := xws_get (ρ := ρ) (tc := tc) hv
      rw [hwv] at hgv
      have he : rC ρ tc (.inl (2, n1, .inr (.inr (.inr (.inr (va_up f j.toNatClampNeg (some v))))))) = .inl (tc 2, n1, .inr (.inr (.inr (.inr (va_up (fun z => (f z).map ρ) j.toNatClampNeg (some (ρ v))))))) := by
        simp only [rC, rA]
        have : (fun z => Option.map ρ (va_up f j.toNatClampNeg (some v) z)) = va_up (fun z => (f z).map ρ) j.toNatClampNeg (some (ρ v)) := by
          funext z
          by_cases hz : z = j.toNatClampNeg
          · simp [va_up, hz]
          · simp [va_up, hz]
        rw [this]
      refine va_astq (D := D) (r := (RX5, TX5, 2)) hx hb hK hS.2.2.1 hS.2.2.2.1 hS.2.2.2.2 _ 2 v 5 hg rfl hgv rfl hin hdg (fun H1 locs1 hP hD hS1 => ?_)
      refine k ρ H1 locs1 ls (xSt_set hS ha ?_ ?_ hS1) hl h1 h2
      · rw [he]; exact hP
      · rw [he]; exact hD
    · exact k.elim
  case putfield j =>
    simp only [xnd] at k
    split at k
    · rename_i v a r
      obtain ⟨ci, kf, fs, hj, ha, hw, hkl, ⟨q, hq, hfn, ty, hd, hfit⟩, k⟩ := k
      obtain ⟨q2, hq2, hkf, hw2⟩ := hF j _ _ hj
      cases Option.some.inj (hq.symm.trans hq2)
      obtain ⟨C1, T, N⟩ := q
      obtain ⟨c1, c2, ty0, c3⟩ := hCl _ _ hq
      intro ρ H locs ls hS hl h1 h2
      have hg := xws_get (ρ := ρ) (tc := tc) ha
      rw [hw] at hg
      obtain ⟨e1, e2⟩ := xnar hfit ρ
      have he : rC ρ tc (.inr (ci, fs.set kf v)) = .inr (ci, (fs.map (rV ρ)).set kf (rV ρ v)) := by
        simp only [rC]
        rw [List.map_set]
      by_cases hfin : (T kf).2.2.2 = false
      · refine va_put (D := D) (C := C1) (T := T) (N := N) (v := rV ρ v) (ty := ty) hx hb hts c1 ty0 c3 c2 hown hK hS.2.2.1 hS.2.2.2.1 hS.2.2.2.2 a hg hq kf hkf (hts _ hw2) (fun _ h9 => h9) hfin hd e1 e2 (by simpa using hkl) hdg (fun H1 locs1 hP hD hS1 => ?_)
        refine k ρ H1 locs1 ls (xSt_set hS ha ?_ ?_ hS1) hl h1 h2
        · rw [he]; exact hP
        · rw [he]; exact hD
      · rcases hfn with h8 | h8
        · exact absurd h8 hfin
        · obtain ⟨n1, n2⟩ := hini _ h8
          have hfin2 : (T kf).2.2.2 = true := by
            cases hz : (T kf).2.2.2
            · exact absurd hz hfin
            · rfl
          refine va_putF (D := D) (C := C1) (T := T) (N := N) (v := rV ρ v) (ty := ty) hx hb hts c1 ty0 c3 c2 hown hK hS.2.2.1 hS.2.2.2.1 hS.2.2.2.2 a hg hq kf hkf (hts _ hw2) (fun _ h9 => h9) hfin2 n1 (n2 _ hq kf hkf) hd e1 e2 (by simpa using hkl) hdg (fun H1 locs1 hP hD hS1 => ?_)
          refine k ρ H1 locs1 ls (xSt_set hS ha ?_ ?_ hS1) hl h1 h2
          · rw [he]; exact hP
          · rw [he]; exact hD
    · exact k.elim
  case newarray ty =>
    simp only [xnd] at k
    split at k
    · rename_i z r
      obtain ⟨N, g1, g2, g3, g4, g5, g6, g7, g8, k⟩ := k
      intro ρ H locs ls hS hl h1 h2
      cases ty
      case int =>
        refine va_newa (atype := .int) (ty := .int) (a0 := (N, .inl (fun _ => 0))) hx hb (hts _ (hty _ rfl (Or.inl rfl))) rfl hK hS.2.2.1 hS.2.2.2.1 hS.2.2.2.2 hA (fun _ => rfl) g1 g2 (by simp only [componentBytes]; omega) g4 g5 hdg (fun q cA H1 hK1 hP hD hS1 => ?_)
        have hc := xtc hK1 (t := 0) rfl
        subst hc
        have hS2 := xSt_push (c1 := .inl (0, N, .inl (fun _ => 0))) hS g6 trivial hP hD hS1
        have hx2 : ∀ i, i < w.1 → va_up ρ w.1 q i = ρ i := fun i hi => va_up_ne ρ q (by omega)
        have k2 := k _ H1 locs ls hS2 (by dsimp only; rw [rL_ext hx2 g7]; exact hl) g4 g5
        simp only [List.map_cons, rS_ext hx2 g8, rV, va_up_self] at k2
        exact k2
      case long =>
        refine va_newa (atype := .long) (ty := .long) (a0 := (N, .inr (.inl (fun _ => 0)))) hx hb (hts _ (hty _ rfl (Or.inr rfl))) rfl hK hS.2.2.1 hS.2.2.2.1 hS.2.2.2.2 hA (fun _ => rfl) g1 g2 (by simp only [componentBytes]; omega) g4 g5 hdg (fun q cA H1 hK1 hP hD hS1 => ?_)
        have hc := xtc hK1 (t := 1) rfl
        subst hc
        have hS2 := xSt_push (c1 := .inl (1, N, .inr (.inl (fun _ => 0)))) hS g6 trivial hP hD hS1
        have hx2 : ∀ i, i < w.1 → va_up ρ w.1 q i = ρ i := fun i hi => va_up_ne ρ q (by omega)
        have k2 := k _ H1 locs ls hS2 (by dsimp only; rw [rL_ext hx2 g7]; exact hl) g4 g5
        simp only [List.map_cons, rS_ext hx2 g8, rV, va_up_self] at k2
        exact k2
      all_goals exact k.elim
    · exact k.elim
  case anewarray j =>
    simp only [xnd] at k
    split at k
    · rename_i z r
      obtain ⟨N, g0, g1, g2, g3, g4, g5, g6, g7, g8, k⟩ := k
      intro ρ H locs ls hS hl h1 h2
      have hlk : Cond.classLink own j "BarForger$State" ∈ gW := by
        rcases hNW _ _ _ g0 with h9 | h9
        · have h10 := h9.2
          rwa [Nat.add_sub_cancel_left] at h10
        · exact absurd rfl h9.1
      refine va_newq hx hb hown (hts _ hlk) hAO hK hS.2.2.1 hS.2.2.2.1 hS.2.2.2.2 hA g1 g2 (by omega) g4 g5 hdg (fun q cA H1 hK1 hP hD hS1 => ?_)
      have hc := xtc hK1 (t := 2) rfl
      subst hc
      have hS2 := xSt_push (c1 := .inl (2, N, .inr (.inr (.inr (.inr (fun _ => none)))))) hS g6 (fun _ _ h => by cases h) hP hD hS1
      have hx2 : ∀ i, i < w.1 → va_up ρ w.1 q i = ρ i := fun i hi => va_up_ne ρ q (by omega)
      have k2 := k _ H1 locs ls hS2 (by dsimp only; rw [rL_ext hx2 g7]; exact hl) g4 g5
      simp only [List.map_cons, rS_ext hx2 g8, rV, va_up_self] at k2
      exact k2
    · exact k.elim
  case new j =>
    simp only [xnd] at k
    split at k
    · rename_i E hE1
      obtain ⟨g1, g2, g3, g4⟩ := k
      intro ρ H locs ls hS hl h1 h2
      exact hT ρ H locs ls pc w kc ks j (st.map (rV ρ)) E hS hl.1 hE1 hdg g1 g2 (by rw [rV_cats]; exact g3) g4
    · obtain ⟨ci, fs, g0, g9, g1, g2, g3, g4, g5, k⟩ := k
      rcases hNW j _ _ g0 with h9 | ⟨-, q, hq, w1, w2, w3, hlen, hno, ty, hpt, hdv⟩
      · exact absurd h9.1 (by omega)
      · obtain ⟨C1, T, N⟩ := q
        dsimp only at hlen
        subst hlen
        obtain ⟨c1, c2, ty0, c3⟩ := hCl _ _ hq
        intro ρ H locs ls hS hl h1 h2
        refine va_new (D := D) (C := C1) (T := T) (N := fs.length) (ci := ci) (fs := fs) hx hb hts c1 ty hpt hown (hts _ w1) (hts _ w2) (hts _ w3) hK hS.2.2.1 hS.2.2.2.1 hS.2.2.2.2 hA hq hdv g1 g2 hdg (fun q H1 hP hD hS1 => ?_)
        have he : rC ρ tc (.inr (ci, fs)) = .inr (ci, fs) := by
          simp only [rC]
          rw [rV_no hno]
        have hS2 := xSt_push (c1 := .inr (ci, fs)) hS g3 (okS_mono (Nat.zero_le _) hno) (by rw [he]; exact hP) (by rw [he]; exact hD) hS1
        have hx2 : ∀ i, i < w.1 → va_up ρ w.1 q i = ρ i := fun i hi => va_up_ne ρ q (by omega)
        have k2 := k _ H1 locs ls hS2 (by dsimp only; rw [rL_ext hx2 g4]; exact hl) g1 g2
        simp only [List.map_cons, rS_ext hx2 g5, rV, va_up_self] at k2
        exact k2
  case tableswitch d lo hi offs =>
    simp only [xnd] at k
    split at k
    · rename_i x r
      obtain ⟨ka, kb⟩ := k
      intro ρ H locs ls hS hl h1 h2
      by_cases z1 : x.toInt < lo
      · obtain ⟨t, ht, k2⟩ := ka (Or.inl z1)
        exact lv_tableOut hx hb hdg (Or.inl z1) (xtg_eq ht) (k2 ρ H locs ls hS hl h1 h2)
      · by_cases z2 : hi < x.toInt
        · obtain ⟨t, ht, k2⟩ := ka (Or.inr z2)
          exact lv_tableOut hx hb hdg (Or.inr z2) (xtg_eq ht) (k2 ρ H locs ls hS hl h1 h2)
        · obtain ⟨off, t, ho, ht, k2⟩ := kb z1 z2
          exact lv_tableIn hx hb hdg z1 z2 ho (xtg_eq ht) (k2 ρ H locs ls hS hl h1 h2)
    · exact k.elim
  case lookupswitch d ps =>
    simp only [xnd] at k
    split at k
    · rename_i x r
      obtain ⟨hp, t, ht, k⟩ := k
      intro ρ H locs ls hS hl h1 h2
      exact lv_lookup hx hb hdg hp rfl (xtg_eq ht) (k ρ H locs ls hS hl h1 h2)
    · exact k.elim
  case ireturn =>
    simp only [xnd] at k
    split at k
    · exact fun ρ H locs ls hS hl h1 h2 => hR ρ H locs ls pc w kc ks [.int _] _ _ hS h1 h2 rfl hdg k
    · exact k.elim
  case lreturn =>
    simp only [xnd] at k
    split at k
    · exact fun ρ H locs ls hS hl h1 h2 => hR ρ H locs ls pc w kc ks [.long _] _ _ hS h1 h2 rfl hdg k
    · exact k.elim
  case dreturn =>
    simp only [xnd] at k
    split at k
    · exact fun ρ H locs ls hS hl h1 h2 => hR ρ H locs ls pc w kc ks [.double _] _ _ hS h1 h2 rfl hdg k
    · exact k.elim
  case areturn =>
    simp only [xnd] at k
    split at k
    · exact fun ρ H locs ls hS hl h1 h2 => hR ρ H locs ls pc w kc ks [.ref _] _ _ hS h1 h2 rfl hdg k
    · exact fun ρ H locs ls hS hl h1 h2 => hR ρ H locs ls pc w kc ks [.null] _ _ hS h1 h2 rfl hdg k
    · exact k.elim
  case return_ =>
    simp only [xnd] at k
    split at k
    · exact fun ρ H locs ls hS hl h1 h2 => hR ρ H locs ls pc w kc ks [] _ _ hS h1 h2 rfl hdg k
    · exact k.elim
  all_goals exact k.elim
theorem run_sound {M : xM} {Po : xO → xw → Prop} {g : xG}
    (hnL : M.1 = nL) (hTb : ∀ pc i, xlk M.2.1 pc = some i → ∃ n, decode cc pc = .ok (i, xlen i n)) (hKo : xKok own M.2.2.2.1)
    (hC : xCx p s m args c D tc own cc nL A0) (hCl : xClok) (hF : xFok own M.2.2.1) (hNW : xNWok own M.2.2.2.2.1) (hAO : va_AO "BarForger$State" s) (hini : ∀ ci, M.2.2.2.1 1000000 = some (.retAddr ci) → meth.name = "<init>" ∧ ∀ q, vwCl[ci]? = some q → ∀ k, k < q.2.2 → (q.2.1 k).1 = own) (hty : ∀ ty, goodWord (.arrayClass ty) = true → (ty = .int ∨ ty = .long) → Cond.arrayClass ty ∈ gW)
    (hRc : M.2.2.2.2.2.2.2.2.1 = R.cells) (hRs : M.2.2.2.2.2.2.2.2.2 = R.slots)
    (hR : xRet p l e R s m args below meth c D tc cc N0 ρ0 A0 Q Po) (hT : xThr p l e R s m args below meth c D tc cc nL N0 ρ0 A0 Q M.2.2.2.2.2.1 Po) (hE : xExc p l e R s m args below meth c D tc nL N0 ρ0 A0 Q M.2.2.2.2.2.2.1 Po)
    (hCs : xCall p l e R s m args below meth c D tc cc nL N0 ρ0 A0 Q M.2.2.2.2.2.2.2.1)
    (h : xRun M Po g) : xSem p l e R s m args below meth c D tc nL N0 ρ0 A0 Q g := by
  subst hnL
  refine h _ fun g k => ?_
  unfold xstep at k
  split at k
  · exact k.elim
  · rename_i i hi
    obtain ⟨n, hdg⟩ := hTb _ _ hi
    split at k
    · rename_i g' hg
      unfold xst xpick at hg
      split at hg
      · rename_i g2 hg2
        cases hg
        exact xsa_sound hC hKo hdg hg2 k
      · split at hg
        · rename_i g2 hg2
          cases hg
          exact xsd_sound hC hCl hF hdg hg2 k
        · split at hg
          · rename_i g2 hg2
            cases hg
            exact xsc_sound hC hdg hg2 k
          · exact xsb_sound hC hdg hg k
    · rw [hRc, hRs] at k
      exact xnd_sound hC hCl hF hNW hAO hini hty hR hT hE hCs hdg k
end XS3
