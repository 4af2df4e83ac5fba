/-! the law's own run: the script lies outside the world; in the locals its place is 1000000 -/
def okB (n : Nat) (lv : List (Nat × Value)) : Bool := lv.all (fun q => match q.2 with | .ref a => Nat.blt a n || Nat.beq a 1000000 | _ => true)
theorem rL_extB {ρ ρ' : Nat → Nat} {n : Nat} (h : ∀ i, i < n → ρ' i = ρ i) (hb : ρ' 1000000 = ρ 1000000) {lv : List (Nat × Value)} (hv : okB n lv = true) : lv.map (fun q => (q.1, rV ρ' q.2)) = lv.map (fun q => (q.1, rV ρ q.2)) := List.map_congr_left fun q hm => by
  have h1 := List.all_eq_true.mp hv q hm
  obtain ⟨k, v⟩ := q
  cases v with
  | ref a =>
    have h2 : ρ' a = ρ a := by
      have h3 : (Nat.blt a n || Nat.beq a 1000000) = true := h1
      rw [Bool.or_eq_true] at h3
      exact h3.elim (fun z => h a (Nat.blt_eq.mp z)) (fun z => by rw [Nat.eq_of_beq_eq_true z]; exact hb)
    simp only [rV, h2]
  | _ => rfl
def xlaw (M : xM) (L : Nat) (xs : Nat → Int32) (P : xG → Prop) (g : xG) : Prop := match g with
  | (pc, lv, st, w, kc, ks) => w.1 ≤ 1000000 ∧
    ((∃ r, xlk M.2.1 pc = some .arraylength ∧ st = .ref 1000000 :: r ∧ P (pc + 1, lv, .int (Int32.ofNat L) :: r, w, kc, ks)) ∨
     (∃ (j : Int32) (r : List Value), xlk M.2.1 pc = some .iaload ∧ st = .int j :: .ref 1000000 :: r ∧ vp_in j L ∧ P (pc + 1, lv, .int (xs j.toNatClampNeg) :: r, w, kc, ks)) ∨
     (∃ r, xlk M.2.1 pc = some (.newarray .long) ∧ st = .int (nI 1) :: r ∧ kc + 1 ≤ M.2.2.2.2.2.2.2.2.1 ∧ ks + 1 ≤ M.2.2.2.2.2.2.2.2.2 ∧ xok w ∧ w.1 < 1000000 ∧ okB w.1 lv = true ∧ okS w.1 r = true ∧ P (pc + 2, lv, .ref w.1 :: r, (w.1 + 1, va_up w.2 w.1 (.inl (1, 1, .inr (.inl (fun _ => 0))))), kc + 1, ks + 1)) ∨
     (∃ (j ci : Nat) (fs : List Value), xlk M.2.1 pc = some (.new j) ∧ M.2.2.2.2.1 j = some (ci, fs) ∧ ci < 99 ∧ kc + 1 ≤ M.2.2.2.2.2.2.2.2.1 ∧ ks + fs.length ≤ M.2.2.2.2.2.2.2.2.2 ∧ xok w ∧ w.1 < 1000000 ∧ okB w.1 lv = true ∧ okS w.1 st = true ∧ P (pc + 3, lv, .ref w.1 :: st, (w.1 + 1, va_up w.2 w.1 (.inr (ci, fs))), kc + 1, ks + fs.length)) ∨
     (∃ (i : Instr) (j key argc mc ms : Nat) (rel : xR) (avs r : List Value) (v : Option Value) (w1 : xw), xlk M.2.1 pc = some i ∧ ((i = .invokestatic j ∧ key = 3 * j) ∨ (i = .invokevirtual j ∧ key = 3 * j + 1) ∨ (i = .invokespecial j ∧ key = 3 * j + 2)) ∧ M.2.2.2.2.2.2.2.1 key = some (argc, mc, ms, rel) ∧ st = avs.reverse ++ r ∧ avs.length = argc ∧ rel avs w (.inl v) w1 ∧
        kc + mc ≤ M.2.2.2.2.2.2.2.2.1 ∧ ks + ms ≤ M.2.2.2.2.2.2.2.2.2 ∧ (r.map (fun v => v.category)).sum ≤ 8 ∧ w1.1 ≤ 1000000 ∧ okB w.1 lv = true ∧ okS w.1 r = true ∧ P (pc + 3, lv, v.toList ++ r, w1, kc + mc, ks + ms)))
def xCl (M : xM) (L : Nat) (xs : Nat → Int32) (Po : xO → xw → Prop) (P : xG → Prop) : Prop :=
  (∀ g, xstep M Po P g → P g) ∧ (∀ g, xlaw M L xs P g → P g) ∧ ∀ (pc : Nat) (lv lv' : List (Nat × Value)) (x : List Value × xw × Nat × Nat), (∀ q ∈ lv', xlv lv q.1 = some q.2) → P (pc, lv', x) → P (pc, lv, x)
section XLW
variable {p : Program} {l : Launch} {e : Env} {R : Room} {s : State} {m : MethodId} {args : Array Value} {below : List Frame} {meth : Method} {c : Code} {Q : State → Prop}
variable {D : va_G} {tc : Nat → ClassId} {own : String} {cc : ByteArray} {nL N0 : Nat} {ρ0 : Nat → Nat} {A0 : Nat → Prop}
theorem step_sound {M : xM} {Po : xO → xw → Prop} {g : xG}
    (hnL : M.1 = nL) (hTb : ∀ pc i, xlk M.2.1 pc = some i → ∃ n, decode cc pc = .ok (i, xlen i n)) (hKo : xKok own M.2.2.2.1)
    (hC : xCx p s m args c D tc own cc nL A0) (hCl : xClok) (hF : xFok own M.2.2.1) (hNW : xNWok own M.2.2.2.2.1) (hAO : va_AO "BarForger$State" s) (hini : ∀ ci, M.2.2.2.1 1000000 = some (.retAddr ci) → meth.name = "<init>" ∧ ∀ q, vwCl[ci]? = some q → ∀ k, k < q.2.2 → (q.2.1 k).1 = own) (hty : ∀ ty, goodWord (.arrayClass ty) = true → (ty = .int ∨ ty = .long) → Cond.arrayClass ty ∈ gW)
    (hRc : M.2.2.2.2.2.2.2.2.1 = R.cells) (hRs : M.2.2.2.2.2.2.2.2.2 = R.slots)
    (hR : xRet p l e R s m args below meth c D tc cc N0 ρ0 A0 Q Po) (hT : xThr p l e R s m args below meth c D tc cc nL N0 ρ0 A0 Q M.2.2.2.2.2.1 Po) (hE : xExc p l e R s m args below meth c D tc nL N0 ρ0 A0 Q M.2.2.2.2.2.2.1 Po)
    (hCs : xCall p l e R s m args below meth c D tc cc nL N0 ρ0 A0 Q M.2.2.2.2.2.2.2.1)
    (k : xstep M Po (xSem p l e R s m args below meth c D tc nL N0 ρ0 A0 Q) g) : xSem p l e R s m args below meth c D tc nL N0 ρ0 A0 Q g := by
  subst hnL
  unfold xstep at k
  split at k
  · exact k.elim
  · rename_i i hi
    obtain ⟨n, hdg⟩ := hTb _ _ hi
    split at k
    · rename_i g' hg
      unfold xst xpick at hg
      split at hg
      · rename_i g2 hg2
        cases hg
        exact xsa_sound hC hKo hdg hg2 k
      · split at hg
        · rename_i g2 hg2
          cases hg
          exact xsd_sound hC hCl hF hdg hg2 k
        · split at hg
          · rename_i g2 hg2
            cases hg
            exact xsc_sound hC hdg hg2 k
          · exact xsb_sound hC hdg hg k
    · rw [hRc, hRs] at k
      exact xnd_sound hC hCl hF hNW hAO hini hty hR hT hE hCs hdg k
theorem xlaw_sound {M : xM} {L b : Nat} {xs : Nat → Int32} {g : xG} (hTb : ∀ pc i, xlk M.2.1 pc = some i → ∃ n, decode cc pc = .ok (i, xlen i n)) (hC : xCx p s m args c D tc own cc nL A0) (hCl : xClok) (hNW : xNWok own M.2.2.2.2.1) (hty : ∀ ty, goodWord (.arrayClass ty) = true → (ty = .int ∨ ty = .long) → Cond.arrayClass ty ∈ gW)
    (hRc : M.2.2.2.2.2.2.2.2.1 = R.cells) (hRs : M.2.2.2.2.2.2.2.2.2 = R.slots) (hCs : xCall p l e R s m args below meth c D tc cc nL N0 ρ0 A0 Q M.2.2.2.2.2.2.2.1)
    (hb0 : ρ0 1000000 = b) (hX : va_X b L xs s s.heap) (hbl : b < s.heap.size) (hbA : ¬ A0 b)
    (k : xlaw M L xs (xSem p l e R s m args below meth c D tc nL N0 ρ0 A0 Q) g) : xSem p l e R s m args below meth c D tc nL N0 ρ0 A0 Q g := by
  obtain ⟨hx, hb, hml, hown, hts, hK, hA⟩ := hC
  obtain ⟨pc, lv, st, w, kc, ks⟩ := g
  obtain ⟨hw, k⟩ := k
  rw [hRc, hRs] at k
  intro ρ H locs ls hS hl h1 h2
  have hbb : ρ 1000000 = b := (hS.1 _ (Or.inr hw)).trans hb0
  rcases k with ⟨r, hi, rfl, k⟩ | ⟨j, r, hi, rfl, hin, k⟩ | ⟨r, hi, rfl, g4, g5, g6, g9, g7, g8, k⟩ | ⟨j, ci, fs, hi, g0, g9, g1, g2, g3, g10, g4, g5, k⟩ | ⟨i, j, key, argc, mc, ms, rel, avs, r, v, w1, hi, hk, q1, rfl, q3, q4, q5, q6, q7, q10, q8, q9, k⟩
  · obtain ⟨n, hdg⟩ := hTb _ _ hi
    have k1 := k ρ H locs ls hS hl h1 h2
    simp only [List.map_cons, rV, hbb] at k1 ⊢
    exact va_slen hx hb hX hbl hbA hS.2.2.2.2 hdg k1
  · obtain ⟨n, hdg⟩ := hTb _ _ hi
    have k1 := k ρ H locs ls hS hl h1 h2
    simp only [List.map_cons, rV, hbb] at k1 ⊢
    exact va_sld hx hb hX hbl hbA hS.2.2.2.2 hin hdg k1
  · obtain ⟨n, hdg⟩ := hTb _ _ hi
    refine va_newa (atype := .long) (ty := .long) (a0 := (1, .inr (.inl (fun _ => 0)))) hx hb (hts _ (hty _ rfl (Or.inr rfl))) rfl hK hS.2.2.1 hS.2.2.2.1 hS.2.2.2.2 hA (fun _ => rfl) (nI_pos (by decide)) (nI_clamp (by decide)) (by simp only [componentBytes]; omega) g4 g5 hdg (fun q cA H1 hK1 hP hD hS1 => ?_)
    have hc := xtc hK1 (t := 1) rfl
    subst hc
    have hS2 := xSt_push (c1 := .inl (1, 1, .inr (.inl (fun _ => 0)))) hS g6 trivial hP hD hS1
    have hx2 : ∀ i, i < w.1 → va_up ρ w.1 q i = ρ i := fun i hi => va_up_ne ρ q (by omega)
    have hx3 : va_up ρ w.1 q 1000000 = ρ 1000000 := va_up_ne ρ q (by omega)
    have k2 := k _ H1 locs ls hS2 (by dsimp only; rw [rL_extB hx2 hx3 g7]; exact hl) g4 g5
    simp only [List.map_cons, rS_ext hx2 g8, rV, va_up_self] at k2
    exact k2
  · obtain ⟨n, hdg⟩ := hTb _ _ hi
    rcases hNW j _ _ g0 with h9 | ⟨-, q, hq, w1, w2, w3, hlen, hno, ty, hpt, hdv⟩
    · exact absurd h9.1 (by omega)
    · obtain ⟨C1, T, N⟩ := q
      dsimp only at hlen
      subst hlen
      obtain ⟨c1, c2, ty0, c3⟩ := hCl _ _ hq
      refine va_new (D := D) (C := C1) (T := T) (N := fs.length) (ci := ci) (fs := fs) hx hb hts c1 ty hpt hown (hts _ w1) (hts _ w2) (hts _ w3) hK hS.2.2.1 hS.2.2.2.1 hS.2.2.2.2 hA hq hdv g1 g2 hdg (fun q H1 hP hD hS1 => ?_)
      have he : rC ρ tc (.inr (ci, fs)) = .inr (ci, fs) := by
        simp only [rC]
        rw [rV_no hno]
      have hS2 := xSt_push (c1 := .inr (ci, fs)) hS g3 (okS_mono (Nat.zero_le _) hno) (by rw [he]; exact hP) (by rw [he]; exact hD) hS1
      have hx2 : ∀ i, i < w.1 → va_up ρ w.1 q i = ρ i := fun i hi => va_up_ne ρ q (by omega)
      have hx3 : va_up ρ w.1 q 1000000 = ρ 1000000 := va_up_ne ρ q (by omega)
      have k2 := k _ H1 locs ls hS2 (by dsimp only; rw [rL_extB hx2 hx3 g4]; exact hl) g1 g2
      simp only [List.map_cons, rS_ext hx2 g5, rV, va_up_self] at k2
      exact k2
  · obtain ⟨n, hdg⟩ := hTb _ _ hi
    have hcok : xCOK p l e R s m args below meth c D tc cc nL N0 ρ0 A0 Q i argc mc ms rel ∧ xlen i n = 3 := by
      rcases hk with ⟨rfl, rfl⟩ | ⟨rfl, rfl⟩ | ⟨rfl, rfl⟩
      · exact ⟨(hCs j argc mc ms rel).1 q1, rfl⟩
      · exact ⟨(hCs j argc mc ms rel).2.1 q1, rfl⟩
      · exact ⟨(hCs j argc mc ms rel).2.2 q1, rfl⟩
    refine hcok.1 ρ H locs ls pc w w1 kc ks avs r (.inl v) hS hl.1 (by rw [hdg, hcok.2]) q3 q4 q5 q6 q7 ?_ ?_
    · intro ρ' H1 locs1 v2 hv hρ hS1
      cases hv
      have hx3 : ρ' 1000000 = ρ 1000000 := (hS1.1 _ (Or.inr q10)).trans (hS.1 _ (Or.inr hw)).symm
      have h12 := k ρ' H1 locs1 ls hS1 (by dsimp only; rw [rL_extB hρ hx3 q8]; exact hl) q5 q6
      dsimp only at h12
      rw [List.map_append, rS_ext hρ q9] at h12
      rw [List.append_nil]
      exact h12
    · intro ρ' H1 locs1 E ce q9 hv
      cases hv
theorem lv_sound {pc : Nat} {lv lv' : List (Nat × Value)} {x : List Value × xw × Nat × Nat} (h : ∀ q ∈ lv', xlv lv q.1 = some q.2) (k : xSem p l e R s m args below meth c D tc nL N0 ρ0 A0 Q (pc, lv', x)) : xSem p l e R s m args below meth c D tc nL N0 ρ0 A0 Q (pc, lv, x) := by
  intro ρ H locs ls hS hl h1 h2
  refine k ρ H locs ls hS ⟨hl.1, hl.2.1, fun q hq => ?_⟩ h1 h2
  obtain ⟨q2, hq2, rfl⟩ := List.mem_map.mp hq
  exact xlv_has hl (h q2 hq2)
end XLW
section XP
variable {M : xM} {L : Nat} {sc : Nat → Int32} {Po : xO → xw → Prop} {P : xG → Prop} {pc : Nat} {lv : List (Nat × Value)} {r : List Value} {kc ks : Nat} {i : Instr} {st : List Value} {w : xw}
theorem P1 (hP : xCl M L sc Po P) {g' : xG} (h : xlk M.2.1 pc = some i) (hs : xst M i (pc, lv, st, w, kc, ks) = some g') (k : P g') : P (pc, lv, st, w, kc, ks) := by
  refine hP.1 _ ?_
  unfold xstep
  rw [show (pc, lv, st, w, kc, ks).1 = pc from rfl, h]
  dsimp only
  rw [hs]
  exact k
theorem P0 (hP : xCl M L sc Po P) (h : xlk M.2.1 pc = some i) (hs : xst M i (pc, lv, st, w, kc, ks) = none) (k : xnd M.2.2.2.1 M.2.2.1 M.2.2.2.2.1 M.2.2.2.2.2.1 M.2.2.2.2.2.2.1 M.2.2.2.2.2.2.2.1 M.2.2.2.2.2.2.2.2.1 M.2.2.2.2.2.2.2.2.2 Po P i (pc, lv, st, w, kc, ks)) : P (pc, lv, st, w, kc, ks) := by
  refine hP.1 _ ?_
  unfold xstep
  rw [show (pc, lv, st, w, kc, ks).1 = pc from rfl, h]
  dsimp only
  rw [hs]
  exact k
theorem P_eq (hP : xCl M L sc Po P) {x : Int32} {off : Int} (t : Nat) (h : xlk M.2.1 pc = some (.ifCond .eq off)) (ht : xtg pc off = some t) (ka : x = 0 → P (t, lv, st, w, kc, ks)) (kb : ¬ x = 0 → P (pc + 3, lv, st, w, kc, ks)) : P (pc, lv, .int x :: st, w, kc, ks) := P0 hP h rfl ⟨t, ht, ka, kb⟩
theorem P_ne (hP : xCl M L sc Po P) {x : Int32} {off : Int} (t : Nat) (h : xlk M.2.1 pc = some (.ifCond .ne off)) (ht : xtg pc off = some t) (ka : ¬ x = 0 → P (t, lv, st, w, kc, ks)) (kb : x = 0 → P (pc + 3, lv, st, w, kc, ks)) : P (pc, lv, .int x :: st, w, kc, ks) := P0 hP h rfl ⟨t, ht, ka, kb⟩
theorem P_ceq (hP : xCl M L sc Po P) {x y : Int32} {off : Int} (t : Nat) (h : xlk M.2.1 pc = some (.if_icmp .eq off)) (ht : xtg pc off = some t) (ka : x = y → P (t, lv, st, w, kc, ks)) (kb : ¬ x = y → P (pc + 3, lv, st, w, kc, ks)) : P (pc, lv, .int y :: .int x :: st, w, kc, ks) := P0 hP h rfl ⟨t, ht, ka, kb⟩
theorem P_cgt (hP : xCl M L sc Po P) {x y : Int32} {off : Int} (t : Nat) (h : xlk M.2.1 pc = some (.if_icmp .gt off)) (ht : xtg pc off = some t) (ka : y < x → P (t, lv, st, w, kc, ks)) (kb : ¬ y < x → P (pc + 3, lv, st, w, kc, ks)) : P (pc, lv, .int y :: .int x :: st, w, kc, ks) := P0 hP h rfl ⟨t, ht, ka, kb⟩
theorem P_iret (hP : xCl M L sc Po P) {x : Int32} (h : xlk M.2.1 pc = some .ireturn) (k : Po (.inl (some (.int x))) w) : P (pc, lv, [.int x], w, kc, ks) := P0 hP h rfl k
theorem P_tsw (hP : xCl M L sc Po P) {x : Int32} {d lo hi : Int} {offs : Array Int} (off : Int) (t : Nat) (h : xlk M.2.1 pc = some (.tableswitch d lo hi offs)) (h1 : ¬ x.toInt < lo) (h2 : ¬ hi < x.toInt) (ho : offs[(x.toInt - lo).toNat]? = some off) (ht : xtg pc off = some t) (k : P (t, lv, st, w, kc, ks)) : P (pc, lv, .int x :: st, w, kc, ks) := by
  refine P0 hP h rfl ⟨fun z => ?_, fun _ _ => ⟨off, t, ho, ht, k⟩⟩
  rcases z with z | z
  · exact absurd z h1
  · exact absurd z h2
theorem P_tswO (hP : xCl M L sc Po P) {x : Int32} {d lo hi : Int} {offs : Array Int} (t : Nat) (h : xlk M.2.1 pc = some (.tableswitch d lo hi offs)) (h1 : x.toInt < lo ∨ hi < x.toInt) (ht : xtg pc d = some t) (k : P (t, lv, st, w, kc, ks)) : P (pc, lv, .int x :: st, w, kc, ks) := by
  refine P0 hP h rfl ⟨fun _ => ⟨t, ht, k⟩, fun z1 z2 => ?_⟩
  rcases h1 with z | z
  · exact absurd z z1
  · exact absurd z z2
theorem P_lald (hP : xCl M L sc Po P) {s : xs} {F : Nat → Int64} (h : xlk M.2.1 pc = some .laload) (k : P (pc + 1, lv, .long (F 0) :: st, wo s F, kc, ks)) : P (pc, lv, .int (nI 0) :: .ref 151 :: st, wo s F, kc, ks) := by
  refine P0 hP h rfl ⟨1, F, ⟨Nat.le_of_ble_eq_true rfl, ?_⟩, nI_in (by decide) (by decide), k⟩
  show va_up (cells s) 151 (.inl (1, 1, .inr (.inl F))) 151 = _
  rw [va_up_self]
theorem P_slen (hP : xCl M L sc Po P) (h : xlk M.2.1 pc = some .arraylength) (hw : Nat.ble w.1 1000000 = true) (k : P (pc + 1, lv, .int (Int32.ofNat L) :: st, w, kc, ks)) : P (pc, lv, .ref 1000000 :: st, w, kc, ks) := hP.2.1 _ ⟨Nat.le_of_ble_eq_true hw, Or.inl ⟨st, h, rfl, k⟩⟩
theorem P_sld (hP : xCl M L sc Po P) {j : Int32} (h : xlk M.2.1 pc = some .iaload) (hw : Nat.ble w.1 1000000 = true) (hj : vp_in j L) (k : P (pc + 1, lv, .int (sc j.toNatClampNeg) :: st, w, kc, ks)) : P (pc, lv, .int j :: .ref 1000000 :: st, w, kc, ks) := hP.2.1 _ ⟨Nat.le_of_ble_eq_true hw, Or.inr (Or.inl ⟨j, st, h, rfl, hj, k⟩)⟩
theorem P_newl (hP : xCl M L sc Po P) (h : xlk M.2.1 pc = some (.newarray .long)) (hc : kc + 1 ≤ M.2.2.2.2.2.2.2.2.1 ∧ ks + 1 ≤ M.2.2.2.2.2.2.2.2.2) (ho : xok w) (hw : Nat.blt w.1 1000000 = true) (h1 : okB w.1 lv = true) (h2 : okS w.1 st = true) (k : P (pc + 2, lv, .ref w.1 :: st, (w.1 + 1, va_up w.2 w.1 (.inl (1, 1, .inr (.inl (fun _ => 0))))), kc + 1, ks + 1)) : P (pc, lv, .int (nI 1) :: st, w, kc, ks) :=
  hP.2.1 _ ⟨Nat.le_of_lt (Nat.blt_eq.mp hw), Or.inr (Or.inr (Or.inl ⟨st, h, rfl, hc.1, hc.2, ho, Nat.blt_eq.mp hw, h1, h2, k⟩))⟩
theorem P_new (hP : xCl M L sc Po P) {j ci : Nat} {fs : List Value} (h : xlk M.2.1 pc = some (.new j)) (h0 : M.2.2.2.2.1 j = some (ci, fs)) (h9 : ci < 99) (hc : kc + 1 ≤ M.2.2.2.2.2.2.2.2.1 ∧ ks + fs.length ≤ M.2.2.2.2.2.2.2.2.2) (ho : xok w) (hw : Nat.blt w.1 1000000 = true) (h1 : okB w.1 lv = true) (h2 : okS w.1 st = true) (k : P (pc + 3, lv, .ref w.1 :: st, (w.1 + 1, va_up w.2 w.1 (.inr (ci, fs))), kc + 1, ks + fs.length)) : P (pc, lv, st, w, kc, ks) :=
  hP.2.1 _ ⟨Nat.le_of_lt (Nat.blt_eq.mp hw), Or.inr (Or.inr (Or.inr (Or.inl ⟨j, ci, fs, h, h0, h9, hc.1, hc.2, ho, Nat.blt_eq.mp hw, h1, h2, k⟩)))⟩
theorem P_call (hP : xCl M L sc Po P) {w1 : xw} {avs : List Value} {j key argc mc ms : Nat} {rel : xR} {v : Option Value} (hi : (i = .invokestatic j ∧ key = 3 * j) ∨ (i = .invokevirtual j ∧ key = 3 * j + 1) ∨ (i = .invokespecial j ∧ key = 3 * j + 2)) (h : xlk M.2.1 pc = some i) (hC : M.2.2.2.2.2.2.2.1 key = some (argc, mc, ms, rel)) (hs : st = avs.reverse ++ r) (hlen : avs.length = argc) (hr : rel avs w (.inl v) w1)
    (hc : kc + mc ≤ M.2.2.2.2.2.2.2.2.1 ∧ ks + ms ≤ M.2.2.2.2.2.2.2.2.2) (hcat : Nat.ble (r.map (fun v => v.category)).sum 8 = true) (hw : Nat.ble w.1 1000000 = true ∧ Nat.ble w1.1 1000000 = true) (hok : okB w.1 lv = true ∧ okS w.1 r = true) (k : P (pc + 3, lv, v.toList ++ r, w1, kc + mc, ks + ms)) : P (pc, lv, st, w, kc, ks) :=
  hP.2.1 _ ⟨Nat.le_of_ble_eq_true hw.1, Or.inr (Or.inr (Or.inr (Or.inr ⟨i, j, key, argc, mc, ms, rel, avs, r, v, w1, h, hi, hC, hs, hlen, hr, hc.1, hc.2, Nat.le_of_ble_eq_true hcat, Nat.le_of_ble_eq_true hw.2, hok.1, hok.2, k⟩)))⟩
theorem P_lv (hP : xCl M L sc Po P) {x : List Value × xw × Nat × Nat} (lv' : List (Nat × Value)) (h : ∀ q ∈ lv', xlv lv q.1 = some q.2) (k : P (pc, lv', x)) : P (pc, lv, x) := hP.2.2 pc lv lv' x h k
end XP
