def scP (i : Nat) : Prop := i = 11 ∨ (21 ≤ i ∧ i ≤ 40) ∨ (123 ≤ i ∧ i ≤ 132) ∨ i = 133 ∨ i = 135 ∨ i = 137 ∨ i = 139 ∨ i = 142 ∨ i = 144 ∨ 147 ≤ i
def Sx (n : Nat) (s s' : xs) : Prop := (∀ i, n ≤ i → ¬ scP i → s'.1 i = s.1 i) ∧ s'.1 133 0 = s.1 133 0 ∧ s'.1 142 3 = s.1 142 3 ∧ s'.1 142 5 = s.1 142 5 ∧ s'.2.1 = s.2.1
theorem Sx_rf {n : Nat} {s : xs} : Sx n s s := ⟨fun _ _ _ => rfl, rfl, rfl, rfl, rfl⟩
theorem Sx_tr {n : Nat} {s s' s2 : xs} (h : Sx n s s') (g : Sx n s' s2) : Sx n s s2 := ⟨fun i a b => (g.1 i a b).trans (h.1 i a b), g.2.1.trans h.2.1, g.2.2.1.trans h.2.2.1, g.2.2.2.1.trans h.2.2.2.1, g.2.2.2.2.trans h.2.2.2.2⟩
theorem Sx_up {n m : Nat} {s s' : xs} (hm : n ≤ m) (h : Sx n s s') : Sx m s s' := ⟨fun i a b => h.1 i (Nat.le_trans hm a) b, h.2⟩
theorem Sx_lo {p n k : Nat} {s s' : xs} (h : sOut p n s s') (hp : p + n < k) (h2 : p + n < 133) : Sx k s s' := ⟨fun i a _ => h.1 i (by omega), by rw [h.1 133 (by omega)], by rw [h.1 142 (by omega)], by rw [h.1 142 (by omega)], by rw [h.2]⟩
theorem Sx_123 {s s' : xs} (h : sOut 123 9 s s') : Sx 0 s s' := ⟨fun i _ b => h.1 i (by unfold scP at b; omega), by rw [h.1 133 (by decide)], by rw [h.1 142 (by decide)], by rw [h.1 142 (by decide)], by rw [h.2]⟩
theorem Sx_22 {s s' : xs} (h : sOut 22 9 s s') : Sx 0 s s' := ⟨fun i _ b => h.1 i (by unfold scP at b; omega), by rw [h.1 133 (by decide)], by rw [h.1 142 (by decide)], by rw [h.1 142 (by decide)], by rw [h.2]⟩
theorem Sx_rOut {s s' : xs} (h : rOut s s') : Sx 0 s s' := ⟨fun i _ b => h.1 i (by unfold scP at b; omega) (by unfold scP at b; omega), by rw [h.1 133 (by decide) (by decide)], h.2.1 3 (by decide) (by decide), h.2.1 5 (by decide) (by decide), by rw [h.2.2]⟩
theorem Sx_rX {s s' : xs} (h : rX s s') : Sx 0 s s' := ⟨fun i _ b => h.1 i (by unfold scP at b; omega), by rw [h.1 133 (by decide)], h.2.1 3 (by decide), h.2.1 5 (by decide), by rw [h.2.2]⟩
theorem Sx_cR {s s' : xs} (h : cR s s') : Sx 0 s s' := ⟨fun i _ b => h.1 i (by unfold scP at b; omega) (by unfold scP at b; omega) (by unfold scP at b; omega) (by unfold scP at b; omega), h.2.1, by rw [h.1 142 (by decide) (by decide) (by decide) (by decide)], by rw [h.1 142 (by decide) (by decide) (by decide) (by decide)], by rw [h.2.2]⟩
theorem Sx_N {s : xs} {x y : Int32} : Sx 0 s (nxtI s x y) := ⟨fun i _ b => nxtI_ne (by unfold scP at b; omega), by rw [nxtI_ne (by decide)], nxtI_o (by decide) (by decide), nxtI_o (by decide) (by decide), rfl⟩
theorem Sx_p {s : xs} {k : Nat} {v : Int32} (h3 : k ≠ 3) (h5 : k ≠ 5) : Sx 0 s (put s 142 k v) := ⟨fun i _ b => put_ne _ _ (by unfold scP at b; omega), by rw [put_ne _ _ (by decide)], putn h3.symm, putn h5.symm, rfl⟩
theorem Sx_set {s : xs} {i : Nat} {f : Nat → Int32} (h : scP i) (h1 : i ≠ 133) (h2 : i ≠ 142) : Sx 0 s (setP s i f) := ⟨fun j _ b => setP_ne _ _ (fun e => b (e ▸ h)), by rw [setP_ne _ _ h1.symm], by rw [setP_ne _ _ h2.symm], by rw [setP_ne _ _ h2.symm], rfl⟩
theorem Sx_q {n : Nat} {s s' : xs} (h : Sx n s s') (hn : n ≤ 143) : s'.1 143 = s.1 143 := h.1 143 hn (by unfold scP; omega)
theorem pRel_fr2 {s s' : xs} {b : Nat} {Q : Nat → Int32} (h : ∀ i, b + 1 ≤ i → i ≤ b + 19 → i ≠ b + 10 → s'.1 i = s.1 i) (k : pRel s b Q) : pRel s' b Q := ⟨bRel_fr (fun i a c => h i (by omega) (by omega) (by omega)) k.1, tRel_fr (fun i a c => h i (by omega) (by omega) (by omega)) k.2⟩
theorem pRel_Sx {s s' : xs} {Q : Nat → Int32} (g : Sx 0 s s') (k : pRel s 1 Q) : pRel s' 1 Q := pRel_fr2 (fun i a b c => g.1 i (Nat.zero_le _) (by unfold scP; omega)) k
theorem Rl_Sx {s s' : xs} (h : Rl s) (g : Sx 0 s s') : Rl s' := by
  have e143 := Sx_q g (by decide)
  obtain ⟨h1, h2, ⟨π, c, k1, k2, k3, k4, k5⟩, hT⟩ := h
  have e : ∀ i, ¬ scP i → s'.1 i = s.1 i := fun i b => g.1 i (Nat.zero_le _) b
  refine ⟨?_, by rw [e143]; exact h2, ⟨π, c, xhi_fr (by rw [g.2.2.2.2]) k1, k2, ?_, g.2.2.1.trans k4, ?_⟩, RlT_c hT g.2.1 (e 141 (by unfold scP; omega)) g.2.2.2.1 (e 146 (by unfold scP; omega))⟩
  · rw [e143]
    exact pRel_Sx g h1
  · rw [e 41 (by unfold scP; omega)]
    exact k3
  · have ep : pg s' = pg s := by
      funext j q
      unfold pg
      rw [e 145 (by unfold scP; omega)]
    rw [ep]
    exact HS_fr k1 k2 (fun i a b => e i (by unfold scP; omega)) k5
/-- the bar's cells written again with the same page -/
theorem Rl_bar {s s' : xs} (h : Rl s) (o : sOut 2 9 s s') (hb : bRel s' 2 (s.1 143)) : Rl s' := by
  obtain ⟨h1, h2, ⟨π, c, k1, k2, k3, k4, k5⟩, hT⟩ := h
  have e : ∀ i, 11 < i → s'.1 i = s.1 i := fun i b => o.1 i (by omega)
  refine ⟨?_, by rw [e 143 (by decide)]; exact h2, ⟨π, c, xhi_fr (by rw [o.2]) k1, k2, ?_, ?_, ?_⟩, RlT_c hT ?_ (e 141 (by decide)) ?_ (e 146 (by decide))⟩
  · rw [e 143 (by decide)]
    exact ⟨hb, tRel_fr (fun i a b => e i (by omega)) h1.2⟩
  · rw [e 41 (by decide)]
    exact k3
  · rw [e 142 (by decide)]
    exact k4
  · have ep : pg s' = pg s := by
      funext j q
      unfold pg
      rw [e 145 (by decide)]
    rw [ep]
    exact HS_fr k1 k2 (fun i a b => e i (by omega)) k5
  · rw [e 133 (by decide)]
  · rw [e 142 (by decide)]
def SV (s s1 : xs) (c : Nat) : Prop := ∃ π, xhi s1 π ∧ s1.1 41 0 = nI (cN4 c) ∧ HS s1 π (cN4 c) (wN (pg s) c (s.1 143)) ∧ ∀ i, (i < 41 ∨ 122 < i) → s1.1 i = s.1 i
theorem Rl_sv {s : xs} (h : Rl s) : ∃ s1 c, c ≤ 4 ∧ s.1 142 3 = nI c ∧ Ev_X1_save [.ref 41, .ref 1] (wd s) (.inl none) (wd s1) ∧ pRel s1 1 (s.1 143) ∧ SV s s1 c := by
  obtain ⟨hp, hi, ⟨π, c, k1, k2, k3, k4, k5⟩, hT⟩ := h
  obtain ⟨s1, π', hev, g1, g2, g3, g4, g5⟩ := c_save k1 k2 k3 k5 hp hi
  exact ⟨s1, c, k2, k4, hev, pRel_fr (fun i a b => g4 i (Or.inl (by omega))) hp, π', g1, g2, g3, g4⟩
theorem sv_3 {s s1 s2 : xs} {c d : Nat} (v : SV s s1 c) (o : Sx 21 s1 s2) (h : s.1 142 3 = nI d) : s2.1 142 3 = nI d := by
  obtain ⟨π, v1, v2, v3, v4⟩ := v
  rw [o.2.2.1, v4 142 (by decide)]
  exact h
theorem sv_q {s s1 s2 : xs} {c : Nat} (v : SV s s1 c) (o : Sx 21 s1 s2) : s2.1 143 = s.1 143 := by
  obtain ⟨π, v1, v2, v3, v4⟩ := v
  rw [Sx_q o (by decide), v4 143 (by decide)]
theorem mutR {s s1 s2 s3 s5 : xs} {c : Nat} {Q : Nat → Int32} (hR : Rl s) (hc : c ≤ 4) (v : SV s s1 c) (o : Sx 21 s1 s2) (hp : pRel s2 1 Q) (hi : pInv Q) (K : K6 s2 c s3) (x : gX s3 s5) (r1 : s5.1 143 = Q) : Rl s5 ∧ s5.1 142 6 = nI 0 := by
  have e143 := sv_q v o
  obtain ⟨_, _, _, hT⟩ := hR
  obtain ⟨π, v1, v2, v3, v4⟩ := v
  obtain ⟨k1, k2, k3, k4, k5, k6⟩ := K
  have e : ∀ i, 21 ≤ i → ¬ scP i → s2.1 i = s1.1 i := o.1
  have epg : pg s2 = pg s := by
    funext j q
    unfold pg
    rw [e 145 (by decide) (by unfold scP; omega), v4 145 (by decide)]
  rw [e143, epg] at k5
  have f : ∀ i, 21 ≤ i → ¬ scP i → i ≠ 143 → i ≠ 145 → s5.1 i = s1.1 i := fun i a b h3 h5 => (x.1 i (fun z => b (by unfold scP; omega)) h3).trans ((k1 i (fun z => b (by unfold scP; omega)) h5).trans (e i a b))
  refine ⟨⟨?_, by rw [r1]; exact hi, ⟨π, cN4 c, xhi_fr ?_ v1, cN4_le hc, ?_, (x.2.1 3 (by decide) (by decide)).trans k4, ?_⟩, RlT_c hT ?_ ?_ ?_ ?_⟩, (x.2.1 6 (by decide) (by decide)).trans k3⟩
  · rw [r1]
    exact pRel_fr (fun i a b => (x.1 i (by omega) (by omega)).trans (k1 i (by omega) (by omega))) hp
  · rw [x.2.2, k6, o.2.2.2.2]
  · rw [f 41 (by decide) (by unfold scP; omega) (by decide) (by decide)]
    exact v2
  · refine HS_cg (fun j hj q hq => ?_) (HS_fr v1 (cN4_le hc) (fun i a b => f i (by omega) (by unfold scP; omega) (by omega) (by omega)) v3)
    rw [← k5 j hj q hq]
    unfold pg
    rw [x.1 145 (by decide) (by decide)]
  · rw [x.1 133 (by decide) (by decide), k1 133 (by decide) (by decide), o.2.1, v4 133 (by decide)]
  · rw [f 141 (by decide) (by unfold scP; omega) (by decide) (by decide), v4 141 (by decide)]
  · rw [x.2.1 5 (by decide) (by decide), k2 5 (by decide) (by decide), o.2.2.2.1, v4 142 (by decide)]
  · rw [f 146 (by decide) (by unfold scP; omega) (by decide) (by decide), v4 146 (by decide)]
theorem pRel_op {s1 s2 : xs} {Q Q2 : Nat → Int32} (hp : pRel s1 1 Q) (wo : sOut 2 9 s1 s2) (hb : bRel s2 2 Q2) (h8 : Q2 8 = Q 8) (hq : ∀ i, 41 ≤ i → i < 73 → Q2 i = Q i) : pRel s2 1 Q2 :=
  ⟨hb, tRel_fr (fun i a b => wo.1 i (by omega)) (tRel_cg hp.2 rfl rfl rfl rfl rfl h8 hq)⟩
/-- a call that changes the bar: class's state s2, the reference begins at s2' -/
theorem mutB {s s1 s2 s2' s3 s5 : xs} {c : Nat} {Q2 : Nat → Int32} (hR : Rl s) (hc : c ≤ 4) (v : SV s s1 c) (hp : pRel s1 1 (s.1 143)) (wo : sOut 2 9 s1 s2) (hb : bRel s2 2 Q2) (h8 : Q2 8 = s.1 143 8) (hq : ∀ i, 41 ≤ i → i < 73 → Q2 i = s.1 143 i) (hi : pInv Q2) (g : Sx 0 s2 s2') (K : K6 s2' c s3) (x : gX s3 s5) (r1 : s5.1 143 = Q2) : Rl s5 ∧ s5.1 142 6 = nI 0 :=
  mutR hR hc v (Sx_tr (Sx_lo wo (by decide) (by decide)) (Sx_up (Nat.zero_le _) g)) (pRel_Sx g (pRel_op hp wo hb h8 hq)) hi K x r1
theorem c_lengthOf {s : xs} {Q : Nat → Int32} {k : Nat} (hs : bRel s 2 Q) (hp : qPart Q k) (hk : k < 8) : Ev_X0_lengthOf [.ref 2, .int (nI k)] (wd s) (.inl (some (.int (nI (qLen Q k))))) (wd s) := by
  obtain ⟨r1, r2, r3, r4⟩ := hs.2 k hk
  obtain ⟨p1, p2, p3, p4, p5, p6, p7⟩ := hp
  exact e_lengthOf xbar_2 hk (r1.trans p1) (r2.trans p2) (r3.trans p3) p4 p5 (by omega)
theorem r_lengthOf {s : xs} {P : Nat → Int32} {k : Nat} (hk : k < 8) (hp : qPart P k) : Ev_X9_lengthOf [.ref 142, .int (nI k)] (wd (setP s 143 P)) (.inl (some (.int (nI (qLen P k))))) (wd (setP s 143 P)) := by
  have h := e9_lengthOf (s := setP s 143 P) hk (by rw [setP_at]; exact hp)
  rw [setP_at] at h
  exact h
theorem K6_q {s s' : xs} {c : Nat} (K : K6 s c s') : s'.1 143 = s.1 143 := K.1 143 (by decide) (by decide)
theorem okS2_of {w h : Int32} (k : okS2 w h = true) : ∃ a b, w = nI a ∧ h = nI b ∧ 5 ≤ a ∧ a ≤ 100 ∧ 5 ≤ b ∧ b ≤ 100 ∧ nRg a = true ∧ nRg b = true := by
  unfold okS2 at k
  rw [Bool.and_eq_true] at k
  obtain ⟨a, h1, h2, h3⟩ := inI_of (by decide) k.1 (by decide)
  obtain ⟨b, g1, g2, g3⟩ := inI_of (by decide) k.2 (by decide)
  exact ⟨a, b, h1, g1, h2, h3, g2, g3, nRg_iff.mpr ⟨h2, h3⟩, nRg_iff.mpr ⟨g2, g3⟩⟩
theorem okW_of {w h t : Int32} (k : okW w h t = true) : ∃ a b d, w = nI a ∧ h = nI b ∧ t = nI d ∧ 5 ≤ a ∧ a ≤ 100 ∧ 5 ≤ b ∧ b ≤ 100 ∧ d ≤ 9 ∧ nRg a = true ∧ nRg b = true := by
  rw [okW_eq, Bool.and_eq_true] at k
  obtain ⟨a, b, h1, h2, h3, h4, h5, h6, h7, h8⟩ := okS2_of k.1
  obtain ⟨d, g1, g2, g3⟩ := inI_of (by decide) k.2 (by decide)
  exact ⟨a, b, d, h1, h2, g1, h3, h4, h5, h6, g3, h7, h8⟩
theorem Pair_x {s s1 s2 : xs} {f g : xR} {ca ra : List Value} {ex : List String} (k : Nat) (E : String) (hE : ex[k]? = some E) (h1 : f ca (wd s) (.inr E) (wd s1)) (h2 : g ra (wd s1) (.inl (some (.int (nI 0)))) (wd (put s2 142 6 (nI (k + 1))))) (hR : Rl s2) : Pair f g ca ra ex s := ⟨_, s1, nI 0, _, h1, h2, Rl_code hR, Or.inr ⟨k, E, hE, rfl, put6⟩⟩
theorem Pair_t {s s1 s2 : xs} {f g : xR} {ca ra : List Value} {ex : List String} {v : Int32} (h1 : f ca (wd s) (.inl (some (.int v))) (wd s1)) (h2 : g ra (wd s1) (.inl (some (.int v))) (wd s2)) (hR : Rl s2 ∧ s2.1 142 6 = nI 0) : Pair f g ca ra ex s := ⟨_, s1, v, s2, h1, h2, hR.1, Or.inl ⟨rfl, hR.2⟩⟩
