theorem qHeat_hi {Q : Nat → Int32} {n i : Nat} (n8 : n ≤ 8) (hi : i = 8 ∨ 41 ≤ i) : qHeat Q n i = Q i := by
  simp only [qHeat, qHot]
  (repeat (first | rw [if_pos (by omega)] | rw [if_neg (by omega)]))
theorem fQ_hi {Q : Nat → Int32} {n k a b t i : Nat} {p : Nat → Nat} (hk : k < 8) (n8 : n ≤ 8) (hi : i = 8 ∨ 41 ≤ i) : ∀ j, fQ Q n k a b t p j i = Q i := by
  intro j
  induction j with
  | zero => rfl
  | succ j ih =>
    rw [fQ, qStrike_o (by omega) (by omega) (by omega) hk]
    split
    · rw [qHeat_hi n8 hi]
      exact ih
    · exact ih
theorem sv_o {s s1 : xs} {c i : Nat} (v : SV s s1 c) (h : i < 41 ∨ 122 < i) : s1.1 i = s.1 i := by
  obtain ⟨π, v1, v2, v3, v4⟩ := v
  exact v4 i h
theorem wR_ok {Q : Nat → Int32} {k x y o n : Nat} {p : Nat → Nat} (hp : qPart Q k) (h : wRes (qn Q (11 + 4 * k)) (cl (qn Q (9 + 4 * k)) (qn Q (10 + 4 * k))) x y o n p) : n ≤ 60 ∧ (∀ j, j < n → p j ≤ 2) ∧ ∀ j, j ≤ n → nRg (wSec (qn Q (9 + 4 * k)) (qn Q (10 + 4 * k)) p j).1 = true ∧ nRg (wSec (qn Q (9 + 4 * k)) (qn Q (10 + 4 * k)) p j).2 = true := by
  obtain ⟨c1, c2, c3⟩ := cl_ok hp
  have h1 := wRes_ok c1 h
  rw [c2, c3] at h1
  exact h1
theorem pr_forge {s : xs} {x w h t : Int32} (hR : Rl s) : Pair Ev_X8_forge Ev_X9_forge [.ref 0, .int x, .int w, .int h, .int t] [.ref 142, .int x, .int w, .int h, .int t] ["java/lang/IndexOutOfBoundsException", "java/lang/IllegalArgumentException", "java/lang/IllegalStateException"] s := by
  obtain ⟨i7, n1, n8⟩ := hR.2.1.1
  have hn : s.1 2 0 = nI (qn (s.1 143) 7) := hR.1.1.1.1.trans i7
  cases k1 : xhas x (qn (s.1 143) 7) with
  | false =>
    refine Pair_x (s1 := s) (s2 := s) 0 "java/lang/IndexOutOfBoundsException" rfl ?_ ?_ hR
    · refine ⟨Nat.le_of_ble_eq_true rfl, Nat.le_refl _, trivial, ?_⟩
      refine R1 (g' := (1, _, _, _, _, _)) rfl rfl ?_
      refine R1 (g' := (2, _, _, _, _, _)) rfl rfl ?_
      refine R_call2X (Or.inr (Or.inl ⟨rfl, rfl⟩)) rfl rfl ⟨Nat.le_of_ble_eq_true rfl, Nat.le_of_ble_eq_true rfl⟩ (Nat.le_of_ble_eq_true rfl) ⟨rfl, rfl⟩ (⟨⟨_, _, _, rfl, (Nat.le_of_ble_eq_true rfl), rfl⟩, e8_partX hn k1⟩) rfl ?_
      exact ⟨rfl, rfl⟩
    · refine ⟨Nat.le_of_ble_eq_true rfl, Nat.le_refl _, Or.inl rfl, ?_⟩
      refine R1 (g' := (1, _, _, _, _, _)) rfl rfl ?_
      refine R1 (g' := (2, _, _, _, _, _)) rfl rfl ?_
      refine R1 (g' := (3, _, _, _, _, _)) rfl rfl ?_
      refine R_call2 (Or.inr (Or.inl ⟨rfl, rfl⟩)) rfl rfl ⟨Nat.le_of_ble_eq_true rfl, Nat.le_of_ble_eq_true rfl⟩ (Nat.le_of_ble_eq_true rfl) ⟨rfl, rfl⟩ (⟨⟨_, _, _, rfl, (Nat.le_of_ble_eq_true rfl), rfl⟩, e9_isPart i7 n1 (by omega)⟩) ?_
      rw [k1]
      refine R_ne 13 rfl rfl (fun h => by exact absurd rfl h) (fun h6 => ?_)
      refine R1 (g' := (10, _, .int (nI 1) :: _, _, _, _)) rfl rfl ?_
      refine R1 (g' := (28, _, _, _, _, _)) rfl rfl ?_
      refine R_put rfl rfl (Nat.le_of_ble_eq_true rfl) rfl (Nat.le_of_ble_eq_true rfl) ⟨_, rfl, Or.inl rfl, _, rfl, rfl⟩ rfl ?_
      change xRun _ _ (31, _, _, wd (put s 142 6 (nI 1)), _, _)
      refine R1 (g' := (32, _, _, _, _, _)) rfl rfl ?_
      refine R_getf rfl rfl (Nat.le_of_ble_eq_true rfl) rfl rfl ?_
      rw [put6]
      refine R_ne 50 rfl rfl (fun h35 => ?_) (fun h => by exact absurd h (by decide))
      refine R1 (g' := (51, _, .int (nI 0) :: _, _, _, _)) rfl rfl ?_
      refine R1 (g' := (53, _, _, _, _, _)) rfl rfl ?_
      refine R1 (g' := (54, _, _, _, _, _)) rfl rfl ?_
      refine R1 (g' := (56, _, _, _, _, _)) rfl rfl ?_
      refine R1 (g' := (57, _, .int (-1) :: _, _, _, _)) rfl rfl ?_
      refine R_cne 64 rfl rfl (fun h57 => ?_) (fun h => by exact absurd h (by decide))
      refine R1 (g' := (65, _, _, _, _, _)) rfl rfl ?_
      refine R_getf rfl rfl (Nat.le_of_ble_eq_true rfl) rfl rfl ?_
      rw [put6]
      refine R_put rfl rfl (Nat.le_of_ble_eq_true rfl) rfl (Nat.le_of_ble_eq_true rfl) ⟨_, rfl, Or.inl rfl, _, rfl, rfl⟩ rfl ?_
      change xRun _ _ (71, _, _, wd (put (put s 142 6 (nI 1)) 142 6 (nI 1)), _, _)
      rw [put_put]
      refine R1 (g' := (72, _, _, _, _, _)) rfl rfl ?_
      refine R_getf rfl rfl (Nat.le_of_ble_eq_true rfl) rfl rfl ?_
      rw [put6]
      refine R_eq 80 rfl rfl (fun h => by exact absurd h (by decide)) (fun h75 => ?_)
      refine R1 (g' := (79, _, .int (nI 0) :: _, _, _, _)) rfl rfl ?_
      refine R_iret rfl ?_
      exact ⟨rfl, rfl⟩
  | true =>
    cases k2 : okW w h t with
    | false =>
      refine Pair_x (s1 := s) (s2 := s) 1 "java/lang/IllegalArgumentException" rfl ?_ ?_ hR
      · refine ⟨Nat.le_of_ble_eq_true rfl, Nat.le_refl _, trivial, ?_⟩
        refine R1 (g' := (1, _, _, _, _, _)) rfl rfl ?_
        refine R1 (g' := (2, _, _, _, _, _)) rfl rfl ?_
        refine R_call2 (Or.inr (Or.inl ⟨rfl, rfl⟩)) rfl rfl ⟨Nat.le_of_ble_eq_true rfl, Nat.le_of_ble_eq_true rfl⟩ (Nat.le_of_ble_eq_true rfl) ⟨rfl, rfl⟩ (⟨⟨_, _, _, rfl, (Nat.le_of_ble_eq_true rfl), rfl⟩, e8_part hn k1⟩) ?_
        refine R1 (g' := (6, _, _, _, _, _)) rfl rfl ?_
        refine R1 (g' := (7, _, _, _, _, _)) rfl rfl ?_
        refine R1 (g' := (9, _, _, _, _, _)) rfl rfl ?_
        refine R_call3X (Or.inl ⟨rfl, rfl⟩) rfl rfl ⟨Nat.le_of_ble_eq_true rfl, Nat.le_of_ble_eq_true rfl⟩ (Nat.le_of_ble_eq_true rfl) ⟨rfl, rfl⟩ (e8_wishX k2) rfl ?_
        exact ⟨rfl, rfl⟩
      · refine ⟨Nat.le_of_ble_eq_true rfl, Nat.le_refl _, Or.inl rfl, ?_⟩
        refine R1 (g' := (1, _, _, _, _, _)) rfl rfl ?_
        refine R1 (g' := (2, _, _, _, _, _)) rfl rfl ?_
        refine R1 (g' := (3, _, _, _, _, _)) rfl rfl ?_
        refine R_call2 (Or.inr (Or.inl ⟨rfl, rfl⟩)) rfl rfl ⟨Nat.le_of_ble_eq_true rfl, Nat.le_of_ble_eq_true rfl⟩ (Nat.le_of_ble_eq_true rfl) ⟨rfl, rfl⟩ (⟨⟨_, _, _, rfl, (Nat.le_of_ble_eq_true rfl), rfl⟩, e9_isPart i7 n1 (by omega)⟩) ?_
        rw [k1]
        refine R_ne 13 rfl rfl (fun h6 => ?_) (fun h => by exact absurd h (by decide))
        refine R1 (g' := (14, _, _, _, _, _)) rfl rfl ?_
        refine R1 (g' := (15, _, _, _, _, _)) rfl rfl ?_
        refine R1 (g' := (17, _, _, _, _, _)) rfl rfl ?_
        refine R_call3 (Or.inl ⟨rfl, rfl⟩) rfl rfl ⟨Nat.le_of_ble_eq_true rfl, Nat.le_of_ble_eq_true rfl⟩ (Nat.le_of_ble_eq_true rfl) ⟨rfl, rfl⟩ (e9_isWish) ?_
        rw [k2]
        refine R_eq 27 rfl rfl (fun h20 => ?_) (fun h => by exact absurd rfl h)
        refine R1 (g' := (28, _, .int (nI 2) :: _, _, _, _)) rfl rfl ?_
        refine R_put rfl rfl (Nat.le_of_ble_eq_true rfl) rfl (Nat.le_of_ble_eq_true rfl) ⟨_, rfl, Or.inl rfl, _, rfl, rfl⟩ rfl ?_
        change xRun _ _ (31, _, _, wd (put s 142 6 (nI 2)), _, _)
        refine R1 (g' := (32, _, _, _, _, _)) rfl rfl ?_
        refine R_getf rfl rfl (Nat.le_of_ble_eq_true rfl) rfl rfl ?_
        rw [put6]
        refine R_ne 50 rfl rfl (fun h35 => ?_) (fun h => by exact absurd h (by decide))
        refine R1 (g' := (51, _, .int (nI 0) :: _, _, _, _)) rfl rfl ?_
        refine R1 (g' := (53, _, _, _, _, _)) rfl rfl ?_
        refine R1 (g' := (54, _, _, _, _, _)) rfl rfl ?_
        refine R1 (g' := (56, _, _, _, _, _)) rfl rfl ?_
        refine R1 (g' := (57, _, .int (-1) :: _, _, _, _)) rfl rfl ?_
        refine R_cne 64 rfl rfl (fun h57 => ?_) (fun h => by exact absurd h (by decide))
        refine R1 (g' := (65, _, _, _, _, _)) rfl rfl ?_
        refine R_getf rfl rfl (Nat.le_of_ble_eq_true rfl) rfl rfl ?_
        rw [put6]
        refine R_put rfl rfl (Nat.le_of_ble_eq_true rfl) rfl (Nat.le_of_ble_eq_true rfl) ⟨_, rfl, Or.inl rfl, _, rfl, rfl⟩ rfl ?_
        change xRun _ _ (71, _, _, wd (put (put s 142 6 (nI 2)) 142 6 (nI 2)), _, _)
        rw [put_put]
        refine R1 (g' := (72, _, _, _, _, _)) rfl rfl ?_
        refine R_getf rfl rfl (Nat.le_of_ble_eq_true rfl) rfl rfl ?_
        rw [put6]
        refine R_eq 80 rfl rfl (fun h => by exact absurd h (by decide)) (fun h75 => ?_)
        refine R1 (g' := (79, _, .int (nI 0) :: _, _, _, _)) rfl rfl ?_
        refine R_iret rfl ?_
        exact ⟨rfl, rfl⟩
    | true =>
      obtain ⟨k, hk, rfl⟩ := xhas_of (by omega) k1
      obtain ⟨a, b, d, rfl, rfl, rfl, a1, a2, b1, b2, d9, ra, rb⟩ := okW_of k2
      have hk8 : k < 8 := by omega
      have hp := hR.2.1.2.2.2.2.1 k hk
      obtain ⟨cl1, cl2, cl3⟩ := cl_ok hp
      obtain ⟨sf, wof, hfd⟩ := c_find (x := a) (y := b) (o := d) hR.1.1 hp hk8 (by omega) (by omega) (by omega)
      have ef : sf.1 143 = s.1 143 := wof.1 143 (by decide)
      have hRf : Rl sf := Rl_Sx hR (Sx_123 wof)
      have k1' : xhas (nI k) (qn (sf.1 143) 7) = true := by rw [ef]; exact k1
      rw [← ef] at hfd hp hk i7 n1 n8 cl1
      rcases hfd with ⟨n, p, hres, hev, hb, hw⟩ | ⟨hno, hev, hb⟩
      · obtain ⟨n60, hp2, hR2⟩ := wR_ok hp hres
        obtain ⟨s1, c, hc4, hc, hsv, hp1, hv⟩ := Rl_sv hRf
        obtain ⟨s2, wo, hb2, hfw⟩ := e8_followWay2 hRf.2.1 hk n60 hp2 hR2 hp1.1 (by rw [sv_o hv (by decide)]; exact hw) (by rw [sv_o hv (by decide)]; exact hb)
        have o1 : Sx 21 s1 s2 := Sx_lo wo (by decide) (by decide)
        have e2 : s2.1 143 = sf.1 143 := sv_q hv o1
        obtain ⟨sr, ro, hfd2⟩ := r_find (s := put s2 142 6 (nI 0)) (k := k) (x := a) (y := b) (o := d) ((put6n (by decide)).trans e2) hp hk8 (by omega) (by omega) (by omega)
        have or : Sx 0 s2 sr := Sx_tr (Sx_p (by decide) (by decide)) (Sx_rOut ro)
        have er : sr.1 143 = sf.1 143 := (Sx_q or (by decide)).trans e2
        have ec : sr.1 142 6 = nI 0 := (ro.2.1 6 (by decide) (by decide)).trans put6
        rcases hfd2 with ⟨m, p2, hres2, hev2, hw2⟩ | ⟨hno2, hev2⟩
        · obtain ⟨rfl, hpp⟩ := wRes_eq cl1 hres hres2
          have o2 : Sx 21 s1 sr := Sx_tr o1 (Sx_up (Nat.zero_le _) or)
          obtain ⟨s3, hk3, K⟩ := r_keep6 (s := sr) hc4 (sv_3 hv o2 hc)
          have e3 : s3.1 143 = sf.1 143 := (K6_q K).trans er
          obtain ⟨x, y, hfo⟩ := e9_forges (s := s3) hRf.2.1 e3 hk n60 hp2 hR2 (fun j hj => by rw [K.1 150 (by decide) (by decide), hw2 j hj, hpp j hj])
          have hfk := fQ_ok hRf.2.1 hk hR2 n (Nat.le_refl _)
          refine Pair_t (s1 := s2) (s2 := setP (nxtI s3 x y) 143 (fQ (sf.1 143) (qn (sf.1 143) 7) k (qn (sf.1 143) (9 + 4 * k)) (qn (sf.1 143) (10 + 4 * k)) (qn (sf.1 143) 0) p n)) (v := nI n) ?_ ?_ (mutB hRf hc4 hv hp1 wo hb2 (fQ_hi hk8 n8 (Or.inl rfl) _) (fun i a b => fQ_hi hk8 n8 (Or.inr a) _) hfk.1 or K (gX_P (gX_N gX_rf)) (setP_at _ _ _))
          · refine ⟨Nat.le_of_ble_eq_true rfl, Nat.le_refl _, Or.inl rfl, ?_⟩
            refine R1 (g' := (1, _, _, _, _, _)) rfl rfl ?_
            refine R1 (g' := (2, _, _, _, _, _)) rfl rfl ?_
            refine R_call2 (Or.inr (Or.inl ⟨rfl, rfl⟩)) rfl rfl ⟨Nat.le_of_ble_eq_true rfl, Nat.le_of_ble_eq_true rfl⟩ (Nat.le_of_ble_eq_true rfl) ⟨rfl, rfl⟩ (⟨⟨_, _, _, rfl, (Nat.le_of_ble_eq_true rfl), rfl⟩, e8_part hn k1⟩) ?_
            refine R1 (g' := (6, _, _, _, _, _)) rfl rfl ?_
            refine R1 (g' := (7, _, _, _, _, _)) rfl rfl ?_
            refine R1 (g' := (9, _, _, _, _, _)) rfl rfl ?_
            refine R_call3 (Or.inl ⟨rfl, rfl⟩) rfl rfl ⟨Nat.le_of_ble_eq_true rfl, Nat.le_of_ble_eq_true rfl⟩ (Nat.le_of_ble_eq_true rfl) ⟨rfl, rfl⟩ (e8_wish k2) ?_
            refine R1 (g' := (13, _, _, _, _, _)) rfl rfl ?_
            refine R_getf rfl rfl (Nat.le_of_ble_eq_true rfl) rfl rfl ?_
            refine R1 (g' := (17, _, _, _, _, _)) rfl rfl ?_
            refine R_getf rfl rfl (Nat.le_of_ble_eq_true rfl) rfl rfl ?_
            refine R_getf rfl rfl (Nat.le_of_ble_eq_true rfl) rfl rfl ?_
            refine R1 (g' := (24, _, _, _, _, _)) rfl rfl ?_
            refine R1 (g' := (25, _, _, _, _, _)) rfl rfl ?_
            refine R1 (g' := (26, _, _, _, _, _)) rfl rfl ?_
            refine R1 (g' := (28, _, _, _, _, _)) rfl rfl ?_
            refine R_call6 (Or.inr (Or.inl ⟨rfl, rfl⟩)) rfl rfl ⟨Nat.le_of_ble_eq_true rfl, Nat.le_of_ble_eq_true rfl⟩ (Nat.le_of_ble_eq_true rfl) ⟨rfl, rfl⟩ (⟨⟨_, _, _, rfl, (Nat.le_of_ble_eq_true rfl), rfl⟩, hev⟩) ?_
            refine R1 (g' := (33, _, _, _, _, _)) rfl rfl ?_
            refine R1 (g' := (35, _, _, _, _, _)) rfl rfl ?_
            refine R1 (g' := (36, _, .int (-1) :: _, _, _, _)) rfl rfl ?_
            refine R_cne 49 rfl rfl (fun h36 => ?_) (fun h => by exact absurd h (nIm1 (by omega)))
            refine R1 (g' := (50, _, _, _, _, _)) rfl rfl ?_
            refine R_getf rfl rfl (Nat.le_of_ble_eq_true rfl) rfl rfl ?_
            refine R1 (g' := (54, _, _, _, _, _)) rfl rfl ?_
            refine R_getf rfl rfl (Nat.le_of_ble_eq_true rfl) rfl rfl ?_
            refine R_call2 (Or.inr (Or.inl ⟨rfl, rfl⟩)) rfl rfl ⟨Nat.le_of_ble_eq_true rfl, Nat.le_of_ble_eq_true rfl⟩ (Nat.le_of_ble_eq_true rfl) ⟨rfl, rfl⟩ (⟨⟨_, _, _, rfl, (Nat.le_of_ble_eq_true rfl), rfl⟩, hsv⟩) ?_
            refine R1 (g' := (61, _, _, _, _, _)) rfl rfl ?_
            refine R1 (g' := (62, _, _, _, _, _)) rfl rfl ?_
            refine R_getf rfl rfl (Nat.le_of_ble_eq_true rfl) rfl rfl ?_
            refine R_getf rfl rfl (Nat.le_of_ble_eq_true rfl) rfl rfl ?_
            refine R1 (g' := (69, _, _, _, _, _)) rfl rfl ?_
            refine R_call3 (Or.inr (Or.inl ⟨rfl, rfl⟩)) rfl rfl ⟨Nat.le_of_ble_eq_true rfl, Nat.le_of_ble_eq_true rfl⟩ (Nat.le_of_ble_eq_true rfl) ⟨rfl, rfl⟩ (⟨⟨_, _, _, rfl, (Nat.le_of_ble_eq_true rfl), rfl⟩, hfw⟩) ?_
            refine R1 (g' := (74, _, _, _, _, _)) rfl rfl ?_
            refine R_iret rfl ?_
            exact ⟨rfl, rfl⟩
          · refine ⟨Nat.le_of_ble_eq_true rfl, Nat.le_refl _, Or.inl rfl, ?_⟩
            refine R1 (g' := (1, _, _, _, _, _)) rfl rfl ?_
            refine R1 (g' := (2, _, _, _, _, _)) rfl rfl ?_
            refine R1 (g' := (3, _, _, _, _, _)) rfl rfl ?_
            refine R_call2 (Or.inr (Or.inl ⟨rfl, rfl⟩)) rfl rfl ⟨Nat.le_of_ble_eq_true rfl, Nat.le_of_ble_eq_true rfl⟩ (Nat.le_of_ble_eq_true rfl) ⟨rfl, rfl⟩ (⟨⟨_, _, _, rfl, (Nat.le_of_ble_eq_true rfl), rfl⟩, e9_isPart (by rw [e2]; exact i7) n1 (by omega)⟩) ?_
            rw [k1']
            refine R_ne 13 rfl rfl (fun h6 => ?_) (fun h => by exact absurd h (by decide))
            refine R1 (g' := (14, _, _, _, _, _)) rfl rfl ?_
            refine R1 (g' := (15, _, _, _, _, _)) rfl rfl ?_
            refine R1 (g' := (17, _, _, _, _, _)) rfl rfl ?_
            refine R_call3 (Or.inl ⟨rfl, rfl⟩) rfl rfl ⟨Nat.le_of_ble_eq_true rfl, Nat.le_of_ble_eq_true rfl⟩ (Nat.le_of_ble_eq_true rfl) ⟨rfl, rfl⟩ (e9_isWish) ?_
            rw [k2]
            refine R_eq 27 rfl rfl (fun h => by exact absurd h (by decide)) (fun h20 => ?_)
            refine R1 (g' := (24, _, .int (nI 0) :: _, _, _, _)) rfl rfl ?_
            refine R1 (g' := (28, _, _, _, _, _)) rfl rfl ?_
            refine R_put rfl rfl (Nat.le_of_ble_eq_true rfl) rfl (Nat.le_of_ble_eq_true rfl) ⟨_, rfl, Or.inl rfl, _, rfl, rfl⟩ rfl ?_
            change xRun _ _ (31, _, _, wd (put s2 142 6 (nI 0)), _, _)
            refine R1 (g' := (32, _, _, _, _, _)) rfl rfl ?_
            refine R_getf rfl rfl (Nat.le_of_ble_eq_true rfl) rfl rfl ?_
            rw [put6]
            refine R_ne 50 rfl rfl (fun h => by exact absurd (show nI 0 = 0 from by decide) h) (fun h35 => ?_)
            refine R1 (g' := (39, _, _, _, _, _)) rfl rfl ?_
            refine R1 (g' := (40, _, _, _, _, _)) rfl rfl ?_
            refine R1 (g' := (41, _, _, _, _, _)) rfl rfl ?_
            refine R1 (g' := (42, _, _, _, _, _)) rfl rfl ?_
            refine R1 (g' := (44, _, _, _, _, _)) rfl rfl ?_
            refine R_call5 (Or.inr (Or.inl ⟨rfl, rfl⟩)) rfl rfl ⟨Nat.le_of_ble_eq_true rfl, Nat.le_of_ble_eq_true rfl⟩ (Nat.le_of_ble_eq_true rfl) ⟨rfl, rfl⟩ (⟨⟨_, _, _, rfl, (Nat.le_of_ble_eq_true rfl), rfl⟩, hev2⟩) ?_
            refine R1 (g' := (51, _, _, _, _, _)) rfl rfl ?_
            refine R1 (g' := (53, _, _, _, _, _)) rfl rfl ?_
            refine R1 (g' := (54, _, _, _, _, _)) rfl rfl ?_
            refine R1 (g' := (56, _, _, _, _, _)) rfl rfl ?_
            refine R1 (g' := (57, _, .int (-1) :: _, _, _, _)) rfl rfl ?_
            refine R_cne 64 rfl rfl (fun h57 => ?_) (fun h => by exact absurd h (nIm1 (by omega)))
            refine R1 (g' := (65, _, _, _, _, _)) rfl rfl ?_
            refine R_getf rfl rfl (Nat.le_of_ble_eq_true rfl) rfl rfl ?_
            rw [ec]
            refine R_put rfl rfl (Nat.le_of_ble_eq_true rfl) rfl (Nat.le_of_ble_eq_true rfl) ⟨_, rfl, Or.inl rfl, _, rfl, rfl⟩ rfl ?_
            change xRun _ _ (71, _, _, wd (put sr 142 6 (nI 0)), _, _)
            refine R1 (g' := (72, _, _, _, _, _)) rfl rfl ?_
            refine R_getf rfl rfl (Nat.le_of_ble_eq_true rfl) rfl rfl ?_
            rw [put6]
            refine R_eq 80 rfl rfl (fun h75 => ?_) (fun h => by exact absurd (by decide) h)
            refine R1 (g' := (81, _, _, _, _, _)) rfl rfl ?_
            refine R_call1 (Or.inr (Or.inl ⟨rfl, rfl⟩)) rfl rfl ⟨Nat.le_of_ble_eq_true rfl, Nat.le_of_ble_eq_true rfl⟩ (Nat.le_of_ble_eq_true rfl) ⟨rfl, rfl⟩ (⟨⟨_, _, _, rfl, (Nat.le_of_ble_eq_true rfl), rfl⟩, hk3⟩) ?_
            refine R1 (g' := (85, _, _, _, _, _)) rfl rfl ?_
            refine R1 (g' := (86, _, _, _, _, _)) rfl rfl ?_
            refine R1 (g' := (88, _, _, _, _, _)) rfl rfl ?_
            refine R_call3 (Or.inr (Or.inl ⟨rfl, rfl⟩)) rfl rfl ⟨Nat.le_of_ble_eq_true rfl, Nat.le_of_ble_eq_true rfl⟩ (Nat.le_of_ble_eq_true rfl) ⟨rfl, rfl⟩ (⟨⟨_, _, _, rfl, (Nat.le_of_ble_eq_true rfl), rfl⟩, hfo⟩) ?_
            refine R1 (g' := (93, _, _, _, _, _)) rfl rfl ?_
            refine R_iret rfl ?_
            exact ⟨rfl, rfl⟩
        · exact (wRes_no hres hno2).elim
      · obtain ⟨sr, ro, hfd2⟩ := r_find (s := put sf 142 6 (nI 0)) (k := k) (x := a) (y := b) (o := d) (put6n (by decide)) hp hk8 (by omega) (by omega) (by omega)
        have hRr : Rl sr := Rl_Sx (Rl_code hRf) (Sx_rOut ro)
        rcases hfd2 with ⟨m, p2, hres2, hev2, hw2⟩ | ⟨hno2, hev2⟩
        · exact (wRes_no hres2 hno).elim
        · refine Pair_x (s1 := sf) (s2 := sr) 2 "java/lang/IllegalStateException" rfl ?_ ?_ hRr
          · refine ⟨Nat.le_of_ble_eq_true rfl, Nat.le_refl _, trivial, ?_⟩
            refine R1 (g' := (1, _, _, _, _, _)) rfl rfl ?_
            refine R1 (g' := (2, _, _, _, _, _)) rfl rfl ?_
            refine R_call2 (Or.inr (Or.inl ⟨rfl, rfl⟩)) rfl rfl ⟨Nat.le_of_ble_eq_true rfl, Nat.le_of_ble_eq_true rfl⟩ (Nat.le_of_ble_eq_true rfl) ⟨rfl, rfl⟩ (⟨⟨_, _, _, rfl, (Nat.le_of_ble_eq_true rfl), rfl⟩, e8_part hn k1⟩) ?_
            refine R1 (g' := (6, _, _, _, _, _)) rfl rfl ?_
            refine R1 (g' := (7, _, _, _, _, _)) rfl rfl ?_
            refine R1 (g' := (9, _, _, _, _, _)) rfl rfl ?_
            refine R_call3 (Or.inl ⟨rfl, rfl⟩) rfl rfl ⟨Nat.le_of_ble_eq_true rfl, Nat.le_of_ble_eq_true rfl⟩ (Nat.le_of_ble_eq_true rfl) ⟨rfl, rfl⟩ (e8_wish k2) ?_
            refine R1 (g' := (13, _, _, _, _, _)) rfl rfl ?_
            refine R_getf rfl rfl (Nat.le_of_ble_eq_true rfl) rfl rfl ?_
            refine R1 (g' := (17, _, _, _, _, _)) rfl rfl ?_
            refine R_getf rfl rfl (Nat.le_of_ble_eq_true rfl) rfl rfl ?_
            refine R_getf rfl rfl (Nat.le_of_ble_eq_true rfl) rfl rfl ?_
            refine R1 (g' := (24, _, _, _, _, _)) rfl rfl ?_
            refine R1 (g' := (25, _, _, _, _, _)) rfl rfl ?_
            refine R1 (g' := (26, _, _, _, _, _)) rfl rfl ?_
            refine R1 (g' := (28, _, _, _, _, _)) rfl rfl ?_
            refine R_call6 (Or.inr (Or.inl ⟨rfl, rfl⟩)) rfl rfl ⟨Nat.le_of_ble_eq_true rfl, Nat.le_of_ble_eq_true rfl⟩ (Nat.le_of_ble_eq_true rfl) ⟨rfl, rfl⟩ (⟨⟨_, _, _, rfl, (Nat.le_of_ble_eq_true rfl), rfl⟩, hev⟩) ?_
            refine R1 (g' := (33, _, _, _, _, _)) rfl rfl ?_
            refine R1 (g' := (35, _, _, _, _, _)) rfl rfl ?_
            refine R1 (g' := (36, _, .int (-1) :: _, _, _, _)) rfl rfl ?_
            refine R_cne 49 rfl rfl (fun h => by exact absurd rfl h) (fun h36 => ?_)
            refine R_throw rfl rfl ⟨Nat.le_of_ble_eq_true rfl, Nat.le_of_ble_eq_true rfl⟩ (Nat.le_of_ble_eq_true rfl) ?_
            exact ⟨rfl, rfl⟩
          · refine ⟨Nat.le_of_ble_eq_true rfl, Nat.le_refl _, Or.inl rfl, ?_⟩
            refine R1 (g' := (1, _, _, _, _, _)) rfl rfl ?_
            refine R1 (g' := (2, _, _, _, _, _)) rfl rfl ?_
            refine R1 (g' := (3, _, _, _, _, _)) rfl rfl ?_
            refine R_call2 (Or.inr (Or.inl ⟨rfl, rfl⟩)) rfl rfl ⟨Nat.le_of_ble_eq_true rfl, Nat.le_of_ble_eq_true rfl⟩ (Nat.le_of_ble_eq_true rfl) ⟨rfl, rfl⟩ (⟨⟨_, _, _, rfl, (Nat.le_of_ble_eq_true rfl), rfl⟩, e9_isPart i7 n1 (by omega)⟩) ?_
            rw [k1']
            refine R_ne 13 rfl rfl (fun h6 => ?_) (fun h => by exact absurd h (by decide))
            refine R1 (g' := (14, _, _, _, _, _)) rfl rfl ?_
            refine R1 (g' := (15, _, _, _, _, _)) rfl rfl ?_
            refine R1 (g' := (17, _, _, _, _, _)) rfl rfl ?_
            refine R_call3 (Or.inl ⟨rfl, rfl⟩) rfl rfl ⟨Nat.le_of_ble_eq_true rfl, Nat.le_of_ble_eq_true rfl⟩ (Nat.le_of_ble_eq_true rfl) ⟨rfl, rfl⟩ (e9_isWish) ?_
            rw [k2]
            refine R_eq 27 rfl rfl (fun h => by exact absurd h (by decide)) (fun h20 => ?_)
            refine R1 (g' := (24, _, .int (nI 0) :: _, _, _, _)) rfl rfl ?_
            refine R1 (g' := (28, _, _, _, _, _)) rfl rfl ?_
            refine R_put rfl rfl (Nat.le_of_ble_eq_true rfl) rfl (Nat.le_of_ble_eq_true rfl) ⟨_, rfl, Or.inl rfl, _, rfl, rfl⟩ rfl ?_
            change xRun _ _ (31, _, _, wd (put sf 142 6 (nI 0)), _, _)
            refine R1 (g' := (32, _, _, _, _, _)) rfl rfl ?_
            refine R_getf rfl rfl (Nat.le_of_ble_eq_true rfl) rfl rfl ?_
            rw [put6]
            refine R_ne 50 rfl rfl (fun h => by exact absurd (show nI 0 = 0 from by decide) h) (fun h35 => ?_)
            refine R1 (g' := (39, _, _, _, _, _)) rfl rfl ?_
            refine R1 (g' := (40, _, _, _, _, _)) rfl rfl ?_
            refine R1 (g' := (41, _, _, _, _, _)) rfl rfl ?_
            refine R1 (g' := (42, _, _, _, _, _)) rfl rfl ?_
            refine R1 (g' := (44, _, _, _, _, _)) rfl rfl ?_
            refine R_call5 (Or.inr (Or.inl ⟨rfl, rfl⟩)) rfl rfl ⟨Nat.le_of_ble_eq_true rfl, Nat.le_of_ble_eq_true rfl⟩ (Nat.le_of_ble_eq_true rfl) ⟨rfl, rfl⟩ (⟨⟨_, _, _, rfl, (Nat.le_of_ble_eq_true rfl), rfl⟩, hev2⟩) ?_
            refine R1 (g' := (51, _, _, _, _, _)) rfl rfl ?_
            refine R1 (g' := (53, _, _, _, _, _)) rfl rfl ?_
            refine R1 (g' := (54, _, _, _, _, _)) rfl rfl ?_
            refine R1 (g' := (56, _, _, _, _, _)) rfl rfl ?_
            refine R1 (g' := (57, _, .int (-1) :: _, _, _, _)) rfl rfl ?_
            refine R_cne 64 rfl rfl (fun h => by exact absurd rfl h) (fun h57 => ?_)
            refine R1 (g' := (61, _, .int (nI 3) :: _, _, _, _)) rfl rfl ?_
            refine R1 (g' := (68, _, _, _, _, _)) rfl rfl ?_
            refine R_put rfl rfl (Nat.le_of_ble_eq_true rfl) rfl (Nat.le_of_ble_eq_true rfl) ⟨_, rfl, Or.inl rfl, _, rfl, rfl⟩ rfl ?_
            change xRun _ _ (71, _, _, wd (put sr 142 6 (nI 3)), _, _)
            refine R1 (g' := (72, _, _, _, _, _)) rfl rfl ?_
            refine R_getf rfl rfl (Nat.le_of_ble_eq_true rfl) rfl rfl ?_
            rw [put6]
            refine R_eq 80 rfl rfl (fun h => by exact absurd h (by decide)) (fun h75 => ?_)
            refine R1 (g' := (79, _, .int (nI 0) :: _, _, _, _)) rfl rfl ?_
            refine R_iret rfl ?_
            exact ⟨rfl, rfl⟩
def hX (s s' : xs) : Prop := (∀ i, i ≠ 142 → i ≠ 143 → (i < 147 ∨ 150 < i) → s'.1 i = s.1 i) ∧ (∀ j, j ≠ 7 → j ≠ 8 → s'.1 142 j = s.1 142 j) ∧ s'.2 = s.2
theorem hX_rf {s : xs} : hX s s := ⟨fun _ _ _ _ => rfl, fun _ _ _ => rfl, rfl⟩
theorem hX_tr {s s' s2 : xs} (h : hX s s') (g : hX s' s2) : hX s s2 := ⟨fun i a b c => (g.1 i a b c).trans (h.1 i a b c), fun j a b => (g.2.1 j a b).trans (h.2.1 j a b), g.2.2.trans h.2.2⟩
theorem hX_ro {s s' : xs} (h : rOut s s') : hX s s' := ⟨fun i a _ c => h.1 i a c, h.2.1, h.2.2⟩
theorem hX_gX {s s' : xs} (h : gX s s') : hX s s' := ⟨fun i a b _ => h.1 i a b, h.2.1, h.2.2⟩
theorem r_heatsFor {s : xs} {Q : Nat → Int32} {k x y o : Nat} (hi : pInv Q) (hQ : s.1 143 = Q) (hk : k < qn Q 7) (hx : x < 2 ^ 20) (hy : y < 2 ^ 20) (ho : o < 2 ^ 20) : ∃ s', hX s s' ∧ ((∃ n p, wRes (qn Q (11 + 4 * k)) (cl (qn Q (9 + 4 * k)) (qn Q (10 + 4 * k))) x y o n p ∧ Ev_X9_heatsFor [.ref 142, .int (nI k), .int (nI x), .int (nI y), .int (nI o)] (wd s) (.inl (some (.int ((fQ Q (qn Q 7) k (qn Q (9 + 4 * k)) (qn Q (10 + 4 * k)) (qn Q 0) p n) 2 - Q 2)))) (wd s') ∧ s'.1 143 = (fQ Q (qn Q 7) k (qn Q (9 + 4 * k)) (qn Q (10 + 4 * k)) (qn Q 0) p n)) ∨ (wNo (qn Q (11 + 4 * k)) (cl (qn Q (9 + 4 * k)) (qn Q (10 + 4 * k))) x y o ∧ Ev_X9_heatsFor [.ref 142, .int (nI k), .int (nI x), .int (nI y), .int (nI o)] (wd s) (.inl (some (.int (-1)))) (wd s') ∧ s'.1 143 = Q)) := by
  have n8 := hi.1.2.2
  have hp := hi.2.2.2.2.1 k hk
  obtain ⟨s1, ro, hfd⟩ := r_find (s := s) (k := k) (x := x) (y := y) (o := o) hQ hp (by omega) hx hy ho
  have e1 : s1.1 143 = Q := (ro.1 143 (by decide) (by decide)).trans hQ
  rcases hfd with ⟨n, p, hres, hev, hw⟩ | ⟨hno, hev⟩
  · obtain ⟨n60, hp2, hR2⟩ := wR_ok hp hres
    obtain ⟨x1, y1, hfo⟩ := e9_forges (s := s1) hi e1 hk n60 hp2 hR2 hw
    refine ⟨setP (nxtI s1 x1 y1) 143 (fQ Q (qn Q 7) k (qn Q (9 + 4 * k)) (qn Q (10 + 4 * k)) (qn Q 0) p n), hX_tr (hX_ro ro) (hX_gX (gX_P (gX_N gX_rf))), Or.inl ⟨n, p, hres, ?_, setP_at _ _ _⟩⟩
    refine ⟨Nat.le_of_ble_eq_true rfl, Nat.le_refl _, Or.inl rfl, ?_⟩
    refine R1 (g' := (1, _, _, _, _, _)) rfl rfl ?_
    refine R1 (g' := (2, _, _, _, _, _)) rfl rfl ?_
    refine R1 (g' := (3, _, _, _, _, _)) rfl rfl ?_
    refine R1 (g' := (4, _, _, _, _, _)) rfl rfl ?_
    refine R1 (g' := (6, _, _, _, _, _)) rfl rfl ?_
    refine R_call5 (Or.inr (Or.inl ⟨rfl, rfl⟩)) rfl rfl ⟨Nat.le_of_ble_eq_true rfl, Nat.le_of_ble_eq_true rfl⟩ (Nat.le_of_ble_eq_true rfl) ⟨rfl, rfl⟩ (⟨⟨_, _, _, rfl, (Nat.le_of_ble_eq_true rfl), rfl⟩, hev⟩) ?_
    refine R1 (g' := (11, _, _, _, _, _)) rfl rfl ?_
    refine R1 (g' := (12, _, _, _, _, _)) rfl rfl ?_
    refine R_getf rfl rfl (Nat.le_of_ble_eq_true rfl) rfl rfl ?_
    refine R1 (g' := (16, _, .int (nI 2) :: _, _, _, _)) rfl rfl ?_
    refine R_iald 2 rfl (Nat.le_of_ble_eq_true rfl) rfl (by decide) (by decide) rfl ?_
    rw [e1]
    refine R1 (g' := (19, _, _, _, _, _)) rfl rfl ?_
    refine R1 (g' := (20, _, _, _, _, _)) rfl rfl ?_
    refine R1 (g' := (21, _, _, _, _, _)) rfl rfl ?_
    refine R1 (g' := (23, _, _, _, _, _)) rfl rfl ?_
    refine R_call3 (Or.inr (Or.inl ⟨rfl, rfl⟩)) rfl rfl ⟨Nat.le_of_ble_eq_true rfl, Nat.le_of_ble_eq_true rfl⟩ (Nat.le_of_ble_eq_true rfl) ⟨rfl, rfl⟩ (⟨⟨_, _, _, rfl, (Nat.le_of_ble_eq_true rfl), rfl⟩, hfo⟩) ?_
    refine R1 (g' := (28, _, _, _, _, _)) rfl rfl ?_
    refine R1 (g' := (29, _, .int (-1) :: _, _, _, _)) rfl rfl ?_
    refine R_cne 36 rfl rfl (fun h29 => ?_) (fun h => by exact absurd h (nIm1 (by omega)))
    refine R1 (g' := (37, _, _, _, _, _)) rfl rfl ?_
    refine R_getf rfl rfl (Nat.le_of_ble_eq_true rfl) rfl rfl ?_
    refine R1 (g' := (41, _, .int (nI 2) :: _, _, _, _)) rfl rfl ?_
    refine R_iald 2 rfl (Nat.le_of_ble_eq_true rfl) rfl (by decide) (by decide) rfl ?_
    rw [setP_at]
    refine R1 (g' := (44, _, _, _, _, _)) rfl rfl ?_
    refine R1 (g' := (45, _, _, _, _, _)) rfl rfl ?_
    refine R_iret rfl ?_
    exact ⟨rfl, rfl⟩
  · refine ⟨s1, hX_ro ro, Or.inr ⟨hno, ?_, e1⟩⟩
    refine ⟨Nat.le_of_ble_eq_true rfl, Nat.le_refl _, Or.inl rfl, ?_⟩
    refine R1 (g' := (1, _, _, _, _, _)) rfl rfl ?_
    refine R1 (g' := (2, _, _, _, _, _)) rfl rfl ?_
    refine R1 (g' := (3, _, _, _, _, _)) rfl rfl ?_
    refine R1 (g' := (4, _, _, _, _, _)) rfl rfl ?_
    refine R1 (g' := (6, _, _, _, _, _)) rfl rfl ?_
    refine R_call5 (Or.inr (Or.inl ⟨rfl, rfl⟩)) rfl rfl ⟨Nat.le_of_ble_eq_true rfl, Nat.le_of_ble_eq_true rfl⟩ (Nat.le_of_ble_eq_true rfl) ⟨rfl, rfl⟩ (⟨⟨_, _, _, rfl, (Nat.le_of_ble_eq_true rfl), rfl⟩, hev⟩) ?_
    refine R1 (g' := (11, _, _, _, _, _)) rfl rfl ?_
    refine R1 (g' := (12, _, _, _, _, _)) rfl rfl ?_
    refine R_getf rfl rfl (Nat.le_of_ble_eq_true rfl) rfl rfl ?_
    refine R1 (g' := (16, _, .int (nI 2) :: _, _, _, _)) rfl rfl ?_
    refine R_iald 2 rfl (Nat.le_of_ble_eq_true rfl) rfl (by decide) (by decide) rfl ?_
    refine R1 (g' := (19, _, _, _, _, _)) rfl rfl ?_
    refine R1 (g' := (20, _, _, _, _, _)) rfl rfl ?_
    refine R1 (g' := (21, _, _, _, _, _)) rfl rfl ?_
    refine R1 (g' := (23, _, _, _, _, _)) rfl rfl ?_
    refine R_call3 (Or.inr (Or.inl ⟨rfl, rfl⟩)) rfl rfl ⟨Nat.le_of_ble_eq_true rfl, Nat.le_of_ble_eq_true rfl⟩ (Nat.le_of_ble_eq_true rfl) ⟨rfl, rfl⟩ (⟨⟨_, _, _, rfl, (Nat.le_of_ble_eq_true rfl), rfl⟩, e9_forgesN⟩) ?_
    refine R1 (g' := (28, _, _, _, _, _)) rfl rfl ?_
    refine R1 (g' := (29, _, .int (-1) :: _, _, _, _)) rfl rfl ?_
    refine R_cne 36 rfl rfl (fun h => by exact absurd rfl h) (fun h29 => ?_)
    refine R1 (g' := (33, _, .int (-1) :: _, _, _, _)) rfl rfl ?_
    refine R1 (g' := (45, _, _, _, _, _)) rfl rfl ?_
    refine R_iret rfl ?_
    exact ⟨rfl, rfl⟩
