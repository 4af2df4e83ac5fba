theorem cl_ok {Q : Nat → Int32} {k : Nat} (hp : qPart Q k) : cl (qn Q (9 + 4 * k)) (qn Q (10 + 4 * k)) < 9216 ∧ cw (cl (qn Q (9 + 4 * k)) (qn Q (10 + 4 * k))) = qn Q (9 + 4 * k) ∧ ch (cl (qn Q (9 + 4 * k)) (qn Q (10 + 4 * k))) = qn Q (10 + 4 * k) :=
  ⟨cl_lt hp.2.2.2.1 hp.2.2.2.2.1, cw_cl hp.2.2.2.1 hp.2.2.2.2.1⟩
theorem c_find {s : xs} {Q : Nat → Int32} {k x y o : Nat} (hs : bRel s 2 Q) (hp : qPart Q k) (hk8 : k < 8) (hx : x < 2 ^ 20) (hy : y < 2 ^ 20) (ho : o < 2 ^ 20) : ∃ s', sOut 123 9 s s' ∧ ((∃ n p, wRes (qn Q (11 + 4 * k)) (cl (qn Q (9 + 4 * k)) (qn Q (10 + 4 * k))) x y o n p ∧ Ev_X7_find [.ref 123, .ref 2, .int (nI k), .int (nI x), .int (nI y), .int (nI o)] (wd s) (.inl (some (.int (nI n)))) (wd s') ∧ s'.1 123 0 = nI n ∧ ∀ j, j < n → s'.1 125 j = nI (p j)) ∨ (wNo (qn Q (11 + 4 * k)) (cl (qn Q (9 + 4 * k)) (qn Q (10 + 4 * k))) x y o ∧ Ev_X7_find [.ref 123, .ref 2, .int (nI k), .int (nI x), .int (nI y), .int (nI o)] (wd s) (.inl (some (.int (-1)))) (wd s') ∧ s'.1 123 0 = -1)) := by
  obtain ⟨r1, r2, r3, r4⟩ := hs.2 k hk8
  obtain ⟨p1, p2, p3, p4, p5, p6, p7⟩ := hp
  obtain ⟨o1, w1, ⟨s', rfl, so, h⟩, hev⟩ := e7_find2 (s := s) hk8 (r1.trans p1) (r2.trans p2) (r3.trans p3) p4 p5 (by omega) hx hy ho
  refine ⟨s', so, ?_⟩
  rcases h with ⟨n, p, h1, rfl, h3, h4⟩ | ⟨h1, rfl, h3⟩
  · exact Or.inl ⟨n, p, h1, hev, h3, h4⟩
  · exact Or.inr ⟨h1, hev, h3⟩
theorem r_find {s : xs} {Q : Nat → Int32} {k x y o : Nat} (hQ : s.1 143 = Q) (hp : qPart Q k) (hk8 : k < 8) (hx : x < 2 ^ 20) (hy : y < 2 ^ 20) (ho : o < 2 ^ 20) : ∃ s', rOut s s' ∧ ((∃ n p, wRes (qn Q (11 + 4 * k)) (cl (qn Q (9 + 4 * k)) (qn Q (10 + 4 * k))) x y o n p ∧ Ev_X9_findWay [.ref 142, .int (nI k), .int (nI x), .int (nI y), .int (nI o)] (wd s) (.inl (some (.int (nI n)))) (wd s') ∧ ∀ j, j < n → s'.1 150 j = nI (p j)) ∨ (wNo (qn Q (11 + 4 * k)) (cl (qn Q (9 + 4 * k)) (qn Q (10 + 4 * k))) x y o ∧ Ev_X9_findWay [.ref 142, .int (nI k), .int (nI x), .int (nI y), .int (nI o)] (wd s) (.inl (some (.int (-1)))) (wd s'))) := by
  subst hQ
  obtain ⟨o1, w1, ⟨s', rfl, so, h⟩, hev⟩ := e9_findWay (s := s) hk8 hp hx hy ho
  refine ⟨s', so, ?_⟩
  rcases h with ⟨n, p, h1, rfl, h4⟩ | ⟨h1, rfl⟩
  · exact Or.inl ⟨n, p, h1, hev, h4⟩
  · exact Or.inr ⟨h1, hev⟩
theorem pr_way {s : xs} {x w h t : Int32} (hR : Rl s) : Pair Ev_X8_way Ev_X9_way [.ref 0, .int x, .int w, .int h, .int t] [.ref 142, .int x, .int w, .int h, .int t] ["java/lang/IndexOutOfBoundsException", "java/lang/IllegalArgumentException"] s := by
  obtain ⟨i7, n1, n8⟩ := hR.2.1.1
  have hn : s.1 2 0 = nI (qn (s.1 143) 7) := hR.1.1.1.1.trans i7
  cases k1 : xhas x (qn (s.1 143) 7) with
  | false =>
    refine Pair_x (s1 := s) (s2 := s) 0 "java/lang/IndexOutOfBoundsException" rfl ?_ ?_ hR
    · refine ⟨Nat.le_of_ble_eq_true rfl, Nat.le_refl _, trivial, ?_⟩
      refine R1 (g' := (1, _, _, _, _, _)) rfl rfl ?_
      refine R1 (g' := (2, _, _, _, _, _)) rfl rfl ?_
      refine R_call2X (Or.inr (Or.inl ⟨rfl, rfl⟩)) rfl rfl ⟨Nat.le_of_ble_eq_true rfl, Nat.le_of_ble_eq_true rfl⟩ (Nat.le_of_ble_eq_true rfl) ⟨rfl, rfl⟩ (⟨⟨_, _, _, rfl, (Nat.le_of_ble_eq_true rfl), rfl⟩, e8_partX hn k1⟩) rfl ?_
      exact ⟨rfl, rfl⟩
    · refine ⟨Nat.le_of_ble_eq_true rfl, Nat.le_refl _, Or.inl rfl, ?_⟩
      refine R1 (g' := (1, _, _, _, _, _)) rfl rfl ?_
      refine R1 (g' := (2, _, _, _, _, _)) rfl rfl ?_
      refine R1 (g' := (3, _, _, _, _, _)) rfl rfl ?_
      refine R1 (g' := (4, _, _, _, _, _)) rfl rfl ?_
      refine R1 (g' := (5, _, _, _, _, _)) rfl rfl ?_
      refine R1 (g' := (7, _, _, _, _, _)) rfl rfl ?_
      refine R_call5 (Or.inr (Or.inl ⟨rfl, rfl⟩)) rfl rfl ⟨Nat.le_of_ble_eq_true rfl, Nat.le_of_ble_eq_true rfl⟩ (Nat.le_of_ble_eq_true rfl) ⟨rfl, rfl⟩ (⟨⟨_, _, _, rfl, (Nat.le_of_ble_eq_true rfl), rfl⟩, e9_refusal i7 n1 (by omega)⟩) ?_
      rw [k1, show rfu false (okW w h t) = nI 1 from rfl]
      refine R_put rfl rfl (Nat.le_of_ble_eq_true rfl) rfl (Nat.le_of_ble_eq_true rfl) ⟨_, rfl, Or.inl rfl, _, rfl, rfl⟩ rfl ?_
      change xRun _ _ (13, _, _, wd (put s 142 6 (nI 1)), _, _)
      refine R1 (g' := (14, _, _, _, _, _)) rfl rfl ?_
      refine R_getf rfl rfl (Nat.le_of_ble_eq_true rfl) rfl rfl ?_
      rw [put6]
      refine R_eq 24 rfl rfl (fun h => by exact absurd h (by decide)) (fun h17 => ?_)
      refine R1 (g' := (21, _, .int (nI 0) :: _, _, _, _)) rfl rfl ?_
      refine R1 (g' := (33, _, _, _, _, _)) rfl rfl ?_
      refine R_iret rfl ?_
      exact ⟨rfl, rfl⟩
  | true =>
    cases k2 : okW w h t with
    | false =>
      refine Pair_x (s1 := s) (s2 := s) 1 "java/lang/IllegalArgumentException" rfl ?_ ?_ hR
      · refine ⟨Nat.le_of_ble_eq_true rfl, Nat.le_refl _, trivial, ?_⟩
        refine R1 (g' := (1, _, _, _, _, _)) rfl rfl ?_
        refine R1 (g' := (2, _, _, _, _, _)) rfl rfl ?_
        refine R_call2 (Or.inr (Or.inl ⟨rfl, rfl⟩)) rfl rfl ⟨Nat.le_of_ble_eq_true rfl, Nat.le_of_ble_eq_true rfl⟩ (Nat.le_of_ble_eq_true rfl) ⟨rfl, rfl⟩ (⟨⟨_, _, _, rfl, (Nat.le_of_ble_eq_true rfl), rfl⟩, e8_part hn k1⟩) ?_
        refine R1 (g' := (6, _, _, _, _, _)) rfl rfl ?_
        refine R1 (g' := (7, _, _, _, _, _)) rfl rfl ?_
        refine R1 (g' := (9, _, _, _, _, _)) rfl rfl ?_
        refine R_call3X (Or.inl ⟨rfl, rfl⟩) rfl rfl ⟨Nat.le_of_ble_eq_true rfl, Nat.le_of_ble_eq_true rfl⟩ (Nat.le_of_ble_eq_true rfl) ⟨rfl, rfl⟩ (e8_wishX k2) rfl ?_
        exact ⟨rfl, rfl⟩
      · refine ⟨Nat.le_of_ble_eq_true rfl, Nat.le_refl _, Or.inl rfl, ?_⟩
        refine R1 (g' := (1, _, _, _, _, _)) rfl rfl ?_
        refine R1 (g' := (2, _, _, _, _, _)) rfl rfl ?_
        refine R1 (g' := (3, _, _, _, _, _)) rfl rfl ?_
        refine R1 (g' := (4, _, _, _, _, _)) rfl rfl ?_
        refine R1 (g' := (5, _, _, _, _, _)) rfl rfl ?_
        refine R1 (g' := (7, _, _, _, _, _)) rfl rfl ?_
        refine R_call5 (Or.inr (Or.inl ⟨rfl, rfl⟩)) rfl rfl ⟨Nat.le_of_ble_eq_true rfl, Nat.le_of_ble_eq_true rfl⟩ (Nat.le_of_ble_eq_true rfl) ⟨rfl, rfl⟩ (⟨⟨_, _, _, rfl, (Nat.le_of_ble_eq_true rfl), rfl⟩, e9_refusal i7 n1 (by omega)⟩) ?_
        rw [k1, k2, show rfu true false = nI 2 from rfl]
        refine R_put rfl rfl (Nat.le_of_ble_eq_true rfl) rfl (Nat.le_of_ble_eq_true rfl) ⟨_, rfl, Or.inl rfl, _, rfl, rfl⟩ rfl ?_
        change xRun _ _ (13, _, _, wd (put s 142 6 (nI 2)), _, _)
        refine R1 (g' := (14, _, _, _, _, _)) rfl rfl ?_
        refine R_getf rfl rfl (Nat.le_of_ble_eq_true rfl) rfl rfl ?_
        rw [put6]
        refine R_eq 24 rfl rfl (fun h => by exact absurd h (by decide)) (fun h17 => ?_)
        refine R1 (g' := (21, _, .int (nI 0) :: _, _, _, _)) rfl rfl ?_
        refine R1 (g' := (33, _, _, _, _, _)) rfl rfl ?_
        refine R_iret rfl ?_
        exact ⟨rfl, rfl⟩
    | true =>
      obtain ⟨k, hk, rfl⟩ := xhas_of (by omega) k1
      obtain ⟨a, b, d, rfl, rfl, rfl, a1, a2, b1, b2, d9, ra, rb⟩ := okW_of k2
      have hk8 : k < 8 := by omega
      have hp := hR.2.1.2.2.2.2.1 k hk
      obtain ⟨cl1, cl2, cl3⟩ := cl_ok hp
      obtain ⟨s1, wo, hfd⟩ := c_find (x := a) (y := b) (o := d) hR.1.1 hp hk8 (by omega) (by omega) (by omega)
      have e1 : s1.1 143 = s.1 143 := wo.1 143 (by decide)
      have hR1 : Rl (put s1 142 6 (nI 0)) := Rl_code (Rl_Sx hR (Sx_123 wo))
      obtain ⟨s2, ro, hfd2⟩ := r_find (s := put s1 142 6 (nI 0)) (k := k) (x := a) (y := b) (o := d) ((put6n (by decide)).trans e1) hp hk8 (by omega) (by omega) (by omega)
      have hfin : Rl s2 ∧ s2.1 142 6 = nI 0 := ⟨Rl_Sx hR1 (Sx_rOut ro), (ro.2.1 6 (by decide) (by decide)).trans put6⟩
      rcases hfd with ⟨n, p, hres, hev, hb, hw⟩ | ⟨hno, hev, hb⟩ <;> rcases hfd2 with ⟨m, p2, hres2, hev2, hw2⟩ | ⟨hno2, hev2⟩
      · obtain ⟨rfl, hpp⟩ := wRes_eq cl1 hres hres2
        refine Pair_t (s1 := s1) (s2 := s2) (v := nI n) ?_ ?_ hfin
        · refine ⟨Nat.le_of_ble_eq_true rfl, Nat.le_refl _, Or.inl rfl, ?_⟩
          refine R1 (g' := (1, _, _, _, _, _)) rfl rfl ?_
          refine R1 (g' := (2, _, _, _, _, _)) rfl rfl ?_
          refine R_call2 (Or.inr (Or.inl ⟨rfl, rfl⟩)) rfl rfl ⟨Nat.le_of_ble_eq_true rfl, Nat.le_of_ble_eq_true rfl⟩ (Nat.le_of_ble_eq_true rfl) ⟨rfl, rfl⟩ (⟨⟨_, _, _, rfl, (Nat.le_of_ble_eq_true rfl), rfl⟩, e8_part hn k1⟩) ?_
          refine R1 (g' := (6, _, _, _, _, _)) rfl rfl ?_
          refine R1 (g' := (7, _, _, _, _, _)) rfl rfl ?_
          refine R1 (g' := (9, _, _, _, _, _)) rfl rfl ?_
          refine R_call3 (Or.inl ⟨rfl, rfl⟩) rfl rfl ⟨Nat.le_of_ble_eq_true rfl, Nat.le_of_ble_eq_true rfl⟩ (Nat.le_of_ble_eq_true rfl) ⟨rfl, rfl⟩ (e8_wish k2) ?_
          refine R1 (g' := (13, _, _, _, _, _)) rfl rfl ?_
          refine R_getf rfl rfl (Nat.le_of_ble_eq_true rfl) rfl rfl ?_
          refine R1 (g' := (17, _, _, _, _, _)) rfl rfl ?_
          refine R_getf rfl rfl (Nat.le_of_ble_eq_true rfl) rfl rfl ?_
          refine R_getf rfl rfl (Nat.le_of_ble_eq_true rfl) rfl rfl ?_
          refine R1 (g' := (24, _, _, _, _, _)) rfl rfl ?_
          refine R1 (g' := (25, _, _, _, _, _)) rfl rfl ?_
          refine R1 (g' := (26, _, _, _, _, _)) rfl rfl ?_
          refine R1 (g' := (28, _, _, _, _, _)) rfl rfl ?_
          refine R_call6 (Or.inr (Or.inl ⟨rfl, rfl⟩)) rfl rfl ⟨Nat.le_of_ble_eq_true rfl, Nat.le_of_ble_eq_true rfl⟩ (Nat.le_of_ble_eq_true rfl) ⟨rfl, rfl⟩ (⟨⟨_, _, _, rfl, (Nat.le_of_ble_eq_true rfl), rfl⟩, hev⟩) ?_
          refine R_iret rfl ?_
          exact ⟨rfl, rfl⟩
        · refine ⟨Nat.le_of_ble_eq_true rfl, Nat.le_refl _, Or.inl rfl, ?_⟩
          refine R1 (g' := (1, _, _, _, _, _)) rfl rfl ?_
          refine R1 (g' := (2, _, _, _, _, _)) rfl rfl ?_
          refine R1 (g' := (3, _, _, _, _, _)) rfl rfl ?_
          refine R1 (g' := (4, _, _, _, _, _)) rfl rfl ?_
          refine R1 (g' := (5, _, _, _, _, _)) rfl rfl ?_
          refine R1 (g' := (7, _, _, _, _, _)) rfl rfl ?_
          refine R_call5 (Or.inr (Or.inl ⟨rfl, rfl⟩)) rfl rfl ⟨Nat.le_of_ble_eq_true rfl, Nat.le_of_ble_eq_true rfl⟩ (Nat.le_of_ble_eq_true rfl) ⟨rfl, rfl⟩ (⟨⟨_, _, _, rfl, (Nat.le_of_ble_eq_true rfl), rfl⟩, e9_refusal (by rw [e1]; exact i7) n1 (by omega)⟩) ?_
          rw [k1, k2, show rfu true true = nI 0 from rfl]
          refine R_put rfl rfl (Nat.le_of_ble_eq_true rfl) rfl (Nat.le_of_ble_eq_true rfl) ⟨_, rfl, Or.inl rfl, _, rfl, rfl⟩ rfl ?_
          change xRun _ _ (13, _, _, wd (put s1 142 6 (nI 0)), _, _)
          refine R1 (g' := (14, _, _, _, _, _)) rfl rfl ?_
          refine R_getf rfl rfl (Nat.le_of_ble_eq_true rfl) rfl rfl ?_
          rw [put6]
          refine R_eq 24 rfl rfl (fun h17 => ?_) (fun h => by exact absurd (by decide) h)
          refine R1 (g' := (25, _, _, _, _, _)) rfl rfl ?_
          refine R1 (g' := (26, _, _, _, _, _)) rfl rfl ?_
          refine R1 (g' := (27, _, _, _, _, _)) rfl rfl ?_
          refine R1 (g' := (28, _, _, _, _, _)) rfl rfl ?_
          refine R1 (g' := (30, _, _, _, _, _)) rfl rfl ?_
          refine R_call5 (Or.inr (Or.inl ⟨rfl, rfl⟩)) rfl rfl ⟨Nat.le_of_ble_eq_true rfl, Nat.le_of_ble_eq_true rfl⟩ (Nat.le_of_ble_eq_true rfl) ⟨rfl, rfl⟩ (⟨⟨_, _, _, rfl, (Nat.le_of_ble_eq_true rfl), rfl⟩, hev2⟩) ?_
          refine R_iret rfl ?_
          exact ⟨rfl, rfl⟩
      · exact (wRes_no hres hno2).elim
      · exact (wRes_no hres2 hno).elim
      · refine Pair_t (s1 := s1) (s2 := s2) (v := -1) ?_ ?_ hfin
        · refine ⟨Nat.le_of_ble_eq_true rfl, Nat.le_refl _, Or.inl rfl, ?_⟩
          refine R1 (g' := (1, _, _, _, _, _)) rfl rfl ?_
          refine R1 (g' := (2, _, _, _, _, _)) rfl rfl ?_
          refine R_call2 (Or.inr (Or.inl ⟨rfl, rfl⟩)) rfl rfl ⟨Nat.le_of_ble_eq_true rfl, Nat.le_of_ble_eq_true rfl⟩ (Nat.le_of_ble_eq_true rfl) ⟨rfl, rfl⟩ (⟨⟨_, _, _, rfl, (Nat.le_of_ble_eq_true rfl), rfl⟩, e8_part hn k1⟩) ?_
          refine R1 (g' := (6, _, _, _, _, _)) rfl rfl ?_
          refine R1 (g' := (7, _, _, _, _, _)) rfl rfl ?_
          refine R1 (g' := (9, _, _, _, _, _)) rfl rfl ?_
          refine R_call3 (Or.inl ⟨rfl, rfl⟩) rfl rfl ⟨Nat.le_of_ble_eq_true rfl, Nat.le_of_ble_eq_true rfl⟩ (Nat.le_of_ble_eq_true rfl) ⟨rfl, rfl⟩ (e8_wish k2) ?_
          refine R1 (g' := (13, _, _, _, _, _)) rfl rfl ?_
          refine R_getf rfl rfl (Nat.le_of_ble_eq_true rfl) rfl rfl ?_
          refine R1 (g' := (17, _, _, _, _, _)) rfl rfl ?_
          refine R_getf rfl rfl (Nat.le_of_ble_eq_true rfl) rfl rfl ?_
          refine R_getf rfl rfl (Nat.le_of_ble_eq_true rfl) rfl rfl ?_
          refine R1 (g' := (24, _, _, _, _, _)) rfl rfl ?_
          refine R1 (g' := (25, _, _, _, _, _)) rfl rfl ?_
          refine R1 (g' := (26, _, _, _, _, _)) rfl rfl ?_
          refine R1 (g' := (28, _, _, _, _, _)) rfl rfl ?_
          refine R_call6 (Or.inr (Or.inl ⟨rfl, rfl⟩)) rfl rfl ⟨Nat.le_of_ble_eq_true rfl, Nat.le_of_ble_eq_true rfl⟩ (Nat.le_of_ble_eq_true rfl) ⟨rfl, rfl⟩ (⟨⟨_, _, _, rfl, (Nat.le_of_ble_eq_true rfl), rfl⟩, hev⟩) ?_
          refine R_iret rfl ?_
          exact ⟨rfl, rfl⟩
        · refine ⟨Nat.le_of_ble_eq_true rfl, Nat.le_refl _, Or.inl rfl, ?_⟩
          refine R1 (g' := (1, _, _, _, _, _)) rfl rfl ?_
          refine R1 (g' := (2, _, _, _, _, _)) rfl rfl ?_
          refine R1 (g' := (3, _, _, _, _, _)) rfl rfl ?_
          refine R1 (g' := (4, _, _, _, _, _)) rfl rfl ?_
          refine R1 (g' := (5, _, _, _, _, _)) rfl rfl ?_
          refine R1 (g' := (7, _, _, _, _, _)) rfl rfl ?_
          refine R_call5 (Or.inr (Or.inl ⟨rfl, rfl⟩)) rfl rfl ⟨Nat.le_of_ble_eq_true rfl, Nat.le_of_ble_eq_true rfl⟩ (Nat.le_of_ble_eq_true rfl) ⟨rfl, rfl⟩ (⟨⟨_, _, _, rfl, (Nat.le_of_ble_eq_true rfl), rfl⟩, e9_refusal (by rw [e1]; exact i7) n1 (by omega)⟩) ?_
          rw [k1, k2, show rfu true true = nI 0 from rfl]
          refine R_put rfl rfl (Nat.le_of_ble_eq_true rfl) rfl (Nat.le_of_ble_eq_true rfl) ⟨_, rfl, Or.inl rfl, _, rfl, rfl⟩ rfl ?_
          change xRun _ _ (13, _, _, wd (put s1 142 6 (nI 0)), _, _)
          refine R1 (g' := (14, _, _, _, _, _)) rfl rfl ?_
          refine R_getf rfl rfl (Nat.le_of_ble_eq_true rfl) rfl rfl ?_
          rw [put6]
          refine R_eq 24 rfl rfl (fun h17 => ?_) (fun h => by exact absurd (by decide) h)
          refine R1 (g' := (25, _, _, _, _, _)) rfl rfl ?_
          refine R1 (g' := (26, _, _, _, _, _)) rfl rfl ?_
          refine R1 (g' := (27, _, _, _, _, _)) rfl rfl ?_
          refine R1 (g' := (28, _, _, _, _, _)) rfl rfl ?_
          refine R1 (g' := (30, _, _, _, _, _)) rfl rfl ?_
          refine R_call5 (Or.inr (Or.inl ⟨rfl, rfl⟩)) rfl rfl ⟨Nat.le_of_ble_eq_true rfl, Nat.le_of_ble_eq_true rfl⟩ (Nat.le_of_ble_eq_true rfl) ⟨rfl, rfl⟩ (⟨⟨_, _, _, rfl, (Nat.le_of_ble_eq_true rfl), rfl⟩, hev2⟩) ?_
          refine R_iret rfl ?_
          exact ⟨rfl, rfl⟩
theorem m1_le {j : Nat} (h : j < 2 ^ 31) : (-1 : Int32) ≤ nI j := by
  rw [Int32.le_iff_toInt_le, nI_toInt h]
  show (-1 : Int) ≤ _
  omega
theorem pr_blowOf {s : xs} {x w h t z : Int32} (hR : Rl s) : Pair Ev_X8_blowOf Ev_X9_blowOf [.ref 0, .int x, .int w, .int h, .int t, .int z] [.ref 142, .int x, .int w, .int h, .int t, .int z] ["java/lang/IndexOutOfBoundsException", "java/lang/IllegalArgumentException"] s := by
  obtain ⟨i7, n1, n8⟩ := hR.2.1.1
  have hn : s.1 2 0 = nI (qn (s.1 143) 7) := hR.1.1.1.1.trans i7
  by_cases hz : z < 0
  · cases k1 : xhas x (qn (s.1 143) 7) with
    | false =>
      refine Pair_x (s1 := s) (s2 := s) 0 "java/lang/IndexOutOfBoundsException" rfl ?_ ?_ hR
      · refine ⟨Nat.le_of_ble_eq_true rfl, Nat.le_refl _, trivial, ?_⟩
        refine R1 (g' := (1, _, _, _, _, _)) rfl rfl ?_
        refine R1 (g' := (2, _, _, _, _, _)) rfl rfl ?_
        refine R_call2X (Or.inr (Or.inl ⟨rfl, rfl⟩)) rfl rfl ⟨Nat.le_of_ble_eq_true rfl, Nat.le_of_ble_eq_true rfl⟩ (Nat.le_of_ble_eq_true rfl) ⟨rfl, rfl⟩ (⟨⟨_, _, _, rfl, (Nat.le_of_ble_eq_true rfl), rfl⟩, e8_partX hn k1⟩) rfl ?_
        exact ⟨rfl, rfl⟩
      · refine ⟨Nat.le_of_ble_eq_true rfl, Nat.le_refl _, Or.inl rfl, ?_⟩
        refine R1 (g' := (1, _, _, _, _, _)) rfl rfl ?_
        refine R1 (g' := (3, _, _, _, _, _)) rfl rfl ?_
        refine R_ge 10 rfl rfl (fun h => by exact absurd h (Int32.not_le.mpr hz)) (fun h3 => ?_)
        refine R1 (g' := (7, _, .int (nI 1) :: _, _, _, _)) rfl rfl ?_
        refine R1 (g' := (19, _, _, _, _, _)) rfl rfl ?_
        refine R_put rfl rfl (Nat.le_of_ble_eq_true rfl) rfl (Nat.le_of_ble_eq_true rfl) ⟨_, rfl, Or.inl rfl, _, rfl, rfl⟩ rfl ?_
        change xRun _ _ (22, _, _, wd (put s 142 6 (nI 1)), _, _)
        refine R1 (g' := (23, _, _, _, _, _)) rfl rfl ?_
        refine R_getf rfl rfl (Nat.le_of_ble_eq_true rfl) rfl rfl ?_
        rw [put6]
        refine R_eq 31 rfl rfl (fun h => by exact absurd h (by decide)) (fun h26 => ?_)
        refine R1 (g' := (30, _, .int (nI 0) :: _, _, _, _)) rfl rfl ?_
        refine R_iret rfl ?_
        exact ⟨rfl, rfl⟩
    | true =>
      refine Pair_x (s1 := s) (s2 := s) 0 "java/lang/IndexOutOfBoundsException" rfl ?_ ?_ hR
      · refine ⟨Nat.le_of_ble_eq_true rfl, Nat.le_refl _, trivial, ?_⟩
        refine R1 (g' := (1, _, _, _, _, _)) rfl rfl ?_
        refine R1 (g' := (2, _, _, _, _, _)) rfl rfl ?_
        refine R_call2 (Or.inr (Or.inl ⟨rfl, rfl⟩)) rfl rfl ⟨Nat.le_of_ble_eq_true rfl, Nat.le_of_ble_eq_true rfl⟩ (Nat.le_of_ble_eq_true rfl) ⟨rfl, rfl⟩ (⟨⟨_, _, _, rfl, (Nat.le_of_ble_eq_true rfl), rfl⟩, e8_part hn k1⟩) ?_
        refine R1 (g' := (7, _, _, _, _, _)) rfl rfl ?_
        refine R_ge 20 rfl rfl (fun h => by exact absurd h (Int32.not_le.mpr hz)) (fun h7 => ?_)
        refine R_throw rfl rfl ⟨Nat.le_of_ble_eq_true rfl, Nat.le_of_ble_eq_true rfl⟩ (Nat.le_of_ble_eq_true rfl) ?_
        exact ⟨rfl, rfl⟩
      · refine ⟨Nat.le_of_ble_eq_true rfl, Nat.le_refl _, Or.inl rfl, ?_⟩
        refine R1 (g' := (1, _, _, _, _, _)) rfl rfl ?_
        refine R1 (g' := (3, _, _, _, _, _)) rfl rfl ?_
        refine R_ge 10 rfl rfl (fun h => by exact absurd h (Int32.not_le.mpr hz)) (fun h3 => ?_)
        refine R1 (g' := (7, _, .int (nI 1) :: _, _, _, _)) rfl rfl ?_
        refine R1 (g' := (19, _, _, _, _, _)) rfl rfl ?_
        refine R_put rfl rfl (Nat.le_of_ble_eq_true rfl) rfl (Nat.le_of_ble_eq_true rfl) ⟨_, rfl, Or.inl rfl, _, rfl, rfl⟩ rfl ?_
        change xRun _ _ (22, _, _, wd (put s 142 6 (nI 1)), _, _)
        refine R1 (g' := (23, _, _, _, _, _)) rfl rfl ?_
        refine R_getf rfl rfl (Nat.le_of_ble_eq_true rfl) rfl rfl ?_
        rw [put6]
        refine R_eq 31 rfl rfl (fun h => by exact absurd h (by decide)) (fun h26 => ?_)
        refine R1 (g' := (30, _, .int (nI 0) :: _, _, _, _)) rfl rfl ?_
        refine R_iret rfl ?_
        exact ⟨rfl, rfl⟩
  · have hz0 : 0 ≤ z := Int32.not_lt.mp hz
    obtain ⟨j, j31, rfl⟩ := nI_of hz
    cases k1 : xhas x (qn (s.1 143) 7) with
    | false =>
      refine Pair_x (s1 := s) (s2 := s) 0 "java/lang/IndexOutOfBoundsException" rfl ?_ ?_ hR
      · refine ⟨Nat.le_of_ble_eq_true rfl, Nat.le_refl _, trivial, ?_⟩
        refine R1 (g' := (1, _, _, _, _, _)) rfl rfl ?_
        refine R1 (g' := (2, _, _, _, _, _)) rfl rfl ?_
        refine R_call2X (Or.inr (Or.inl ⟨rfl, rfl⟩)) rfl rfl ⟨Nat.le_of_ble_eq_true rfl, Nat.le_of_ble_eq_true rfl⟩ (Nat.le_of_ble_eq_true rfl) ⟨rfl, rfl⟩ (⟨⟨_, _, _, rfl, (Nat.le_of_ble_eq_true rfl), rfl⟩, e8_partX hn k1⟩) rfl ?_
        exact ⟨rfl, rfl⟩
      · refine ⟨Nat.le_of_ble_eq_true rfl, Nat.le_refl _, Or.inl rfl, ?_⟩
        refine R1 (g' := (1, _, _, _, _, _)) rfl rfl ?_
        refine R1 (g' := (3, _, _, _, _, _)) rfl rfl ?_
        refine R_ge 10 rfl rfl (fun h3 => ?_) (fun h => by exact absurd hz0 h)
        refine R1 (g' := (11, _, _, _, _, _)) rfl rfl ?_
        refine R1 (g' := (12, _, _, _, _, _)) rfl rfl ?_
        refine R1 (g' := (13, _, _, _, _, _)) rfl rfl ?_
        refine R1 (g' := (14, _, _, _, _, _)) rfl rfl ?_
        refine R1 (g' := (16, _, _, _, _, _)) rfl rfl ?_
        refine R_call5 (Or.inr (Or.inl ⟨rfl, rfl⟩)) rfl rfl ⟨Nat.le_of_ble_eq_true rfl, Nat.le_of_ble_eq_true rfl⟩ (Nat.le_of_ble_eq_true rfl) ⟨rfl, rfl⟩ (⟨⟨_, _, _, rfl, (Nat.le_of_ble_eq_true rfl), rfl⟩, e9_refusal i7 n1 (by omega)⟩) ?_
        rw [k1, show rfu false (okW w h t) = nI 1 from rfl]
        refine R_put rfl rfl (Nat.le_of_ble_eq_true rfl) rfl (Nat.le_of_ble_eq_true rfl) ⟨_, rfl, Or.inl rfl, _, rfl, rfl⟩ rfl ?_
        change xRun _ _ (22, _, _, wd (put s 142 6 (nI 1)), _, _)
        refine R1 (g' := (23, _, _, _, _, _)) rfl rfl ?_
        refine R_getf rfl rfl (Nat.le_of_ble_eq_true rfl) rfl rfl ?_
        rw [put6]
        refine R_eq 31 rfl rfl (fun h => by exact absurd h (by decide)) (fun h26 => ?_)
        refine R1 (g' := (30, _, .int (nI 0) :: _, _, _, _)) rfl rfl ?_
        refine R_iret rfl ?_
        exact ⟨rfl, rfl⟩
    | true =>
      cases k2 : okW w h t with
      | false =>
        refine Pair_x (s1 := s) (s2 := s) 1 "java/lang/IllegalArgumentException" rfl ?_ ?_ hR
        · refine ⟨Nat.le_of_ble_eq_true rfl, Nat.le_refl _, trivial, ?_⟩
          refine R1 (g' := (1, _, _, _, _, _)) rfl rfl ?_
          refine R1 (g' := (2, _, _, _, _, _)) rfl rfl ?_
          refine R_call2 (Or.inr (Or.inl ⟨rfl, rfl⟩)) rfl rfl ⟨Nat.le_of_ble_eq_true rfl, Nat.le_of_ble_eq_true rfl⟩ (Nat.le_of_ble_eq_true rfl) ⟨rfl, rfl⟩ (⟨⟨_, _, _, rfl, (Nat.le_of_ble_eq_true rfl), rfl⟩, e8_part hn k1⟩) ?_
          refine R1 (g' := (7, _, _, _, _, _)) rfl rfl ?_
          refine R_ge 20 rfl rfl (fun h7 => ?_) (fun h => by exact absurd hz0 h)
          refine R1 (g' := (21, _, _, _, _, _)) rfl rfl ?_
          refine R1 (g' := (22, _, _, _, _, _)) rfl rfl ?_
          refine R1 (g' := (24, _, _, _, _, _)) rfl rfl ?_
          refine R_call3X (Or.inl ⟨rfl, rfl⟩) rfl rfl ⟨Nat.le_of_ble_eq_true rfl, Nat.le_of_ble_eq_true rfl⟩ (Nat.le_of_ble_eq_true rfl) ⟨rfl, rfl⟩ (e8_wishX k2) rfl ?_
          exact ⟨rfl, rfl⟩
        · refine ⟨Nat.le_of_ble_eq_true rfl, Nat.le_refl _, Or.inl rfl, ?_⟩
          refine R1 (g' := (1, _, _, _, _, _)) rfl rfl ?_
          refine R1 (g' := (3, _, _, _, _, _)) rfl rfl ?_
          refine R_ge 10 rfl rfl (fun h3 => ?_) (fun h => by exact absurd hz0 h)
          refine R1 (g' := (11, _, _, _, _, _)) rfl rfl ?_
          refine R1 (g' := (12, _, _, _, _, _)) rfl rfl ?_
          refine R1 (g' := (13, _, _, _, _, _)) rfl rfl ?_
          refine R1 (g' := (14, _, _, _, _, _)) rfl rfl ?_
          refine R1 (g' := (16, _, _, _, _, _)) rfl rfl ?_
          refine R_call5 (Or.inr (Or.inl ⟨rfl, rfl⟩)) rfl rfl ⟨Nat.le_of_ble_eq_true rfl, Nat.le_of_ble_eq_true rfl⟩ (Nat.le_of_ble_eq_true rfl) ⟨rfl, rfl⟩ (⟨⟨_, _, _, rfl, (Nat.le_of_ble_eq_true rfl), rfl⟩, e9_refusal i7 n1 (by omega)⟩) ?_
          rw [k1, k2, show rfu true false = nI 2 from rfl]
          refine R_put rfl rfl (Nat.le_of_ble_eq_true rfl) rfl (Nat.le_of_ble_eq_true rfl) ⟨_, rfl, Or.inl rfl, _, rfl, rfl⟩ rfl ?_
          change xRun _ _ (22, _, _, wd (put s 142 6 (nI 2)), _, _)
          refine R1 (g' := (23, _, _, _, _, _)) rfl rfl ?_
          refine R_getf rfl rfl (Nat.le_of_ble_eq_true rfl) rfl rfl ?_
          rw [put6]
          refine R_eq 31 rfl rfl (fun h => by exact absurd h (by decide)) (fun h26 => ?_)
          refine R1 (g' := (30, _, .int (nI 0) :: _, _, _, _)) rfl rfl ?_
          refine R_iret rfl ?_
          exact ⟨rfl, rfl⟩
      | true =>
        obtain ⟨k, hk, rfl⟩ := xhas_of (by omega) k1
        obtain ⟨a, b, d, rfl, rfl, rfl, a1, a2, b1, b2, d9, ra, rb⟩ := okW_of k2
        have hk8 : k < 8 := by omega
        have hp := hR.2.1.2.2.2.2.1 k hk
        obtain ⟨cl1, cl2, cl3⟩ := cl_ok hp
        obtain ⟨s1, wo, hfd⟩ := c_find (x := a) (y := b) (o := d) hR.1.1 hp hk8 (by omega) (by omega) (by omega)
        have e1 : s1.1 143 = s.1 143 := wo.1 143 (by decide)
        have hR1 : Rl (put s1 142 6 (nI 0)) := Rl_code (Rl_Sx hR (Sx_123 wo))
        obtain ⟨s2, ro, hfd2⟩ := r_find (s := put s1 142 6 (nI 0)) (k := k) (x := a) (y := b) (o := d) ((put6n (by decide)).trans e1) hp hk8 (by omega) (by omega) (by omega)
        have hfin : Rl s2 ∧ s2.1 142 6 = nI 0 := ⟨Rl_Sx hR1 (Sx_rOut ro), (ro.2.1 6 (by decide) (by decide)).trans put6⟩
        rcases hfd with ⟨n, p, hres, hev, hb, hw⟩ | ⟨hno, hev, hb⟩ <;> rcases hfd2 with ⟨m, p2, hres2, hev2, hw2⟩ | ⟨hno2, hev2⟩
        · obtain ⟨rfl, hpp⟩ := wRes_eq cl1 hres hres2
          have n60 := (wRes_ok cl1 hres).1
          by_cases hjn : j < n
          · refine Pair_t (s1 := s1) (s2 := s2) (v := nI (p j)) ?_ ?_ hfin
            · refine ⟨Nat.le_of_ble_eq_true rfl, Nat.le_refl _, Or.inl rfl, ?_⟩
              refine R1 (g' := (1, _, _, _, _, _)) rfl rfl ?_
              refine R1 (g' := (2, _, _, _, _, _)) rfl rfl ?_
              refine R_call2 (Or.inr (Or.inl ⟨rfl, rfl⟩)) rfl rfl ⟨Nat.le_of_ble_eq_true rfl, Nat.le_of_ble_eq_true rfl⟩ (Nat.le_of_ble_eq_true rfl) ⟨rfl, rfl⟩ (⟨⟨_, _, _, rfl, (Nat.le_of_ble_eq_true rfl), rfl⟩, e8_part hn k1⟩) ?_
              refine R1 (g' := (7, _, _, _, _, _)) rfl rfl ?_
              refine R_ge 20 rfl rfl (fun h7 => ?_) (fun h => by exact absurd hz0 h)
              refine R1 (g' := (21, _, _, _, _, _)) rfl rfl ?_
              refine R1 (g' := (22, _, _, _, _, _)) rfl rfl ?_
              refine R1 (g' := (24, _, _, _, _, _)) rfl rfl ?_
              refine R_call3 (Or.inl ⟨rfl, rfl⟩) rfl rfl ⟨Nat.le_of_ble_eq_true rfl, Nat.le_of_ble_eq_true rfl⟩ (Nat.le_of_ble_eq_true rfl) ⟨rfl, rfl⟩ (e8_wish k2) ?_
              refine R1 (g' := (28, _, _, _, _, _)) rfl rfl ?_
              refine R_getf rfl rfl (Nat.le_of_ble_eq_true rfl) rfl rfl ?_
              refine R1 (g' := (32, _, _, _, _, _)) rfl rfl ?_
              refine R_getf rfl rfl (Nat.le_of_ble_eq_true rfl) rfl rfl ?_
              refine R_getf rfl rfl (Nat.le_of_ble_eq_true rfl) rfl rfl ?_
              refine R1 (g' := (39, _, _, _, _, _)) rfl rfl ?_
              refine R1 (g' := (40, _, _, _, _, _)) rfl rfl ?_
              refine R1 (g' := (41, _, _, _, _, _)) rfl rfl ?_
              refine R1 (g' := (43, _, _, _, _, _)) rfl rfl ?_
              refine R_call6 (Or.inr (Or.inl ⟨rfl, rfl⟩)) rfl rfl ⟨Nat.le_of_ble_eq_true rfl, Nat.le_of_ble_eq_true rfl⟩ (Nat.le_of_ble_eq_true rfl) ⟨rfl, rfl⟩ (⟨⟨_, _, _, rfl, (Nat.le_of_ble_eq_true rfl), rfl⟩, hev⟩) ?_
              refine R1 (g' := (48, _, _, _, _, _)) rfl rfl ?_
              refine R1 (g' := (50, _, _, _, _, _)) rfl rfl ?_
              refine R1 (g' := (52, _, _, _, _, _)) rfl rfl ?_
              refine R_cgeN 67 (j) (n) rfl rfl (rfl) (rfl) (by omega) (by omega) (fun h => by omega) (fun h52 => ?_)
              refine R1 (g' := (56, _, _, _, _, _)) rfl rfl ?_
              refine R_getf rfl rfl (Nat.le_of_ble_eq_true rfl) rfl rfl ?_
              refine R1 (g' := (61, _, _, _, _, _)) rfl rfl ?_
              refine R_call2 (Or.inr (Or.inl ⟨rfl, rfl⟩)) rfl rfl ⟨Nat.le_of_ble_eq_true rfl, Nat.le_of_ble_eq_true rfl⟩ (Nat.le_of_ble_eq_true rfl) ⟨rfl, rfl⟩ (⟨⟨_, _, _, rfl, (Nat.le_of_ble_eq_true rfl), rfl⟩, e7_kindAt (by omega)⟩) ?_
              refine R1 (g' := (68, _, _, _, _, _)) rfl rfl ?_
              refine R_iret rfl ?_
              exact ⟨o_i (hw j hjn), rfl⟩
            · refine ⟨Nat.le_of_ble_eq_true rfl, Nat.le_refl _, Or.inl rfl, ?_⟩
              refine R1 (g' := (1, _, _, _, _, _)) rfl rfl ?_
              refine R1 (g' := (3, _, _, _, _, _)) rfl rfl ?_
              refine R_ge 10 rfl rfl (fun h3 => ?_) (fun h => by exact absurd hz0 h)
              refine R1 (g' := (11, _, _, _, _, _)) rfl rfl ?_
              refine R1 (g' := (12, _, _, _, _, _)) rfl rfl ?_
              refine R1 (g' := (13, _, _, _, _, _)) rfl rfl ?_
              refine R1 (g' := (14, _, _, _, _, _)) rfl rfl ?_
              refine R1 (g' := (16, _, _, _, _, _)) rfl rfl ?_
              refine R_call5 (Or.inr (Or.inl ⟨rfl, rfl⟩)) rfl rfl ⟨Nat.le_of_ble_eq_true rfl, Nat.le_of_ble_eq_true rfl⟩ (Nat.le_of_ble_eq_true rfl) ⟨rfl, rfl⟩ (⟨⟨_, _, _, rfl, (Nat.le_of_ble_eq_true rfl), rfl⟩, e9_refusal (by rw [e1]; exact i7) n1 (by omega)⟩) ?_
              rw [k1, k2, show rfu true true = nI 0 from rfl]
              refine R_put rfl rfl (Nat.le_of_ble_eq_true rfl) rfl (Nat.le_of_ble_eq_true rfl) ⟨_, rfl, Or.inl rfl, _, rfl, rfl⟩ rfl ?_
              change xRun _ _ (22, _, _, wd (put s1 142 6 (nI 0)), _, _)
              refine R1 (g' := (23, _, _, _, _, _)) rfl rfl ?_
              refine R_getf rfl rfl (Nat.le_of_ble_eq_true rfl) rfl rfl ?_
              rw [put6]
              refine R_eq 31 rfl rfl (fun h26 => ?_) (fun h => by exact absurd (by decide) h)
              refine R1 (g' := (32, _, _, _, _, _)) rfl rfl ?_
              refine R1 (g' := (33, _, _, _, _, _)) rfl rfl ?_
              refine R1 (g' := (34, _, _, _, _, _)) rfl rfl ?_
              refine R1 (g' := (35, _, _, _, _, _)) rfl rfl ?_
              refine R1 (g' := (37, _, _, _, _, _)) rfl rfl ?_
              refine R_call5 (Or.inr (Or.inl ⟨rfl, rfl⟩)) rfl rfl ⟨Nat.le_of_ble_eq_true rfl, Nat.le_of_ble_eq_true rfl⟩ (Nat.le_of_ble_eq_true rfl) ⟨rfl, rfl⟩ (⟨⟨_, _, _, rfl, (Nat.le_of_ble_eq_true rfl), rfl⟩, hev2⟩) ?_
              refine R1 (g' := (42, _, _, _, _, _)) rfl rfl ?_
              refine R1 (g' := (44, _, _, _, _, _)) rfl rfl ?_
              refine R1 (g' := (46, _, _, _, _, _)) rfl rfl ?_
              refine R_cgeN 59 (j) (n) rfl rfl (rfl) (rfl) (by omega) (by omega) (fun h => by omega) (fun h46 => ?_)
              refine R1 (g' := (50, _, _, _, _, _)) rfl rfl ?_
              refine R_getf rfl rfl (Nat.le_of_ble_eq_true rfl) rfl rfl ?_
              refine R1 (g' := (55, _, _, _, _, _)) rfl rfl ?_
              refine R_iald j rfl (Nat.le_of_ble_eq_true rfl) rfl (by omega) (by decide) rfl ?_
              refine R1 (g' := (60, _, _, _, _, _)) rfl rfl ?_
              refine R_iret rfl ?_
              exact ⟨o_i ((hw2 j hjn).trans (congrArg nI (hpp j hjn).symm)), rfl⟩
          · refine Pair_t (s1 := s1) (s2 := s2) (v := -1) ?_ ?_ hfin
            · refine ⟨Nat.le_of_ble_eq_true rfl, Nat.le_refl _, Or.inl rfl, ?_⟩
              refine R1 (g' := (1, _, _, _, _, _)) rfl rfl ?_
              refine R1 (g' := (2, _, _, _, _, _)) rfl rfl ?_
              refine R_call2 (Or.inr (Or.inl ⟨rfl, rfl⟩)) rfl rfl ⟨Nat.le_of_ble_eq_true rfl, Nat.le_of_ble_eq_true rfl⟩ (Nat.le_of_ble_eq_true rfl) ⟨rfl, rfl⟩ (⟨⟨_, _, _, rfl, (Nat.le_of_ble_eq_true rfl), rfl⟩, e8_part hn k1⟩) ?_
              refine R1 (g' := (7, _, _, _, _, _)) rfl rfl ?_
              refine R_ge 20 rfl rfl (fun h7 => ?_) (fun h => by exact absurd hz0 h)
              refine R1 (g' := (21, _, _, _, _, _)) rfl rfl ?_
              refine R1 (g' := (22, _, _, _, _, _)) rfl rfl ?_
              refine R1 (g' := (24, _, _, _, _, _)) rfl rfl ?_
              refine R_call3 (Or.inl ⟨rfl, rfl⟩) rfl rfl ⟨Nat.le_of_ble_eq_true rfl, Nat.le_of_ble_eq_true rfl⟩ (Nat.le_of_ble_eq_true rfl) ⟨rfl, rfl⟩ (e8_wish k2) ?_
              refine R1 (g' := (28, _, _, _, _, _)) rfl rfl ?_
              refine R_getf rfl rfl (Nat.le_of_ble_eq_true rfl) rfl rfl ?_
              refine R1 (g' := (32, _, _, _, _, _)) rfl rfl ?_
              refine R_getf rfl rfl (Nat.le_of_ble_eq_true rfl) rfl rfl ?_
              refine R_getf rfl rfl (Nat.le_of_ble_eq_true rfl) rfl rfl ?_
              refine R1 (g' := (39, _, _, _, _, _)) rfl rfl ?_
              refine R1 (g' := (40, _, _, _, _, _)) rfl rfl ?_
              refine R1 (g' := (41, _, _, _, _, _)) rfl rfl ?_
              refine R1 (g' := (43, _, _, _, _, _)) rfl rfl ?_
              refine R_call6 (Or.inr (Or.inl ⟨rfl, rfl⟩)) rfl rfl ⟨Nat.le_of_ble_eq_true rfl, Nat.le_of_ble_eq_true rfl⟩ (Nat.le_of_ble_eq_true rfl) ⟨rfl, rfl⟩ (⟨⟨_, _, _, rfl, (Nat.le_of_ble_eq_true rfl), rfl⟩, hev⟩) ?_
              refine R1 (g' := (48, _, _, _, _, _)) rfl rfl ?_
              refine R1 (g' := (50, _, _, _, _, _)) rfl rfl ?_
              refine R1 (g' := (52, _, _, _, _, _)) rfl rfl ?_
              refine R_cgeN 67 (j) (n) rfl rfl (rfl) (rfl) (by omega) (by omega) (fun h52 => ?_) (fun h => by omega)
              refine R1 (g' := (68, _, .int (-1) :: _, _, _, _)) rfl rfl ?_
              refine R_iret rfl ?_
              exact ⟨rfl, rfl⟩
            · refine ⟨Nat.le_of_ble_eq_true rfl, Nat.le_refl _, Or.inl rfl, ?_⟩
              refine R1 (g' := (1, _, _, _, _, _)) rfl rfl ?_
              refine R1 (g' := (3, _, _, _, _, _)) rfl rfl ?_
              refine R_ge 10 rfl rfl (fun h3 => ?_) (fun h => by exact absurd hz0 h)
              refine R1 (g' := (11, _, _, _, _, _)) rfl rfl ?_
              refine R1 (g' := (12, _, _, _, _, _)) rfl rfl ?_
              refine R1 (g' := (13, _, _, _, _, _)) rfl rfl ?_
              refine R1 (g' := (14, _, _, _, _, _)) rfl rfl ?_
              refine R1 (g' := (16, _, _, _, _, _)) rfl rfl ?_
              refine R_call5 (Or.inr (Or.inl ⟨rfl, rfl⟩)) rfl rfl ⟨Nat.le_of_ble_eq_true rfl, Nat.le_of_ble_eq_true rfl⟩ (Nat.le_of_ble_eq_true rfl) ⟨rfl, rfl⟩ (⟨⟨_, _, _, rfl, (Nat.le_of_ble_eq_true rfl), rfl⟩, e9_refusal (by rw [e1]; exact i7) n1 (by omega)⟩) ?_
              rw [k1, k2, show rfu true true = nI 0 from rfl]
              refine R_put rfl rfl (Nat.le_of_ble_eq_true rfl) rfl (Nat.le_of_ble_eq_true rfl) ⟨_, rfl, Or.inl rfl, _, rfl, rfl⟩ rfl ?_
              change xRun _ _ (22, _, _, wd (put s1 142 6 (nI 0)), _, _)
              refine R1 (g' := (23, _, _, _, _, _)) rfl rfl ?_
              refine R_getf rfl rfl (Nat.le_of_ble_eq_true rfl) rfl rfl ?_
              rw [put6]
              refine R_eq 31 rfl rfl (fun h26 => ?_) (fun h => by exact absurd (by decide) h)
              refine R1 (g' := (32, _, _, _, _, _)) rfl rfl ?_
              refine R1 (g' := (33, _, _, _, _, _)) rfl rfl ?_
              refine R1 (g' := (34, _, _, _, _, _)) rfl rfl ?_
              refine R1 (g' := (35, _, _, _, _, _)) rfl rfl ?_
              refine R1 (g' := (37, _, _, _, _, _)) rfl rfl ?_
              refine R_call5 (Or.inr (Or.inl ⟨rfl, rfl⟩)) rfl rfl ⟨Nat.le_of_ble_eq_true rfl, Nat.le_of_ble_eq_true rfl⟩ (Nat.le_of_ble_eq_true rfl) ⟨rfl, rfl⟩ (⟨⟨_, _, _, rfl, (Nat.le_of_ble_eq_true rfl), rfl⟩, hev2⟩) ?_
              refine R1 (g' := (42, _, _, _, _, _)) rfl rfl ?_
              refine R1 (g' := (44, _, _, _, _, _)) rfl rfl ?_
              refine R1 (g' := (46, _, _, _, _, _)) rfl rfl ?_
              refine R_cgeN 59 (j) (n) rfl rfl (rfl) (rfl) (by omega) (by omega) (fun h46 => ?_) (fun h => by omega)
              refine R1 (g' := (60, _, .int (-1) :: _, _, _, _)) rfl rfl ?_
              refine R_iret rfl ?_
              exact ⟨rfl, rfl⟩
        · exact (wRes_no hres hno2).elim
        · exact (wRes_no hres2 hno).elim
        · refine Pair_t (s1 := s1) (s2 := s2) (v := -1) ?_ ?_ hfin
          · refine ⟨Nat.le_of_ble_eq_true rfl, Nat.le_refl _, Or.inl rfl, ?_⟩
            refine R1 (g' := (1, _, _, _, _, _)) rfl rfl ?_
            refine R1 (g' := (2, _, _, _, _, _)) rfl rfl ?_
            refine R_call2 (Or.inr (Or.inl ⟨rfl, rfl⟩)) rfl rfl ⟨Nat.le_of_ble_eq_true rfl, Nat.le_of_ble_eq_true rfl⟩ (Nat.le_of_ble_eq_true rfl) ⟨rfl, rfl⟩ (⟨⟨_, _, _, rfl, (Nat.le_of_ble_eq_true rfl), rfl⟩, e8_part hn k1⟩) ?_
            refine R1 (g' := (7, _, _, _, _, _)) rfl rfl ?_
            refine R_ge 20 rfl rfl (fun h7 => ?_) (fun h => by exact absurd hz0 h)
            refine R1 (g' := (21, _, _, _, _, _)) rfl rfl ?_
            refine R1 (g' := (22, _, _, _, _, _)) rfl rfl ?_
            refine R1 (g' := (24, _, _, _, _, _)) rfl rfl ?_
            refine R_call3 (Or.inl ⟨rfl, rfl⟩) rfl rfl ⟨Nat.le_of_ble_eq_true rfl, Nat.le_of_ble_eq_true rfl⟩ (Nat.le_of_ble_eq_true rfl) ⟨rfl, rfl⟩ (e8_wish k2) ?_
            refine R1 (g' := (28, _, _, _, _, _)) rfl rfl ?_
            refine R_getf rfl rfl (Nat.le_of_ble_eq_true rfl) rfl rfl ?_
            refine R1 (g' := (32, _, _, _, _, _)) rfl rfl ?_
            refine R_getf rfl rfl (Nat.le_of_ble_eq_true rfl) rfl rfl ?_
            refine R_getf rfl rfl (Nat.le_of_ble_eq_true rfl) rfl rfl ?_
            refine R1 (g' := (39, _, _, _, _, _)) rfl rfl ?_
            refine R1 (g' := (40, _, _, _, _, _)) rfl rfl ?_
            refine R1 (g' := (41, _, _, _, _, _)) rfl rfl ?_
            refine R1 (g' := (43, _, _, _, _, _)) rfl rfl ?_
            refine R_call6 (Or.inr (Or.inl ⟨rfl, rfl⟩)) rfl rfl ⟨Nat.le_of_ble_eq_true rfl, Nat.le_of_ble_eq_true rfl⟩ (Nat.le_of_ble_eq_true rfl) ⟨rfl, rfl⟩ (⟨⟨_, _, _, rfl, (Nat.le_of_ble_eq_true rfl), rfl⟩, hev⟩) ?_
            refine R1 (g' := (48, _, _, _, _, _)) rfl rfl ?_
            refine R1 (g' := (50, _, _, _, _, _)) rfl rfl ?_
            refine R1 (g' := (52, _, _, _, _, _)) rfl rfl ?_
            refine R_cge 67 rfl rfl (fun h52 => ?_) (fun h => by exact absurd (m1_le j31) h)
            refine R1 (g' := (68, _, .int (-1) :: _, _, _, _)) rfl rfl ?_
            refine R_iret rfl ?_
            exact ⟨rfl, rfl⟩
          · refine ⟨Nat.le_of_ble_eq_true rfl, Nat.le_refl _, Or.inl rfl, ?_⟩
            refine R1 (g' := (1, _, _, _, _, _)) rfl rfl ?_
            refine R1 (g' := (3, _, _, _, _, _)) rfl rfl ?_
            refine R_ge 10 rfl rfl (fun h3 => ?_) (fun h => by exact absurd hz0 h)
            refine R1 (g' := (11, _, _, _, _, _)) rfl rfl ?_
            refine R1 (g' := (12, _, _, _, _, _)) rfl rfl ?_
            refine R1 (g' := (13, _, _, _, _, _)) rfl rfl ?_
            refine R1 (g' := (14, _, _, _, _, _)) rfl rfl ?_
            refine R1 (g' := (16, _, _, _, _, _)) rfl rfl ?_
            refine R_call5 (Or.inr (Or.inl ⟨rfl, rfl⟩)) rfl rfl ⟨Nat.le_of_ble_eq_true rfl, Nat.le_of_ble_eq_true rfl⟩ (Nat.le_of_ble_eq_true rfl) ⟨rfl, rfl⟩ (⟨⟨_, _, _, rfl, (Nat.le_of_ble_eq_true rfl), rfl⟩, e9_refusal (by rw [e1]; exact i7) n1 (by omega)⟩) ?_
            rw [k1, k2, show rfu true true = nI 0 from rfl]
            refine R_put rfl rfl (Nat.le_of_ble_eq_true rfl) rfl (Nat.le_of_ble_eq_true rfl) ⟨_, rfl, Or.inl rfl, _, rfl, rfl⟩ rfl ?_
            change xRun _ _ (22, _, _, wd (put s1 142 6 (nI 0)), _, _)
            refine R1 (g' := (23, _, _, _, _, _)) rfl rfl ?_
            refine R_getf rfl rfl (Nat.le_of_ble_eq_true rfl) rfl rfl ?_
            rw [put6]
            refine R_eq 31 rfl rfl (fun h26 => ?_) (fun h => by exact absurd (by decide) h)
            refine R1 (g' := (32, _, _, _, _, _)) rfl rfl ?_
            refine R1 (g' := (33, _, _, _, _, _)) rfl rfl ?_
            refine R1 (g' := (34, _, _, _, _, _)) rfl rfl ?_
            refine R1 (g' := (35, _, _, _, _, _)) rfl rfl ?_
            refine R1 (g' := (37, _, _, _, _, _)) rfl rfl ?_
            refine R_call5 (Or.inr (Or.inl ⟨rfl, rfl⟩)) rfl rfl ⟨Nat.le_of_ble_eq_true rfl, Nat.le_of_ble_eq_true rfl⟩ (Nat.le_of_ble_eq_true rfl) ⟨rfl, rfl⟩ (⟨⟨_, _, _, rfl, (Nat.le_of_ble_eq_true rfl), rfl⟩, hev2⟩) ?_
            refine R1 (g' := (42, _, _, _, _, _)) rfl rfl ?_
            refine R1 (g' := (44, _, _, _, _, _)) rfl rfl ?_
            refine R1 (g' := (46, _, _, _, _, _)) rfl rfl ?_
            refine R_cge 59 rfl rfl (fun h46 => ?_) (fun h => by exact absurd (m1_le j31) h)
            refine R1 (g' := (60, _, .int (-1) :: _, _, _, _)) rfl rfl ?_
            refine R_iret rfl ?_
            exact ⟨rfl, rfl⟩
