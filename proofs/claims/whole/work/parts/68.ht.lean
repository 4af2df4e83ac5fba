def Sw (s s' : xs) : Prop := (∀ i, ¬ scP i → i ≠ 143 → s'.1 i = s.1 i) ∧ (∀ q, q < 73 → s'.1 143 q = s.1 143 q) ∧ s'.1 133 0 = s.1 133 0 ∧ s'.1 142 3 = s.1 142 3 ∧ s'.1 142 5 = s.1 142 5 ∧ s'.2 = s.2
theorem Rl_Sw {s s' : xs} (h : Rl s) (g : Sw s s') : Rl s' := by
  obtain ⟨h1, h2, ⟨π, c, k1, k2, k3, k4, k5⟩, hT⟩ := h
  obtain ⟨e, eq, g1, g2, g3, g4⟩ := g
  refine ⟨pRel_cg eq (pRel_fr2 (fun i a b c => e i (by unfold scP; omega) (by omega)) h1), pInv_cg eq h2, ⟨π, c, xhi_fr (by rw [g4]) k1, k2, ?_, g2.trans k4, ?_⟩, RlT_c hT g1 (e 141 (by unfold scP; omega) (by decide)) g3 (e 146 (by unfold scP; omega) (by decide))⟩
  · rw [e 41 (by unfold scP; omega) (by decide)]
    exact k3
  · have ep : pg s' = pg s := by
      funext j q
      unfold pg
      rw [e 145 (by unfold scP; omega) (by decide)]
    rw [ep]
    exact HS_fr k1 k2 (fun i a b => e i (by unfold scP; omega) (by omega)) k5
theorem Sw_back {s S2 : xs} (h : hX (setP s 144 (va_cpy (s.1 143) (s.1 144) 0 0 73)) S2) : Sw s (setP S2 143 (va_cpy (S2.1 144) (S2.1 143) 0 0 73)) ∧ (setP S2 143 (va_cpy (S2.1 144) (S2.1 143) 0 0 73)).1 142 6 = s.1 142 6 := by
  refine ⟨⟨fun i a b => ?_, fun q hq => ?_, ?_, ?_, ?_, h.2.2⟩, ?_⟩
  · rw [setP_ne _ _ b, h.1 i (fun z => a (by unfold scP; omega)) b (by unfold scP at a; omega), setP_ne _ _ (fun z => a (by unfold scP; omega))]
  · rw [setP_at, pk_cpy_in (Nat.zero_le _) (by omega), Nat.sub_zero, Nat.zero_add, h.1 144 (by decide) (by decide) (by decide), setP_at, pk_cpy_in (Nat.zero_le _) (by omega), Nat.sub_zero, Nat.zero_add]
  · rw [setP_ne _ _ (by decide), h.1 133 (by decide) (by decide) (by decide), setP_ne _ _ (by decide)]
  · rw [setP_ne _ _ (by decide), h.2.1 3 (by decide) (by decide), setP_ne _ _ (by decide)]
  · rw [setP_ne _ _ (by decide), h.2.1 5 (by decide) (by decide), setP_ne _ _ (by decide)]
  · rw [setP_ne _ _ (by decide), h.2.1 6 (by decide) (by decide), setP_ne _ _ (by decide)]
theorem Sx_cp {s : xs} : Sx 0 s (sStCopy s 21 1) := ⟨fun i _ b => sStCopy_out.1 i (by unfold scP at b; omega), by rw [sStCopy_out.1 133 (by decide)], by rw [sStCopy_out.1 142 (by decide)], by rw [sStCopy_out.1 142 (by decide)], by rw [sStCopy_out.2]⟩
theorem pr_heatsTo {s : xs} {x w h t : Int32} (hR : Rl s) : Pair Ev_X8_heatsTo Ev_X9_heatsTo [.ref 0, .int x, .int w, .int h, .int t] [.ref 142, .int x, .int w, .int h, .int t] ["java/lang/IndexOutOfBoundsException", "java/lang/IllegalArgumentException"] s := by
  obtain ⟨i7, n1, n8⟩ := hR.2.1.1
  have hn : s.1 2 0 = nI (qn (s.1 143) 7) := hR.1.1.1.1.trans i7
  cases k1 : xhas x (qn (s.1 143) 7) with
  | false =>
    refine Pair_x (s1 := s) (s2 := s) 0 "java/lang/IndexOutOfBoundsException" rfl ?_ ?_ hR
    · refine ⟨Nat.le_of_ble_eq_true rfl, Nat.le_refl _, trivial, ?_⟩
      refine R1 (g' := (1, _, _, _, _, _)) rfl rfl ?_
      refine R1 (g' := (2, _, _, _, _, _)) rfl rfl ?_
      refine R_call2X (Or.inr (Or.inl ⟨rfl, rfl⟩)) rfl rfl ⟨Nat.le_of_ble_eq_true rfl, Nat.le_of_ble_eq_true rfl⟩ (Nat.le_of_ble_eq_true rfl) ⟨rfl, rfl⟩ (⟨⟨_, _, _, rfl, (Nat.le_of_ble_eq_true rfl), rfl⟩, e8_partX hn k1⟩) rfl ?_
      exact ⟨rfl, rfl⟩
    · refine ⟨Nat.le_of_ble_eq_true rfl, Nat.le_refl _, Or.inl rfl, ?_⟩
      refine R1 (g' := (1, _, _, _, _, _)) rfl rfl ?_
      refine R1 (g' := (2, _, _, _, _, _)) rfl rfl ?_
      refine R1 (g' := (3, _, _, _, _, _)) rfl rfl ?_
      refine R1 (g' := (4, _, _, _, _, _)) rfl rfl ?_
      refine R1 (g' := (5, _, _, _, _, _)) rfl rfl ?_
      refine R1 (g' := (7, _, _, _, _, _)) rfl rfl ?_
      refine R_call5 (Or.inr (Or.inl ⟨rfl, rfl⟩)) rfl rfl ⟨Nat.le_of_ble_eq_true rfl, Nat.le_of_ble_eq_true rfl⟩ (Nat.le_of_ble_eq_true rfl) ⟨rfl, rfl⟩ (⟨⟨_, _, _, rfl, (Nat.le_of_ble_eq_true rfl), rfl⟩, e9_refusal i7 n1 (by omega)⟩) ?_
      rw [k1, show rfu false (okW w h t) = nI 1 from rfl]
      refine R_put rfl rfl (Nat.le_of_ble_eq_true rfl) rfl (Nat.le_of_ble_eq_true rfl) ⟨_, rfl, Or.inl rfl, _, rfl, rfl⟩ rfl ?_
      change xRun _ _ (13, _, _, wd (put s 142 6 (nI 1)), _, _)
      refine R1 (g' := (14, _, _, _, _, _)) rfl rfl ?_
      refine R_getf rfl rfl (Nat.le_of_ble_eq_true rfl) rfl rfl ?_
      rw [put6]
      refine R_eq 22 rfl rfl (fun h => by exact absurd h (by decide)) (fun h17 => ?_)
      refine R1 (g' := (21, _, .int (nI 0) :: _, _, _, _)) rfl rfl ?_
      refine R_iret rfl ?_
      exact ⟨rfl, rfl⟩
  | true =>
    cases k2 : okW w h t with
    | false =>
      refine Pair_x (s1 := s) (s2 := s) 1 "java/lang/IllegalArgumentException" rfl ?_ ?_ hR
      · refine ⟨Nat.le_of_ble_eq_true rfl, Nat.le_refl _, trivial, ?_⟩
        refine R1 (g' := (1, _, _, _, _, _)) rfl rfl ?_
        refine R1 (g' := (2, _, _, _, _, _)) rfl rfl ?_
        refine R_call2 (Or.inr (Or.inl ⟨rfl, rfl⟩)) rfl rfl ⟨Nat.le_of_ble_eq_true rfl, Nat.le_of_ble_eq_true rfl⟩ (Nat.le_of_ble_eq_true rfl) ⟨rfl, rfl⟩ (⟨⟨_, _, _, rfl, (Nat.le_of_ble_eq_true rfl), rfl⟩, e8_part hn k1⟩) ?_
        refine R1 (g' := (6, _, _, _, _, _)) rfl rfl ?_
        refine R1 (g' := (7, _, _, _, _, _)) rfl rfl ?_
        refine R1 (g' := (9, _, _, _, _, _)) rfl rfl ?_
        refine R_call3X (Or.inl ⟨rfl, rfl⟩) rfl rfl ⟨Nat.le_of_ble_eq_true rfl, Nat.le_of_ble_eq_true rfl⟩ (Nat.le_of_ble_eq_true rfl) ⟨rfl, rfl⟩ (e8_wishX k2) rfl ?_
        exact ⟨rfl, rfl⟩
      · refine ⟨Nat.le_of_ble_eq_true rfl, Nat.le_refl _, Or.inl rfl, ?_⟩
        refine R1 (g' := (1, _, _, _, _, _)) rfl rfl ?_
        refine R1 (g' := (2, _, _, _, _, _)) rfl rfl ?_
        refine R1 (g' := (3, _, _, _, _, _)) rfl rfl ?_
        refine R1 (g' := (4, _, _, _, _, _)) rfl rfl ?_
        refine R1 (g' := (5, _, _, _, _, _)) rfl rfl ?_
        refine R1 (g' := (7, _, _, _, _, _)) rfl rfl ?_
        refine R_call5 (Or.inr (Or.inl ⟨rfl, rfl⟩)) rfl rfl ⟨Nat.le_of_ble_eq_true rfl, Nat.le_of_ble_eq_true rfl⟩ (Nat.le_of_ble_eq_true rfl) ⟨rfl, rfl⟩ (⟨⟨_, _, _, rfl, (Nat.le_of_ble_eq_true rfl), rfl⟩, e9_refusal i7 n1 (by omega)⟩) ?_
        rw [k1, k2, show rfu true false = nI 2 from rfl]
        refine R_put rfl rfl (Nat.le_of_ble_eq_true rfl) rfl (Nat.le_of_ble_eq_true rfl) ⟨_, rfl, Or.inl rfl, _, rfl, rfl⟩ rfl ?_
        change xRun _ _ (13, _, _, wd (put s 142 6 (nI 2)), _, _)
        refine R1 (g' := (14, _, _, _, _, _)) rfl rfl ?_
        refine R_getf rfl rfl (Nat.le_of_ble_eq_true rfl) rfl rfl ?_
        rw [put6]
        refine R_eq 22 rfl rfl (fun h => by exact absurd h (by decide)) (fun h17 => ?_)
        refine R1 (g' := (21, _, .int (nI 0) :: _, _, _, _)) rfl rfl ?_
        refine R_iret rfl ?_
        exact ⟨rfl, rfl⟩
    | true =>
      obtain ⟨k, hk, rfl⟩ := xhas_of (by omega) k1
      obtain ⟨a, b, d, rfl, rfl, rfl, a1, a2, b1, b2, d9, ra, rb⟩ := okW_of k2
      have hk8 : k < 8 := by omega
      have hp := hR.2.1.2.2.2.2.1 k hk
      obtain ⟨cl1, cl2, cl3⟩ := cl_ok hp
      obtain ⟨sf, wof, hfd⟩ := c_find (x := a) (y := b) (o := d) hR.1.1 hp hk8 (by omega) (by omega) (by omega)
      have ef : sf.1 143 = s.1 143 := wof.1 143 (by decide)
      have hRf : Rl sf := Rl_Sx hR (Sx_123 wof)
      have k1' : xhas (nI k) (qn (sf.1 143) 7) = true := by rw [ef]; exact k1
      rw [← ef] at hfd hp hk i7 n1 n8 cl1
      rcases hfd with ⟨n, p, hres, hev, hb, hw⟩ | ⟨hno, hev, hb⟩
      · obtain ⟨n60, hp2, hR2⟩ := wR_ok hp hres
        have hp21 : pRel (sStCopy sf 21 1) 21 (sf.1 143) := pRel_copy (by decide) hRf.1
        obtain ⟨s3, wo3, hb3, hfw⟩ := e8_followWay22 hRf.2.1 hk n60 hp2 hR2 hp21.1 (by rw [sStCopy_out.1 125 (by decide)]; exact hw) (by rw [sStCopy_out.1 123 (by decide)]; exact hb)
        have h22 : s3.1 22 3 = (fQ (sf.1 143) (qn (sf.1 143) 7) k (qn (sf.1 143) (9 + 4 * k)) (qn (sf.1 143) (10 + 4 * k)) (qn (sf.1 143) 0) p n) 2 := hb3.1.2.2.2.1
        have h2 : s3.1 2 3 = sf.1 143 2 := by
          rw [wo3.1 2 (by decide), sStCopy_out.1 2 (by decide)]
          exact hRf.1.1.1.2.2.2.1
        have o3 : Sx 0 sf s3 := Sx_tr Sx_cp (Sx_22 wo3)
        have e3 : s3.1 143 = sf.1 143 := Sx_q o3 (by decide)
        have hR3 : Rl s3 := Rl_Sx hRf o3
        have hbr1 := e9_bring (s := put s3 142 6 (nI 0)) (a := 0) (b := 0) xpg_m xpg_p (by decide) (by decide) (by decide)
        obtain ⟨S2, hx2, hhf⟩ := r_heatsFor (s := setP (put s3 142 6 (nI 0)) 144 (va_cpy ((put s3 142 6 (nI 0)).1 143) ((put s3 142 6 (nI 0)).1 144) 0 0 73)) (k := k) (x := a) (y := b) (o := d) hRf.2.1 (by rw [setP_ne _ _ (by decide), put6n (by decide)]; exact e3) hk (by omega) (by omega) (by omega)
        have hbr2 := e9_bring (s := S2) (a := 0) (b := 0) xpg_p xpg_m (by decide) (by decide) (by decide)
        obtain ⟨sw, sw6⟩ := Sw_back hx2
        have hfin : Rl (setP S2 143 (va_cpy (S2.1 144) (S2.1 143) 0 0 73)) ∧ (setP S2 143 (va_cpy (S2.1 144) (S2.1 143) 0 0 73)).1 142 6 = nI 0 := ⟨Rl_Sw (Rl_code hR3) sw, sw6.trans put6⟩
        rcases hhf with ⟨m, p2, hres2, hev2, hq2⟩ | ⟨hno2, hev2, hq2⟩
        · obtain ⟨rfl, hpp⟩ := wRes_eq cl1 hres hres2
          rw [← (fQ_eq (Q := sf.1 143) (n := qn (sf.1 143) 7) (k := k) (a := qn (sf.1 143) (9 + 4 * k)) (b := qn (sf.1 143) (10 + 4 * k)) (t := qn (sf.1 143) 0) hpp n (Nat.le_refl _)).2] at hev2
          refine Pair_t (s1 := s3) (s2 := setP S2 143 (va_cpy (S2.1 144) (S2.1 143) 0 0 73)) (v := (fQ (sf.1 143) (qn (sf.1 143) 7) k (qn (sf.1 143) (9 + 4 * k)) (qn (sf.1 143) (10 + 4 * k)) (qn (sf.1 143) 0) p n) 2 - sf.1 143 2) ?_ ?_ hfin
          · refine ⟨Nat.le_of_ble_eq_true rfl, Nat.le_refl _, Or.inl rfl, ?_⟩
            refine R1 (g' := (1, _, _, _, _, _)) rfl rfl ?_
            refine R1 (g' := (2, _, _, _, _, _)) rfl rfl ?_
            refine R_call2 (Or.inr (Or.inl ⟨rfl, rfl⟩)) rfl rfl ⟨Nat.le_of_ble_eq_true rfl, Nat.le_of_ble_eq_true rfl⟩ (Nat.le_of_ble_eq_true rfl) ⟨rfl, rfl⟩ (⟨⟨_, _, _, rfl, (Nat.le_of_ble_eq_true rfl), rfl⟩, e8_part hn k1⟩) ?_
            refine R1 (g' := (6, _, _, _, _, _)) rfl rfl ?_
            refine R1 (g' := (7, _, _, _, _, _)) rfl rfl ?_
            refine R1 (g' := (9, _, _, _, _, _)) rfl rfl ?_
            refine R_call3 (Or.inl ⟨rfl, rfl⟩) rfl rfl ⟨Nat.le_of_ble_eq_true rfl, Nat.le_of_ble_eq_true rfl⟩ (Nat.le_of_ble_eq_true rfl) ⟨rfl, rfl⟩ (e8_wish k2) ?_
            refine R1 (g' := (13, _, _, _, _, _)) rfl rfl ?_
            refine R_getf rfl rfl (Nat.le_of_ble_eq_true rfl) rfl rfl ?_
            refine R1 (g' := (17, _, _, _, _, _)) rfl rfl ?_
            refine R_getf rfl rfl (Nat.le_of_ble_eq_true rfl) rfl rfl ?_
            refine R_getf rfl rfl (Nat.le_of_ble_eq_true rfl) rfl rfl ?_
            refine R1 (g' := (24, _, _, _, _, _)) rfl rfl ?_
            refine R1 (g' := (25, _, _, _, _, _)) rfl rfl ?_
            refine R1 (g' := (26, _, _, _, _, _)) rfl rfl ?_
            refine R1 (g' := (28, _, _, _, _, _)) rfl rfl ?_
            refine R_call6 (Or.inr (Or.inl ⟨rfl, rfl⟩)) rfl rfl ⟨Nat.le_of_ble_eq_true rfl, Nat.le_of_ble_eq_true rfl⟩ (Nat.le_of_ble_eq_true rfl) ⟨rfl, rfl⟩ (⟨⟨_, _, _, rfl, (Nat.le_of_ble_eq_true rfl), rfl⟩, hev⟩) ?_
            refine R1 (g' := (32, _, .int (-1) :: _, _, _, _)) rfl rfl ?_
            refine R_cne 37 rfl rfl (fun h32 => ?_) (fun h => by exact absurd h (nIm1 (by omega)))
            refine R1 (g' := (38, _, _, _, _, _)) rfl rfl ?_
            refine R_getf rfl rfl (Nat.le_of_ble_eq_true rfl) rfl rfl ?_
            refine R1 (g' := (42, _, _, _, _, _)) rfl rfl ?_
            refine R_getf rfl rfl (Nat.le_of_ble_eq_true rfl) rfl rfl ?_
            refine R_call2 (Or.inr (Or.inl ⟨rfl, rfl⟩)) rfl rfl ⟨Nat.le_of_ble_eq_true rfl, Nat.le_of_ble_eq_true rfl⟩ (Nat.le_of_ble_eq_true rfl) ⟨rfl, rfl⟩ (⟨⟨_, _, _, rfl, (Nat.le_of_ble_eq_true rfl), rfl⟩, e_stCopy xsta_21 xsta_1⟩) ?_
            refine R1 (g' := (49, _, _, _, _, _)) rfl rfl ?_
            refine R1 (g' := (50, _, _, _, _, _)) rfl rfl ?_
            refine R_getf rfl rfl (Nat.le_of_ble_eq_true rfl) rfl rfl ?_
            refine R_getf rfl rfl (Nat.le_of_ble_eq_true rfl) rfl rfl ?_
            refine R1 (g' := (57, _, _, _, _, _)) rfl rfl ?_
            refine R_call3 (Or.inr (Or.inl ⟨rfl, rfl⟩)) rfl rfl ⟨Nat.le_of_ble_eq_true rfl, Nat.le_of_ble_eq_true rfl⟩ (Nat.le_of_ble_eq_true rfl) ⟨rfl, rfl⟩ (⟨⟨_, _, _, rfl, (Nat.le_of_ble_eq_true rfl), rfl⟩, hfw⟩) ?_
            refine R1 (g' := (61, _, _, _, _, _)) rfl rfl ?_
            refine R_getf rfl rfl (Nat.le_of_ble_eq_true rfl) rfl rfl ?_
            refine R_getf rfl rfl (Nat.le_of_ble_eq_true rfl) rfl rfl ?_
            refine R_getf rfl rfl (Nat.le_of_ble_eq_true rfl) rfl rfl ?_
            refine R1 (g' := (71, _, _, _, _, _)) rfl rfl ?_
            refine R_getf rfl rfl (Nat.le_of_ble_eq_true rfl) rfl rfl ?_
            refine R_getf rfl rfl (Nat.le_of_ble_eq_true rfl) rfl rfl ?_
            refine R_getf rfl rfl (Nat.le_of_ble_eq_true rfl) rfl rfl ?_
            refine R1 (g' := (81, _, _, _, _, _)) rfl rfl ?_
            refine R_iret rfl ?_
            exact ⟨o_i (by rw [h22, h2]), rfl⟩
          · refine ⟨Nat.le_of_ble_eq_true rfl, Nat.le_refl _, Or.inl rfl, ?_⟩
            refine R1 (g' := (1, _, _, _, _, _)) rfl rfl ?_
            refine R1 (g' := (2, _, _, _, _, _)) rfl rfl ?_
            refine R1 (g' := (3, _, _, _, _, _)) rfl rfl ?_
            refine R1 (g' := (4, _, _, _, _, _)) rfl rfl ?_
            refine R1 (g' := (5, _, _, _, _, _)) rfl rfl ?_
            refine R1 (g' := (7, _, _, _, _, _)) rfl rfl ?_
            refine R_call5 (Or.inr (Or.inl ⟨rfl, rfl⟩)) rfl rfl ⟨Nat.le_of_ble_eq_true rfl, Nat.le_of_ble_eq_true rfl⟩ (Nat.le_of_ble_eq_true rfl) ⟨rfl, rfl⟩ (⟨⟨_, _, _, rfl, (Nat.le_of_ble_eq_true rfl), rfl⟩, e9_refusal (by rw [e3]; exact i7) n1 (by omega)⟩) ?_
            rw [k1', k2, show rfu true true = nI 0 from rfl]
            refine R_put rfl rfl (Nat.le_of_ble_eq_true rfl) rfl (Nat.le_of_ble_eq_true rfl) ⟨_, rfl, Or.inl rfl, _, rfl, rfl⟩ rfl ?_
            change xRun _ _ (13, _, _, wd (put s3 142 6 (nI 0)), _, _)
            refine R1 (g' := (14, _, _, _, _, _)) rfl rfl ?_
            refine R_getf rfl rfl (Nat.le_of_ble_eq_true rfl) rfl rfl ?_
            rw [put6]
            refine R_eq 22 rfl rfl (fun h17 => ?_) (fun h => by exact absurd (by decide) h)
            refine R1 (g' := (23, _, _, _, _, _)) rfl rfl ?_
            refine R_getf rfl rfl (Nat.le_of_ble_eq_true rfl) rfl rfl ?_
            refine R1 (g' := (27, _, .int (nI 0) :: _, _, _, _)) rfl rfl ?_
            refine R1 (g' := (28, _, _, _, _, _)) rfl rfl ?_
            refine R_getf rfl rfl (Nat.le_of_ble_eq_true rfl) rfl rfl ?_
            refine R1 (g' := (32, _, .int (nI 0) :: _, _, _, _)) rfl rfl ?_
            refine R_call4 (Or.inl ⟨rfl, rfl⟩) rfl rfl ⟨Nat.le_of_ble_eq_true rfl, Nat.le_of_ble_eq_true rfl⟩ (Nat.le_of_ble_eq_true rfl) ⟨rfl, rfl⟩ (hbr1) ?_
            refine R1 (g' := (36, _, _, _, _, _)) rfl rfl ?_
            refine R1 (g' := (37, _, _, _, _, _)) rfl rfl ?_
            refine R1 (g' := (38, _, _, _, _, _)) rfl rfl ?_
            refine R1 (g' := (39, _, _, _, _, _)) rfl rfl ?_
            refine R1 (g' := (41, _, _, _, _, _)) rfl rfl ?_
            refine R_call5 (Or.inr (Or.inl ⟨rfl, rfl⟩)) rfl rfl ⟨Nat.le_of_ble_eq_true rfl, Nat.le_of_ble_eq_true rfl⟩ (Nat.le_of_ble_eq_true rfl) ⟨rfl, rfl⟩ (⟨⟨_, _, _, rfl, (Nat.le_of_ble_eq_true rfl), rfl⟩, hev2⟩) ?_
            refine R1 (g' := (46, _, _, _, _, _)) rfl rfl ?_
            refine R1 (g' := (47, _, _, _, _, _)) rfl rfl ?_
            refine R_getf rfl rfl (Nat.le_of_ble_eq_true rfl) rfl rfl ?_
            refine R1 (g' := (51, _, .int (nI 0) :: _, _, _, _)) rfl rfl ?_
            refine R1 (g' := (52, _, _, _, _, _)) rfl rfl ?_
            refine R_getf rfl rfl (Nat.le_of_ble_eq_true rfl) rfl rfl ?_
            refine R1 (g' := (56, _, .int (nI 0) :: _, _, _, _)) rfl rfl ?_
            refine R_call4 (Or.inl ⟨rfl, rfl⟩) rfl rfl ⟨Nat.le_of_ble_eq_true rfl, Nat.le_of_ble_eq_true rfl⟩ (Nat.le_of_ble_eq_true rfl) ⟨rfl, rfl⟩ (hbr2) ?_
            refine R1 (g' := (61, _, _, _, _, _)) rfl rfl ?_
            refine R_iret rfl ?_
            exact ⟨rfl, rfl⟩
        · exact (wRes_no hres hno2).elim
      · have hbr1 := e9_bring (s := put sf 142 6 (nI 0)) (a := 0) (b := 0) xpg_m xpg_p (by decide) (by decide) (by decide)
        obtain ⟨S2, hx2, hhf⟩ := r_heatsFor (s := setP (put sf 142 6 (nI 0)) 144 (va_cpy ((put sf 142 6 (nI 0)).1 143) ((put sf 142 6 (nI 0)).1 144) 0 0 73)) (k := k) (x := a) (y := b) (o := d) hRf.2.1 (by rw [setP_ne _ _ (by decide), put6n (by decide)]) hk (by omega) (by omega) (by omega)
        have hbr2 := e9_bring (s := S2) (a := 0) (b := 0) xpg_p xpg_m (by decide) (by decide) (by decide)
        obtain ⟨sw, sw6⟩ := Sw_back hx2
        have hfin : Rl (setP S2 143 (va_cpy (S2.1 144) (S2.1 143) 0 0 73)) ∧ (setP S2 143 (va_cpy (S2.1 144) (S2.1 143) 0 0 73)).1 142 6 = nI 0 := ⟨Rl_Sw (Rl_code hRf) sw, sw6.trans put6⟩
        rcases hhf with ⟨m, p2, hres2, hev2, hq2⟩ | ⟨hno2, hev2, hq2⟩
        · exact (wRes_no hres2 hno).elim
        · refine Pair_t (s1 := sf) (s2 := setP S2 143 (va_cpy (S2.1 144) (S2.1 143) 0 0 73)) (v := -1) ?_ ?_ hfin
          · refine ⟨Nat.le_of_ble_eq_true rfl, Nat.le_refl _, Or.inl rfl, ?_⟩
            refine R1 (g' := (1, _, _, _, _, _)) rfl rfl ?_
            refine R1 (g' := (2, _, _, _, _, _)) rfl rfl ?_
            refine R_call2 (Or.inr (Or.inl ⟨rfl, rfl⟩)) rfl rfl ⟨Nat.le_of_ble_eq_true rfl, Nat.le_of_ble_eq_true rfl⟩ (Nat.le_of_ble_eq_true rfl) ⟨rfl, rfl⟩ (⟨⟨_, _, _, rfl, (Nat.le_of_ble_eq_true rfl), rfl⟩, e8_part hn k1⟩) ?_
            refine R1 (g' := (6, _, _, _, _, _)) rfl rfl ?_
            refine R1 (g' := (7, _, _, _, _, _)) rfl rfl ?_
            refine R1 (g' := (9, _, _, _, _, _)) rfl rfl ?_
            refine R_call3 (Or.inl ⟨rfl, rfl⟩) rfl rfl ⟨Nat.le_of_ble_eq_true rfl, Nat.le_of_ble_eq_true rfl⟩ (Nat.le_of_ble_eq_true rfl) ⟨rfl, rfl⟩ (e8_wish k2) ?_
            refine R1 (g' := (13, _, _, _, _, _)) rfl rfl ?_
            refine R_getf rfl rfl (Nat.le_of_ble_eq_true rfl) rfl rfl ?_
            refine R1 (g' := (17, _, _, _, _, _)) rfl rfl ?_
            refine R_getf rfl rfl (Nat.le_of_ble_eq_true rfl) rfl rfl ?_
            refine R_getf rfl rfl (Nat.le_of_ble_eq_true rfl) rfl rfl ?_
            refine R1 (g' := (24, _, _, _, _, _)) rfl rfl ?_
            refine R1 (g' := (25, _, _, _, _, _)) rfl rfl ?_
            refine R1 (g' := (26, _, _, _, _, _)) rfl rfl ?_
            refine R1 (g' := (28, _, _, _, _, _)) rfl rfl ?_
            refine R_call6 (Or.inr (Or.inl ⟨rfl, rfl⟩)) rfl rfl ⟨Nat.le_of_ble_eq_true rfl, Nat.le_of_ble_eq_true rfl⟩ (Nat.le_of_ble_eq_true rfl) ⟨rfl, rfl⟩ (⟨⟨_, _, _, rfl, (Nat.le_of_ble_eq_true rfl), rfl⟩, hev⟩) ?_
            refine R1 (g' := (32, _, .int (-1) :: _, _, _, _)) rfl rfl ?_
            refine R_cne 37 rfl rfl (fun h => by exact absurd rfl h) (fun h32 => ?_)
            refine R1 (g' := (36, _, .int (-1) :: _, _, _, _)) rfl rfl ?_
            refine R_iret rfl ?_
            exact ⟨rfl, rfl⟩
          · refine ⟨Nat.le_of_ble_eq_true rfl, Nat.le_refl _, Or.inl rfl, ?_⟩
            refine R1 (g' := (1, _, _, _, _, _)) rfl rfl ?_
            refine R1 (g' := (2, _, _, _, _, _)) rfl rfl ?_
            refine R1 (g' := (3, _, _, _, _, _)) rfl rfl ?_
            refine R1 (g' := (4, _, _, _, _, _)) rfl rfl ?_
            refine R1 (g' := (5, _, _, _, _, _)) rfl rfl ?_
            refine R1 (g' := (7, _, _, _, _, _)) rfl rfl ?_
            refine R_call5 (Or.inr (Or.inl ⟨rfl, rfl⟩)) rfl rfl ⟨Nat.le_of_ble_eq_true rfl, Nat.le_of_ble_eq_true rfl⟩ (Nat.le_of_ble_eq_true rfl) ⟨rfl, rfl⟩ (⟨⟨_, _, _, rfl, (Nat.le_of_ble_eq_true rfl), rfl⟩, e9_refusal i7 n1 (by omega)⟩) ?_
            rw [k1', k2, show rfu true true = nI 0 from rfl]
            refine R_put rfl rfl (Nat.le_of_ble_eq_true rfl) rfl (Nat.le_of_ble_eq_true rfl) ⟨_, rfl, Or.inl rfl, _, rfl, rfl⟩ rfl ?_
            change xRun _ _ (13, _, _, wd (put sf 142 6 (nI 0)), _, _)
            refine R1 (g' := (14, _, _, _, _, _)) rfl rfl ?_
            refine R_getf rfl rfl (Nat.le_of_ble_eq_true rfl) rfl rfl ?_
            rw [put6]
            refine R_eq 22 rfl rfl (fun h17 => ?_) (fun h => by exact absurd (by decide) h)
            refine R1 (g' := (23, _, _, _, _, _)) rfl rfl ?_
            refine R_getf rfl rfl (Nat.le_of_ble_eq_true rfl) rfl rfl ?_
            refine R1 (g' := (27, _, .int (nI 0) :: _, _, _, _)) rfl rfl ?_
            refine R1 (g' := (28, _, _, _, _, _)) rfl rfl ?_
            refine R_getf rfl rfl (Nat.le_of_ble_eq_true rfl) rfl rfl ?_
            refine R1 (g' := (32, _, .int (nI 0) :: _, _, _, _)) rfl rfl ?_
            refine R_call4 (Or.inl ⟨rfl, rfl⟩) rfl rfl ⟨Nat.le_of_ble_eq_true rfl, Nat.le_of_ble_eq_true rfl⟩ (Nat.le_of_ble_eq_true rfl) ⟨rfl, rfl⟩ (hbr1) ?_
            refine R1 (g' := (36, _, _, _, _, _)) rfl rfl ?_
            refine R1 (g' := (37, _, _, _, _, _)) rfl rfl ?_
            refine R1 (g' := (38, _, _, _, _, _)) rfl rfl ?_
            refine R1 (g' := (39, _, _, _, _, _)) rfl rfl ?_
            refine R1 (g' := (41, _, _, _, _, _)) rfl rfl ?_
            refine R_call5 (Or.inr (Or.inl ⟨rfl, rfl⟩)) rfl rfl ⟨Nat.le_of_ble_eq_true rfl, Nat.le_of_ble_eq_true rfl⟩ (Nat.le_of_ble_eq_true rfl) ⟨rfl, rfl⟩ (⟨⟨_, _, _, rfl, (Nat.le_of_ble_eq_true rfl), rfl⟩, hev2⟩) ?_
            refine R1 (g' := (46, _, _, _, _, _)) rfl rfl ?_
            refine R1 (g' := (47, _, _, _, _, _)) rfl rfl ?_
            refine R_getf rfl rfl (Nat.le_of_ble_eq_true rfl) rfl rfl ?_
            refine R1 (g' := (51, _, .int (nI 0) :: _, _, _, _)) rfl rfl ?_
            refine R1 (g' := (52, _, _, _, _, _)) rfl rfl ?_
            refine R_getf rfl rfl (Nat.le_of_ble_eq_true rfl) rfl rfl ?_
            refine R1 (g' := (56, _, .int (nI 0) :: _, _, _, _)) rfl rfl ?_
            refine R_call4 (Or.inl ⟨rfl, rfl⟩) rfl rfl ⟨Nat.le_of_ble_eq_true rfl, Nat.le_of_ble_eq_true rfl⟩ (Nat.le_of_ble_eq_true rfl) ⟨rfl, rfl⟩ (hbr2) ?_
            refine R1 (g' := (61, _, _, _, _, _)) rfl rfl ?_
            refine R_iret rfl ?_
            exact ⟨rfl, rfl⟩
def hS (Q : Nat → Int32) : Nat → (Nat → Int32) → Prop
  | 0, P => P = Q
  | k + 1, P => ∃ P0 n p, hS Q k P0 ∧ wRes (qn P0 (11 + 4 * k)) (cl (qn P0 (9 + 4 * k)) (qn P0 (10 + 4 * k))) (qn Q (41 + 4 * k)) (qn Q (42 + 4 * k)) (qn Q (43 + 4 * k)) n p ∧ P = (fQ P0 (qn P0 7) k (qn P0 (9 + 4 * k)) (qn P0 (10 + 4 * k)) (qn P0 0) p n)
theorem hS_ok {Q : Nat → Int32} (hi : pInv Q) : ∀ k P, k ≤ qn Q 7 → hS Q k P → pInv P ∧ qn P 7 = qn Q 7 ∧ (∀ i, i = 8 ∨ 41 ≤ i → P i = Q i) ∧ ∃ c, c ≤ 60 * k ∧ P 2 = Q 2 + nI c
  | 0, P, _, h => by
    have h : P = Q := h
    subst h
    exact ⟨hi, rfl, fun _ _ => rfl, 0, Nat.zero_le _, (Int32.add_zero _).symm⟩
  | k + 1, P, hk, ⟨P0, n, p, h0, hw, e⟩ => by
    obtain ⟨i1, i2, i3, c, c1, c2⟩ := hS_ok hi k P0 (by omega) h0
    subst e
    have hk' : k < qn P0 7 := by omega
    have n8 := i1.1.2.2
    have hp := i1.2.2.2.2.1 k hk'
    obtain ⟨n60, hp2, hR2⟩ := wR_ok hp hw
    obtain ⟨f1, f2, f3, f4, f5, f6, c', c1', c2'⟩ := fQ_ok i1 hk' hR2 n (Nat.le_refl _)
    refine ⟨f1, (nq f4 (by omega)).trans i2, fun i h => (fQ_hi (by omega) n8 h n).trans (i3 i h), c + c', by omega, ?_⟩
    rw [c2', c2, Int32.add_assoc, nI_add]
theorem hS_eq {Q : Nat → Int32} (hi : pInv Q) : ∀ k P P', k ≤ qn Q 7 → hS Q k P → hS Q k P' → P = P'
  | 0, P, P', _, h, h' => by
    have h : P = Q := h
    have h' : P' = Q := h'
    rw [h, h']
  | k + 1, P, P', hk, ⟨P0, n, p, h0, hw, e⟩, ⟨P1, n2, p2, h1, hw2, e2⟩ => by
    have e0 := hS_eq hi k P0 P1 (by omega) h0 h1
    subst e0
    obtain ⟨i1, i2, i3, c, c1, c2⟩ := hS_ok hi k P0 (by omega) h0
    have hp := i1.2.2.2.2.1 k (by omega)
    obtain ⟨rfl, hpp⟩ := wRes_eq (cl_ok hp).1 hw hw2
    rw [e, e2, (fQ_eq hpp n (Nat.le_refl _)).2]
theorem hS_pre {Q : Nat → Int32} : ∀ N P, hS Q N P → ∀ k, k < N → ∃ P0 n p, hS Q k P0 ∧ wRes (qn P0 (11 + 4 * k)) (cl (qn P0 (9 + 4 * k)) (qn P0 (10 + 4 * k))) (qn Q (41 + 4 * k)) (qn Q (42 + 4 * k)) (qn Q (43 + 4 * k)) n p
  | 0, _, _, k, hk => absurd hk (Nat.not_lt_zero _)
  | N + 1, P, ⟨P0, n, p, h0, hw, e⟩, k, hk => by
    by_cases z : k = N
    · subst z
      exact ⟨P0, n, p, h0, hw⟩
    · exact hS_pre N P0 h0 k (by omega)
def hRs (Q : Nat → Int32) (N : Nat) (o1 : xO) : Prop := (∃ P, hS Q N P ∧ o1 = .inl (some (.int (P 2 - Q 2)))) ∨ ∃ k P, k < N ∧ hS Q k P ∧ wNo (qn P (11 + 4 * k)) (cl (qn P (9 + 4 * k)) (qn P (10 + 4 * k))) (qn Q (41 + 4 * k)) (qn Q (42 + 4 * k)) (qn Q (43 + 4 * k)) ∧ o1 = .inl (some (.int (-1)))
theorem hRs_eq {Q : Nat → Int32} {N : Nat} {o1 o2 : xO} (hi : pInv Q) (hN : N ≤ qn Q 7) (h : hRs Q N o1) (h2 : hRs Q N o2) : o1 = o2 := by
  have cross : ∀ P k P', hS Q N P → k < N → hS Q k P' → wNo (qn P' (11 + 4 * k)) (cl (qn P' (9 + 4 * k)) (qn P' (10 + 4 * k))) (qn Q (41 + 4 * k)) (qn Q (42 + 4 * k)) (qn Q (43 + 4 * k)) → False := by
    intro P k P' a b c d
    obtain ⟨P0, n, p, x1, x2⟩ := hS_pre N P a k b
    have e := hS_eq hi k P0 P' (by omega) x1 c
    subst e
    exact wRes_no x2 d
  rcases h with ⟨P, a, e⟩ | ⟨k, P, a, b, c, e⟩ <;> rcases h2 with ⟨P', a', e'⟩ | ⟨k', P', a', b', c', e'⟩
  · rw [e, e', hS_eq hi N P P' hN a a']
  · exact (cross _ _ _ a a' b' c').elim
  · exact (cross _ _ _ a' a b c).elim
  · rw [e, e']
theorem hRs_i {Q : Nat → Int32} {N : Nat} {o1 : xO} (h : hRs Q N o1) : ∃ v, o1 = .inl (some (.int v)) := by
  rcases h with ⟨P, a, e⟩ | ⟨k, P, a, b, c, e⟩ <;> exact ⟨_, e⟩
