theorem bOut_join {s : xs} {k n : Nat} : sOut 2 9 s (sJoin s 2 k n) := ⟨fun i hi => ((sDn_out _).1 i (by omega) (by omega) (by omega) (by omega)).trans (by rw [put_ne _ _ (by omega), put_ne _ _ (by omega), put_ne _ _ (by omega)]), (sDn_out _).2⟩
def qSD (F : Nat → Int32) (a j : Nat) : Nat → Int32 := fun i => if a ≤ i ∧ i < j then F (i + 4) else F i
theorem qSD_0 {F : Nat → Int32} {a : Nat} : qSD F a a = F := funext fun i => if_neg (by omega)
theorem qSD_hi {F : Nat → Int32} {a j i : Nat} (h : j ≤ i) : qSD F a j i = F i := if_neg (by omega)
theorem qSD_lo {F : Nat → Int32} {a j i : Nat} (h : i < a) : qSD F a j i = F i := if_neg (by omega)
theorem qSD_s {F : Nat → Int32} {a j : Nat} (h : a ≤ j) : upd (qSD F a j) j (F (j + 4)) = qSD F a (j + 1) := by
  funext i
  simp only [upd, qSD]
  by_cases e : i = j
  · subst e
    (repeat (first | rw [if_pos (by omega)] | rw [if_neg (by omega)]))
  · by_cases e2 : a ≤ i ∧ i < j
    · (repeat (first | rw [if_pos (by omega)] | rw [if_neg (by omega)]))
    · (repeat (first | rw [if_pos (by omega)] | rw [if_neg (by omega)]))
theorem qWeld_eq {Q : Nat → Int32} {k n : Nat} : qSD (upd (upd (upd Q (11 + 4 * k) (Q (11 + 4 * k) + Q (15 + 4 * k))) (12 + 4 * k) (Q (12 + 4 * k) + Q (16 + 4 * k))) 7 (nI (n - 1))) (13 + 4 * k) (5 + 4 * n) = qWeld Q k n := by
  funext i
  simp only [qSD, upd, qWeld]
  by_cases h1 : i = 7
  · (repeat (first | rw [if_pos (by omega)] | rw [if_neg (by omega)]))
  · by_cases h2 : i = 11 + 4 * k
    · subst h2
      rw [show 11 + 4 * k + 4 = 15 + 4 * k by omega]
      (repeat (first | rw [if_pos (by omega)] | rw [if_neg (by omega)]))
    · by_cases h3 : i = 12 + 4 * k
      · subst h3
        rw [show 12 + 4 * k + 4 = 16 + 4 * k by omega]
        (repeat (first | rw [if_pos (by omega)] | rw [if_neg (by omega)]))
      · by_cases h4 : 13 + 4 * k ≤ i ∧ i < 5 + 4 * n
        · (repeat (first | rw [if_pos (by omega)] | rw [if_neg (by omega)]))
        · (repeat (first | rw [if_pos (by omega)] | rw [if_neg (by omega)]))
theorem weld9_loop {s : xs} {F : Nat → Int32} {k n : Nat} (h7 : F 7 = nI (n - 1)) (hk : k + 1 < n) (n8 : n ≤ 8) (hq : qPart (qSD F (13 + 4 * k) (5 + 4 * n)) k) : ∀ (d j : Nat), j + d = 5 + 4 * n → 13 + 4 * k ≤ j → xRun M_X9_weld (fun o1 w1 => o1 = .inl (some (.int (nI (qLen (qSD F (13 + 4 * k) (5 + 4 * n)) k)))) ∧ w1 = wd (setP s 143 (qSD F (13 + 4 * k) (5 + 4 * n)))) (113, [(2, .int (nI j)), (0, .ref 142), (1, .int (nI k))], [], wd (setP s 143 (qSD F (13 + 4 * k) j)), 0, 0) := by
  intro d
  induction d with
  | zero =>
    intro j hd hj
    obtain rfl : j = 5 + 4 * n := by omega
    refine R1 (g' := (114, _, _, _, _, _)) rfl rfl ?_
    refine R1 (g' := (116, _, .int (nI 9) :: _, _, _, _)) rfl rfl ?_
    refine R1 (g' := (117, _, .int (nI 4) :: _, _, _, _)) rfl rfl ?_
    refine R1 (g' := (118, _, _, _, _, _)) rfl rfl ?_
    refine R_getf rfl rfl (Nat.le_of_ble_eq_true rfl) rfl rfl ?_
    refine R1 (g' := (123, _, .int (nI 7) :: _, _, _, _)) rfl rfl ?_
    refine R_iald 7 rfl (Nat.le_of_ble_eq_true rfl) rfl (by decide) (by decide) rfl ?_
    rw [setP_at, qSD_lo (by omega), h7]
    refine R1 (g' := (125, _, _, _, _, _)) rfl rfl ?_
    rw [pk_mul]
    refine R1 (g' := (126, _, _, _, _, _)) rfl rfl ?_
    rw [nI_add]
    refine R_cgeN 149 (5 + 4 * n) (9 + 4 * (n - 1)) rfl rfl (rfl) (rfl) (by omega) (by omega) (fun h126 => ?_) (fun h => by omega)
    refine R1 (g' := (150, _, _, _, _, _)) rfl rfl ?_
    refine R1 (g' := (151, _, _, _, _, _)) rfl rfl ?_
    refine R_call2 (Or.inr (Or.inl ⟨rfl, rfl⟩)) rfl rfl ⟨Nat.le_of_ble_eq_true rfl, Nat.le_of_ble_eq_true rfl⟩ (Nat.le_of_ble_eq_true rfl) ⟨rfl, rfl⟩ (⟨⟨_, _, _, rfl, (Nat.le_of_ble_eq_true rfl), rfl⟩, r_lengthOf (by omega) hq⟩) ?_
    refine R_iret rfl ?_
    exact ⟨rfl, rfl⟩
  | succ d ih =>
    intro j hd hj
    refine R1 (g' := (114, _, _, _, _, _)) rfl rfl ?_
    refine R1 (g' := (116, _, .int (nI 9) :: _, _, _, _)) rfl rfl ?_
    refine R1 (g' := (117, _, .int (nI 4) :: _, _, _, _)) rfl rfl ?_
    refine R1 (g' := (118, _, _, _, _, _)) rfl rfl ?_
    refine R_getf rfl rfl (Nat.le_of_ble_eq_true rfl) rfl rfl ?_
    refine R1 (g' := (123, _, .int (nI 7) :: _, _, _, _)) rfl rfl ?_
    refine R_iald 7 rfl (Nat.le_of_ble_eq_true rfl) rfl (by decide) (by decide) rfl ?_
    rw [setP_at, qSD_lo (by omega), h7]
    refine R1 (g' := (125, _, _, _, _, _)) rfl rfl ?_
    rw [pk_mul]
    refine R1 (g' := (126, _, _, _, _, _)) rfl rfl ?_
    rw [nI_add]
    refine R_cgeN 149 (j) (9 + 4 * (n - 1)) rfl rfl (rfl) (rfl) (by omega) (by omega) (fun h => by omega) (fun h126 => ?_)
    refine R1 (g' := (130, _, _, _, _, _)) rfl rfl ?_
    refine R_getf rfl rfl (Nat.le_of_ble_eq_true rfl) rfl rfl ?_
    refine R1 (g' := (134, _, _, _, _, _)) rfl rfl ?_
    refine R1 (g' := (135, _, _, _, _, _)) rfl rfl ?_
    refine R_getf rfl rfl (Nat.le_of_ble_eq_true rfl) rfl rfl ?_
    refine R1 (g' := (139, _, _, _, _, _)) rfl rfl ?_
    refine R1 (g' := (140, _, .int (nI 4) :: _, _, _, _)) rfl rfl ?_
    refine R1 (g' := (141, _, _, _, _, _)) rfl rfl ?_
    refine R_iald (j + 4) rfl (Nat.le_of_ble_eq_true rfl) rfl (by omega) (by decide) (by rw [nI_add]) ?_
    rw [setP_at, qSD_hi (by omega)]
    refine R_iast j rfl (Nat.le_of_ble_eq_true rfl) (fun _ => rfl) (by omega) (by decide) rfl ?_
    rw [setP_setP, setP_at, qSD_s hj]
    refine R1 (g' := (146, _, _, _, _, _)) rfl rfl ?_
    refine R1 (g' := (113, _, _, _, _, _)) rfl rfl ?_
    refine R_lv [(2, .int (nI (j + 1))), (0, .ref 142), (1, .int (nI k))] rfl (List.forall_mem_cons.mpr ⟨by rw [nI_succ j]; rfl, List.forall_mem_cons.mpr ⟨rfl, List.forall_mem_cons.mpr ⟨rfl, fun _ h => absurd h List.not_mem_nil⟩⟩⟩) ⟨rfl, rfl⟩ ?_
    exact ih (j + 1) (by omega) (by omega)
theorem wIn_f {x : Int32} {n : Nat} (n1 : 1 ≤ n) (n8 : n ≤ 8) (h : xhas x n = false) : inI x (nI 0) (nI n - nI 2) = false := by
  cases hz : inI x (nI 0) (nI n - nI 2) with
  | false => rfl
  | true =>
    obtain ⟨a, b⟩ := inI_t hz
    rw [Int32.le_iff_toInt_le, pk_sub_toInt (by omega) (by decide)] at b
    have : xhas x n = true := by
      unfold xhas
      rw [Bool.and_eq_true, decide_eq_true_eq, decide_eq_true_eq]
      refine ⟨by rw [nI_0] at a; exact a, ?_⟩
      rw [Int32.lt_iff_toInt_lt, nI_toInt (by omega)]
      omega
    rw [this] at h
    cases h
theorem wIn_k {k n : Nat} (hk : k < n) (n8 : n ≤ 8) : inI (nI k) (nI 0) (nI n - nI 2) = decide (k + 1 < n) := by
  have h0 : (nI 0).toInt = ((0 : Nat) : Int) := nI_toInt (by decide)
  have hk' : (nI k).toInt = (k : Int) := nI_toInt (by omega)
  have hs : (nI n - nI 2).toInt = (n : Int) - ((2 : Nat) : Int) := pk_sub_toInt (by omega) (by decide)
  simp only [inI, Int32.le_iff_toInt_le, h0, hk', hs]
  rw [show decide (((0 : Nat) : Int) ≤ (k : Int)) = true from decide_eq_true (by omega), Bool.true_and]
  exact decide_eq_decide.mpr (by omega)
theorem c_canJoin {s : xs} {Q : Nat → Int32} {k : Nat} (hs : bRel s 2 Q) (hi : pInv Q) (hk : k + 1 < qn Q 7) : Ev_X0_canJoin [.ref 2, .int (nI k)] (wd s) (.inl (some (.int (bI (qCanW Q k (qn Q 0)))))) (wd s) := by
  obtain ⟨t0, t1, t2⟩ := hi.2.2.1
  have n8 := hi.1.2.2
  obtain ⟨p1, p2, p3, p4, p5, p6, p7⟩ := hi.2.2.2.2.1 k (by omega)
  obtain ⟨q1, q2, q3, q4, q5, q6, q7⟩ := hi.2.2.2.2.1 (k + 1) hk
  obtain ⟨r1, r2, r3, r4⟩ := hs.2 k (by omega)
  obtain ⟨z1, z2, z3, z4⟩ := hs.2 (k + 1) (by omega)
  have y1 := z1.trans q1
  have y2 := z2.trans q2
  have y3 := z3.trans q3
  rw [show 9 + 4 * (k + 1) = 13 + 4 * k by omega] at y1 q4
  rw [show 10 + 4 * (k + 1) = 14 + 4 * k by omega] at y2 q5
  rw [show 11 + 4 * (k + 1) = 15 + 4 * k by omega] at y3 q6 q7
  rw [nRg_iff] at p4 p5 q4 q5
  exact e_canJoin xbar_2 (by omega) (r1.trans p1) (r2.trans p2) (r3.trans p3) y1 y2 y3 (hs.1.2.1.trans t0) ⟨by omega, by omega, by omega, by omega, by omega, by omega, by omega⟩
theorem pr_weld {s : xs} {x : Int32} (hR : Rl s) : Pair Ev_X8_weld Ev_X9_weld [.ref 0, .int x] [.ref 142, .int x] ["java/lang/IndexOutOfBoundsException", "java/lang/IllegalStateException"] s := by
  obtain ⟨i7, n1, n8⟩ := hR.2.1.1
  have hn : s.1 2 0 = nI (qn (s.1 143) 7) := hR.1.1.1.1.trans i7
  cases k1 : xhas x (qn (s.1 143) 7) with
  | false =>
    have w1 := wIn_f n1 n8 k1
    refine Pair_x (s1 := s) (s2 := s) 0 "java/lang/IndexOutOfBoundsException" rfl ?_ ?_ hR
    · refine ⟨Nat.le_of_ble_eq_true rfl, Nat.le_refl _, trivial, ?_⟩
      refine R1 (g' := (1, _, _, _, _, _)) rfl rfl ?_
      refine R_getf rfl rfl (Nat.le_of_ble_eq_true rfl) rfl rfl ?_
      refine R_getf rfl rfl (Nat.le_of_ble_eq_true rfl) rfl rfl ?_
      refine R1 (g' := (8, _, _, _, _, _)) rfl rfl ?_
      refine R_call2 (Or.inr (Or.inl ⟨rfl, rfl⟩)) rfl rfl ⟨Nat.le_of_ble_eq_true rfl, Nat.le_of_ble_eq_true rfl⟩ (Nat.le_of_ble_eq_true rfl) ⟨rfl, rfl⟩ (⟨⟨_, _, _, rfl, (Nat.le_of_ble_eq_true rfl), rfl⟩, e_has xbar_2 hn⟩) ?_
      rw [k1]
      refine R_eq 30 rfl rfl (fun h11 => ?_) (fun h => by exact absurd rfl h)
      refine R_throw rfl rfl ⟨Nat.le_of_ble_eq_true rfl, Nat.le_of_ble_eq_true rfl⟩ (Nat.le_of_ble_eq_true rfl) ?_
      exact ⟨rfl, rfl⟩
    · refine ⟨Nat.le_of_ble_eq_true rfl, Nat.le_refl _, Or.inl rfl, ?_⟩
      refine R1 (g' := (1, _, _, _, _, _)) rfl rfl ?_
      refine R1 (g' := (2, _, _, _, _, _)) rfl rfl ?_
      refine R1 (g' := (3, _, .int (nI 0) :: _, _, _, _)) rfl rfl ?_
      refine R1 (g' := (4, _, _, _, _, _)) rfl rfl ?_
      refine R_getf rfl rfl (Nat.le_of_ble_eq_true rfl) rfl rfl ?_
      refine R1 (g' := (9, _, .int (nI 7) :: _, _, _, _)) rfl rfl ?_
      refine R_iald 7 rfl (Nat.le_of_ble_eq_true rfl) rfl (by decide) (by decide) rfl ?_
      rw [i7]
      refine R1 (g' := (11, _, .int (nI 2) :: _, _, _, _)) rfl rfl ?_
      refine R1 (g' := (12, _, _, _, _, _)) rfl rfl ?_
      refine R_call3 (Or.inl ⟨rfl, rfl⟩) rfl rfl ⟨Nat.le_of_ble_eq_true rfl, Nat.le_of_ble_eq_true rfl⟩ (Nat.le_of_ble_eq_true rfl) ⟨rfl, rfl⟩ (e9_in) ?_
      rw [w1]
      refine R_ne 22 rfl rfl (fun h => by exact absurd rfl h) (fun h15 => ?_)
      refine R1 (g' := (19, _, .int (nI 1) :: _, _, _, _)) rfl rfl ?_
      refine R1 (g' := (35, _, _, _, _, _)) rfl rfl ?_
      refine R_put rfl rfl (Nat.le_of_ble_eq_true rfl) rfl (Nat.le_of_ble_eq_true rfl) ⟨_, rfl, Or.inl rfl, _, rfl, rfl⟩ rfl ?_
      change xRun _ _ (38, _, _, wd (put s 142 6 (nI 1)), _, _)
      refine R1 (g' := (39, _, _, _, _, _)) rfl rfl ?_
      refine R_getf rfl rfl (Nat.le_of_ble_eq_true rfl) rfl rfl ?_
      rw [put6]
      refine R_eq 47 rfl rfl (fun h => by exact absurd h (by decide)) (fun h42 => ?_)
      refine R1 (g' := (46, _, .int (nI 0) :: _, _, _, _)) rfl rfl ?_
      refine R_iret rfl ?_
      exact ⟨rfl, rfl⟩
  | true =>
    obtain ⟨k, hk, rfl⟩ := xhas_of (by omega) k1
    have w1 := wIn_k hk n8
    by_cases h2 : k + 1 < qn (s.1 143) 7
    · rw [show decide (k + 1 < qn (s.1 143) 7) = true from decide_eq_true h2] at w1
      have hp := hR.2.1.2.2.2.2.1 k hk
      have hp2 := hR.2.1.2.2.2.2.1 (k + 1) h2
      obtain ⟨t0, t1, t2⟩ := hR.2.1.2.2.1
      have hcj := c_canJoin hR.1.1 hR.2.1 h2
      cases k3 : qCanW (s.1 143) k (qn (s.1 143) 0) with
      | false =>
        refine Pair_x (s1 := s) (s2 := s) 1 "java/lang/IllegalStateException" rfl ?_ ?_ hR
        · refine ⟨Nat.le_of_ble_eq_true rfl, Nat.le_refl _, trivial, ?_⟩
          refine R1 (g' := (1, _, _, _, _, _)) rfl rfl ?_
          refine R_getf rfl rfl (Nat.le_of_ble_eq_true rfl) rfl rfl ?_
          refine R_getf rfl rfl (Nat.le_of_ble_eq_true rfl) rfl rfl ?_
          refine R1 (g' := (8, _, _, _, _, _)) rfl rfl ?_
          refine R_call2 (Or.inr (Or.inl ⟨rfl, rfl⟩)) rfl rfl ⟨Nat.le_of_ble_eq_true rfl, Nat.le_of_ble_eq_true rfl⟩ (Nat.le_of_ble_eq_true rfl) ⟨rfl, rfl⟩ (⟨⟨_, _, _, rfl, (Nat.le_of_ble_eq_true rfl), rfl⟩, e_has xbar_2 hn⟩) ?_
          rw [k1]
          refine R_eq 30 rfl rfl (fun h => by exact absurd h (by decide)) (fun h11 => ?_)
          refine R1 (g' := (15, _, _, _, _, _)) rfl rfl ?_
          refine R1 (g' := (16, _, _, _, _, _)) rfl rfl ?_
          refine R_getf rfl rfl (Nat.le_of_ble_eq_true rfl) rfl rfl ?_
          refine R_getf rfl rfl (Nat.le_of_ble_eq_true rfl) rfl rfl ?_
          refine R_getf rfl rfl (Nat.le_of_ble_eq_true rfl) rfl rfl ?_
          rw [hn]
          refine R1 (g' := (26, _, .int (nI 1) :: _, _, _, _)) rfl rfl ?_
          refine R1 (g' := (27, _, _, _, _, _)) rfl rfl ?_
          rw [pk_sub n1]
          refine R_cneN 40 (k) (qn (s.1 143) 7 - 1) rfl rfl (rfl) (rfl) (by omega) (by omega) (fun h27 => ?_) (fun h => by omega)
          refine R1 (g' := (41, _, _, _, _, _)) rfl rfl ?_
          refine R_getf rfl rfl (Nat.le_of_ble_eq_true rfl) rfl rfl ?_
          refine R_getf rfl rfl (Nat.le_of_ble_eq_true rfl) rfl rfl ?_
          refine R1 (g' := (48, _, _, _, _, _)) rfl rfl ?_
          refine R_call2 (Or.inr (Or.inl ⟨rfl, rfl⟩)) rfl rfl ⟨Nat.le_of_ble_eq_true rfl, Nat.le_of_ble_eq_true rfl⟩ (Nat.le_of_ble_eq_true rfl) ⟨rfl, rfl⟩ (⟨⟨_, _, _, rfl, (Nat.le_of_ble_eq_true rfl), rfl⟩, hcj⟩) ?_
          rw [k3]
          refine R_ne 64 rfl rfl (fun h => by exact absurd rfl h) (fun h51 => ?_)
          refine R_throw rfl rfl ⟨Nat.le_of_ble_eq_true rfl, Nat.le_of_ble_eq_true rfl⟩ (Nat.le_of_ble_eq_true rfl) ?_
          exact ⟨rfl, rfl⟩
        · refine ⟨Nat.le_of_ble_eq_true rfl, Nat.le_refl _, Or.inl rfl, ?_⟩
          refine R1 (g' := (1, _, _, _, _, _)) rfl rfl ?_
          refine R1 (g' := (2, _, _, _, _, _)) rfl rfl ?_
          refine R1 (g' := (3, _, .int (nI 0) :: _, _, _, _)) rfl rfl ?_
          refine R1 (g' := (4, _, _, _, _, _)) rfl rfl ?_
          refine R_getf rfl rfl (Nat.le_of_ble_eq_true rfl) rfl rfl ?_
          refine R1 (g' := (9, _, .int (nI 7) :: _, _, _, _)) rfl rfl ?_
          refine R_iald 7 rfl (Nat.le_of_ble_eq_true rfl) rfl (by decide) (by decide) rfl ?_
          rw [i7]
          refine R1 (g' := (11, _, .int (nI 2) :: _, _, _, _)) rfl rfl ?_
          refine R1 (g' := (12, _, _, _, _, _)) rfl rfl ?_
          refine R_call3 (Or.inl ⟨rfl, rfl⟩) rfl rfl ⟨Nat.le_of_ble_eq_true rfl, Nat.le_of_ble_eq_true rfl⟩ (Nat.le_of_ble_eq_true rfl) ⟨rfl, rfl⟩ (e9_in) ?_
          rw [w1]
          refine R_ne 22 rfl rfl (fun h15 => ?_) (fun h => by exact absurd h (by decide))
          refine R1 (g' := (23, _, _, _, _, _)) rfl rfl ?_
          refine R1 (g' := (24, _, _, _, _, _)) rfl rfl ?_
          refine R_call2 (Or.inr (Or.inl ⟨rfl, rfl⟩)) rfl rfl ⟨Nat.le_of_ble_eq_true rfl, Nat.le_of_ble_eq_true rfl⟩ (Nat.le_of_ble_eq_true rfl) ⟨rfl, rfl⟩ (⟨⟨_, _, _, rfl, (Nat.le_of_ble_eq_true rfl), rfl⟩, e9_canWeld (by omega) hp hp2 t0 (by omega)⟩) ?_
          rw [k3]
          refine R_eq 34 rfl rfl (fun h27 => ?_) (fun h => by exact absurd rfl h)
          refine R1 (g' := (35, _, .int (nI 2) :: _, _, _, _)) rfl rfl ?_
          refine R_put rfl rfl (Nat.le_of_ble_eq_true rfl) rfl (Nat.le_of_ble_eq_true rfl) ⟨_, rfl, Or.inl rfl, _, rfl, rfl⟩ rfl ?_
          change xRun _ _ (38, _, _, wd (put s 142 6 (nI 2)), _, _)
          refine R1 (g' := (39, _, _, _, _, _)) rfl rfl ?_
          refine R_getf rfl rfl (Nat.le_of_ble_eq_true rfl) rfl rfl ?_
          rw [put6]
          refine R_eq 47 rfl rfl (fun h => by exact absurd h (by decide)) (fun h42 => ?_)
          refine R1 (g' := (46, _, .int (nI 0) :: _, _, _, _)) rfl rfl ?_
          refine R_iret rfl ?_
          exact ⟨rfl, rfl⟩
      | true =>
        have hv9 : qn (s.1 143) (11 + 4 * k) + qn (s.1 143) (15 + 4 * k) ≤ 9000000 := by
          have h := k3
          unfold qCanW at h
          simp only [Bool.and_eq_true, decide_eq_true_eq] at h
          omega
        obtain ⟨s1, c, hc4, hc, hev, hp1, hv⟩ := Rl_sv hR
        have hn1 : s1.1 2 0 = nI (qn (s.1 143) 7) := hp1.1.1.1.trans i7
        have wo : sOut 2 9 s1 (sJoin s1 2 k (qn (s.1 143) 7)) := bOut_join
        have hb : bRel (sJoin s1 2 k (qn (s.1 143) 7)) 2 (qWeld (s.1 143) k (qn (s.1 143) 7)) := r_weld hp1.1 n8 h2
        have hi2 : pInv (qWeld (s.1 143) k (qn (s.1 143) 7)) := i_weld hR.2.1 h2 hv9
        have o2 : Sx 21 s1 (sJoin s1 2 k (qn (s.1 143) 7)) := Sx_lo wo (by decide) (by decide)
        have e2 : (sJoin s1 2 k (qn (s.1 143) 7)).1 143 = s.1 143 := sv_q hv o2
        have h72 : qn (qWeld (s.1 143) k (qn (s.1 143) 7)) 7 = qn (s.1 143) 7 - 1 := nq (if_pos rfl) (by omega)
        have hq2 := hi2.2.2.2.2.1 k (by rw [h72]; omega)
        obtain ⟨s3, hk3, K⟩ := r_keep6 (s := (sJoin s1 2 k (qn (s.1 143) 7))) hc4 (sv_3 hv o2 hc)
        have e3 : s3.1 143 = s.1 143 := (K6_q K).trans e2
        have hcw := e9_canWeld (s := (sJoin s1 2 k (qn (s.1 143) 7))) (k := k) (t := qn (s.1 143) 0) (by omega) (by rw [e2]; exact hp) (by rw [e2]; exact hp2) (by rw [e2]; exact t0) (by omega)
        rw [e2] at hcw
        have hr := weld9_loop (s := s3) (F := upd (upd (upd (s.1 143) (11 + 4 * k) (s.1 143 (11 + 4 * k) + s.1 143 (15 + 4 * k))) (12 + 4 * k) (s.1 143 (12 + 4 * k) + s.1 143 (16 + 4 * k))) 7 (nI (qn (s.1 143) 7 - 1))) pk_us h2 n8 (by rw [qWeld_eq]; exact hq2) (4 * (qn (s.1 143) 7 - k) - 8) (13 + 4 * k) (by omega) (Nat.le_refl _)
        rw [qSD_0, qWeld_eq] at hr
        refine Pair_t (s1 := (sJoin s1 2 k (qn (s.1 143) 7))) (s2 := setP s3 143 (qWeld (s.1 143) k (qn (s.1 143) 7))) (v := nI (qLen (qWeld (s.1 143) k (qn (s.1 143) 7)) k)) ?_ ?_ (mutB hR hc4 hv hp1 wo hb (by simp only [qWeld]; (repeat (first | rw [if_pos (by omega)] | rw [if_neg (by omega)]))) (fun i a b => by simp only [qWeld]; (repeat (first | rw [if_pos (by omega)] | rw [if_neg (by omega)]))) hi2 Sx_rf K (gX_P gX_rf) (setP_at _ _ _))
        · refine ⟨Nat.le_of_ble_eq_true rfl, Nat.le_refl _, Or.inl rfl, ?_⟩
          refine R1 (g' := (1, _, _, _, _, _)) rfl rfl ?_
          refine R_getf rfl rfl (Nat.le_of_ble_eq_true rfl) rfl rfl ?_
          refine R_getf rfl rfl (Nat.le_of_ble_eq_true rfl) rfl rfl ?_
          refine R1 (g' := (8, _, _, _, _, _)) rfl rfl ?_
          refine R_call2 (Or.inr (Or.inl ⟨rfl, rfl⟩)) rfl rfl ⟨Nat.le_of_ble_eq_true rfl, Nat.le_of_ble_eq_true rfl⟩ (Nat.le_of_ble_eq_true rfl) ⟨rfl, rfl⟩ (⟨⟨_, _, _, rfl, (Nat.le_of_ble_eq_true rfl), rfl⟩, e_has xbar_2 hn⟩) ?_
          rw [k1]
          refine R_eq 30 rfl rfl (fun h => by exact absurd h (by decide)) (fun h11 => ?_)
          refine R1 (g' := (15, _, _, _, _, _)) rfl rfl ?_
          refine R1 (g' := (16, _, _, _, _, _)) rfl rfl ?_
          refine R_getf rfl rfl (Nat.le_of_ble_eq_true rfl) rfl rfl ?_
          refine R_getf rfl rfl (Nat.le_of_ble_eq_true rfl) rfl rfl ?_
          refine R_getf rfl rfl (Nat.le_of_ble_eq_true rfl) rfl rfl ?_
          rw [hn]
          refine R1 (g' := (26, _, .int (nI 1) :: _, _, _, _)) rfl rfl ?_
          refine R1 (g' := (27, _, _, _, _, _)) rfl rfl ?_
          rw [pk_sub n1]
          refine R_cneN 40 (k) (qn (s.1 143) 7 - 1) rfl rfl (rfl) (rfl) (by omega) (by omega) (fun h27 => ?_) (fun h => by omega)
          refine R1 (g' := (41, _, _, _, _, _)) rfl rfl ?_
          refine R_getf rfl rfl (Nat.le_of_ble_eq_true rfl) rfl rfl ?_
          refine R_getf rfl rfl (Nat.le_of_ble_eq_true rfl) rfl rfl ?_
          refine R1 (g' := (48, _, _, _, _, _)) rfl rfl ?_
          refine R_call2 (Or.inr (Or.inl ⟨rfl, rfl⟩)) rfl rfl ⟨Nat.le_of_ble_eq_true rfl, Nat.le_of_ble_eq_true rfl⟩ (Nat.le_of_ble_eq_true rfl) ⟨rfl, rfl⟩ (⟨⟨_, _, _, rfl, (Nat.le_of_ble_eq_true rfl), rfl⟩, hcj⟩) ?_
          rw [k3]
          refine R_ne 64 rfl rfl (fun h51 => ?_) (fun h => by exact absurd h (by decide))
          refine R1 (g' := (65, _, _, _, _, _)) rfl rfl ?_
          refine R_getf rfl rfl (Nat.le_of_ble_eq_true rfl) rfl rfl ?_
          refine R1 (g' := (69, _, _, _, _, _)) rfl rfl ?_
          refine R_getf rfl rfl (Nat.le_of_ble_eq_true rfl) rfl rfl ?_
          refine R_call2 (Or.inr (Or.inl ⟨rfl, rfl⟩)) rfl rfl ⟨Nat.le_of_ble_eq_true rfl, Nat.le_of_ble_eq_true rfl⟩ (Nat.le_of_ble_eq_true rfl) ⟨rfl, rfl⟩ (⟨⟨_, _, _, rfl, (Nat.le_of_ble_eq_true rfl), rfl⟩, hev⟩) ?_
          refine R1 (g' := (76, _, _, _, _, _)) rfl rfl ?_
          refine R_getf rfl rfl (Nat.le_of_ble_eq_true rfl) rfl rfl ?_
          refine R_getf rfl rfl (Nat.le_of_ble_eq_true rfl) rfl rfl ?_
          refine R1 (g' := (83, _, _, _, _, _)) rfl rfl ?_
          refine R_call2 (Or.inr (Or.inl ⟨rfl, rfl⟩)) rfl rfl ⟨Nat.le_of_ble_eq_true rfl, Nat.le_of_ble_eq_true rfl⟩ (Nat.le_of_ble_eq_true rfl) ⟨rfl, rfl⟩ (⟨⟨_, _, _, rfl, (Nat.le_of_ble_eq_true rfl), rfl⟩, e_join xbar_2 hn1 n8 h2⟩) ?_
          refine R1 (g' := (87, _, _, _, _, _)) rfl rfl ?_
          refine R_getf rfl rfl (Nat.le_of_ble_eq_true rfl) rfl rfl ?_
          refine R_getf rfl rfl (Nat.le_of_ble_eq_true rfl) rfl rfl ?_
          refine R1 (g' := (94, _, _, _, _, _)) rfl rfl ?_
          refine R_call2 (Or.inr (Or.inl ⟨rfl, rfl⟩)) rfl rfl ⟨Nat.le_of_ble_eq_true rfl, Nat.le_of_ble_eq_true rfl⟩ (Nat.le_of_ble_eq_true rfl) ⟨rfl, rfl⟩ (⟨⟨_, _, _, rfl, (Nat.le_of_ble_eq_true rfl), rfl⟩, c_lengthOf hb hq2 (by omega)⟩) ?_
          refine R_iret rfl ?_
          exact ⟨rfl, rfl⟩
        · refine ⟨Nat.le_of_ble_eq_true rfl, Nat.le_refl _, Or.inl rfl, ?_⟩
          refine R1 (g' := (1, _, _, _, _, _)) rfl rfl ?_
          refine R1 (g' := (2, _, _, _, _, _)) rfl rfl ?_
          refine R1 (g' := (3, _, .int (nI 0) :: _, _, _, _)) rfl rfl ?_
          refine R1 (g' := (4, _, _, _, _, _)) rfl rfl ?_
          refine R_getf rfl rfl (Nat.le_of_ble_eq_true rfl) rfl rfl ?_
          refine R1 (g' := (9, _, .int (nI 7) :: _, _, _, _)) rfl rfl ?_
          refine R_iald 7 rfl (Nat.le_of_ble_eq_true rfl) rfl (by decide) (by decide) rfl ?_
          rw [e2, i7]
          refine R1 (g' := (11, _, .int (nI 2) :: _, _, _, _)) rfl rfl ?_
          refine R1 (g' := (12, _, _, _, _, _)) rfl rfl ?_
          refine R_call3 (Or.inl ⟨rfl, rfl⟩) rfl rfl ⟨Nat.le_of_ble_eq_true rfl, Nat.le_of_ble_eq_true rfl⟩ (Nat.le_of_ble_eq_true rfl) ⟨rfl, rfl⟩ (e9_in) ?_
          rw [w1]
          refine R_ne 22 rfl rfl (fun h15 => ?_) (fun h => by exact absurd h (by decide))
          refine R1 (g' := (23, _, _, _, _, _)) rfl rfl ?_
          refine R1 (g' := (24, _, _, _, _, _)) rfl rfl ?_
          refine R_call2 (Or.inr (Or.inl ⟨rfl, rfl⟩)) rfl rfl ⟨Nat.le_of_ble_eq_true rfl, Nat.le_of_ble_eq_true rfl⟩ (Nat.le_of_ble_eq_true rfl) ⟨rfl, rfl⟩ (⟨⟨_, _, _, rfl, (Nat.le_of_ble_eq_true rfl), rfl⟩, hcw⟩) ?_
          rw [k3]
          refine R_eq 34 rfl rfl (fun h => by exact absurd h (by decide)) (fun h27 => ?_)
          refine R1 (g' := (31, _, .int (nI 0) :: _, _, _, _)) rfl rfl ?_
          refine R1 (g' := (35, _, _, _, _, _)) rfl rfl ?_
          refine R_put rfl rfl (Nat.le_of_ble_eq_true rfl) rfl (Nat.le_of_ble_eq_true rfl) ⟨_, rfl, Or.inl rfl, _, rfl, rfl⟩ rfl ?_
          change xRun _ _ (38, _, _, wd (put (sJoin s1 2 k (qn (s.1 143) 7)) 142 6 (nI 0)), _, _)
          refine R1 (g' := (39, _, _, _, _, _)) rfl rfl ?_
          refine R_getf rfl rfl (Nat.le_of_ble_eq_true rfl) rfl rfl ?_
          rw [put6]
          refine R_eq 47 rfl rfl (fun h42 => ?_) (fun h => by exact absurd (by decide) h)
          refine R1 (g' := (48, _, _, _, _, _)) rfl rfl ?_
          refine R_call1 (Or.inr (Or.inl ⟨rfl, rfl⟩)) rfl rfl ⟨Nat.le_of_ble_eq_true rfl, Nat.le_of_ble_eq_true rfl⟩ (Nat.le_of_ble_eq_true rfl) ⟨rfl, rfl⟩ (⟨⟨_, _, _, rfl, (Nat.le_of_ble_eq_true rfl), rfl⟩, hk3⟩) ?_
          refine R1 (g' := (52, _, _, _, _, _)) rfl rfl ?_
          refine R1 (g' := (53, _, _, _, _, _)) rfl rfl ?_
          refine R1 (g' := (54, _, .int (nI 2) :: _, _, _, _)) rfl rfl ?_
          refine R1 (g' := (55, _, _, _, _, _)) rfl rfl ?_
          refine R1 (g' := (56, _, _, _, _, _)) rfl rfl ?_
          refine R1 (g' := (57, _, .int (nI 2) :: _, _, _, _)) rfl rfl ?_
          refine R_call3 (Or.inr (Or.inl ⟨rfl, rfl⟩)) rfl rfl ⟨Nat.le_of_ble_eq_true rfl, Nat.le_of_ble_eq_true rfl⟩ (Nat.le_of_ble_eq_true rfl) ⟨rfl, rfl⟩ (⟨⟨_, _, _, rfl, (Nat.le_of_ble_eq_true rfl), rfl⟩, e9_of (i := 11 + 4 * k) (by omega) (by omega)⟩) ?_
          refine R1 (g' := (61, _, _, _, _, _)) rfl rfl ?_
          refine R1 (g' := (62, _, _, _, _, _)) rfl rfl ?_
          refine R1 (g' := (63, _, .int (nI 1) :: _, _, _, _)) rfl rfl ?_
          refine R1 (g' := (64, _, .int (nI (k + 1)) :: _, _, _, _)) rfl (by rw [← nI_add]; rfl) ?_
          refine R1 (g' := (65, _, .int (nI 2) :: _, _, _, _)) rfl rfl ?_
          refine R_call3 (Or.inr (Or.inl ⟨rfl, rfl⟩)) rfl rfl ⟨Nat.le_of_ble_eq_true rfl, Nat.le_of_ble_eq_true rfl⟩ (Nat.le_of_ble_eq_true rfl) ⟨rfl, rfl⟩ (⟨⟨_, _, _, rfl, (Nat.le_of_ble_eq_true rfl), rfl⟩, e9_of (i := 15 + 4 * k) (by omega) (by omega)⟩) ?_
          refine R1 (g' := (69, _, _, _, _, _)) rfl rfl ?_
          refine R_call4 (Or.inr (Or.inl ⟨rfl, rfl⟩)) rfl rfl ⟨Nat.le_of_ble_eq_true rfl, Nat.le_of_ble_eq_true rfl⟩ (Nat.le_of_ble_eq_true rfl) ⟨rfl, rfl⟩ (⟨⟨_, _, _, rfl, (Nat.le_of_ble_eq_true rfl), rfl⟩, e9_put (i := 11 + 4 * k) (by omega) (by omega)⟩) ?_
          rw [e3]
          refine R1 (g' := (73, _, _, _, _, _)) rfl rfl ?_
          refine R1 (g' := (74, _, _, _, _, _)) rfl rfl ?_
          refine R1 (g' := (75, _, .int (nI 3) :: _, _, _, _)) rfl rfl ?_
          refine R1 (g' := (76, _, _, _, _, _)) rfl rfl ?_
          refine R1 (g' := (77, _, _, _, _, _)) rfl rfl ?_
          refine R1 (g' := (78, _, .int (nI 3) :: _, _, _, _)) rfl rfl ?_
          refine R_call3 (Or.inr (Or.inl ⟨rfl, rfl⟩)) rfl rfl ⟨Nat.le_of_ble_eq_true rfl, Nat.le_of_ble_eq_true rfl⟩ (Nat.le_of_ble_eq_true rfl) ⟨rfl, rfl⟩ (⟨⟨_, _, _, rfl, (Nat.le_of_ble_eq_true rfl), rfl⟩, e9_of (i := 12 + 4 * k) (by omega) (by omega)⟩) ?_
          rw [setP_at, pk_un (by omega)]
          refine R1 (g' := (82, _, _, _, _, _)) rfl rfl ?_
          refine R1 (g' := (83, _, _, _, _, _)) rfl rfl ?_
          refine R1 (g' := (84, _, .int (nI 1) :: _, _, _, _)) rfl rfl ?_
          refine R1 (g' := (85, _, .int (nI (k + 1)) :: _, _, _, _)) rfl (by rw [← nI_add]; rfl) ?_
          refine R1 (g' := (86, _, .int (nI 3) :: _, _, _, _)) rfl rfl ?_
          refine R_call3 (Or.inr (Or.inl ⟨rfl, rfl⟩)) rfl rfl ⟨Nat.le_of_ble_eq_true rfl, Nat.le_of_ble_eq_true rfl⟩ (Nat.le_of_ble_eq_true rfl) ⟨rfl, rfl⟩ (⟨⟨_, _, _, rfl, (Nat.le_of_ble_eq_true rfl), rfl⟩, e9_of (i := 16 + 4 * k) (by omega) (by omega)⟩) ?_
          rw [setP_at, pk_un (by omega)]
          refine R1 (g' := (90, _, _, _, _, _)) rfl rfl ?_
          refine R_call4 (Or.inr (Or.inl ⟨rfl, rfl⟩)) rfl rfl ⟨Nat.le_of_ble_eq_true rfl, Nat.le_of_ble_eq_true rfl⟩ (Nat.le_of_ble_eq_true rfl) ⟨rfl, rfl⟩ (⟨⟨_, _, _, rfl, (Nat.le_of_ble_eq_true rfl), rfl⟩, e9_put (i := 12 + 4 * k) (by omega) (by omega)⟩) ?_
          rw [setP_at, setP_setP]
          refine R1 (g' := (94, _, _, _, _, _)) rfl rfl ?_
          refine R_getf rfl rfl (Nat.le_of_ble_eq_true rfl) rfl rfl ?_
          refine R1 (g' := (99, _, .int (nI 7) :: _, _, _, _)) rfl rfl ?_
          refine R1 (g' := (100, _, _, _, _, _)) rfl rfl ?_
          refine R_iald 7 rfl (Nat.le_of_ble_eq_true rfl) rfl (by decide) (by decide) rfl ?_
          rw [setP_at, pk_un (by omega), pk_un (by omega), i7]
          refine R1 (g' := (102, _, .int (nI 1) :: _, _, _, _)) rfl rfl ?_
          refine R1 (g' := (103, _, _, _, _, _)) rfl rfl ?_
          rw [pk_sub n1]
          refine R_iast 7 rfl (Nat.le_of_ble_eq_true rfl) (fun _ => rfl) (by decide) (by decide) rfl ?_
          rw [setP_at, setP_setP]
          refine R1 (g' := (106, _, .int (nI 9) :: _, _, _, _)) rfl rfl ?_
          refine R1 (g' := (107, _, .int (nI 4) :: _, _, _, _)) rfl rfl ?_
          refine R1 (g' := (108, _, _, _, _, _)) rfl rfl ?_
          refine R1 (g' := (109, _, .int (nI 1) :: _, _, _, _)) rfl rfl ?_
          refine R1 (g' := (110, _, _, _, _, _)) rfl rfl ?_
          rw [nI_add]
          refine R1 (g' := (111, _, _, _, _, _)) rfl rfl ?_
          rw [pk_mul]
          refine R1 (g' := (112, _, _, _, _, _)) rfl rfl ?_
          rw [nI_add, show 9 + 4 * (k + 1) = 13 + 4 * k by omega]
          refine R1 (g' := (113, _, _, _, _, _)) rfl rfl ?_
          exact R_lv [(2, .int (nI (13 + 4 * k))), (0, .ref 142), (1, .int (nI k))] rfl (List.forall_mem_cons.mpr ⟨rfl, List.forall_mem_cons.mpr ⟨rfl, List.forall_mem_cons.mpr ⟨rfl, fun _ h => absurd h List.not_mem_nil⟩⟩⟩) ⟨rfl, rfl⟩ hr
    · rw [show decide (k + 1 < qn (s.1 143) 7) = false from decide_eq_false h2] at w1
      refine Pair_x (s1 := s) (s2 := s) 0 "java/lang/IndexOutOfBoundsException" rfl ?_ ?_ hR
      · refine ⟨Nat.le_of_ble_eq_true rfl, Nat.le_refl _, trivial, ?_⟩
        refine R1 (g' := (1, _, _, _, _, _)) rfl rfl ?_
        refine R_getf rfl rfl (Nat.le_of_ble_eq_true rfl) rfl rfl ?_
        refine R_getf rfl rfl (Nat.le_of_ble_eq_true rfl) rfl rfl ?_
        refine R1 (g' := (8, _, _, _, _, _)) rfl rfl ?_
        refine R_call2 (Or.inr (Or.inl ⟨rfl, rfl⟩)) rfl rfl ⟨Nat.le_of_ble_eq_true rfl, Nat.le_of_ble_eq_true rfl⟩ (Nat.le_of_ble_eq_true rfl) ⟨rfl, rfl⟩ (⟨⟨_, _, _, rfl, (Nat.le_of_ble_eq_true rfl), rfl⟩, e_has xbar_2 hn⟩) ?_
        rw [k1]
        refine R_eq 30 rfl rfl (fun h => by exact absurd h (by decide)) (fun h11 => ?_)
        refine R1 (g' := (15, _, _, _, _, _)) rfl rfl ?_
        refine R1 (g' := (16, _, _, _, _, _)) rfl rfl ?_
        refine R_getf rfl rfl (Nat.le_of_ble_eq_true rfl) rfl rfl ?_
        refine R_getf rfl rfl (Nat.le_of_ble_eq_true rfl) rfl rfl ?_
        refine R_getf rfl rfl (Nat.le_of_ble_eq_true rfl) rfl rfl ?_
        rw [hn]
        refine R1 (g' := (26, _, .int (nI 1) :: _, _, _, _)) rfl rfl ?_
        refine R1 (g' := (27, _, _, _, _, _)) rfl rfl ?_
        rw [pk_sub n1]
        refine R_cneN 40 (k) (qn (s.1 143) 7 - 1) rfl rfl (rfl) (rfl) (by omega) (by omega) (fun h => by omega) (fun h27 => ?_)
        refine R_throw rfl rfl ⟨Nat.le_of_ble_eq_true rfl, Nat.le_of_ble_eq_true rfl⟩ (Nat.le_of_ble_eq_true rfl) ?_
        exact ⟨rfl, rfl⟩
      · refine ⟨Nat.le_of_ble_eq_true rfl, Nat.le_refl _, Or.inl rfl, ?_⟩
        refine R1 (g' := (1, _, _, _, _, _)) rfl rfl ?_
        refine R1 (g' := (2, _, _, _, _, _)) rfl rfl ?_
        refine R1 (g' := (3, _, .int (nI 0) :: _, _, _, _)) rfl rfl ?_
        refine R1 (g' := (4, _, _, _, _, _)) rfl rfl ?_
        refine R_getf rfl rfl (Nat.le_of_ble_eq_true rfl) rfl rfl ?_
        refine R1 (g' := (9, _, .int (nI 7) :: _, _, _, _)) rfl rfl ?_
        refine R_iald 7 rfl (Nat.le_of_ble_eq_true rfl) rfl (by decide) (by decide) rfl ?_
        rw [i7]
        refine R1 (g' := (11, _, .int (nI 2) :: _, _, _, _)) rfl rfl ?_
        refine R1 (g' := (12, _, _, _, _, _)) rfl rfl ?_
        refine R_call3 (Or.inl ⟨rfl, rfl⟩) rfl rfl ⟨Nat.le_of_ble_eq_true rfl, Nat.le_of_ble_eq_true rfl⟩ (Nat.le_of_ble_eq_true rfl) ⟨rfl, rfl⟩ (e9_in) ?_
        rw [w1]
        refine R_ne 22 rfl rfl (fun h => by exact absurd rfl h) (fun h15 => ?_)
        refine R1 (g' := (19, _, .int (nI 1) :: _, _, _, _)) rfl rfl ?_
        refine R1 (g' := (35, _, _, _, _, _)) rfl rfl ?_
        refine R_put rfl rfl (Nat.le_of_ble_eq_true rfl) rfl (Nat.le_of_ble_eq_true rfl) ⟨_, rfl, Or.inl rfl, _, rfl, rfl⟩ rfl ?_
        change xRun _ _ (38, _, _, wd (put s 142 6 (nI 1)), _, _)
        refine R1 (g' := (39, _, _, _, _, _)) rfl rfl ?_
        refine R_getf rfl rfl (Nat.le_of_ble_eq_true rfl) rfl rfl ?_
        rw [put6]
        refine R_eq 47 rfl rfl (fun h => by exact absurd h (by decide)) (fun h42 => ?_)
        refine R1 (g' := (46, _, .int (nI 0) :: _, _, _, _)) rfl rfl ?_
        refine R_iret rfl ?_
        exact ⟨rfl, rfl⟩
