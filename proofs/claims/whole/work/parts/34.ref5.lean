theorem e9_canCut {s : xs} {k n c : Nat} (hn : s.1 143 7 = nI n) (hn8 : n ≤ 8) (hk : k < n) (h : qPart (s.1 143) k) (hc : c < 2 ^ 31) : Ev_X9_canCut [.ref 142, .int (nI k), .int (nI c)] (wd s) (.inl (some (.int (bI (decide (n < 8) && decide (c < qLen (s.1 143) k)))))) (wd s) := by
  have hl := qLen_le h
  refine ⟨Nat.le_of_ble_eq_true rfl, Nat.le_refl _, Or.inr ⟨rfl, bI_01 _⟩, ?_⟩
  refine R1 (g' := (1, _, _, _, _, _)) rfl rfl ?_
  refine R_getf rfl rfl (Nat.le_of_ble_eq_true rfl) rfl rfl ?_
  refine R1 (g' := (6, _, .int (nI 7) :: _, _, _, _)) rfl rfl ?_
  refine R_iald 7 rfl (Nat.le_of_ble_eq_true rfl) rfl (by decide) (by decide) rfl ?_
  refine R1 (g' := (9, _, .int (nI 8) :: _, _, _, _)) rfl rfl ?_
  refine R_cgeN 25 (n) (8) rfl rfl (hn) (rfl) (by omega) (by omega) (fun h9 => ?_) (fun h9 => ?_)
  · refine R1 (g' := (26, _, .int (nI 0) :: _, _, _, _)) rfl rfl ?_
    refine R_iret rfl ?_
    exact ⟨o_i (by first | exact (bI_t (by simp only [Bool.and_eq_true, decide_eq_true_eq]; omega)).symm | exact (bI_f (by simp only [Bool.and_eq_false_iff, decide_eq_false_iff_not]; omega)).symm), rfl⟩
  · refine R1 (g' := (13, _, _, _, _, _)) rfl rfl ?_
    refine R1 (g' := (14, _, _, _, _, _)) rfl rfl ?_
    refine R_call2 (Or.inr (Or.inl ⟨rfl, rfl⟩)) rfl rfl ⟨Nat.le_of_ble_eq_true rfl, Nat.le_of_ble_eq_true rfl⟩ (Nat.le_of_ble_eq_true rfl) ⟨rfl, rfl⟩ (⟨⟨_, _, _, rfl, (Nat.le_of_ble_eq_true rfl), rfl⟩, e9_lengthOf (by omega) h⟩) ?_
    refine R1 (g' := (18, _, _, _, _, _)) rfl rfl ?_
    refine R_cleN 25 (qLen (s.1 143) k) (c) rfl rfl (rfl) (rfl) (by omega) (by omega) (fun h18 => ?_) (fun h18 => ?_)
    · refine R1 (g' := (26, _, .int (nI 0) :: _, _, _, _)) rfl rfl ?_
      refine R_iret rfl ?_
      exact ⟨o_i (by first | exact (bI_t (by simp only [Bool.and_eq_true, decide_eq_true_eq]; omega)).symm | exact (bI_f (by simp only [Bool.and_eq_false_iff, decide_eq_false_iff_not]; omega)).symm), rfl⟩
    · refine R1 (g' := (22, _, .int (nI 1) :: _, _, _, _)) rfl rfl ?_
      refine R1 (g' := (26, _, _, _, _, _)) rfl rfl ?_
      refine R_iret rfl ?_
      exact ⟨o_i (by first | exact (bI_t (by simp only [Bool.and_eq_true, decide_eq_true_eq]; omega)).symm | exact (bI_f (by simp only [Bool.and_eq_false_iff, decide_eq_false_iff_not]; omega)).symm), rfl⟩
def qSU (Q : Nat → Int32) (n d : Nat) : Nat → Int32 := fun i => if 13 + 4 * n ≤ i + d ∧ i < 13 + 4 * n then Q (i - 4) else Q i
theorem qSU_0 (Q : Nat → Int32) (n : Nat) : qSU Q n 0 = Q := funext fun i => if_neg (by omega)
theorem qSU_s {Q : Nat → Int32} {n d i : Nat} (hi : i + 1 + d = 9 + 4 * n) : upd (qSU Q n d) (i + 4) (Q i) = qSU Q n (d + 1) := by
  funext j
  simp only [upd, qSU]
  by_cases e : j = i + 4
  · subst e
    rw [if_pos rfl, if_pos (by omega)]
    rfl
  · rw [if_neg e]
    by_cases e2 : 13 + 4 * n ≤ j + d ∧ j < 13 + 4 * n
    · rw [if_pos e2, if_pos (by omega)]
    · rw [if_neg e2, if_neg (by omega)]
theorem qSU_lo {Q : Nat → Int32} {n d i : Nat} (h : i + d < 13 + 4 * n) : qSU Q n d i = Q i := if_neg (by omega)
theorem cuts_loop {s : xs} {k n : Nat} {c : Int32} (hn : s.1 143 7 = nI n) (hn8 : n < 8) (hk : k < n) : ∀ (e d i : Nat), d + e = 4 * (n - k) → i + 1 + d = 9 + 4 * n → xRun M_X9_cuts (fun o1 w1 => o1 = .inl (some (.int (nI (n + 1)))) ∧ w1 = wd (setP s 143 (qCut (s.1 143) k n c))) (15, [(3, .int (nI i)), (0, .ref 142), (1, .int (nI k)), (2, .int c)], [], wd (setP s 143 (qSU (s.1 143) n d)), 0, 0) := by
  intro e
  induction e with
  | zero =>
    intro d i hd hi
    have h7 : (setP s 143 (qSU (s.1 143) n d)).1 143 7 = nI n := by rw [setP_at, qSU_lo (by omega)]; exact hn
    refine R1 (g' := (16, _, _, _, _, _)) rfl rfl ?_
    refine R1 (g' := (18, _, .int (nI 9) :: _, _, _, _)) rfl rfl ?_
    refine R1 (g' := (19, _, .int (nI 4) :: _, _, _, _)) rfl rfl ?_
    refine R1 (g' := (20, _, _, _, _, _)) rfl rfl ?_
    refine R1 (g' := (21, _, _, _, _, _)) rfl rfl ?_
    rw [pk_mul]
    refine R1 (g' := (22, _, _, _, _, _)) rfl rfl ?_
    rw [nI_add]
    refine R_cltN 45 (i) (9 + 4 * k) rfl rfl (rfl) (rfl) (by omega) (by omega) (fun h22 => ?_) (fun h => by omega)
    refine R1 (g' := (46, _, _, _, _, _)) rfl rfl ?_
    refine R_getf rfl rfl (Nat.le_of_ble_eq_true rfl) rfl rfl ?_
    refine R1 (g' := (51, _, .int (nI 7) :: _, _, _, _)) rfl rfl ?_
    refine R1 (g' := (52, _, _, _, _, _)) rfl rfl ?_
    refine R_iald 7 rfl (Nat.le_of_ble_eq_true rfl) rfl (by decide) (by decide) rfl ?_
    refine R1 (g' := (54, _, .int (nI 1) :: _, _, _, _)) rfl rfl ?_
    refine R1 (g' := (55, _, _, _, _, _)) rfl rfl ?_
    refine R_iast 7 rfl (Nat.le_of_ble_eq_true rfl) (fun _ => rfl) (by decide) (by decide) rfl ?_
    refine R1 (g' := (57, _, _, _, _, _)) rfl rfl ?_
    refine R1 (g' := (58, _, _, _, _, _)) rfl rfl ?_
    refine R1 (g' := (59, _, _, _, _, _)) rfl rfl ?_
    refine R1 (g' := (60, _, .int (nI 0) :: _, _, _, _)) rfl rfl ?_
    refine R_call3 (Or.inr (Or.inl ⟨rfl, rfl⟩)) rfl rfl ⟨Nat.le_of_ble_eq_true rfl, Nat.le_of_ble_eq_true rfl⟩ (Nat.le_of_ble_eq_true rfl) ⟨rfl, rfl⟩ (⟨⟨_, _, _, rfl, (Nat.le_of_ble_eq_true rfl), rfl⟩, e9_of (i := 9 + 4 * k) (by omega) (by omega)⟩) ?_
    refine R1 (g' := (64, _, _, _, _, _)) rfl rfl ?_
    refine R1 (g' := (65, _, _, _, _, _)) rfl rfl ?_
    refine R1 (g' := (66, _, _, _, _, _)) rfl rfl ?_
    refine R1 (g' := (67, _, .int (nI 1) :: _, _, _, _)) rfl rfl ?_
    refine R_call3 (Or.inr (Or.inl ⟨rfl, rfl⟩)) rfl rfl ⟨Nat.le_of_ble_eq_true rfl, Nat.le_of_ble_eq_true rfl⟩ (Nat.le_of_ble_eq_true rfl) ⟨rfl, rfl⟩ (⟨⟨_, _, _, rfl, (Nat.le_of_ble_eq_true rfl), rfl⟩, e9_of (i := 10 + 4 * k) (by omega) (by omega)⟩) ?_
    refine R1 (g' := (71, _, _, _, _, _)) rfl rfl ?_
    refine R1 (g' := (72, _, _, _, _, _)) rfl rfl ?_
    refine R1 (g' := (73, _, _, _, _, _)) rfl rfl ?_
    refine R1 (g' := (74, _, _, _, _, _)) rfl rfl ?_
    refine R1 (g' := (75, _, .int (nI 1) :: _, _, _, _)) rfl rfl ?_
    refine R1 (g' := (76, _, .int (nI (k + 1)) :: _, _, _, _)) rfl (by rw [← nI_add]; rfl) ?_
    refine R1 (g' := (77, _, .int (nI 2) :: _, _, _, _)) rfl rfl ?_
    refine R1 (g' := (78, _, _, _, _, _)) rfl rfl ?_
    refine R1 (g' := (79, _, _, _, _, _)) rfl rfl ?_
    refine R1 (g' := (80, _, .int (nI 2) :: _, _, _, _)) rfl rfl ?_
    refine R_call3 (Or.inr (Or.inl ⟨rfl, rfl⟩)) rfl rfl ⟨Nat.le_of_ble_eq_true rfl, Nat.le_of_ble_eq_true rfl⟩ (Nat.le_of_ble_eq_true rfl) ⟨rfl, rfl⟩ (⟨⟨_, _, _, rfl, (Nat.le_of_ble_eq_true rfl), rfl⟩, e9_of (i := 11 + 4 * k) (by omega) (by omega)⟩) ?_
    refine R1 (g' := (84, _, _, _, _, _)) rfl rfl ?_
    refine R1 (g' := (85, _, _, _, _, _)) rfl rfl ?_
    refine R_call4 (Or.inr (Or.inl ⟨rfl, rfl⟩)) rfl rfl ⟨Nat.le_of_ble_eq_true rfl, Nat.le_of_ble_eq_true rfl⟩ (Nat.le_of_ble_eq_true rfl) ⟨rfl, rfl⟩ (⟨⟨_, _, _, rfl, (Nat.le_of_ble_eq_true rfl), rfl⟩, e9_put (i := 15 + 4 * k) (by omega) (by omega)⟩) ?_
    refine R1 (g' := (89, _, _, _, _, _)) rfl rfl ?_
    refine R1 (g' := (90, _, _, _, _, _)) rfl rfl ?_
    refine R1 (g' := (91, _, .int (nI 2) :: _, _, _, _)) rfl rfl ?_
    refine R1 (g' := (92, _, _, _, _, _)) rfl rfl ?_
    refine R_call4 (Or.inr (Or.inl ⟨rfl, rfl⟩)) rfl rfl ⟨Nat.le_of_ble_eq_true rfl, Nat.le_of_ble_eq_true rfl⟩ (Nat.le_of_ble_eq_true rfl) ⟨rfl, rfl⟩ (⟨⟨_, _, _, rfl, (Nat.le_of_ble_eq_true rfl), rfl⟩, e9_put (i := 11 + 4 * k) (by omega) (by omega)⟩) ?_
    refine R1 (g' := (96, _, _, _, _, _)) rfl rfl ?_
    refine R_getf rfl rfl (Nat.le_of_ble_eq_true rfl) rfl rfl ?_
    refine R1 (g' := (101, _, .int (nI 7) :: _, _, _, _)) rfl rfl ?_
    refine R_iald 7 rfl (Nat.le_of_ble_eq_true rfl) rfl (by decide) (by decide) rfl ?_
    refine R_iret rfl ?_
    refine ⟨o_i (by simp only [setP_at]; rw [pk_un (by omega), pk_un (by omega), pk_us]; rw [qSU_lo (by omega), hn, nI_add]), congrArg wd ?_⟩
    simp only [setP_setP, setP_at]
    congr 1
    funext j
    simp only [upd]
    rw [if_neg (show ¬ 9 + 4 * k = 7 by omega), if_neg (show ¬ 10 + 4 * k = 7 by omega), if_neg (show ¬ 11 + 4 * k = 7 by omega)]
    have z1 : qSU (s.1 143) n d (9 + 4 * k) = s.1 143 (9 + 4 * k) := qSU_lo (by omega)
    have z2 : qSU (s.1 143) n d (10 + 4 * k) = s.1 143 (10 + 4 * k) := qSU_lo (by omega)
    have z3 : qSU (s.1 143) n d (11 + 4 * k) = s.1 143 (11 + 4 * k) := qSU_lo (by omega)
    have z4 : qSU (s.1 143) n d 7 = nI n := (qSU_lo (by omega)).trans hn
    rw [z1, z2, z3, z4]
    simp only [qCut]
    by_cases e1 : j = 11 + 4 * k
    · subst e1
      repeat (first | rw [if_pos (by omega)] | rw [if_neg (by omega)])
    · by_cases e2 : j = 15 + 4 * k
      · subst e2
        repeat (first | rw [if_pos (by omega)] | rw [if_neg (by omega)])
      · by_cases e3 : j = 7
        · subst e3
          repeat (first | rw [if_pos (by omega)] | rw [if_neg (by omega)])
          exact nI_add n 1
        · rw [if_neg e1, if_neg e2, if_neg e3, if_neg e3, if_neg e1, if_neg e2]
          simp only [qSU]
          by_cases e4 : 13 + 4 * k ≤ j ∧ j < 13 + 4 * n
          · rw [if_pos e4, if_pos (by omega)]
          · rw [if_neg e4, if_neg (by omega)]
  | succ e ih =>
    intro d i hd hi
    refine R1 (g' := (16, _, _, _, _, _)) rfl rfl ?_
    refine R1 (g' := (18, _, .int (nI 9) :: _, _, _, _)) rfl rfl ?_
    refine R1 (g' := (19, _, .int (nI 4) :: _, _, _, _)) rfl rfl ?_
    refine R1 (g' := (20, _, _, _, _, _)) rfl rfl ?_
    refine R1 (g' := (21, _, _, _, _, _)) rfl rfl ?_
    rw [pk_mul]
    refine R1 (g' := (22, _, _, _, _, _)) rfl rfl ?_
    rw [nI_add]
    refine R_cltN 45 (i) (9 + 4 * k) rfl rfl (rfl) (rfl) (by omega) (by omega) (fun h => by omega) (fun h22 => ?_)
    refine R1 (g' := (26, _, _, _, _, _)) rfl rfl ?_
    refine R_getf rfl rfl (Nat.le_of_ble_eq_true rfl) rfl rfl ?_
    refine R1 (g' := (30, _, _, _, _, _)) rfl rfl ?_
    refine R1 (g' := (31, _, .int (nI 4) :: _, _, _, _)) rfl rfl ?_
    refine R1 (g' := (32, _, _, _, _, _)) rfl rfl ?_
    refine R1 (g' := (33, _, _, _, _, _)) rfl rfl ?_
    refine R_getf rfl rfl (Nat.le_of_ble_eq_true rfl) rfl rfl ?_
    refine R1 (g' := (37, _, _, _, _, _)) rfl rfl ?_
    refine R_iald i rfl (Nat.le_of_ble_eq_true rfl) rfl (by omega) (by decide) rfl ?_
    rw [setP_at, qSU_lo (by omega)]
    refine R_iast (i + 4) rfl (Nat.le_of_ble_eq_true rfl) (fun _ => rfl) (by omega) (by decide) (by rw [nI_add]) ?_
    rw [setP_setP, setP_at, qSU_s hi]
    refine R1 (g' := (42, _, _, _, _, _)) rfl rfl ?_
    refine R1 (g' := (15, _, _, _, _, _)) rfl rfl ?_
    obtain ⟨i2, rfl⟩ : ∃ i2, i = i2 + 1 := ⟨i - 1, by omega⟩
    refine R_lv [(3, .int (nI i2)), (0, .ref 142), (1, .int (nI k)), (2, .int c)] rfl (List.forall_mem_cons.mpr ⟨by rw [← pk_m1 i2]; rfl, List.forall_mem_cons.mpr ⟨rfl, List.forall_mem_cons.mpr ⟨rfl, List.forall_mem_cons.mpr ⟨rfl, fun _ h => absurd h List.not_mem_nil⟩⟩⟩⟩) ⟨rfl, rfl⟩ ?_
    exact ih (d + 1) i2 (by omega) (by omega)
theorem e9_cuts {s : xs} {k n : Nat} {c : Int32} (hn : s.1 143 7 = nI n) (hn8 : n < 8) (hk : k < n) : Ev_X9_cuts [.ref 142, .int (nI k), .int c] (wd s) (.inl (some (.int (nI (n + 1))))) (wd (setP s 143 (qCut (s.1 143) k n c))) := by
  have hr := cuts_loop (c := c) hn hn8 hk (4 * (n - k)) 0 (8 + 4 * n) (Nat.zero_add _) (by omega)
  rw [qSU_0, setP_self] at hr
  refine ⟨Nat.le_of_ble_eq_true rfl, Nat.le_refl _, Or.inl rfl, ?_⟩
  refine R1 (g' := (2, _, .int (nI 9) :: _, _, _, _)) rfl rfl ?_
  refine R1 (g' := (3, _, .int (nI 4) :: _, _, _, _)) rfl rfl ?_
  refine R1 (g' := (4, _, _, _, _, _)) rfl rfl ?_
  refine R_getf rfl rfl (Nat.le_of_ble_eq_true rfl) rfl rfl ?_
  refine R1 (g' := (9, _, .int (nI 7) :: _, _, _, _)) rfl rfl ?_
  refine R_iald 7 rfl (Nat.le_of_ble_eq_true rfl) rfl (by decide) (by decide) rfl ?_
  rw [hn]
  refine R1 (g' := (11, _, _, _, _, _)) rfl rfl ?_
  rw [pk_mul]
  refine R1 (g' := (12, _, _, _, _, _)) rfl rfl ?_
  rw [nI_add]
  refine R1 (g' := (13, _, .int (nI 1) :: _, _, _, _)) rfl rfl ?_
  refine R1 (g' := (14, _, _, _, _, _)) rfl rfl ?_
  rw [pk_sub (by omega), show 9 + 4 * n - 1 = 8 + 4 * n by omega]
  refine R1 (g' := (15, _, _, _, _, _)) rfl rfl ?_
  exact R_lv [(3, .int (nI (8 + 4 * n))), (0, .ref 142), (1, .int (nI k)), (2, .int c)] rfl (List.forall_mem_cons.mpr ⟨rfl, List.forall_mem_cons.mpr ⟨rfl, List.forall_mem_cons.mpr ⟨rfl, List.forall_mem_cons.mpr ⟨rfl, fun _ h => absurd h List.not_mem_nil⟩⟩⟩⟩) ⟨rfl, rfl⟩ hr
def qCanW (Q : Nat → Int32) (k t : Nat) : Bool := decide (qn Q (9 + 4 * k) = qn Q (13 + 4 * k)) && (decide (qn Q (10 + 4 * k) = qn Q (14 + 4 * k)) && (decide (qn Q (11 + 4 * k) + qn Q (15 + 4 * k) ≤ 9000000) && decide (1100 ≤ t)))
theorem e9_canWeld {s : xs} {k t : Nat} (hk : k + 1 < 8) (h : qPart (s.1 143) k) (h2 : qPart (s.1 143) (k + 1)) (h0 : s.1 143 0 = nI t) (ht : t < 2 ^ 20) : Ev_X9_canWeld [.ref 142, .int (nI k)] (wd s) (.inl (some (.int (bI (qCanW (s.1 143) k t))))) (wd s) := by
  obtain ⟨p1, p2, p3, p4, p5, p6, p7⟩ := id h
  obtain ⟨q1, q2, q3, q4, q5, q6, q7⟩ := id h2
  rw [show 9 + 4 * (k + 1) = 13 + 4 * k by omega] at q1 q4
  rw [show 10 + 4 * (k + 1) = 14 + 4 * k by omega] at q2 q5
  rw [show 11 + 4 * (k + 1) = 15 + 4 * k by omega] at q3 q6 q7
  rw [nRg_iff] at p4 p5 q4 q5
  refine ⟨Nat.le_of_ble_eq_true rfl, Nat.le_refl _, Or.inr ⟨rfl, bI_01 _⟩, ?_⟩
  refine R1 (g' := (1, _, _, _, _, _)) rfl rfl ?_
  refine R1 (g' := (2, _, _, _, _, _)) rfl rfl ?_
  refine R1 (g' := (3, _, .int (nI 0) :: _, _, _, _)) rfl rfl ?_
  refine R_call3 (Or.inr (Or.inl ⟨rfl, rfl⟩)) rfl rfl ⟨Nat.le_of_ble_eq_true rfl, Nat.le_of_ble_eq_true rfl⟩ (Nat.le_of_ble_eq_true rfl) ⟨rfl, rfl⟩ (⟨⟨_, _, _, rfl, (Nat.le_of_ble_eq_true rfl), rfl⟩, e9_of (i := 9 + 4 * k) (by omega) (by omega)⟩) ?_
  refine R1 (g' := (7, _, _, _, _, _)) rfl rfl ?_
  refine R1 (g' := (8, _, _, _, _, _)) rfl rfl ?_
  refine R1 (g' := (9, _, .int (nI 1) :: _, _, _, _)) rfl rfl ?_
  refine R1 (g' := (10, _, .int (nI (k + 1)) :: _, _, _, _)) rfl (by rw [← nI_add]; rfl) ?_
  refine R1 (g' := (11, _, .int (nI 0) :: _, _, _, _)) rfl rfl ?_
  refine R_call3 (Or.inr (Or.inl ⟨rfl, rfl⟩)) rfl rfl ⟨Nat.le_of_ble_eq_true rfl, Nat.le_of_ble_eq_true rfl⟩ (Nat.le_of_ble_eq_true rfl) ⟨rfl, rfl⟩ (⟨⟨_, _, _, rfl, (Nat.le_of_ble_eq_true rfl), rfl⟩, e9_of (i := 13 + 4 * k) (by omega) (by omega)⟩) ?_
  rw [p1, q1]
  refine R_cneN 38 (qn (s.1 143) (9 + 4 * k)) (qn (s.1 143) (13 + 4 * k)) rfl rfl (rfl) (rfl) (by omega) (by omega) (fun h14 => ?_) (fun h14 => ?_)
  · refine R1 (g' := (39, _, .int (nI 0) :: _, _, _, _)) rfl rfl ?_
    refine R1 (g' := (40, _, _, _, _, _)) rfl rfl ?_
    refine R1 (g' := (41, _, _, _, _, _)) rfl rfl ?_
    refine R_eq 80 rfl rfl (fun h41 => ?_) (fun h41 => ?_)
    · refine R1 (g' := (81, _, .int (nI 0) :: _, _, _, _)) rfl rfl ?_
      refine R_iret rfl ?_
      first
        | exact absurd h41 (by decide)
        | exact absurd rfl h41
        | exact ⟨o_i (bI_t (by simp only [qCanW, Bool.and_eq_true, decide_eq_true_eq]; omega)).symm, rfl⟩
        | exact ⟨o_i (bI_f (by simp only [qCanW, Bool.and_eq_false_iff, decide_eq_false_iff_not]; omega)).symm, rfl⟩
    · refine R1 (g' := (45, _, _, _, _, _)) rfl rfl ?_
      refine R1 (g' := (46, _, _, _, _, _)) rfl rfl ?_
      refine R1 (g' := (47, _, .int (nI 2) :: _, _, _, _)) rfl rfl ?_
      refine R_call3 (Or.inr (Or.inl ⟨rfl, rfl⟩)) rfl rfl ⟨Nat.le_of_ble_eq_true rfl, Nat.le_of_ble_eq_true rfl⟩ (Nat.le_of_ble_eq_true rfl) ⟨rfl, rfl⟩ (⟨⟨_, _, _, rfl, (Nat.le_of_ble_eq_true rfl), rfl⟩, e9_of (i := 11 + 4 * k) (by omega) (by omega)⟩) ?_
      refine R1 (g' := (51, _, _, _, _, _)) rfl rfl ?_
      refine R1 (g' := (52, _, _, _, _, _)) rfl rfl ?_
      refine R1 (g' := (53, _, .int (nI 1) :: _, _, _, _)) rfl rfl ?_
      refine R1 (g' := (54, _, .int (nI (k + 1)) :: _, _, _, _)) rfl (by rw [← nI_add]; rfl) ?_
      refine R1 (g' := (55, _, .int (nI 2) :: _, _, _, _)) rfl rfl ?_
      refine R_call3 (Or.inr (Or.inl ⟨rfl, rfl⟩)) rfl rfl ⟨Nat.le_of_ble_eq_true rfl, Nat.le_of_ble_eq_true rfl⟩ (Nat.le_of_ble_eq_true rfl) ⟨rfl, rfl⟩ (⟨⟨_, _, _, rfl, (Nat.le_of_ble_eq_true rfl), rfl⟩, e9_of (i := 15 + 4 * k) (by omega) (by omega)⟩) ?_
      refine R1 (g' := (59, _, _, _, _, _)) rfl rfl ?_
      rw [p3, q3, nI_add]
      refine R1 (g' := (61, _, _, _, _, _)) rfl rfl ?_
      change xRun _ _ (61, _, [.int (nI 9000000), _], _, _, _)
      refine R_cgtN 80 (qn (s.1 143) (11 + 4 * k) + qn (s.1 143) (15 + 4 * k)) (9000000) rfl rfl (rfl) (rfl) (by omega) (by omega) (fun h61 => ?_) (fun h61 => ?_)
      · refine R1 (g' := (81, _, .int (nI 0) :: _, _, _, _)) rfl rfl ?_
        refine R_iret rfl ?_
        first
          | exact absurd h41 (by decide)
          | exact absurd rfl h41
          | exact ⟨o_i (bI_t (by simp only [qCanW, Bool.and_eq_true, decide_eq_true_eq]; omega)).symm, rfl⟩
          | exact ⟨o_i (bI_f (by simp only [qCanW, Bool.and_eq_false_iff, decide_eq_false_iff_not]; omega)).symm, rfl⟩
      · refine R1 (g' := (65, _, _, _, _, _)) rfl rfl ?_
        refine R_getf rfl rfl (Nat.le_of_ble_eq_true rfl) rfl rfl ?_
        refine R1 (g' := (69, _, .int (nI 0) :: _, _, _, _)) rfl rfl ?_
        refine R_iald 0 rfl (Nat.le_of_ble_eq_true rfl) rfl (by decide) (by decide) rfl ?_
        rw [h0]
        refine R1 (g' := (73, _, .int (nI 1100) :: _, _, _, _)) rfl rfl ?_
        refine R_cltN 80 (t) (1100) rfl rfl (rfl) (rfl) (by omega) (by omega) (fun h73 => ?_) (fun h73 => ?_)
        · refine R1 (g' := (81, _, .int (nI 0) :: _, _, _, _)) rfl rfl ?_
          refine R_iret rfl ?_
          first
            | exact absurd h41 (by decide)
            | exact absurd rfl h41
            | exact ⟨o_i (bI_t (by simp only [qCanW, Bool.and_eq_true, decide_eq_true_eq]; omega)).symm, rfl⟩
            | exact ⟨o_i (bI_f (by simp only [qCanW, Bool.and_eq_false_iff, decide_eq_false_iff_not]; omega)).symm, rfl⟩
        · refine R1 (g' := (77, _, .int (nI 1) :: _, _, _, _)) rfl rfl ?_
          refine R1 (g' := (81, _, _, _, _, _)) rfl rfl ?_
          refine R_iret rfl ?_
          first
            | exact absurd h41 (by decide)
            | exact absurd rfl h41
            | exact ⟨o_i (bI_t (by simp only [qCanW, Bool.and_eq_true, decide_eq_true_eq]; omega)).symm, rfl⟩
            | exact ⟨o_i (bI_f (by simp only [qCanW, Bool.and_eq_false_iff, decide_eq_false_iff_not]; omega)).symm, rfl⟩
  · refine R1 (g' := (18, _, _, _, _, _)) rfl rfl ?_
    refine R1 (g' := (19, _, _, _, _, _)) rfl rfl ?_
    refine R1 (g' := (20, _, .int (nI 1) :: _, _, _, _)) rfl rfl ?_
    refine R_call3 (Or.inr (Or.inl ⟨rfl, rfl⟩)) rfl rfl ⟨Nat.le_of_ble_eq_true rfl, Nat.le_of_ble_eq_true rfl⟩ (Nat.le_of_ble_eq_true rfl) ⟨rfl, rfl⟩ (⟨⟨_, _, _, rfl, (Nat.le_of_ble_eq_true rfl), rfl⟩, e9_of (i := 10 + 4 * k) (by omega) (by omega)⟩) ?_
    refine R1 (g' := (24, _, _, _, _, _)) rfl rfl ?_
    refine R1 (g' := (25, _, _, _, _, _)) rfl rfl ?_
    refine R1 (g' := (26, _, .int (nI 1) :: _, _, _, _)) rfl rfl ?_
    refine R1 (g' := (27, _, .int (nI (k + 1)) :: _, _, _, _)) rfl (by rw [← nI_add]; rfl) ?_
    refine R1 (g' := (28, _, .int (nI 1) :: _, _, _, _)) rfl rfl ?_
    refine R_call3 (Or.inr (Or.inl ⟨rfl, rfl⟩)) rfl rfl ⟨Nat.le_of_ble_eq_true rfl, Nat.le_of_ble_eq_true rfl⟩ (Nat.le_of_ble_eq_true rfl) ⟨rfl, rfl⟩ (⟨⟨_, _, _, rfl, (Nat.le_of_ble_eq_true rfl), rfl⟩, e9_of (i := 14 + 4 * k) (by omega) (by omega)⟩) ?_
    rw [p2, q2]
    refine R_cneN 38 (qn (s.1 143) (10 + 4 * k)) (qn (s.1 143) (14 + 4 * k)) rfl rfl (rfl) (rfl) (by omega) (by omega) (fun h31 => ?_) (fun h31 => ?_)
    · refine R1 (g' := (39, _, .int (nI 0) :: _, _, _, _)) rfl rfl ?_
      refine R1 (g' := (40, _, _, _, _, _)) rfl rfl ?_
      refine R1 (g' := (41, _, _, _, _, _)) rfl rfl ?_
      refine R_eq 80 rfl rfl (fun h41 => ?_) (fun h41 => ?_)
      · refine R1 (g' := (81, _, .int (nI 0) :: _, _, _, _)) rfl rfl ?_
        refine R_iret rfl ?_
        first
          | exact absurd h41 (by decide)
          | exact absurd rfl h41
          | exact ⟨o_i (bI_t (by simp only [qCanW, Bool.and_eq_true, decide_eq_true_eq]; omega)).symm, rfl⟩
          | exact ⟨o_i (bI_f (by simp only [qCanW, Bool.and_eq_false_iff, decide_eq_false_iff_not]; omega)).symm, rfl⟩
      · refine R1 (g' := (45, _, _, _, _, _)) rfl rfl ?_
        refine R1 (g' := (46, _, _, _, _, _)) rfl rfl ?_
        refine R1 (g' := (47, _, .int (nI 2) :: _, _, _, _)) rfl rfl ?_
        refine R_call3 (Or.inr (Or.inl ⟨rfl, rfl⟩)) rfl rfl ⟨Nat.le_of_ble_eq_true rfl, Nat.le_of_ble_eq_true rfl⟩ (Nat.le_of_ble_eq_true rfl) ⟨rfl, rfl⟩ (⟨⟨_, _, _, rfl, (Nat.le_of_ble_eq_true rfl), rfl⟩, e9_of (i := 11 + 4 * k) (by omega) (by omega)⟩) ?_
        refine R1 (g' := (51, _, _, _, _, _)) rfl rfl ?_
        refine R1 (g' := (52, _, _, _, _, _)) rfl rfl ?_
        refine R1 (g' := (53, _, .int (nI 1) :: _, _, _, _)) rfl rfl ?_
        refine R1 (g' := (54, _, .int (nI (k + 1)) :: _, _, _, _)) rfl (by rw [← nI_add]; rfl) ?_
        refine R1 (g' := (55, _, .int (nI 2) :: _, _, _, _)) rfl rfl ?_
        refine R_call3 (Or.inr (Or.inl ⟨rfl, rfl⟩)) rfl rfl ⟨Nat.le_of_ble_eq_true rfl, Nat.le_of_ble_eq_true rfl⟩ (Nat.le_of_ble_eq_true rfl) ⟨rfl, rfl⟩ (⟨⟨_, _, _, rfl, (Nat.le_of_ble_eq_true rfl), rfl⟩, e9_of (i := 15 + 4 * k) (by omega) (by omega)⟩) ?_
        refine R1 (g' := (59, _, _, _, _, _)) rfl rfl ?_
        rw [p3, q3, nI_add]
        refine R1 (g' := (61, _, _, _, _, _)) rfl rfl ?_
        change xRun _ _ (61, _, [.int (nI 9000000), _], _, _, _)
        refine R_cgtN 80 (qn (s.1 143) (11 + 4 * k) + qn (s.1 143) (15 + 4 * k)) (9000000) rfl rfl (rfl) (rfl) (by omega) (by omega) (fun h61 => ?_) (fun h61 => ?_)
        · refine R1 (g' := (81, _, .int (nI 0) :: _, _, _, _)) rfl rfl ?_
          refine R_iret rfl ?_
          first
            | exact absurd h41 (by decide)
            | exact absurd rfl h41
            | exact ⟨o_i (bI_t (by simp only [qCanW, Bool.and_eq_true, decide_eq_true_eq]; omega)).symm, rfl⟩
            | exact ⟨o_i (bI_f (by simp only [qCanW, Bool.and_eq_false_iff, decide_eq_false_iff_not]; omega)).symm, rfl⟩
        · refine R1 (g' := (65, _, _, _, _, _)) rfl rfl ?_
          refine R_getf rfl rfl (Nat.le_of_ble_eq_true rfl) rfl rfl ?_
          refine R1 (g' := (69, _, .int (nI 0) :: _, _, _, _)) rfl rfl ?_
          refine R_iald 0 rfl (Nat.le_of_ble_eq_true rfl) rfl (by decide) (by decide) rfl ?_
          rw [h0]
          refine R1 (g' := (73, _, .int (nI 1100) :: _, _, _, _)) rfl rfl ?_
          refine R_cltN 80 (t) (1100) rfl rfl (rfl) (rfl) (by omega) (by omega) (fun h73 => ?_) (fun h73 => ?_)
          · refine R1 (g' := (81, _, .int (nI 0) :: _, _, _, _)) rfl rfl ?_
            refine R_iret rfl ?_
            first
              | exact absurd h41 (by decide)
              | exact absurd rfl h41
              | exact ⟨o_i (bI_t (by simp only [qCanW, Bool.and_eq_true, decide_eq_true_eq]; omega)).symm, rfl⟩
              | exact ⟨o_i (bI_f (by simp only [qCanW, Bool.and_eq_false_iff, decide_eq_false_iff_not]; omega)).symm, rfl⟩
          · refine R1 (g' := (77, _, .int (nI 1) :: _, _, _, _)) rfl rfl ?_
            refine R1 (g' := (81, _, _, _, _, _)) rfl rfl ?_
            refine R_iret rfl ?_
            first
              | exact absurd h41 (by decide)
              | exact absurd rfl h41
              | exact ⟨o_i (bI_t (by simp only [qCanW, Bool.and_eq_true, decide_eq_true_eq]; omega)).symm, rfl⟩
              | exact ⟨o_i (bI_f (by simp only [qCanW, Bool.and_eq_false_iff, decide_eq_false_iff_not]; omega)).symm, rfl⟩
    · refine R1 (g' := (35, _, .int (nI 1) :: _, _, _, _)) rfl rfl ?_
      refine R1 (g' := (39, _, _, _, _, _)) rfl rfl ?_
      refine R1 (g' := (40, _, _, _, _, _)) rfl rfl ?_
      refine R1 (g' := (41, _, _, _, _, _)) rfl rfl ?_
      refine R_eq 80 rfl rfl (fun h41 => ?_) (fun h41 => ?_)
      · refine R1 (g' := (81, _, .int (nI 0) :: _, _, _, _)) rfl rfl ?_
        refine R_iret rfl ?_
        first
          | exact absurd h41 (by decide)
          | exact absurd rfl h41
          | exact ⟨o_i (bI_t (by simp only [qCanW, Bool.and_eq_true, decide_eq_true_eq]; omega)).symm, rfl⟩
          | exact ⟨o_i (bI_f (by simp only [qCanW, Bool.and_eq_false_iff, decide_eq_false_iff_not]; omega)).symm, rfl⟩
      · refine R1 (g' := (45, _, _, _, _, _)) rfl rfl ?_
        refine R1 (g' := (46, _, _, _, _, _)) rfl rfl ?_
        refine R1 (g' := (47, _, .int (nI 2) :: _, _, _, _)) rfl rfl ?_
        refine R_call3 (Or.inr (Or.inl ⟨rfl, rfl⟩)) rfl rfl ⟨Nat.le_of_ble_eq_true rfl, Nat.le_of_ble_eq_true rfl⟩ (Nat.le_of_ble_eq_true rfl) ⟨rfl, rfl⟩ (⟨⟨_, _, _, rfl, (Nat.le_of_ble_eq_true rfl), rfl⟩, e9_of (i := 11 + 4 * k) (by omega) (by omega)⟩) ?_
        refine R1 (g' := (51, _, _, _, _, _)) rfl rfl ?_
        refine R1 (g' := (52, _, _, _, _, _)) rfl rfl ?_
        refine R1 (g' := (53, _, .int (nI 1) :: _, _, _, _)) rfl rfl ?_
        refine R1 (g' := (54, _, .int (nI (k + 1)) :: _, _, _, _)) rfl (by rw [← nI_add]; rfl) ?_
        refine R1 (g' := (55, _, .int (nI 2) :: _, _, _, _)) rfl rfl ?_
        refine R_call3 (Or.inr (Or.inl ⟨rfl, rfl⟩)) rfl rfl ⟨Nat.le_of_ble_eq_true rfl, Nat.le_of_ble_eq_true rfl⟩ (Nat.le_of_ble_eq_true rfl) ⟨rfl, rfl⟩ (⟨⟨_, _, _, rfl, (Nat.le_of_ble_eq_true rfl), rfl⟩, e9_of (i := 15 + 4 * k) (by omega) (by omega)⟩) ?_
        refine R1 (g' := (59, _, _, _, _, _)) rfl rfl ?_
        rw [p3, q3, nI_add]
        refine R1 (g' := (61, _, _, _, _, _)) rfl rfl ?_
        change xRun _ _ (61, _, [.int (nI 9000000), _], _, _, _)
        refine R_cgtN 80 (qn (s.1 143) (11 + 4 * k) + qn (s.1 143) (15 + 4 * k)) (9000000) rfl rfl (rfl) (rfl) (by omega) (by omega) (fun h61 => ?_) (fun h61 => ?_)
        · refine R1 (g' := (81, _, .int (nI 0) :: _, _, _, _)) rfl rfl ?_
          refine R_iret rfl ?_
          first
            | exact absurd h41 (by decide)
            | exact absurd rfl h41
            | exact ⟨o_i (bI_t (by simp only [qCanW, Bool.and_eq_true, decide_eq_true_eq]; omega)).symm, rfl⟩
            | exact ⟨o_i (bI_f (by simp only [qCanW, Bool.and_eq_false_iff, decide_eq_false_iff_not]; omega)).symm, rfl⟩
        · refine R1 (g' := (65, _, _, _, _, _)) rfl rfl ?_
          refine R_getf rfl rfl (Nat.le_of_ble_eq_true rfl) rfl rfl ?_
          refine R1 (g' := (69, _, .int (nI 0) :: _, _, _, _)) rfl rfl ?_
          refine R_iald 0 rfl (Nat.le_of_ble_eq_true rfl) rfl (by decide) (by decide) rfl ?_
          rw [h0]
          refine R1 (g' := (73, _, .int (nI 1100) :: _, _, _, _)) rfl rfl ?_
          refine R_cltN 80 (t) (1100) rfl rfl (rfl) (rfl) (by omega) (by omega) (fun h73 => ?_) (fun h73 => ?_)
          · refine R1 (g' := (81, _, .int (nI 0) :: _, _, _, _)) rfl rfl ?_
            refine R_iret rfl ?_
            first
              | exact absurd h41 (by decide)
              | exact absurd rfl h41
              | exact ⟨o_i (bI_t (by simp only [qCanW, Bool.and_eq_true, decide_eq_true_eq]; omega)).symm, rfl⟩
              | exact ⟨o_i (bI_f (by simp only [qCanW, Bool.and_eq_false_iff, decide_eq_false_iff_not]; omega)).symm, rfl⟩
          · refine R1 (g' := (77, _, .int (nI 1) :: _, _, _, _)) rfl rfl ?_
            refine R1 (g' := (81, _, _, _, _, _)) rfl rfl ?_
            refine R_iret rfl ?_
            first
              | exact absurd h41 (by decide)
              | exact absurd rfl h41
              | exact ⟨o_i (bI_t (by simp only [qCanW, Bool.and_eq_true, decide_eq_true_eq]; omega)).symm, rfl⟩
              | exact ⟨o_i (bI_f (by simp only [qCanW, Bool.and_eq_false_iff, decide_eq_false_iff_not]; omega)).symm, rfl⟩
theorem e9_fitsStep {s : xs} {k : Nat} (hi : pInv (s.1 143)) (hk : k < qn (s.1 143) 7) : Ev_X9_fitsStep [.ref 142, .int (nI k)] (wd s) (.inl (some (.int (bI (qFit (s.1 143) k))))) (wd s) := by
  obtain ⟨⟨i7, i7a, i7b⟩, ⟨i8, i8a⟩, ⟨i0, i0a, i0b⟩, ⟨i1, i1a⟩, iP, iS, i6⟩ := hi
  obtain ⟨p1, p2, p3, p4, p5, p6, p7⟩ := id (iP k hk)
  have hlen := qLen_le (iP k hk)
  rw [nRg_iff] at p4 p5
  refine ⟨Nat.le_of_ble_eq_true rfl, Nat.le_refl _, Or.inr ⟨rfl, bI_01 _⟩, ?_⟩
  by_cases hks : k < qn (s.1 143) 8
  · obtain ⟨q1, q2, q3, q4, q5, q6, q7, q8⟩ := iS k hks
    rw [nRg_iff] at q5 q6
    have hd : decide (k < qn (s.1 143) 8) = true := decide_eq_true hks
    refine R1 (g' := (2, _, .int (nI 41) :: _, _, _, _)) rfl rfl ?_
    refine R1 (g' := (3, _, .int (nI 4) :: _, _, _, _)) rfl rfl ?_
    refine R1 (g' := (4, _, _, _, _, _)) rfl rfl ?_
    refine R1 (g' := (5, _, _, _, _, _)) rfl rfl ?_
    rw [pk_mul]
    refine R1 (g' := (6, _, _, _, _, _)) rfl rfl ?_
    rw [nI_add]
    refine R1 (g' := (7, _, _, _, _, _)) rfl rfl ?_
    refine R1 (g' := (8, _, _, _, _, _)) rfl rfl ?_
    refine R1 (g' := (9, _, _, _, _, _)) rfl rfl ?_
    refine R_getf rfl rfl (Nat.le_of_ble_eq_true rfl) rfl rfl ?_
    refine R1 (g' := (14, _, .int (nI 8) :: _, _, _, _)) rfl rfl ?_
    refine R_iald 8 rfl (Nat.le_of_ble_eq_true rfl) rfl (by decide) (by decide) rfl ?_
    refine R_cgeN 78 (k) (qn (s.1 143) 8) rfl rfl (rfl) (i8) (by omega) (by omega) (fun h => by omega) (fun h15 => ?_)
    refine R1 (g' := (19, _, _, _, _, _)) rfl rfl ?_
    refine R1 (g' := (20, _, _, _, _, _)) rfl rfl ?_
    refine R1 (g' := (21, _, .int (nI 0) :: _, _, _, _)) rfl rfl ?_
    refine R_call3 (Or.inr (Or.inl ⟨rfl, rfl⟩)) rfl rfl ⟨Nat.le_of_ble_eq_true rfl, Nat.le_of_ble_eq_true rfl⟩ (Nat.le_of_ble_eq_true rfl) ⟨rfl, rfl⟩ (⟨⟨_, _, _, rfl, (Nat.le_of_ble_eq_true rfl), rfl⟩, e9_of (i := 9 + 4 * k) (by omega) (by omega)⟩) ?_
    refine R1 (g' := (25, _, _, _, _, _)) rfl rfl ?_
    refine R1 (g' := (26, _, _, _, _, _)) rfl rfl ?_
    refine R1 (g' := (27, _, .int (nI 1) :: _, _, _, _)) rfl rfl ?_
    refine R_call3 (Or.inr (Or.inl ⟨rfl, rfl⟩)) rfl rfl ⟨Nat.le_of_ble_eq_true rfl, Nat.le_of_ble_eq_true rfl⟩ (Nat.le_of_ble_eq_true rfl) ⟨rfl, rfl⟩ (⟨⟨_, _, _, rfl, (Nat.le_of_ble_eq_true rfl), rfl⟩, e9_of (i := 10 + 4 * k) (by omega) (by omega)⟩) ?_
    refine R1 (g' := (31, _, _, _, _, _)) rfl rfl ?_
    refine R_getf rfl rfl (Nat.le_of_ble_eq_true rfl) rfl rfl ?_
    refine R1 (g' := (35, _, _, _, _, _)) rfl rfl ?_
    refine R_iald (41 + 4 * k) rfl (Nat.le_of_ble_eq_true rfl) rfl (by omega) (by decide) rfl ?_
    refine R1 (g' := (37, _, _, _, _, _)) rfl rfl ?_
    refine R_getf rfl rfl (Nat.le_of_ble_eq_true rfl) rfl rfl ?_
    refine R1 (g' := (41, _, _, _, _, _)) rfl rfl ?_
    refine R1 (g' := (42, _, .int (nI 1) :: _, _, _, _)) rfl rfl ?_
    refine R1 (g' := (43, _, _, _, _, _)) rfl rfl ?_
    refine R_iald (42 + 4 * k) rfl (Nat.le_of_ble_eq_true rfl) rfl (by omega) (by decide) (by rw [nI_add]; exact congrArg nI (by omega)) ?_
    refine R1 (g' := (45, _, _, _, _, _)) rfl rfl ?_
    refine R_getf rfl rfl (Nat.le_of_ble_eq_true rfl) rfl rfl ?_
    refine R1 (g' := (49, _, _, _, _, _)) rfl rfl ?_
    refine R1 (g' := (50, _, .int (nI 2) :: _, _, _, _)) rfl rfl ?_
    refine R1 (g' := (51, _, _, _, _, _)) rfl rfl ?_
    refine R_iald (43 + 4 * k) rfl (Nat.le_of_ble_eq_true rfl) rfl (by omega) (by decide) (by rw [nI_add]; exact congrArg nI (by omega)) ?_
    rw [p1, p2, q1, q2, q3]
    refine R_call5 (Or.inl ⟨rfl, rfl⟩) rfl rfl ⟨Nat.le_of_ble_eq_true rfl, Nat.le_of_ble_eq_true rfl⟩ (Nat.le_of_ble_eq_true rfl) ⟨rfl, rfl⟩ (e9_fits (by omega) (by omega) (by omega) (by omega) (by omega)) ?_
    refine R_eq 78 rfl rfl (fun h55 => ?_) (fun h55 => ?_)
    · refine R1 (g' := (79, _, .int (nI 0) :: _, _, _, _)) rfl rfl ?_
      refine R_iret rfl ?_
      first
        | (have e := bI_e h55; exact ⟨o_i (bI_f (by simp only [qFit]; rw [← Bool.and_assoc (nNear _ _ _), e, Bool.false_and, Bool.and_false])).symm, rfl⟩)
        | (have e := bI_n h55; exact ⟨o_i (bI_t (by simp only [qFit]; rw [← Bool.and_assoc (nNear _ _ _), e, hd, Bool.true_and, Bool.true_and]; exact decide_eq_true (by omega))).symm, rfl⟩)
        | exact ⟨o_i (bI_f (by simp only [qFit]; rw [decide_eq_false (show ¬ qn (s.1 143) (44 + 4 * k) ≤ qLen (s.1 143) k by omega), Bool.and_false, Bool.and_false, Bool.and_false])).symm, rfl⟩
    · refine R1 (g' := (59, _, _, _, _, _)) rfl rfl ?_
      refine R1 (g' := (60, _, _, _, _, _)) rfl rfl ?_
      refine R_call2 (Or.inr (Or.inl ⟨rfl, rfl⟩)) rfl rfl ⟨Nat.le_of_ble_eq_true rfl, Nat.le_of_ble_eq_true rfl⟩ (Nat.le_of_ble_eq_true rfl) ⟨rfl, rfl⟩ (⟨⟨_, _, _, rfl, (Nat.le_of_ble_eq_true rfl), rfl⟩, e9_lengthOf (by omega) (iP k hk)⟩) ?_
      refine R1 (g' := (64, _, _, _, _, _)) rfl rfl ?_
      refine R_getf rfl rfl (Nat.le_of_ble_eq_true rfl) rfl rfl ?_
      refine R1 (g' := (68, _, _, _, _, _)) rfl rfl ?_
      refine R1 (g' := (69, _, .int (nI 3) :: _, _, _, _)) rfl rfl ?_
      refine R1 (g' := (70, _, _, _, _, _)) rfl rfl ?_
      refine R_iald (44 + 4 * k) rfl (Nat.le_of_ble_eq_true rfl) rfl (by omega) (by decide) (by rw [nI_add]; exact congrArg nI (by omega)) ?_
      refine R_cltN 78 (qLen (s.1 143) k) (qn (s.1 143) (44 + 4 * k)) rfl rfl (rfl) (q4) (by omega) (by omega) (fun h71 => ?_) (fun h71 => ?_)
      · refine R1 (g' := (79, _, .int (nI 0) :: _, _, _, _)) rfl rfl ?_
        refine R_iret rfl ?_
        first
          | (have e := bI_e h55; exact ⟨o_i (bI_f (by simp only [qFit]; rw [← Bool.and_assoc (nNear _ _ _), e, Bool.false_and, Bool.and_false])).symm, rfl⟩)
          | (have e := bI_n h55; exact ⟨o_i (bI_t (by simp only [qFit]; rw [← Bool.and_assoc (nNear _ _ _), e, hd, Bool.true_and, Bool.true_and]; exact decide_eq_true (by omega))).symm, rfl⟩)
          | exact ⟨o_i (bI_f (by simp only [qFit]; rw [decide_eq_false (show ¬ qn (s.1 143) (44 + 4 * k) ≤ qLen (s.1 143) k by omega), Bool.and_false, Bool.and_false, Bool.and_false])).symm, rfl⟩
      · refine R1 (g' := (75, _, .int (nI 1) :: _, _, _, _)) rfl rfl ?_
        refine R1 (g' := (79, _, _, _, _, _)) rfl rfl ?_
        refine R_iret rfl ?_
        first
          | (have e := bI_e h55; exact ⟨o_i (bI_f (by simp only [qFit]; rw [← Bool.and_assoc (nNear _ _ _), e, Bool.false_and, Bool.and_false])).symm, rfl⟩)
          | (have e := bI_n h55; exact ⟨o_i (bI_t (by simp only [qFit]; rw [← Bool.and_assoc (nNear _ _ _), e, hd, Bool.true_and, Bool.true_and]; exact decide_eq_true (by omega))).symm, rfl⟩)
          | exact ⟨o_i (bI_f (by simp only [qFit]; rw [decide_eq_false (show ¬ qn (s.1 143) (44 + 4 * k) ≤ qLen (s.1 143) k by omega), Bool.and_false, Bool.and_false, Bool.and_false])).symm, rfl⟩
  · have hd : decide (k < qn (s.1 143) 8) = false := decide_eq_false hks
    refine R1 (g' := (2, _, .int (nI 41) :: _, _, _, _)) rfl rfl ?_
    refine R1 (g' := (3, _, .int (nI 4) :: _, _, _, _)) rfl rfl ?_
    refine R1 (g' := (4, _, _, _, _, _)) rfl rfl ?_
    refine R1 (g' := (5, _, _, _, _, _)) rfl rfl ?_
    rw [pk_mul]
    refine R1 (g' := (6, _, _, _, _, _)) rfl rfl ?_
    rw [nI_add]
    refine R1 (g' := (7, _, _, _, _, _)) rfl rfl ?_
    refine R1 (g' := (8, _, _, _, _, _)) rfl rfl ?_
    refine R1 (g' := (9, _, _, _, _, _)) rfl rfl ?_
    refine R_getf rfl rfl (Nat.le_of_ble_eq_true rfl) rfl rfl ?_
    refine R1 (g' := (14, _, .int (nI 8) :: _, _, _, _)) rfl rfl ?_
    refine R_iald 8 rfl (Nat.le_of_ble_eq_true rfl) rfl (by decide) (by decide) rfl ?_
    refine R_cgeN 78 (k) (qn (s.1 143) 8) rfl rfl (rfl) (i8) (by omega) (by omega) (fun h15 => ?_) (fun h => by omega)
    refine R1 (g' := (79, _, .int (nI 0) :: _, _, _, _)) rfl rfl ?_
    refine R_iret rfl ?_
    exact ⟨o_i (bI_f (by simp only [qFit, hd, Bool.false_and])).symm, rfl⟩
theorem e9_partOf {s : xs} {k w : Nat} (hi : pInv (s.1 143)) (hk : k < qn (s.1 143) 7) (hw : w < 9) : ∃ x y, Ev_X9_partOf [.ref 142, .int (nI k), .int (nI w)] (wd s) (.inl (some (.int (qPartOf (s.1 143) k w)))) (wd (nxtI s x y)) := by
  have hi0 := hi
  obtain ⟨⟨i7, i7a, i7b⟩, ⟨i8, i8a⟩, ⟨i0, i0a, i0b⟩, ⟨i1, i1a⟩, iP, iS, i6⟩ := hi
  obtain ⟨p1, p2, p3, p4, p5, p6, p7⟩ := id (iP k hk)
  rcases (show w = 0 ∨ w = 1 ∨ w = 2 ∨ w = 3 ∨ w = 4 ∨ w = 5 ∨ w = 6 ∨ w = 7 ∨ w = 8 by omega) with rfl | rfl | rfl | rfl | rfl | rfl | rfl | rfl | rfl
  · refine ⟨s.1 142 7, s.1 142 8, Nat.le_of_ble_eq_true rfl, Nat.le_refl _, Or.inl rfl, ?_⟩
    rw [nxtI_self]
    refine R1 (g' := (1, _, _, _, _, _)) rfl rfl ?_
    refine R_tswO 84 rfl (Or.inl (by decide)) rfl ?_
    refine R1 (g' := (85, _, _, _, _, _)) rfl rfl ?_
    refine R1 (g' := (86, _, _, _, _, _)) rfl rfl ?_
    refine R1 (g' := (87, _, _, _, _, _)) rfl rfl ?_
    refine R_call3 (Or.inr (Or.inl ⟨rfl, rfl⟩)) rfl rfl ⟨Nat.le_of_ble_eq_true rfl, Nat.le_of_ble_eq_true rfl⟩ (Nat.le_of_ble_eq_true rfl) ⟨rfl, rfl⟩ (⟨⟨_, _, _, rfl, (Nat.le_of_ble_eq_true rfl), rfl⟩, e9_of (i := 9 + 4 * k) (by omega) (by omega)⟩) ?_
    refine R_iret rfl ?_
    exact ⟨rfl, rfl⟩
  · refine ⟨s.1 142 7, s.1 142 8, Nat.le_of_ble_eq_true rfl, Nat.le_refl _, Or.inl rfl, ?_⟩
    rw [nxtI_self]
    refine R1 (g' := (1, _, _, _, _, _)) rfl rfl ?_
    refine R_tswO 84 rfl (Or.inl (by decide)) rfl ?_
    refine R1 (g' := (85, _, _, _, _, _)) rfl rfl ?_
    refine R1 (g' := (86, _, _, _, _, _)) rfl rfl ?_
    refine R1 (g' := (87, _, _, _, _, _)) rfl rfl ?_
    refine R_call3 (Or.inr (Or.inl ⟨rfl, rfl⟩)) rfl rfl ⟨Nat.le_of_ble_eq_true rfl, Nat.le_of_ble_eq_true rfl⟩ (Nat.le_of_ble_eq_true rfl) ⟨rfl, rfl⟩ (⟨⟨_, _, _, rfl, (Nat.le_of_ble_eq_true rfl), rfl⟩, e9_of (i := 10 + 4 * k) (by omega) (by omega)⟩) ?_
    refine R_iret rfl ?_
    exact ⟨rfl, rfl⟩
  · refine ⟨s.1 142 7, s.1 142 8, Nat.le_of_ble_eq_true rfl, Nat.le_refl _, Or.inl rfl, ?_⟩
    rw [nxtI_self]
    refine R1 (g' := (1, _, _, _, _, _)) rfl rfl ?_
    refine R_tswO 84 rfl (Or.inl (by decide)) rfl ?_
    refine R1 (g' := (85, _, _, _, _, _)) rfl rfl ?_
    refine R1 (g' := (86, _, _, _, _, _)) rfl rfl ?_
    refine R1 (g' := (87, _, _, _, _, _)) rfl rfl ?_
    refine R_call3 (Or.inr (Or.inl ⟨rfl, rfl⟩)) rfl rfl ⟨Nat.le_of_ble_eq_true rfl, Nat.le_of_ble_eq_true rfl⟩ (Nat.le_of_ble_eq_true rfl) ⟨rfl, rfl⟩ (⟨⟨_, _, _, rfl, (Nat.le_of_ble_eq_true rfl), rfl⟩, e9_of (i := 11 + 4 * k) (by omega) (by omega)⟩) ?_
    refine R_iret rfl ?_
    exact ⟨rfl, rfl⟩
  · refine ⟨s.1 142 7, s.1 142 8, Nat.le_of_ble_eq_true rfl, Nat.le_refl _, Or.inl rfl, ?_⟩
    rw [nxtI_self]
    refine R1 (g' := (1, _, _, _, _, _)) rfl rfl ?_
    refine R_tsw 39 40 rfl (by decide) (by decide) rfl rfl ?_
    refine R1 (g' := (41, _, _, _, _, _)) rfl rfl ?_
    refine R1 (g' := (42, _, _, _, _, _)) rfl rfl ?_
    refine R_call2 (Or.inr (Or.inl ⟨rfl, rfl⟩)) rfl rfl ⟨Nat.le_of_ble_eq_true rfl, Nat.le_of_ble_eq_true rfl⟩ (Nat.le_of_ble_eq_true rfl) ⟨rfl, rfl⟩ (⟨⟨_, _, _, rfl, (Nat.le_of_ble_eq_true rfl), rfl⟩, e9_lengthOf (by omega) (iP k hk)⟩) ?_
    refine R_iret rfl ?_
    exact ⟨rfl, rfl⟩
  · refine ⟨s.1 142 7, s.1 142 8, Nat.le_of_ble_eq_true rfl, Nat.le_refl _, Or.inl rfl, ?_⟩
    rw [nxtI_self]
    refine R1 (g' := (1, _, _, _, _, _)) rfl rfl ?_
    refine R_tsw 45 46 rfl (by decide) (by decide) rfl rfl ?_
    refine R1 (g' := (47, _, _, _, _, _)) rfl rfl ?_
    refine R1 (g' := (48, _, _, _, _, _)) rfl rfl ?_
    refine R1 (g' := (49, _, .int (nI 3) :: _, _, _, _)) rfl rfl ?_
    refine R_call3 (Or.inr (Or.inl ⟨rfl, rfl⟩)) rfl rfl ⟨Nat.le_of_ble_eq_true rfl, Nat.le_of_ble_eq_true rfl⟩ (Nat.le_of_ble_eq_true rfl) ⟨rfl, rfl⟩ (⟨⟨_, _, _, rfl, (Nat.le_of_ble_eq_true rfl), rfl⟩, e9_of (i := 12 + 4 * k) (by omega) (by omega)⟩) ?_
    refine R_iret rfl ?_
    exact ⟨rfl, rfl⟩
  · refine ⟨nI (nNW (qn (s.1 143) (9 + 4 * k)) (qn (s.1 143) (10 + 4 * k)) 0), nI (nNH (qn (s.1 143) (9 + 4 * k)) (qn (s.1 143) (10 + 4 * k)) 0), Nat.le_of_ble_eq_true rfl, Nat.le_refl _, Or.inl rfl, ?_⟩
    refine R1 (g' := (1, _, _, _, _, _)) rfl rfl ?_
    refine R_tsw 52 53 rfl (by decide) (by decide) rfl rfl ?_
    refine R1 (g' := (54, _, _, _, _, _)) rfl rfl ?_
    refine R1 (g' := (55, _, _, _, _, _)) rfl rfl ?_
    refine R1 (g' := (56, _, .int (nI 5) :: _, _, _, _)) rfl rfl ?_
    refine R1 (g' := (57, _, .int (nI 5) :: _, _, _, _)) rfl rfl ?_
    refine R1 (g' := (58, _, .int (nI 0) :: _, _, _, _)) rfl rfl ?_
    refine R_call3 (Or.inr (Or.inl ⟨rfl, rfl⟩)) rfl rfl ⟨Nat.le_of_ble_eq_true rfl, Nat.le_of_ble_eq_true rfl⟩ (Nat.le_of_ble_eq_true rfl) ⟨rfl, rfl⟩ (⟨⟨_, _, _, rfl, (Nat.le_of_ble_eq_true rfl), rfl⟩, e9_wouldPart (by omega) (iP k hk) (by decide)⟩) ?_
    refine R_eq 68 rfl rfl (fun h61 => ?_) (fun h61 => ?_)
    · refine R1 (g' := (69, _, .int (nI 0) :: _, _, _, _)) rfl rfl ?_
      refine R_iret rfl ?_
      exact ⟨o_i (by first | exact (bI_t (bI_n h61)).symm | exact (bI_f (bI_e h61)).symm), rfl⟩
    · refine R1 (g' := (65, _, .int (nI 1) :: _, _, _, _)) rfl rfl ?_
      refine R1 (g' := (69, _, _, _, _, _)) rfl rfl ?_
      refine R_iret rfl ?_
      exact ⟨o_i (by first | exact (bI_t (bI_n h61)).symm | exact (bI_f (bI_e h61)).symm), rfl⟩
  · refine ⟨nI (nNW (qn (s.1 143) (9 + 4 * k)) (qn (s.1 143) (10 + 4 * k)) 1), nI (nNH (qn (s.1 143) (9 + 4 * k)) (qn (s.1 143) (10 + 4 * k)) 1), Nat.le_of_ble_eq_true rfl, Nat.le_refl _, Or.inl rfl, ?_⟩
    refine R1 (g' := (1, _, _, _, _, _)) rfl rfl ?_
    refine R_tsw 52 53 rfl (by decide) (by decide) rfl rfl ?_
    refine R1 (g' := (54, _, _, _, _, _)) rfl rfl ?_
    refine R1 (g' := (55, _, _, _, _, _)) rfl rfl ?_
    refine R1 (g' := (56, _, .int (nI 6) :: _, _, _, _)) rfl rfl ?_
    refine R1 (g' := (57, _, .int (nI 5) :: _, _, _, _)) rfl rfl ?_
    refine R1 (g' := (58, _, .int (nI 1) :: _, _, _, _)) rfl rfl ?_
    refine R_call3 (Or.inr (Or.inl ⟨rfl, rfl⟩)) rfl rfl ⟨Nat.le_of_ble_eq_true rfl, Nat.le_of_ble_eq_true rfl⟩ (Nat.le_of_ble_eq_true rfl) ⟨rfl, rfl⟩ (⟨⟨_, _, _, rfl, (Nat.le_of_ble_eq_true rfl), rfl⟩, e9_wouldPart (by omega) (iP k hk) (by decide)⟩) ?_
    refine R_eq 68 rfl rfl (fun h61 => ?_) (fun h61 => ?_)
    · refine R1 (g' := (69, _, .int (nI 0) :: _, _, _, _)) rfl rfl ?_
      refine R_iret rfl ?_
      exact ⟨o_i (by first | exact (bI_t (bI_n h61)).symm | exact (bI_f (bI_e h61)).symm), rfl⟩
    · refine R1 (g' := (65, _, .int (nI 1) :: _, _, _, _)) rfl rfl ?_
      refine R1 (g' := (69, _, _, _, _, _)) rfl rfl ?_
      refine R_iret rfl ?_
      exact ⟨o_i (by first | exact (bI_t (bI_n h61)).symm | exact (bI_f (bI_e h61)).symm), rfl⟩
  · refine ⟨nI (nNW (qn (s.1 143) (9 + 4 * k)) (qn (s.1 143) (10 + 4 * k)) 2), nI (nNH (qn (s.1 143) (9 + 4 * k)) (qn (s.1 143) (10 + 4 * k)) 2), Nat.le_of_ble_eq_true rfl, Nat.le_refl _, Or.inl rfl, ?_⟩
    refine R1 (g' := (1, _, _, _, _, _)) rfl rfl ?_
    refine R_tsw 52 53 rfl (by decide) (by decide) rfl rfl ?_
    refine R1 (g' := (54, _, _, _, _, _)) rfl rfl ?_
    refine R1 (g' := (55, _, _, _, _, _)) rfl rfl ?_
    refine R1 (g' := (56, _, .int (nI 7) :: _, _, _, _)) rfl rfl ?_
    refine R1 (g' := (57, _, .int (nI 5) :: _, _, _, _)) rfl rfl ?_
    refine R1 (g' := (58, _, .int (nI 2) :: _, _, _, _)) rfl rfl ?_
    refine R_call3 (Or.inr (Or.inl ⟨rfl, rfl⟩)) rfl rfl ⟨Nat.le_of_ble_eq_true rfl, Nat.le_of_ble_eq_true rfl⟩ (Nat.le_of_ble_eq_true rfl) ⟨rfl, rfl⟩ (⟨⟨_, _, _, rfl, (Nat.le_of_ble_eq_true rfl), rfl⟩, e9_wouldPart (by omega) (iP k hk) (by decide)⟩) ?_
    refine R_eq 68 rfl rfl (fun h61 => ?_) (fun h61 => ?_)
    · refine R1 (g' := (69, _, .int (nI 0) :: _, _, _, _)) rfl rfl ?_
      refine R_iret rfl ?_
      exact ⟨o_i (by first | exact (bI_t (bI_n h61)).symm | exact (bI_f (bI_e h61)).symm), rfl⟩
    · refine R1 (g' := (65, _, .int (nI 1) :: _, _, _, _)) rfl rfl ?_
      refine R1 (g' := (69, _, _, _, _, _)) rfl rfl ?_
      refine R_iret rfl ?_
      exact ⟨o_i (by first | exact (bI_t (bI_n h61)).symm | exact (bI_f (bI_e h61)).symm), rfl⟩
  · refine ⟨s.1 142 7, s.1 142 8, Nat.le_of_ble_eq_true rfl, Nat.le_refl _, Or.inl rfl, ?_⟩
    rw [nxtI_self]
    refine R1 (g' := (1, _, _, _, _, _)) rfl rfl ?_
    refine R_tsw 69 70 rfl (by decide) (by decide) rfl rfl ?_
    refine R1 (g' := (71, _, _, _, _, _)) rfl rfl ?_
    refine R1 (g' := (72, _, _, _, _, _)) rfl rfl ?_
    refine R_call2 (Or.inr (Or.inl ⟨rfl, rfl⟩)) rfl rfl ⟨Nat.le_of_ble_eq_true rfl, Nat.le_of_ble_eq_true rfl⟩ (Nat.le_of_ble_eq_true rfl) ⟨rfl, rfl⟩ (⟨⟨_, _, _, rfl, (Nat.le_of_ble_eq_true rfl), rfl⟩, e9_fitsStep hi0 hk⟩) ?_
    refine R_eq 82 rfl rfl (fun h75 => ?_) (fun h75 => ?_)
    · refine R1 (g' := (83, _, .int (nI 0) :: _, _, _, _)) rfl rfl ?_
      refine R_iret rfl ?_
      exact ⟨o_i (by first | exact (bI_t (bI_n h75)).symm | exact (bI_f (bI_e h75)).symm), rfl⟩
    · refine R1 (g' := (79, _, .int (nI 1) :: _, _, _, _)) rfl rfl ?_
      refine R1 (g' := (83, _, _, _, _, _)) rfl rfl ?_
      refine R_iret rfl ?_
      exact ⟨o_i (by first | exact (bI_t (bI_n h75)).symm | exact (bI_f (bI_e h75)).symm), rfl⟩
