theorem e9_wouldPart {s : xs} {k q : Nat} (hk : k < 8) (h : qPart (s.1 143) k) (hq : q ≤ 2) : Ev_X9_wouldPart [.ref 142, .int (nI k), .int (nI q)] (wd s) (.inl (some (.int (bI (nCan (qn (s.1 143) (9 + 4 * k)) (qn (s.1 143) (10 + 4 * k)) q (qn (s.1 143) (11 + 4 * k))))))) (wd (nxt s (nNW (qn (s.1 143) (9 + 4 * k)) (qn (s.1 143) (10 + 4 * k)) q) (nNH (qn (s.1 143) (9 + 4 * k)) (qn (s.1 143) (10 + 4 * k)) q))) := by
  obtain ⟨p1, p2, p3, p4, p5, p6, p7⟩ := id h
  have ha := nRg_iff.mp p4
  have hb := nRg_iff.mp p5
  refine ⟨Nat.le_of_ble_eq_true rfl, Nat.le_refl _, Or.inr ⟨rfl, bI_01 _⟩, ?_⟩
  refine R1 (g' := (1, _, _, _, _, _)) rfl rfl ?_
  refine R1 (g' := (2, _, _, _, _, _)) rfl rfl ?_
  refine R1 (g' := (3, _, _, _, _, _)) rfl rfl ?_
  refine R1 (g' := (4, _, .int (nI 0) :: _, _, _, _)) rfl rfl ?_
  refine R_call3 (Or.inr (Or.inl ⟨rfl, rfl⟩)) rfl rfl ⟨Nat.le_of_ble_eq_true rfl, Nat.le_of_ble_eq_true rfl⟩ (Nat.le_of_ble_eq_true rfl) ⟨rfl, rfl⟩ (⟨⟨_, _, _, rfl, (Nat.le_of_ble_eq_true rfl), rfl⟩, e9_of (i := 9 + 4 * k) (by omega) (by omega)⟩) ?_
  refine R1 (g' := (8, _, _, _, _, _)) rfl rfl ?_
  refine R1 (g' := (9, _, _, _, _, _)) rfl rfl ?_
  refine R1 (g' := (10, _, .int (nI 1) :: _, _, _, _)) rfl rfl ?_
  refine R_call3 (Or.inr (Or.inl ⟨rfl, rfl⟩)) rfl rfl ⟨Nat.le_of_ble_eq_true rfl, Nat.le_of_ble_eq_true rfl⟩ (Nat.le_of_ble_eq_true rfl) ⟨rfl, rfl⟩ (⟨⟨_, _, _, rfl, (Nat.le_of_ble_eq_true rfl), rfl⟩, e9_of (i := 10 + 4 * k) (by omega) (by omega)⟩) ?_
  refine R1 (g' := (14, _, _, _, _, _)) rfl rfl ?_
  refine R1 (g' := (15, _, _, _, _, _)) rfl rfl ?_
  refine R1 (g' := (16, _, _, _, _, _)) rfl rfl ?_
  refine R1 (g' := (17, _, .int (nI 2) :: _, _, _, _)) rfl rfl ?_
  refine R_call3 (Or.inr (Or.inl ⟨rfl, rfl⟩)) rfl rfl ⟨Nat.le_of_ble_eq_true rfl, Nat.le_of_ble_eq_true rfl⟩ (Nat.le_of_ble_eq_true rfl) ⟨rfl, rfl⟩ (⟨⟨_, _, _, rfl, (Nat.le_of_ble_eq_true rfl), rfl⟩, e9_of (i := 11 + 4 * k) (by omega) (by omega)⟩) ?_
  rw [p1, p2, p3]
  refine R_call5 (Or.inr (Or.inl ⟨rfl, rfl⟩)) rfl rfl ⟨Nat.le_of_ble_eq_true rfl, Nat.le_of_ble_eq_true rfl⟩ (Nat.le_of_ble_eq_true rfl) ⟨rfl, rfl⟩ (⟨⟨_, _, _, rfl, (Nat.le_of_ble_eq_true rfl), rfl⟩, e9_would p4 p5 hq (by omega)⟩) ?_
  refine R_iret rfl ?_
  exact ⟨rfl, rfl⟩
def qCl (t c : Nat) : Nat := if t < 20 + c then 20 else t - c
theorem e9_cools {s : xs} {t c : Nat} (h0 : s.1 143 0 = nI t) (ht : t < 2 ^ 20) (hc : c < 2 ^ 20) : Ev_X9_cools [.ref 142, .int (nI c)] (wd s) (.inl none) (wd (setP s 143 (upd (s.1 143) 0 (nI (qCl t c))))) := by
  refine ⟨Nat.le_of_ble_eq_true rfl, Nat.le_refl _, rfl, ?_⟩
  by_cases hct : c ≤ t
  · refine R1 (g' := (1, _, _, _, _, _)) rfl rfl ?_
    refine R_getf rfl rfl (Nat.le_of_ble_eq_true rfl) rfl rfl ?_
    refine R1 (g' := (5, _, .int (nI 0) :: _, _, _, _)) rfl rfl ?_
    refine R1 (g' := (6, _, _, _, _, _)) rfl rfl ?_
    refine R_getf rfl rfl (Nat.le_of_ble_eq_true rfl) rfl rfl ?_
    refine R1 (g' := (10, _, .int (nI 0) :: _, _, _, _)) rfl rfl ?_
    refine R_iald 0 rfl (Nat.le_of_ble_eq_true rfl) rfl (by decide) (by decide) rfl ?_
    rw [h0]
    refine R1 (g' := (12, _, _, _, _, _)) rfl rfl ?_
    refine R1 (g' := (13, _, _, _, _, _)) rfl rfl ?_
    rw [pk_sub hct]
    refine R1 (g' := (15, _, .int (nI 20) :: _, _, _, _)) rfl rfl ?_
    refine R_cgeN 23 (t - c) (20) rfl rfl (rfl) (rfl) (by omega) (by omega) (fun h15 => ?_) (fun h15 => ?_)
    · refine R1 (g' := (24, _, _, _, _, _)) rfl rfl ?_
      refine R_getf rfl rfl (Nat.le_of_ble_eq_true rfl) rfl rfl ?_
      refine R1 (g' := (28, _, .int (nI 0) :: _, _, _, _)) rfl rfl ?_
      refine R_iald 0 rfl (Nat.le_of_ble_eq_true rfl) rfl (by decide) (by decide) rfl ?_
      rw [h0]
      refine R1 (g' := (30, _, _, _, _, _)) rfl rfl ?_
      refine R1 (g' := (31, _, _, _, _, _)) rfl rfl ?_
      try rw [pk_sub hct]
      refine R_iast 0 rfl (Nat.le_of_ble_eq_true rfl) (fun _ => rfl) (by decide) (by decide) rfl ?_
      refine R_vret rfl ?_
      exact ⟨rfl, by unfold qCl; first | rw [if_pos (show t < 20 + c by omega)] | rw [if_neg (show ¬ t < 20 + c by omega)]⟩
    · refine R1 (g' := (20, _, .int (nI 20) :: _, _, _, _)) rfl rfl ?_
      refine R1 (g' := (31, _, _, _, _, _)) rfl rfl ?_
      try rw [pk_sub hct]
      refine R_iast 0 rfl (Nat.le_of_ble_eq_true rfl) (fun _ => rfl) (by decide) (by decide) rfl ?_
      refine R_vret rfl ?_
      exact ⟨rfl, by unfold qCl; first | rw [if_pos (show t < 20 + c by omega)] | rw [if_neg (show ¬ t < 20 + c by omega)]⟩
  · refine R1 (g' := (1, _, _, _, _, _)) rfl rfl ?_
    refine R_getf rfl rfl (Nat.le_of_ble_eq_true rfl) rfl rfl ?_
    refine R1 (g' := (5, _, .int (nI 0) :: _, _, _, _)) rfl rfl ?_
    refine R1 (g' := (6, _, _, _, _, _)) rfl rfl ?_
    refine R_getf rfl rfl (Nat.le_of_ble_eq_true rfl) rfl rfl ?_
    refine R1 (g' := (10, _, .int (nI 0) :: _, _, _, _)) rfl rfl ?_
    refine R_iald 0 rfl (Nat.le_of_ble_eq_true rfl) rfl (by decide) (by decide) rfl ?_
    rw [h0]
    refine R1 (g' := (12, _, _, _, _, _)) rfl rfl ?_
    refine R1 (g' := (13, _, _, _, _, _)) rfl rfl ?_
    refine R1 (g' := (15, _, .int (nI 20) :: _, _, _, _)) rfl rfl ?_
    refine R_cge 23 rfl rfl (fun h => by exact absurd h (Int32.not_le.mpr (Int32.lt_of_lt_of_le (pk_sneg (by omega) (by omega)) (by decide)))) (fun h15 => ?_)
    refine R1 (g' := (20, _, .int (nI 20) :: _, _, _, _)) rfl rfl ?_
    refine R1 (g' := (31, _, _, _, _, _)) rfl rfl ?_
    refine R_iast 0 rfl (Nat.le_of_ble_eq_true rfl) (fun _ => rfl) (by decide) (by decide) rfl ?_
    refine R_vret rfl ?_
    exact ⟨rfl, by unfold qCl; first | rw [if_pos (show t < 20 + c by omega)] | rw [if_neg (show ¬ t < 20 + c by omega)]⟩
theorem e9_hits {s : xs} {k a b t : Nat} (hk : k < 8) (hW : s.1 142 7 = nI a) (hH : s.1 142 8 = nI b) (h0 : s.1 143 0 = nI t) (ht : 32 ≤ t) (ht2 : t < 2 ^ 20) : Ev_X9_hits [.ref 142, .int (nI k)] (wd s) (.inl none) (wd (setP s 143 (qStrike (s.1 143) k a b t 1))) := by
  refine ⟨Nat.le_of_ble_eq_true rfl, Nat.le_refl _, rfl, ?_⟩
  refine R1 (g' := (1, _, _, _, _, _)) rfl rfl ?_
  refine R1 (g' := (2, _, _, _, _, _)) rfl rfl ?_
  refine R1 (g' := (3, _, .int (nI 0) :: _, _, _, _)) rfl rfl ?_
  refine R1 (g' := (4, _, _, _, _, _)) rfl rfl ?_
  refine R_getf rfl rfl (Nat.le_of_ble_eq_true rfl) rfl rfl ?_
  rw [hW]
  refine R_call4 (Or.inr (Or.inl ⟨rfl, rfl⟩)) rfl rfl ⟨Nat.le_of_ble_eq_true rfl, Nat.le_of_ble_eq_true rfl⟩ (Nat.le_of_ble_eq_true rfl) ⟨rfl, rfl⟩ (⟨⟨_, _, _, rfl, (Nat.le_of_ble_eq_true rfl), rfl⟩, e9_put (i := 9 + 4 * k) (by omega) (by omega)⟩) ?_
  refine R1 (g' := (11, _, _, _, _, _)) rfl rfl ?_
  refine R1 (g' := (12, _, _, _, _, _)) rfl rfl ?_
  refine R1 (g' := (13, _, .int (nI 1) :: _, _, _, _)) rfl rfl ?_
  refine R1 (g' := (14, _, _, _, _, _)) rfl rfl ?_
  refine R_getf rfl rfl (Nat.le_of_ble_eq_true rfl) rfl rfl ?_
  rw [setP_ne _ _ (by decide), hH]
  refine R_call4 (Or.inr (Or.inl ⟨rfl, rfl⟩)) rfl rfl ⟨Nat.le_of_ble_eq_true rfl, Nat.le_of_ble_eq_true rfl⟩ (Nat.le_of_ble_eq_true rfl) ⟨rfl, rfl⟩ (⟨⟨_, _, _, rfl, (Nat.le_of_ble_eq_true rfl), rfl⟩, e9_put (i := 10 + 4 * k) (by omega) (by omega)⟩) ?_
  refine R1 (g' := (21, _, _, _, _, _)) rfl rfl ?_
  refine R1 (g' := (22, _, _, _, _, _)) rfl rfl ?_
  refine R1 (g' := (23, _, .int (nI 3) :: _, _, _, _)) rfl rfl ?_
  refine R1 (g' := (24, _, _, _, _, _)) rfl rfl ?_
  refine R1 (g' := (25, _, _, _, _, _)) rfl rfl ?_
  refine R1 (g' := (26, _, .int (nI 3) :: _, _, _, _)) rfl rfl ?_
  refine R_call3 (Or.inr (Or.inl ⟨rfl, rfl⟩)) rfl rfl ⟨Nat.le_of_ble_eq_true rfl, Nat.le_of_ble_eq_true rfl⟩ (Nat.le_of_ble_eq_true rfl) ⟨rfl, rfl⟩ (⟨⟨_, _, _, rfl, (Nat.le_of_ble_eq_true rfl), rfl⟩, e9_of (i := 12 + 4 * k) (by omega) (by omega)⟩) ?_
  refine R1 (g' := (30, _, .int (nI 1) :: _, _, _, _)) rfl rfl ?_
  refine R1 (g' := (31, _, _, _, _, _)) rfl rfl ?_
  refine R_call4 (Or.inr (Or.inl ⟨rfl, rfl⟩)) rfl rfl ⟨Nat.le_of_ble_eq_true rfl, Nat.le_of_ble_eq_true rfl⟩ (Nat.le_of_ble_eq_true rfl) ⟨rfl, rfl⟩ (⟨⟨_, _, _, rfl, (Nat.le_of_ble_eq_true rfl), rfl⟩, e9_put (i := 12 + 4 * k) (by omega) (by omega)⟩) ?_
  refine R1 (g' := (35, _, _, _, _, _)) rfl rfl ?_
  refine R_getf rfl rfl (Nat.le_of_ble_eq_true rfl) rfl rfl ?_
  refine R1 (g' := (39, _, .int (nI 3) :: _, _, _, _)) rfl rfl ?_
  refine R1 (g' := (40, _, _, _, _, _)) rfl rfl ?_
  refine R_iald 3 rfl (Nat.le_of_ble_eq_true rfl) rfl (by decide) (by decide) rfl ?_
  refine R1 (g' := (42, _, .int (nI 1) :: _, _, _, _)) rfl rfl ?_
  refine R1 (g' := (43, _, _, _, _, _)) rfl rfl ?_
  refine R_iast 3 rfl (Nat.le_of_ble_eq_true rfl) (fun _ => rfl) (by decide) (by decide) rfl ?_
  refine R1 (g' := (45, _, _, _, _, _)) rfl rfl ?_
  refine R1 (g' := (47, _, .int (nI 12) :: _, _, _, _)) rfl rfl ?_
  refine R_call2 (Or.inr (Or.inl ⟨rfl, rfl⟩)) rfl rfl ⟨Nat.le_of_ble_eq_true rfl, Nat.le_of_ble_eq_true rfl⟩ (Nat.le_of_ble_eq_true rfl) ⟨rfl, rfl⟩ (⟨⟨_, _, _, rfl, (Nat.le_of_ble_eq_true rfl), rfl⟩, e9_cools (t := t) (c := 12) (by (repeat (first | rw [setP_at] | rw [pk_un (by omega)])); first | done | exact h0) ht2 (by decide)⟩) ?_
  refine R_vret rfl ?_
  refine ⟨rfl, congrArg wd ?_⟩
  simp only [setP_setP, setP_at]
  congr 1
  funext i
  simp only [upd, qStrike, qCl]
  rw [if_neg (show ¬ t < 20 + 12 by omega)]
  by_cases e0 : i = 0
  · subst e0
    repeat (first | rw [if_pos (by omega)] | rw [if_neg (by omega)])
  · by_cases e1 : i = 9 + 4 * k
    · subst e1
      repeat (first | rw [if_pos (by omega)] | rw [if_neg (by omega)])
    · by_cases e2 : i = 10 + 4 * k
      · subst e2
        repeat (first | rw [if_pos (by omega)] | rw [if_neg (by omega)])
      · by_cases e3 : i = 12 + 4 * k
        · subst e3
          repeat (first | rw [if_pos (by omega)] | rw [if_neg (by omega)])
        · by_cases e4 : i = 3
          · subst e4
            repeat (first | rw [if_pos (by omega)] | rw [if_neg (by omega)])
          · repeat (first | rw [if_pos (by omega)] | rw [if_neg (by omega)])
theorem e9_blowsLeft {s : xs} {t : Nat} (h0 : s.1 143 0 = nI t) (ht : t < 2 ^ 20) : Ev_X9_blowsLeft [.ref 142] (wd s) (.inl (some (.int (nI (nBl t))))) (wd s) := by
  refine ⟨Nat.le_of_ble_eq_true rfl, Nat.le_refl _, Or.inl rfl, ?_⟩
  refine R1 (g' := (1, _, _, _, _, _)) rfl rfl ?_
  refine R_getf rfl rfl (Nat.le_of_ble_eq_true rfl) rfl rfl ?_
  refine R1 (g' := (5, _, .int (nI 0) :: _, _, _, _)) rfl rfl ?_
  refine R_iald 0 rfl (Nat.le_of_ble_eq_true rfl) rfl (by decide) (by decide) rfl ?_
  rw [h0]
  refine R1 (g' := (9, _, .int (nI 850) :: _, _, _, _)) rfl rfl ?_
  refine R_cgeN 16 (t) (850) rfl rfl (rfl) (rfl) (by omega) (by omega) (fun h9 => ?_) (fun h9 => ?_)
  · refine R1 (g' := (17, _, _, _, _, _)) rfl rfl ?_
    refine R_getf rfl rfl (Nat.le_of_ble_eq_true rfl) rfl rfl ?_
    refine R1 (g' := (21, _, .int (nI 0) :: _, _, _, _)) rfl rfl ?_
    refine R_iald 0 rfl (Nat.le_of_ble_eq_true rfl) rfl (by decide) (by decide) rfl ?_
    rw [h0]
    refine R1 (g' := (25, _, .int (nI 850) :: _, _, _, _)) rfl rfl ?_
    refine R1 (g' := (26, _, _, _, _, _)) rfl rfl ?_
    rw [pk_sub (by omega)]
    refine R1 (g' := (28, _, .int (nI 12) :: _, _, _, _)) rfl rfl ?_
    refine R_idiv rfl (by decide) ?_
    rw [pk_div (by omega) (by decide) (by decide)]
    refine R1 (g' := (30, _, .int (nI 1) :: _, _, _, _)) rfl rfl ?_
    refine R1 (g' := (31, _, _, _, _, _)) rfl rfl ?_
    try rw [nI_add]
    refine R_iret rfl ?_
    exact ⟨o_i (by unfold nBl; first | (rw [if_pos (show t < 850 by omega)]; done) | (rw [if_neg (show ¬ t < 850 by omega)]; done) | (rw [if_pos (show t < 850 by omega)]; rfl)), rfl⟩
  · refine R1 (g' := (13, _, .int (nI 0) :: _, _, _, _)) rfl rfl ?_
    refine R1 (g' := (31, _, _, _, _, _)) rfl rfl ?_
    try rw [nI_add]
    refine R_iret rfl ?_
    exact ⟨o_i (by unfold nBl; first | (rw [if_pos (show t < 850 by omega)]; done) | (rw [if_neg (show ¬ t < 850 by omega)]; done) | (rw [if_pos (show t < 850 by omega)]; rfl)), rfl⟩
def nxtI (s : xs) (x y : Int32) : xs := put (put s 142 7 x) 142 8 y
theorem nxtI_ne {s : xs} {x y : Int32} {i : Nat} (h : i ≠ 142) : (nxtI s x y).1 i = s.1 i := by rw [nxtI, put_ne _ _ h, put_ne _ _ h]
theorem nxtI_o {s : xs} {x y : Int32} {i : Nat} (h : i ≠ 7) (h2 : i ≠ 8) : (nxtI s x y).1 142 i = s.1 142 i := by simp [nxtI, put_val, h, h2]
theorem nxtI_self (s : xs) : nxtI s (s.1 142 7) (s.1 142 8) = s := by
  have h : ∀ (s : xs) k, put s 142 k (s.1 142 k) = s := by
    intro s k
    unfold put
    rw [show upd (s.1 142) k (s.1 142 k) = s.1 142 from funext fun i => by
      unfold upd
      by_cases h : i = k
      · subst h
        rw [if_pos rfl]
      · rw [if_neg h], setP_self]
  unfold nxtI
  rw [h s 7]
  exact h s 8
theorem nxt_nxtI {s : xs} {x y : Int32} {a b : Nat} : nxt (nxtI s x y) a b = nxtI s (nI a) (nI b) := by
  simp only [nxt, nxtI, put, setP_setP, setP_at]
  congr 1
  funext i
  simp only [upd]
  by_cases h : i = 8
  · rw [if_pos h, if_pos h]
  · rw [if_neg h, if_neg h]
    by_cases h7 : i = 7
    · rw [if_pos h7, if_neg h, if_pos h7]
    · rw [if_neg h7, if_neg h7, if_neg h, if_neg h7]
theorem nBeq_lt {j c : Nat} (h : j < c) : Nat.beq j c = false := by
  cases e : Nat.beq j c
  · rfl
  · exact absurd (Nat.eq_of_beq_eq_true e) (by omega)
theorem canBlow_loop {s : xs} {k a b q v c : Nat} (hk : k < 8) (hV : s.1 143 (11 + 4 * k) = nI v) (hv : v < 2 ^ 31) (hq : q ≤ 2) (hc : c < 2 ^ 20) : ∀ (d j : Nat) (x y : Int32), j + d = c → nLast a b q v j = j → nRg (nIt a b q j).1 = true → nRg (nIt a b q j).2 = true → xRun M_X9_canBlow (fun o1 w1 => o1 = .inl (some (.int (bI (Nat.beq (nLast a b q v c) c)))) ∧ ∃ x y, w1 = wd (nxtI s x y)) (34, [(7, .int (nI j)), (6, .int (nI 1)), (4, .int (nI (nIt a b q j).1)), (5, .int (nI (nIt a b q j).2)), (0, .ref 142), (1, .int (nI k)), (2, .int (nI q)), (3, .int (nI c))], [], wd (nxtI s x y), 0, 0) := by
  intro d
  induction d with
  | zero =>
    intro j x y hj hl hr1 hr2
    have hj : j = c := by omega
    subst hj
    refine R1 (g' := (36, _, _, _, _, _)) rfl rfl ?_
    refine R1 (g' := (37, _, _, _, _, _)) rfl rfl ?_
    refine R_cgeN 80 (j) (j) rfl rfl (rfl) (rfl) (by omega) (by omega) (fun h37 => ?_) (fun h => by omega)
    refine R1 (g' := (82, _, _, _, _, _)) rfl rfl ?_
    refine R_iret rfl ?_
    exact ⟨o_i (bI_t (by rw [hl]; exact Nat.beq_refl j)).symm, x, y, rfl⟩
  | succ d ih =>
    intro j x y hj hl hr1 hr2
    have hV2 : (nxtI s x y).1 143 (11 + 4 * k) = nI v := by rw [nxtI_ne (by decide)]; exact hV
    cases hcan : nCan (nIt a b q j).1 (nIt a b q j).2 q v with
    | true =>
      refine R1 (g' := (36, _, _, _, _, _)) rfl rfl ?_
      refine R1 (g' := (37, _, _, _, _, _)) rfl rfl ?_
      refine R_cgeN 80 (j) (c) rfl rfl (rfl) (rfl) (by omega) (by omega) (fun h => by omega) (fun h37 => ?_)
      refine R1 (g' := (42, _, _, _, _, _)) rfl rfl ?_
      refine R_eq 80 rfl rfl (fun h => by exact absurd h (by decide)) (fun h42 => ?_)
      refine R1 (g' := (46, _, _, _, _, _)) rfl rfl ?_
      refine R1 (g' := (48, _, _, _, _, _)) rfl rfl ?_
      refine R1 (g' := (50, _, _, _, _, _)) rfl rfl ?_
      refine R1 (g' := (51, _, _, _, _, _)) rfl rfl ?_
      refine R1 (g' := (52, _, _, _, _, _)) rfl rfl ?_
      refine R1 (g' := (53, _, _, _, _, _)) rfl rfl ?_
      refine R1 (g' := (54, _, .int (nI 2) :: _, _, _, _)) rfl rfl ?_
      refine R_call3 (Or.inr (Or.inl ⟨rfl, rfl⟩)) rfl rfl ⟨Nat.le_of_ble_eq_true rfl, Nat.le_of_ble_eq_true rfl⟩ (Nat.le_of_ble_eq_true rfl) ⟨rfl, rfl⟩ (⟨⟨_, _, _, rfl, (Nat.le_of_ble_eq_true rfl), rfl⟩, e9_of (i := 11 + 4 * k) (by omega) (by omega)⟩) ?_
      rw [hV2]
      refine R_call5 (Or.inr (Or.inl ⟨rfl, rfl⟩)) rfl rfl ⟨Nat.le_of_ble_eq_true rfl, Nat.le_of_ble_eq_true rfl⟩ (Nat.le_of_ble_eq_true rfl) ⟨rfl, rfl⟩ (⟨⟨_, _, _, rfl, (Nat.le_of_ble_eq_true rfl), rfl⟩, e9_would hr1 hr2 hq hv⟩) ?_
      rw [hcan, nxt_nxtI]
      refine R1 (g' := (62, _, _, _, _, _)) rfl rfl ?_
      refine R1 (g' := (63, _, _, _, _, _)) rfl rfl ?_
      refine R_getf rfl rfl (Nat.le_of_ble_eq_true rfl) rfl rfl ?_
      rw [show (nxtI s (nI (nNW (nIt a b q j).1 (nIt a b q j).2 q)) (nI (nNH (nIt a b q j).1 (nIt a b q j).2 q))).1 142 7 = nI (nIt a b q (j + 1)).1 from by simp [nxtI, put_val, nIt]]
      refine R1 (g' := (68, _, _, _, _, _)) rfl rfl ?_
      refine R1 (g' := (69, _, _, _, _, _)) rfl rfl ?_
      refine R_getf rfl rfl (Nat.le_of_ble_eq_true rfl) rfl rfl ?_
      rw [show (nxtI s (nI (nNW (nIt a b q j).1 (nIt a b q j).2 q)) (nI (nNH (nIt a b q j).1 (nIt a b q j).2 q))).1 142 8 = nI (nIt a b q (j + 1)).2 from by simp [nxtI, put_val, nIt]]
      refine R1 (g' := (74, _, _, _, _, _)) rfl rfl ?_
      refine R1 (g' := (77, _, _, _, _, _)) rfl rfl ?_
      refine R1 (g' := (34, _, _, _, _, _)) rfl rfl ?_
      refine R_lv [(7, .int (nI (j + 1))), (6, .int (nI 1)), (4, .int (nI (nIt a b q (j + 1)).1)), (5, .int (nI (nIt a b q (j + 1)).2)), (0, .ref 142), (1, .int (nI k)), (2, .int (nI q)), (3, .int (nI c))] rfl (List.forall_mem_cons.mpr ⟨by rw [nI_succ j]; rfl, List.forall_mem_cons.mpr ⟨rfl, List.forall_mem_cons.mpr ⟨rfl, List.forall_mem_cons.mpr ⟨rfl, List.forall_mem_cons.mpr ⟨rfl, List.forall_mem_cons.mpr ⟨rfl, List.forall_mem_cons.mpr ⟨rfl, List.forall_mem_cons.mpr ⟨rfl, fun _ h => absurd h List.not_mem_nil⟩⟩⟩⟩⟩⟩⟩⟩) ⟨rfl, rfl⟩ ?_
      exact ih (j + 1) _ _ (by omega) (nLast_go hl hcan) (nCan_rg hcan).1 (nCan_rg hcan).2
    | false =>
      refine R1 (g' := (36, _, _, _, _, _)) rfl rfl ?_
      refine R1 (g' := (37, _, _, _, _, _)) rfl rfl ?_
      refine R_cgeN 80 (j) (c) rfl rfl (rfl) (rfl) (by omega) (by omega) (fun h => by omega) (fun h37 => ?_)
      refine R1 (g' := (42, _, _, _, _, _)) rfl rfl ?_
      refine R_eq 80 rfl rfl (fun h => by exact absurd h (by decide)) (fun h42 => ?_)
      refine R1 (g' := (46, _, _, _, _, _)) rfl rfl ?_
      refine R1 (g' := (48, _, _, _, _, _)) rfl rfl ?_
      refine R1 (g' := (50, _, _, _, _, _)) rfl rfl ?_
      refine R1 (g' := (51, _, _, _, _, _)) rfl rfl ?_
      refine R1 (g' := (52, _, _, _, _, _)) rfl rfl ?_
      refine R1 (g' := (53, _, _, _, _, _)) rfl rfl ?_
      refine R1 (g' := (54, _, .int (nI 2) :: _, _, _, _)) rfl rfl ?_
      refine R_call3 (Or.inr (Or.inl ⟨rfl, rfl⟩)) rfl rfl ⟨Nat.le_of_ble_eq_true rfl, Nat.le_of_ble_eq_true rfl⟩ (Nat.le_of_ble_eq_true rfl) ⟨rfl, rfl⟩ (⟨⟨_, _, _, rfl, (Nat.le_of_ble_eq_true rfl), rfl⟩, e9_of (i := 11 + 4 * k) (by omega) (by omega)⟩) ?_
      rw [hV2]
      refine R_call5 (Or.inr (Or.inl ⟨rfl, rfl⟩)) rfl rfl ⟨Nat.le_of_ble_eq_true rfl, Nat.le_of_ble_eq_true rfl⟩ (Nat.le_of_ble_eq_true rfl) ⟨rfl, rfl⟩ (⟨⟨_, _, _, rfl, (Nat.le_of_ble_eq_true rfl), rfl⟩, e9_would hr1 hr2 hq hv⟩) ?_
      rw [hcan, nxt_nxtI]
      refine R1 (g' := (62, _, _, _, _, _)) rfl rfl ?_
      refine R1 (g' := (63, _, _, _, _, _)) rfl rfl ?_
      refine R_getf rfl rfl (Nat.le_of_ble_eq_true rfl) rfl rfl ?_
      rw [show (nxtI s (nI (nNW (nIt a b q j).1 (nIt a b q j).2 q)) (nI (nNH (nIt a b q j).1 (nIt a b q j).2 q))).1 142 7 = nI (nIt a b q (j + 1)).1 from by simp [nxtI, put_val, nIt]]
      refine R1 (g' := (68, _, _, _, _, _)) rfl rfl ?_
      refine R1 (g' := (69, _, _, _, _, _)) rfl rfl ?_
      refine R_getf rfl rfl (Nat.le_of_ble_eq_true rfl) rfl rfl ?_
      rw [show (nxtI s (nI (nNW (nIt a b q j).1 (nIt a b q j).2 q)) (nI (nNH (nIt a b q j).1 (nIt a b q j).2 q))).1 142 8 = nI (nIt a b q (j + 1)).2 from by simp [nxtI, put_val, nIt]]
      refine R1 (g' := (74, _, _, _, _, _)) rfl rfl ?_
      refine R1 (g' := (77, _, _, _, _, _)) rfl rfl ?_
      refine R1 (g' := (34, _, _, _, _, _)) rfl rfl ?_
      refine R_lv [(7, .int (nI (j + 1))), (6, .int (nI 0)), (4, .int (nI (nIt a b q (j + 1)).1)), (5, .int (nI (nIt a b q (j + 1)).2)), (0, .ref 142), (1, .int (nI k)), (2, .int (nI q)), (3, .int (nI c))] rfl (List.forall_mem_cons.mpr ⟨by rw [nI_succ j]; rfl, List.forall_mem_cons.mpr ⟨rfl, List.forall_mem_cons.mpr ⟨rfl, List.forall_mem_cons.mpr ⟨rfl, List.forall_mem_cons.mpr ⟨rfl, List.forall_mem_cons.mpr ⟨rfl, List.forall_mem_cons.mpr ⟨rfl, List.forall_mem_cons.mpr ⟨rfl, fun _ h => absurd h List.not_mem_nil⟩⟩⟩⟩⟩⟩⟩⟩) ⟨rfl, rfl⟩ ?_
      refine R1 (g' := (36, _, _, _, _, _)) rfl rfl ?_
      refine R1 (g' := (37, _, _, _, _, _)) rfl rfl ?_
      refine R_cgeN 80 (j + 1) (c) rfl rfl (rfl) (rfl) (by omega) (by omega) (fun h37 => ?_) (fun h37 => ?_)
      · refine R1 (g' := (82, _, _, _, _, _)) rfl rfl ?_
        refine R_iret rfl ?_
        exact ⟨o_i (bI_f (by rw [show c = j + 1 + d by omega, nLast_stop hl hcan d]; exact nBeq_lt (by omega))).symm, _, _, rfl⟩
      · refine R1 (g' := (42, _, _, _, _, _)) rfl rfl ?_
        refine R_eq 80 rfl rfl (fun h42 => ?_) (fun h => by exact absurd rfl h)
        refine R1 (g' := (82, _, _, _, _, _)) rfl rfl ?_
        refine R_iret rfl ?_
        exact ⟨o_i (bI_f (by rw [show c = j + 1 + d by omega, nLast_stop hl hcan d]; exact nBeq_lt (by omega))).symm, _, _, rfl⟩
theorem nBl_le (t : Nat) : nBl t ≤ t + 1 := by unfold nBl; split <;> omega
theorem e9_canBlow {s : xs} {k q c t : Nat} (hk : k < 8) (h : qPart (s.1 143) k) (h0 : s.1 143 0 = nI t) (ht : t < 2 ^ 20) (hq : q ≤ 2) (hc1 : 1 ≤ c) (hc : c < 2 ^ 20) : ∃ x y, Ev_X9_canBlow [.ref 142, .int (nI k), .int (nI q), .int (nI c)] (wd s) (.inl (some (.int (bI (decide (c ≤ nBl t) && Nat.beq (nLast (qn (s.1 143) (9 + 4 * k)) (qn (s.1 143) (10 + 4 * k)) q (qn (s.1 143) (11 + 4 * k)) c) c))))) (wd (nxtI s x y)) := by
  obtain ⟨p1, p2, p3, p4, p5, p6, p7⟩ := id h
  have ha := nRg_iff.mp p4
  have hb := nRg_iff.mp p5
  have hbl := nBl_le t
  by_cases hct : c ≤ nBl t
  · have hr : xRun M_X9_canBlow (fun o1 w1 => o1 = .inl (some (.int (bI (Nat.beq (nLast (qn (s.1 143) (9 + 4 * k)) (qn (s.1 143) (10 + 4 * k)) q (qn (s.1 143) (11 + 4 * k)) c) c)))) ∧ ∃ x y, w1 = wd (nxtI s x y)) (0, xarg 0 [.ref 142, .int (nI k), .int (nI q), .int (nI c)], [], wd s, 0, 0) := by
      refine R1 (g' := (1, _, _, _, _, _)) rfl rfl ?_
      refine R1 (g' := (2, _, _, _, _, _)) rfl rfl ?_
      refine R1 (g' := (3, _, .int (nI 0) :: _, _, _, _)) rfl rfl ?_
      refine R_call3 (Or.inr (Or.inl ⟨rfl, rfl⟩)) rfl rfl ⟨Nat.le_of_ble_eq_true rfl, Nat.le_of_ble_eq_true rfl⟩ (Nat.le_of_ble_eq_true rfl) ⟨rfl, rfl⟩ (⟨⟨_, _, _, rfl, (Nat.le_of_ble_eq_true rfl), rfl⟩, e9_of (i := 9 + 4 * k) (by omega) (by omega)⟩) ?_
      rw [p1]
      refine R1 (g' := (8, _, _, _, _, _)) rfl rfl ?_
      refine R1 (g' := (9, _, _, _, _, _)) rfl rfl ?_
      refine R1 (g' := (10, _, _, _, _, _)) rfl rfl ?_
      refine R1 (g' := (11, _, .int (nI 1) :: _, _, _, _)) rfl rfl ?_
      refine R_call3 (Or.inr (Or.inl ⟨rfl, rfl⟩)) rfl rfl ⟨Nat.le_of_ble_eq_true rfl, Nat.le_of_ble_eq_true rfl⟩ (Nat.le_of_ble_eq_true rfl) ⟨rfl, rfl⟩ (⟨⟨_, _, _, rfl, (Nat.le_of_ble_eq_true rfl), rfl⟩, e9_of (i := 10 + 4 * k) (by omega) (by omega)⟩) ?_
      rw [p2]
      refine R1 (g' := (16, _, _, _, _, _)) rfl rfl ?_
      refine R1 (g' := (17, _, _, _, _, _)) rfl rfl ?_
      refine R_call1 (Or.inr (Or.inl ⟨rfl, rfl⟩)) rfl rfl ⟨Nat.le_of_ble_eq_true rfl, Nat.le_of_ble_eq_true rfl⟩ (Nat.le_of_ble_eq_true rfl) ⟨rfl, rfl⟩ (⟨⟨_, _, _, rfl, (Nat.le_of_ble_eq_true rfl), rfl⟩, e9_blowsLeft h0 ht⟩) ?_
      refine R1 (g' := (21, _, _, _, _, _)) rfl rfl ?_
      refine R_cltN 28 (nBl t) (c) rfl rfl (rfl) (rfl) (by omega) (by omega) (fun h => by omega) (fun h21 => ?_)
      refine R1 (g' := (25, _, .int (nI 1) :: _, _, _, _)) rfl rfl ?_
      refine R1 (g' := (29, _, _, _, _, _)) rfl rfl ?_
      refine R1 (g' := (31, _, _, _, _, _)) rfl rfl ?_
      refine R1 (g' := (32, _, .int (nI 0) :: _, _, _, _)) rfl rfl ?_
      refine R1 (g' := (34, _, _, _, _, _)) rfl rfl ?_
      refine R_lv [(7, .int (nI 0)), (6, .int (nI 1)), (4, .int (nI (qn (s.1 143) (9 + 4 * k)))), (5, .int (nI (qn (s.1 143) (10 + 4 * k)))), (0, .ref 142), (1, .int (nI k)), (2, .int (nI q)), (3, .int (nI c))] rfl (List.forall_mem_cons.mpr ⟨rfl, List.forall_mem_cons.mpr ⟨rfl, List.forall_mem_cons.mpr ⟨rfl, List.forall_mem_cons.mpr ⟨rfl, List.forall_mem_cons.mpr ⟨rfl, List.forall_mem_cons.mpr ⟨rfl, List.forall_mem_cons.mpr ⟨rfl, List.forall_mem_cons.mpr ⟨rfl, fun _ h => absurd h List.not_mem_nil⟩⟩⟩⟩⟩⟩⟩⟩) ⟨rfl, rfl⟩ ?_
      rw [show wd s = wd (nxtI s (s.1 142 7) (s.1 142 8)) from by rw [nxtI_self]]
      exact canBlow_loop hk p3 (by omega) hq hc c 0 _ _ (Nat.zero_add _) rfl p4 p5
    obtain ⟨o1, w1, ⟨rfl, x, y, rfl⟩, hr2⟩ := xRun_ex hr
    rw [decide_eq_true hct, Bool.true_and]
    exact ⟨x, y, Nat.le_of_ble_eq_true rfl, Nat.le_refl _, Or.inr ⟨rfl, bI_01 _⟩, hr2⟩
  · refine ⟨s.1 142 7, s.1 142 8, ?_⟩
    rw [nxtI_self, decide_eq_false hct, Bool.false_and]
    refine ⟨Nat.le_of_ble_eq_true rfl, Nat.le_refl _, Or.inr ⟨rfl, bI_01 _⟩, ?_⟩
    refine R1 (g' := (1, _, _, _, _, _)) rfl rfl ?_
    refine R1 (g' := (2, _, _, _, _, _)) rfl rfl ?_
    refine R1 (g' := (3, _, .int (nI 0) :: _, _, _, _)) rfl rfl ?_
    refine R_call3 (Or.inr (Or.inl ⟨rfl, rfl⟩)) rfl rfl ⟨Nat.le_of_ble_eq_true rfl, Nat.le_of_ble_eq_true rfl⟩ (Nat.le_of_ble_eq_true rfl) ⟨rfl, rfl⟩ (⟨⟨_, _, _, rfl, (Nat.le_of_ble_eq_true rfl), rfl⟩, e9_of (i := 9 + 4 * k) (by omega) (by omega)⟩) ?_
    rw [p1]
    refine R1 (g' := (8, _, _, _, _, _)) rfl rfl ?_
    refine R1 (g' := (9, _, _, _, _, _)) rfl rfl ?_
    refine R1 (g' := (10, _, _, _, _, _)) rfl rfl ?_
    refine R1 (g' := (11, _, .int (nI 1) :: _, _, _, _)) rfl rfl ?_
    refine R_call3 (Or.inr (Or.inl ⟨rfl, rfl⟩)) rfl rfl ⟨Nat.le_of_ble_eq_true rfl, Nat.le_of_ble_eq_true rfl⟩ (Nat.le_of_ble_eq_true rfl) ⟨rfl, rfl⟩ (⟨⟨_, _, _, rfl, (Nat.le_of_ble_eq_true rfl), rfl⟩, e9_of (i := 10 + 4 * k) (by omega) (by omega)⟩) ?_
    rw [p2]
    refine R1 (g' := (16, _, _, _, _, _)) rfl rfl ?_
    refine R1 (g' := (17, _, _, _, _, _)) rfl rfl ?_
    refine R_call1 (Or.inr (Or.inl ⟨rfl, rfl⟩)) rfl rfl ⟨Nat.le_of_ble_eq_true rfl, Nat.le_of_ble_eq_true rfl⟩ (Nat.le_of_ble_eq_true rfl) ⟨rfl, rfl⟩ (⟨⟨_, _, _, rfl, (Nat.le_of_ble_eq_true rfl), rfl⟩, e9_blowsLeft h0 ht⟩) ?_
    refine R1 (g' := (21, _, _, _, _, _)) rfl rfl ?_
    refine R_cltN 28 (nBl t) (c) rfl rfl (rfl) (rfl) (by omega) (by omega) (fun h21 => ?_) (fun h => by omega)
    refine R1 (g' := (29, _, .int (nI 0) :: _, _, _, _)) rfl rfl ?_
    refine R1 (g' := (31, _, _, _, _, _)) rfl rfl ?_
    refine R1 (g' := (32, _, .int (nI 0) :: _, _, _, _)) rfl rfl ?_
    refine R1 (g' := (34, _, _, _, _, _)) rfl rfl ?_
    refine R_lv [(7, .int (nI 0)), (6, .int (nI 0)), (4, .int (nI (qn (s.1 143) (9 + 4 * k)))), (5, .int (nI (qn (s.1 143) (10 + 4 * k)))), (0, .ref 142), (1, .int (nI k)), (2, .int (nI q)), (3, .int (nI c))] rfl (List.forall_mem_cons.mpr ⟨rfl, List.forall_mem_cons.mpr ⟨rfl, List.forall_mem_cons.mpr ⟨rfl, List.forall_mem_cons.mpr ⟨rfl, List.forall_mem_cons.mpr ⟨rfl, List.forall_mem_cons.mpr ⟨rfl, List.forall_mem_cons.mpr ⟨rfl, List.forall_mem_cons.mpr ⟨rfl, fun _ h => absurd h List.not_mem_nil⟩⟩⟩⟩⟩⟩⟩⟩) ⟨rfl, rfl⟩ ?_
    refine R1 (g' := (36, _, _, _, _, _)) rfl rfl ?_
    refine R1 (g' := (37, _, _, _, _, _)) rfl rfl ?_
    refine R_cgeN 80 (0) (c) rfl rfl (rfl) (rfl) (by omega) (by omega) (fun h37 => ?_) (fun h37 => ?_)
    · refine R1 (g' := (82, _, _, _, _, _)) rfl rfl ?_
      refine R_iret rfl ?_
      exact ⟨rfl, rfl⟩
    · refine R1 (g' := (42, _, _, _, _, _)) rfl rfl ?_
      refine R_eq 80 rfl rfl (fun h42 => ?_) (fun h => by exact absurd rfl h)
      refine R1 (g' := (82, _, _, _, _, _)) rfl rfl ?_
      refine R_iret rfl ?_
      exact ⟨rfl, rfl⟩
