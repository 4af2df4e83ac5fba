/-! the digest, apart from all code -/
def hf (f : Nat → Int32) (h : Int64) : Nat → Int64
  | 0 => h
  | n + 1 => 31 * hf f h n + (f n).toInt64
def hpt (Q : Nat → Int32) (h : Int64) : Nat → Int64
  | 0 => h
  | k + 1 => hf (qPartOf Q k) (hpt Q h k) 9
def hst (Q : Nat → Int32) (h : Int64) : Nat → Int64
  | 0 => h
  | k + 1 => hf (fun w => Q (41 + 4 * k + w)) (hst Q h k) 4
theorem hf_add {f : Nat → Int32} {h : Int64} {a : Nat} : ∀ b, hf f h (a + b) = hf (fun j => f (a + j)) (hf f h a) b
  | 0 => rfl
  | b + 1 => by
    show 31 * hf f h (a + b) + (f (a + b)).toInt64 = _
    rw [hf_add b]
    rfl
theorem hf_cg {f g : Nat → Int32} {h : Int64} : ∀ n, (∀ j, j < n → f j = g j) → hf f h n = hf g h n
  | 0, _ => rfl
  | n + 1, k => by
    rw [hf, hf, hf_cg n (fun j z => k j (by omega)), k n (by omega)]
theorem hpt_eq {Q : Nat → Int32} {h : Int64} : ∀ n, hf (fun j => qPartOf Q (j / 9) (j % 9)) h (9 * n) = hpt Q h n
  | 0 => rfl
  | n + 1 => by
    rw [show 9 * (n + 1) = 9 * n + 9 by omega, hf_add, hpt_eq n, hpt]
    refine hf_cg 9 (fun j hj => ?_)
    rw [show (9 * n + j) / 9 = n by omega, show (9 * n + j) % 9 = j by omega]
theorem hst_eq {Q : Nat → Int32} {h : Int64} : ∀ n, hf (fun j => Q (41 + j)) h (4 * n) = hst Q h n
  | 0 => rfl
  | n + 1 => by
    rw [show 4 * (n + 1) = 4 * n + 4 by omega, hf_add, hst_eq n, hst]
    refine hf_cg 4 (fun j hj => ?_)
    rw [show 41 + (4 * n + j) = 41 + 4 * n + j by omega]
/-! the class -/
theorem hop_in {s : xs} {Q : Nat → Int32} {k : Nat} {h h0 : Int64} {Po : xO → xw → Prop} (hp : pRel s 1 Q) (hi : pInv Q) (hk : k < qn Q 7) (kk : ∀ f, xRun M_X8_hashOfParts Po (55, [(5, .int (nI k)), (3, .long (hf (qPartOf Q k) h 9)), (0, .ref 0), (1, .long h0)], [], wd (setP s 11 f), 0, 0)) : ∀ (d w : Nat) (f : Nat → Int32), w + d = 9 → xRun M_X8_hashOfParts Po (23, [(6, .int (nI w)), (5, .int (nI k)), (3, .long (hf (qPartOf Q k) h w)), (0, .ref 0), (1, .long h0)], [], wd (setP s 11 f), 0, 0) := by
  intro d
  induction d with
  | zero =>
    intro w f hd
    obtain rfl : w = 9 := by omega
    refine R1 (g' := (25, _, _, _, _, _)) rfl rfl ?_
    refine R1 (g' := (27, _, .int (nI 8) :: _, _, _, _)) rfl rfl ?_
    refine R_cgtN 55 (9) (8) rfl rfl (rfl) (rfl) (by omega) (by omega) (fun h27 => ?_) (fun h => by omega)
    refine R_lv [(5, .int (nI k)), (3, .long (hf (qPartOf Q k) h 9)), (0, .ref 0), (1, .long h0)] rfl (List.forall_mem_cons.mpr ⟨rfl, List.forall_mem_cons.mpr ⟨rfl, List.forall_mem_cons.mpr ⟨rfl, List.forall_mem_cons.mpr ⟨rfl, fun _ h => absurd h List.not_mem_nil⟩⟩⟩⟩) ⟨rfl, rfl⟩ ?_
    exact kk f
  | succ d ih =>
    intro w f hd
    obtain ⟨f2, hop⟩ := e_ofPart (s := setP s 11 f) xsta_1 (pRel_fr2 (fun i a b c => setP_ne _ _ c) hp) hi hk (show w < 9 by omega)
    rw [setP_setP] at hop
    have hih := ih (w + 1) f2 (by omega)
    refine R1 (g' := (25, _, _, _, _, _)) rfl rfl ?_
    refine R1 (g' := (27, _, .int (nI 8) :: _, _, _, _)) rfl rfl ?_
    refine R_cgtN 55 (w) (8) rfl rfl (rfl) (rfl) (by omega) (by omega) (fun h => by omega) (fun h27 => ?_)
    refine R1 (g' := (33, _, _, _, _, _)) rfl rfl ?_
    refine R1 (g' := (34, _, _, _, _, _)) rfl rfl ?_
    refine R1 (g' := (35, _, _, _, _, _)) rfl rfl ?_
    refine R1 (g' := (36, _, _, _, _, _)) rfl rfl ?_
    refine R_getf rfl rfl (Nat.le_of_ble_eq_true rfl) rfl rfl ?_
    refine R1 (g' := (41, _, _, _, _, _)) rfl rfl ?_
    refine R1 (g' := (43, _, _, _, _, _)) rfl rfl ?_
    refine R_call3 (Or.inr (Or.inl ⟨rfl, rfl⟩)) rfl rfl ⟨Nat.le_of_ble_eq_true rfl, Nat.le_of_ble_eq_true rfl⟩ (Nat.le_of_ble_eq_true rfl) ⟨rfl, rfl⟩ (⟨⟨_, _, _, rfl, (Nat.le_of_ble_eq_true rfl), rfl⟩, hop⟩) ?_
    refine R1 (g' := (47, _, _, _, _, _)) rfl rfl ?_
    refine R1 (g' := (48, _, _, _, _, _)) rfl rfl ?_
    refine R1 (g' := (49, _, _, _, _, _)) rfl rfl ?_
    refine R1 (g' := (52, _, _, _, _, _)) rfl rfl ?_
    refine R1 (g' := (23, _, _, _, _, _)) rfl rfl ?_
    refine R_lv [(6, .int (nI (w + 1))), (5, .int (nI k)), (3, .long (hf (qPartOf Q k) h (w + 1))), (0, .ref 0), (1, .long h0)] rfl (List.forall_mem_cons.mpr ⟨by rw [nI_succ w]; rfl, List.forall_mem_cons.mpr ⟨rfl, List.forall_mem_cons.mpr ⟨rfl, List.forall_mem_cons.mpr ⟨rfl, List.forall_mem_cons.mpr ⟨rfl, fun _ h => absurd h List.not_mem_nil⟩⟩⟩⟩⟩) ⟨rfl, rfl⟩ ?_
    exact hih
theorem hop_out {s : xs} {Q : Nat → Int32} {h0 : Int64} (hp : pRel s 1 Q) (hi : pInv Q) : ∀ (d k : Nat) (f : Nat → Int32), k + d = qn Q 7 → xRun M_X8_hashOfParts (fun o1 w1 => ∃ f, o1 = .inl (some (.long (hpt Q h0 (qn Q 7)))) ∧ w1 = wd (setP s 11 f)) (5, [(5, .int (nI k)), (3, .long (hpt Q h0 k)), (0, .ref 0), (1, .long h0)], [], wd (setP s 11 f), 0, 0) := by
  have n8 := hi.1.2.2
  have i7 : ∀ f, (setP s 11 f).1 2 0 = nI (qn Q 7) := fun f => by
    rw [setP_ne _ _ (by decide)]
    exact hp.1.1.1.trans hi.1.1
  intro d
  induction d with
  | zero =>
    intro k f hd
    obtain rfl : k = qn Q 7 := by omega
    refine R1 (g' := (7, _, _, _, _, _)) rfl rfl ?_
    refine R1 (g' := (8, _, _, _, _, _)) rfl rfl ?_
    refine R_getf rfl rfl (Nat.le_of_ble_eq_true rfl) rfl rfl ?_
    refine R_getf rfl rfl (Nat.le_of_ble_eq_true rfl) rfl rfl ?_
    refine R_getf rfl rfl (Nat.le_of_ble_eq_true rfl) rfl rfl ?_
    rw [i7]
    refine R_cgeN 61 (qn Q 7) (qn Q 7) rfl rfl (rfl) (rfl) (by omega) (by omega) (fun h17 => ?_) (fun h => by omega)
    refine R1 (g' := (62, _, _, _, _, _)) rfl rfl ?_
    refine R_lret rfl ?_
    exact ⟨f, rfl, rfl⟩
  | succ d ih =>
    intro k f hd
    have hin := hop_in (k := k) (h := hpt Q h0 k) (h0 := h0) (Po := fun o1 w1 => ∃ f, o1 = .inl (some (.long (hpt Q h0 (qn Q 7)))) ∧ w1 = wd (setP s 11 f)) hp hi (by omega) (fun f => by
      refine R1 (g' := (58, _, _, _, _, _)) rfl rfl ?_
      refine R1 (g' := (5, _, _, _, _, _)) rfl rfl ?_
      refine R_lv [(5, .int (nI (k + 1))), (3, .long (hpt Q h0 (k + 1))), (0, .ref 0), (1, .long h0)] rfl (List.forall_mem_cons.mpr ⟨by rw [nI_succ k]; rfl, List.forall_mem_cons.mpr ⟨rfl, List.forall_mem_cons.mpr ⟨rfl, List.forall_mem_cons.mpr ⟨rfl, fun _ h => absurd h List.not_mem_nil⟩⟩⟩⟩) ⟨rfl, rfl⟩ ?_
      exact ih (k + 1) f (by omega)) 9 0 f rfl
    refine R1 (g' := (7, _, _, _, _, _)) rfl rfl ?_
    refine R1 (g' := (8, _, _, _, _, _)) rfl rfl ?_
    refine R_getf rfl rfl (Nat.le_of_ble_eq_true rfl) rfl rfl ?_
    refine R_getf rfl rfl (Nat.le_of_ble_eq_true rfl) rfl rfl ?_
    refine R_getf rfl rfl (Nat.le_of_ble_eq_true rfl) rfl rfl ?_
    rw [i7]
    refine R_cgeN 61 (k) (qn Q 7) rfl rfl (rfl) (rfl) (by omega) (by omega) (fun h => by omega) (fun h17 => ?_)
    refine R1 (g' := (21, _, .int (nI 0) :: _, _, _, _)) rfl rfl ?_
    refine R1 (g' := (23, _, _, _, _, _)) rfl rfl ?_
    refine R_lv [(6, .int (nI 0)), (5, .int (nI k)), (3, .long (hpt Q h0 k)), (0, .ref 0), (1, .long h0)] rfl (List.forall_mem_cons.mpr ⟨rfl, List.forall_mem_cons.mpr ⟨rfl, List.forall_mem_cons.mpr ⟨rfl, List.forall_mem_cons.mpr ⟨rfl, List.forall_mem_cons.mpr ⟨rfl, fun _ h => absurd h List.not_mem_nil⟩⟩⟩⟩⟩) ⟨rfl, rfl⟩ ?_
    exact hin
theorem e8_hop {s : xs} {Q : Nat → Int32} {h0 : Int64} (hp : pRel s 1 Q) (hi : pInv Q) : ∃ f, Ev_X8_hashOfParts [.ref 0, .long h0] (wd s) (.inl (some (.long (hpt Q h0 (qn Q 7))))) (wd (setP s 11 f)) := by
  have hl := hop_out (h0 := h0) hp hi (qn Q 7) 0 (s.1 11) (Nat.zero_add _)
  rw [setP_self] at hl
  have hrun : xRun M_X8_hashOfParts (fun o1 w1 => ∃ f, o1 = .inl (some (.long (hpt Q h0 (qn Q 7)))) ∧ w1 = wd (setP s 11 f)) (0, xarg 0 [.ref 0, .long h0], [], wd s, 0, 0) := by
    refine R1 (g' := (1, _, _, _, _, _)) rfl rfl ?_
    refine R1 (g' := (2, _, _, _, _, _)) rfl rfl ?_
    refine R1 (g' := (3, _, .int (nI 0) :: _, _, _, _)) rfl rfl ?_
    refine R1 (g' := (5, _, _, _, _, _)) rfl rfl ?_
    refine R_lv [(5, .int (nI 0)), (3, .long h0), (0, .ref 0), (1, .long h0)] rfl (List.forall_mem_cons.mpr ⟨rfl, List.forall_mem_cons.mpr ⟨rfl, List.forall_mem_cons.mpr ⟨rfl, List.forall_mem_cons.mpr ⟨rfl, fun _ h => absurd h List.not_mem_nil⟩⟩⟩⟩) ⟨rfl, rfl⟩ ?_
    exact hl
  obtain ⟨o1, w1, ⟨f, rfl, rfl⟩, hev⟩ := xEv_ex (ret := some .long) (Nat.le_of_ble_eq_true rfl) (fun o w z => by
    obtain ⟨f, rfl, rfl⟩ := z
    exact ⟨Nat.le_refl _, rfl⟩) hrun
  exact ⟨f, hev⟩
theorem hos_in {s : xs} {Q : Nat → Int32} {k : Nat} {h h0 : Int64} {Po : xO → xw → Prop} (hp : pRel s 1 Q) (hk : k < 8) (kk : xRun M_X8_hashOfSteps Po (57, [(5, .int (nI k)), (3, .long (hf (fun w => Q (41 + 4 * k + w)) h 4)), (0, .ref 0), (1, .long h0)], [], wd s, 0, 0)) : ∀ (d w : Nat), w + d = 4 → xRun M_X8_hashOfSteps Po (23, [(6, .int (nI w)), (5, .int (nI k)), (3, .long (hf (fun w => Q (41 + 4 * k + w)) h w)), (0, .ref 0), (1, .long h0)], [], wd s, 0, 0) := by
  intro d
  induction d with
  | zero =>
    intro w hd
    obtain rfl : w = 4 := by omega
    refine R1 (g' := (25, _, _, _, _, _)) rfl rfl ?_
    refine R1 (g' := (26, _, .int (nI 3) :: _, _, _, _)) rfl rfl ?_
    refine R_cgtN 57 (4) (3) rfl rfl (rfl) (rfl) (by omega) (by omega) (fun h26 => ?_) (fun h => by omega)
    refine R_lv [(5, .int (nI k)), (3, .long (hf (fun w => Q (41 + 4 * k + w)) h 4)), (0, .ref 0), (1, .long h0)] rfl (List.forall_mem_cons.mpr ⟨rfl, List.forall_mem_cons.mpr ⟨rfl, List.forall_mem_cons.mpr ⟨rfl, List.forall_mem_cons.mpr ⟨rfl, fun _ h => absurd h List.not_mem_nil⟩⟩⟩⟩) ⟨rfl, rfl⟩ ?_
    exact kk
  | succ d ih =>
    intro w hd
    have hos := e_ofStep (s := s) xsta_1.2.2.2 hk (show w < 4 by omega)
    rw [sStep_eq hp.2 hk (by omega)] at hos
    have hih := ih (w + 1) (by omega)
    refine R1 (g' := (25, _, _, _, _, _)) rfl rfl ?_
    refine R1 (g' := (26, _, .int (nI 3) :: _, _, _, _)) rfl rfl ?_
    refine R_cgtN 57 (w) (3) rfl rfl (rfl) (rfl) (by omega) (by omega) (fun h => by omega) (fun h26 => ?_)
    refine R1 (g' := (32, _, _, _, _, _)) rfl rfl ?_
    refine R1 (g' := (33, _, _, _, _, _)) rfl rfl ?_
    refine R1 (g' := (34, _, _, _, _, _)) rfl rfl ?_
    refine R1 (g' := (35, _, _, _, _, _)) rfl rfl ?_
    refine R_getf rfl rfl (Nat.le_of_ble_eq_true rfl) rfl rfl ?_
    refine R_getf rfl rfl (Nat.le_of_ble_eq_true rfl) rfl rfl ?_
    refine R1 (g' := (43, _, _, _, _, _)) rfl rfl ?_
    refine R1 (g' := (45, _, _, _, _, _)) rfl rfl ?_
    refine R_call3 (Or.inr (Or.inl ⟨rfl, rfl⟩)) rfl rfl ⟨Nat.le_of_ble_eq_true rfl, Nat.le_of_ble_eq_true rfl⟩ (Nat.le_of_ble_eq_true rfl) ⟨rfl, rfl⟩ (⟨⟨_, _, _, rfl, (Nat.le_of_ble_eq_true rfl), rfl⟩, hos⟩) ?_
    refine R1 (g' := (49, _, _, _, _, _)) rfl rfl ?_
    refine R1 (g' := (50, _, _, _, _, _)) rfl rfl ?_
    refine R1 (g' := (51, _, _, _, _, _)) rfl rfl ?_
    refine R1 (g' := (54, _, _, _, _, _)) rfl rfl ?_
    refine R1 (g' := (23, _, _, _, _, _)) rfl rfl ?_
    refine R_lv [(6, .int (nI (w + 1))), (5, .int (nI k)), (3, .long (hf (fun w => Q (41 + 4 * k + w)) h (w + 1))), (0, .ref 0), (1, .long h0)] rfl (List.forall_mem_cons.mpr ⟨by rw [nI_succ w]; rfl, List.forall_mem_cons.mpr ⟨rfl, List.forall_mem_cons.mpr ⟨rfl, List.forall_mem_cons.mpr ⟨rfl, List.forall_mem_cons.mpr ⟨rfl, fun _ h => absurd h List.not_mem_nil⟩⟩⟩⟩⟩) ⟨rfl, rfl⟩ ?_
    exact hih
theorem hos_out {s : xs} {Q : Nat → Int32} {h0 : Int64} (hp : pRel s 1 Q) (hi : pInv Q) : ∀ (d k : Nat), k + d = qn Q 8 → xRun M_X8_hashOfSteps (fun o1 w1 => o1 = .inl (some (.long (hst Q h0 (qn Q 8)))) ∧ w1 = wd s) (5, [(5, .int (nI k)), (3, .long (hst Q h0 k)), (0, .ref 0), (1, .long h0)], [], wd s, 0, 0) := by
  have m8 := hi.2.1.2
  have i8 : s.1 12 0 = nI (qn Q 8) := hp.2.1.trans hi.2.1.1
  intro d
  induction d with
  | zero =>
    intro k hd
    obtain rfl : k = qn Q 8 := by omega
    refine R1 (g' := (7, _, _, _, _, _)) rfl rfl ?_
    refine R1 (g' := (8, _, _, _, _, _)) rfl rfl ?_
    refine R_getf rfl rfl (Nat.le_of_ble_eq_true rfl) rfl rfl ?_
    refine R_getf rfl rfl (Nat.le_of_ble_eq_true rfl) rfl rfl ?_
    refine R_getf rfl rfl (Nat.le_of_ble_eq_true rfl) rfl rfl ?_
    refine R_cgeN 63 (qn Q 8) (qn Q 8) rfl rfl (rfl) (i8) (by omega) (by omega) (fun h17 => ?_) (fun h => by omega)
    refine R1 (g' := (64, _, _, _, _, _)) rfl rfl ?_
    refine R_lret rfl ?_
    exact ⟨rfl, rfl⟩
  | succ d ih =>
    intro k hd
    have hin := hos_in (k := k) (h := hst Q h0 k) (h0 := h0) (Po := fun o1 w1 => o1 = .inl (some (.long (hst Q h0 (qn Q 8)))) ∧ w1 = wd s) hp (by omega) (by
      refine R1 (g' := (60, _, _, _, _, _)) rfl rfl ?_
      refine R1 (g' := (5, _, _, _, _, _)) rfl rfl ?_
      refine R_lv [(5, .int (nI (k + 1))), (3, .long (hst Q h0 (k + 1))), (0, .ref 0), (1, .long h0)] rfl (List.forall_mem_cons.mpr ⟨by rw [nI_succ k]; rfl, List.forall_mem_cons.mpr ⟨rfl, List.forall_mem_cons.mpr ⟨rfl, List.forall_mem_cons.mpr ⟨rfl, fun _ h => absurd h List.not_mem_nil⟩⟩⟩⟩) ⟨rfl, rfl⟩ ?_
      exact ih (k + 1) (by omega)) 4 0 rfl
    refine R1 (g' := (7, _, _, _, _, _)) rfl rfl ?_
    refine R1 (g' := (8, _, _, _, _, _)) rfl rfl ?_
    refine R_getf rfl rfl (Nat.le_of_ble_eq_true rfl) rfl rfl ?_
    refine R_getf rfl rfl (Nat.le_of_ble_eq_true rfl) rfl rfl ?_
    refine R_getf rfl rfl (Nat.le_of_ble_eq_true rfl) rfl rfl ?_
    refine R_cgeN 63 (k) (qn Q 8) rfl rfl (rfl) (i8) (by omega) (by omega) (fun h => by omega) (fun h17 => ?_)
    refine R1 (g' := (21, _, .int (nI 0) :: _, _, _, _)) rfl rfl ?_
    refine R1 (g' := (23, _, _, _, _, _)) rfl rfl ?_
    refine R_lv [(6, .int (nI 0)), (5, .int (nI k)), (3, .long (hst Q h0 k)), (0, .ref 0), (1, .long h0)] rfl (List.forall_mem_cons.mpr ⟨rfl, List.forall_mem_cons.mpr ⟨rfl, List.forall_mem_cons.mpr ⟨rfl, List.forall_mem_cons.mpr ⟨rfl, List.forall_mem_cons.mpr ⟨rfl, fun _ h => absurd h List.not_mem_nil⟩⟩⟩⟩⟩) ⟨rfl, rfl⟩ ?_
    exact hin
theorem e8_hos {s : xs} {Q : Nat → Int32} {h0 : Int64} (hp : pRel s 1 Q) (hi : pInv Q) : Ev_X8_hashOfSteps [.ref 0, .long h0] (wd s) (.inl (some (.long (hst Q h0 (qn Q 8))))) (wd s) := by
  have hl := hos_out (h0 := h0) hp hi (qn Q 8) 0 (Nat.zero_add _)
  refine ⟨Nat.le_of_ble_eq_true rfl, Nat.le_refl _, rfl, ?_⟩
  refine R1 (g' := (1, _, _, _, _, _)) rfl rfl ?_
  refine R1 (g' := (2, _, _, _, _, _)) rfl rfl ?_
  refine R1 (g' := (3, _, .int (nI 0) :: _, _, _, _)) rfl rfl ?_
  refine R1 (g' := (5, _, _, _, _, _)) rfl rfl ?_
  refine R_lv [(5, .int (nI 0)), (3, .long h0), (0, .ref 0), (1, .long h0)] rfl (List.forall_mem_cons.mpr ⟨rfl, List.forall_mem_cons.mpr ⟨rfl, List.forall_mem_cons.mpr ⟨rfl, List.forall_mem_cons.mpr ⟨rfl, fun _ h => absurd h List.not_mem_nil⟩⟩⟩⟩) ⟨rfl, rfl⟩ ?_
  exact hl
theorem dg8_loop {s : xs} {Q : Nat → Int32} {h : Int64} {Po : xO → xw → Prop} (hp : pRel s 1 Q) (hi : pInv Q) (kk : xRun M_X8_digest Po (43, [(3, .int (nI 12)), (1, .long (hf (qOf Q) h 12)), (0, .ref 0)], [], wd s, 0, 0)) : ∀ (d w : Nat), w + d = 12 → xRun M_X8_digest Po (15, [(3, .int (nI w)), (1, .long (hf (qOf Q) h w)), (0, .ref 0)], [], wd s, 0, 0) := by
  intro d
  induction d with
  | zero =>
    intro w hd
    obtain rfl : w = 12 := by omega
    refine R1 (g' := (16, _, _, _, _, _)) rfl rfl ?_
    refine R1 (g' := (18, _, .int (nI 11) :: _, _, _, _)) rfl rfl ?_
    refine R_cgtN 43 (12) (11) rfl rfl (rfl) (rfl) (by omega) (by omega) (fun h18 => ?_) (fun h => by omega)
    exact kk
  | succ d ih =>
    intro w hd
    have how := e_ofWhole (s := s) xsta_1 hp hi (show w < 12 by omega)
    have hih := ih (w + 1) (by omega)
    refine R1 (g' := (16, _, _, _, _, _)) rfl rfl ?_
    refine R1 (g' := (18, _, .int (nI 11) :: _, _, _, _)) rfl rfl ?_
    refine R_cgtN 43 (w) (11) rfl rfl (rfl) (rfl) (by omega) (by omega) (fun h => by omega) (fun h18 => ?_)
    refine R1 (g' := (24, _, _, _, _, _)) rfl rfl ?_
    refine R1 (g' := (25, _, _, _, _, _)) rfl rfl ?_
    refine R1 (g' := (26, _, _, _, _, _)) rfl rfl ?_
    refine R1 (g' := (27, _, _, _, _, _)) rfl rfl ?_
    refine R_getf rfl rfl (Nat.le_of_ble_eq_true rfl) rfl rfl ?_
    refine R1 (g' := (31, _, _, _, _, _)) rfl rfl ?_
    refine R_call2 (Or.inr (Or.inl ⟨rfl, rfl⟩)) rfl rfl ⟨Nat.le_of_ble_eq_true rfl, Nat.le_of_ble_eq_true rfl⟩ (Nat.le_of_ble_eq_true rfl) ⟨rfl, rfl⟩ (⟨⟨_, _, _, rfl, (Nat.le_of_ble_eq_true rfl), rfl⟩, how⟩) ?_
    refine R1 (g' := (35, _, _, _, _, _)) rfl rfl ?_
    refine R1 (g' := (36, _, _, _, _, _)) rfl rfl ?_
    refine R1 (g' := (37, _, _, _, _, _)) rfl rfl ?_
    refine R1 (g' := (40, _, _, _, _, _)) rfl rfl ?_
    refine R1 (g' := (15, _, _, _, _, _)) rfl rfl ?_
    refine R_lv [(3, .int (nI (w + 1))), (1, .long (hf (qOf Q) h (w + 1))), (0, .ref 0)] rfl (List.forall_mem_cons.mpr ⟨by rw [nI_succ w]; rfl, List.forall_mem_cons.mpr ⟨rfl, List.forall_mem_cons.mpr ⟨rfl, fun _ h => absurd h List.not_mem_nil⟩⟩⟩) ⟨rfl, rfl⟩ ?_
    exact hih
theorem e8_digest {s : xs} {Q : Nat → Int32} {L c : Nat} (hR : Rl s) (hQ : s.1 143 = Q) (hL : s.1 133 0 = nI L) (hc : s.1 41 0 = nI c) : ∃ v s', Sx 0 s s' ∧ hRs Q (min (qn Q 7) (qn Q 8)) (.inl (some (.int v))) ∧ Ev_X8_digest [.ref 0] (wd s) (.inl (some (.long (31 * (31 * (hst Q (hpt Q (hf (qOf Q) (31 * 3547 + (nI L).toInt64) 12) (qn Q 7)) (qn Q 8)) + v.toInt64) + (nI c).toInt64)))) (wd s') := by
  have hp := hR.1
  have hi := hR.2.1
  rw [hQ] at hp hi
  obtain ⟨f, hop⟩ := e8_hop (h0 := hf (qOf Q) (31 * 3547 + (nI L).toInt64) 12) hp hi
  have o1 : Sx 0 s (setP s 11 f) := Sx_set (by unfold scP; omega) (by decide) (by decide)
  have hos := e8_hos (s := setP s 11 f) (h0 := hpt Q (hf (qOf Q) (31 * 3547 + (nI L).toInt64) 12) (qn Q 7)) (pRel_Sx o1 hp) hi
  obtain ⟨v, s2, o2, hr, hht⟩ := e8_hts (s := setP s 11 f) (pRel_Sx o1 hp) hi
  have ox : Sx 0 s s2 := Sx_tr o1 o2
  have c2 : s2.1 41 0 = nI c := by
    rw [ox.1 41 (Nat.zero_le _) (by unfold scP; omega)]
    exact hc
  refine ⟨v, s2, ox, hr, ?_⟩
  have htail : xRun M_X8_digest (fun o1 w1 => o1 = .inl (some (.long (31 * (31 * (hst Q (hpt Q (hf (qOf Q) (31 * 3547 + (nI L).toInt64) 12) (qn Q 7)) (qn Q 8)) + v.toInt64) + (nI c).toInt64))) ∧ w1 = wd s2) (43, [(3, .int (nI 12)), (1, .long (hf (qOf Q) (31 * 3547 + (nI L).toInt64) 12)), (0, .ref 0)], [], wd s, 0, 0) := by
    refine R1 (g' := (44, _, _, _, _, _)) rfl rfl ?_
    refine R1 (g' := (45, _, _, _, _, _)) rfl rfl ?_
    refine R_call2 (Or.inr (Or.inl ⟨rfl, rfl⟩)) rfl rfl ⟨Nat.le_of_ble_eq_true rfl, Nat.le_of_ble_eq_true rfl⟩ (Nat.le_of_ble_eq_true rfl) ⟨rfl, rfl⟩ (⟨⟨_, _, _, rfl, (Nat.le_of_ble_eq_true rfl), rfl⟩, hop⟩) ?_
    refine R1 (g' := (49, _, _, _, _, _)) rfl rfl ?_
    refine R1 (g' := (50, _, _, _, _, _)) rfl rfl ?_
    refine R1 (g' := (51, _, _, _, _, _)) rfl rfl ?_
    refine R_call2 (Or.inr (Or.inl ⟨rfl, rfl⟩)) rfl rfl ⟨Nat.le_of_ble_eq_true rfl, Nat.le_of_ble_eq_true rfl⟩ (Nat.le_of_ble_eq_true rfl) ⟨rfl, rfl⟩ (⟨⟨_, _, _, rfl, (Nat.le_of_ble_eq_true rfl), rfl⟩, hos⟩) ?_
    refine R1 (g' := (55, _, _, _, _, _)) rfl rfl ?_
    refine R1 (g' := (58, _, _, _, _, _)) rfl rfl ?_
    refine R1 (g' := (59, _, _, _, _, _)) rfl rfl ?_
    refine R1 (g' := (60, _, _, _, _, _)) rfl rfl ?_
    refine R1 (g' := (61, _, _, _, _, _)) rfl rfl ?_
    refine R_call1 (Or.inr (Or.inl ⟨rfl, rfl⟩)) rfl rfl ⟨Nat.le_of_ble_eq_true rfl, Nat.le_of_ble_eq_true rfl⟩ (Nat.le_of_ble_eq_true rfl) ⟨rfl, rfl⟩ (⟨⟨_, _, _, rfl, (Nat.le_of_ble_eq_true rfl), rfl⟩, hht⟩) ?_
    refine R1 (g' := (65, _, _, _, _, _)) rfl rfl ?_
    refine R1 (g' := (66, _, _, _, _, _)) rfl rfl ?_
    refine R1 (g' := (67, _, _, _, _, _)) rfl rfl ?_
    refine R1 (g' := (70, _, _, _, _, _)) rfl rfl ?_
    refine R1 (g' := (71, _, _, _, _, _)) rfl rfl ?_
    refine R1 (g' := (72, _, _, _, _, _)) rfl rfl ?_
    refine R1 (g' := (73, _, _, _, _, _)) rfl rfl ?_
    refine R_getf rfl rfl (Nat.le_of_ble_eq_true rfl) rfl rfl ?_
    refine R_getf rfl rfl (Nat.le_of_ble_eq_true rfl) rfl rfl ?_
    rw [c2]
    refine R1 (g' := (80, _, _, _, _, _)) rfl rfl ?_
    refine R1 (g' := (81, _, _, _, _, _)) rfl rfl ?_
    refine R_lret rfl ?_
    exact ⟨rfl, rfl⟩
  have hl := dg8_loop hp hi htail 12 0 rfl
  refine ⟨Nat.le_of_ble_eq_true rfl, Nat.le_refl _, rfl, ?_⟩
  refine R1 (g' := (3, _, _, _, _, _)) rfl rfl ?_
  refine R1 (g' := (4, _, _, _, _, _)) rfl rfl ?_
  refine R_getf rfl rfl (Nat.le_of_ble_eq_true rfl) rfl rfl ?_
  refine R_getf rfl rfl (Nat.le_of_ble_eq_true rfl) rfl rfl ?_
  rw [hL]
  refine R1 (g' := (11, _, _, _, _, _)) rfl rfl ?_
  refine R1 (g' := (12, _, _, _, _, _)) rfl rfl ?_
  refine R1 (g' := (13, _, _, _, _, _)) rfl rfl ?_
  refine R1 (g' := (14, _, .int (nI 0) :: _, _, _, _)) rfl rfl ?_
  refine R1 (g' := (15, _, _, _, _, _)) rfl rfl ?_
  refine R_lv [(3, .int (nI 0)), (1, .long (31 * 3547 + (nI L).toInt64)), (0, .ref 0)] rfl (List.forall_mem_cons.mpr ⟨rfl, List.forall_mem_cons.mpr ⟨rfl, List.forall_mem_cons.mpr ⟨rfl, fun _ h => absurd h List.not_mem_nil⟩⟩⟩) ⟨rfl, rfl⟩ ?_
  exact hl
/-! the reference -/
def sH (s : xs) (h : Int64) : xs := setL s 142 (fun _ => h)
theorem sH_h {s : xs} {h : Int64} : (sH s h).2.2 142 0 = h := by
  show va_up s.2.2 142 (fun _ => h) 142 0 = h
  rw [va_up_self]
theorem Sx_H {n : Nat} {s : xs} {h : Int64} : Sx n s (sH s h) := ⟨fun _ _ _ => rfl, rfl, rfl, rfl, rfl⟩
theorem e9_mix {s : xs} {v : Int32} : Ev_X9_mix [.ref 142, .int v] (wd s) (.inl none) (wd (sH s (31 * s.2.2 142 0 + v.toInt64))) := by
  refine ⟨Nat.le_of_ble_eq_true rfl, Nat.le_refl _, rfl, ?_⟩
  refine R1 (g' := (1, _, _, _, _, _)) rfl rfl ?_
  refine R1 (g' := (4, _, _, _, _, _)) rfl rfl ?_
  refine R1 (g' := (5, _, _, _, _, _)) rfl rfl ?_
  refine R_getf rfl rfl (Nat.le_of_ble_eq_true rfl) rfl rfl ?_
  refine R1 (g' := (9, _, _, _, _, _)) rfl rfl ?_
  refine R1 (g' := (10, _, _, _, _, _)) rfl rfl ?_
  refine R1 (g' := (11, _, _, _, _, _)) rfl rfl ?_
  refine R1 (g' := (12, _, _, _, _, _)) rfl rfl ?_
  refine R_putL rfl rfl (Nat.le_of_ble_eq_true rfl) rfl (Nat.le_of_ble_eq_true rfl) ⟨_, rfl, Or.inl rfl, _, rfl, rfl⟩ rfl ?_
  refine R_vret rfl ?_
  exact ⟨rfl, rfl⟩
def dI (S0 : xs) (Q : Nat → Int32) (h : Int64) (S : xs) : Prop := Sx 0 S0 S ∧ S.1 143 = Q ∧ S.1 142 6 = nI 0 ∧ S.2.2 142 0 = h
theorem dI_mix {S0 S : xs} {Q : Nat → Int32} {h : Int64} {v : Int32} (k : dI S0 Q h S) : dI S0 Q (31 * h + v.toInt64) (sH S (31 * S.2.2 142 0 + v.toInt64)) := by
  obtain ⟨a, b, c, d⟩ := k
  exact ⟨Sx_tr a Sx_H, b, c, by rw [sH_h, d]⟩
theorem dI_N {S0 S : xs} {Q : Nat → Int32} {h : Int64} {x y : Int32} (k : dI S0 Q h S) : dI S0 Q h (nxtI S x y) := by
  obtain ⟨a, b, c, d⟩ := k
  exact ⟨Sx_tr a Sx_N, (nxtI_ne (by decide)).trans b, (nxtI_o (by decide) (by decide)).trans c, d⟩
theorem dg9_a {S0 : xs} {Q : Nat → Int32} {h : Int64} {Po : xO → xw → Prop} (hi : pInv Q) (kk : ∀ S, dI S0 Q (hf (qOf Q) h 12) S → xRun M_X9_digest Po (43, [(1, .int (nI 12)), (0, .ref 142)], [], wd S, 0, 0)) : ∀ (d w : Nat) (S : xs), w + d = 12 → dI S0 Q (hf (qOf Q) h w) S → xRun M_X9_digest Po (22, [(1, .int (nI w)), (0, .ref 142)], [], wd S, 0, 0) := by
  intro d
  induction d with
  | zero =>
    intro w S hd hS
    obtain rfl : w = 12 := by omega
    have hk := kk S hS
    refine R1 (g' := (23, _, _, _, _, _)) rfl rfl ?_
    refine R1 (g' := (25, _, .int (nI 12) :: _, _, _, _)) rfl rfl ?_
    refine R_cgeN 43 (12) (12) rfl rfl (rfl) (rfl) (by omega) (by omega) (fun h25 => ?_) (fun h => by omega)
    exact hk
  | succ d ih =>
    intro w S hd hS
    have hvo := e9_valueOf (s := S) (by rw [hS.2.1]; exact hi) (show w < 12 by omega)
    rw [hS.2.1] at hvo
    have hih := ih (w + 1) _ (by omega) (dI_mix (v := qOf Q w) hS)
    refine R1 (g' := (23, _, _, _, _, _)) rfl rfl ?_
    refine R1 (g' := (25, _, .int (nI 12) :: _, _, _, _)) rfl rfl ?_
    refine R_cgeN 43 (w) (12) rfl rfl (rfl) (rfl) (by omega) (by omega) (fun h => by omega) (fun h25 => ?_)
    refine R1 (g' := (29, _, _, _, _, _)) rfl rfl ?_
    refine R1 (g' := (30, _, _, _, _, _)) rfl rfl ?_
    refine R1 (g' := (31, _, _, _, _, _)) rfl rfl ?_
    refine R_call2 (Or.inr (Or.inl ⟨rfl, rfl⟩)) rfl rfl ⟨Nat.le_of_ble_eq_true rfl, Nat.le_of_ble_eq_true rfl⟩ (Nat.le_of_ble_eq_true rfl) ⟨rfl, rfl⟩ (⟨⟨_, _, _, rfl, (Nat.le_of_ble_eq_true rfl), rfl⟩, hvo⟩) ?_
    refine R_call2 (Or.inr (Or.inl ⟨rfl, rfl⟩)) rfl rfl ⟨Nat.le_of_ble_eq_true rfl, Nat.le_of_ble_eq_true rfl⟩ (Nat.le_of_ble_eq_true rfl) ⟨rfl, rfl⟩ (⟨⟨_, _, _, rfl, (Nat.le_of_ble_eq_true rfl), rfl⟩, e9_mix⟩) ?_
    refine R1 (g' := (40, _, _, _, _, _)) rfl rfl ?_
    refine R1 (g' := (22, _, _, _, _, _)) rfl rfl ?_
    refine R_lv [(1, .int (nI (w + 1))), (0, .ref 142)] rfl (List.forall_mem_cons.mpr ⟨by rw [nI_succ w]; rfl, List.forall_mem_cons.mpr ⟨rfl, fun _ h => absurd h List.not_mem_nil⟩⟩) ⟨rfl, rfl⟩ ?_
    exact hih
theorem dg9_b {S0 : xs} {Q : Nat → Int32} {h : Int64} {Po : xO → xw → Prop} (hi : pInv Q) (kk : ∀ S, dI S0 Q (hf (fun j => qPartOf Q (j / 9) (j % 9)) h (9 * qn Q 7)) S → xRun M_X9_digest Po (81, [(1, .int (nI (9 * qn Q 7))), (0, .ref 142)], [], wd S, 0, 0)) : ∀ (d w : Nat) (S : xs), w + d = 9 * qn Q 7 → dI S0 Q (hf (fun j => qPartOf Q (j / 9) (j % 9)) h w) S → xRun M_X9_digest Po (45, [(1, .int (nI w)), (0, .ref 142)], [], wd S, 0, 0) := by
  have n8 := hi.1.2.2
  intro d
  induction d with
  | zero =>
    intro w S hd hS
    obtain rfl : w = 9 * qn Q 7 := by omega
    have hk := kk S hS
    refine R1 (g' := (46, _, _, _, _, _)) rfl rfl ?_
    refine R1 (g' := (48, _, .int (nI 9) :: _, _, _, _)) rfl rfl ?_
    refine R1 (g' := (49, _, _, _, _, _)) rfl rfl ?_
    refine R_getf rfl rfl (Nat.le_of_ble_eq_true rfl) rfl rfl ?_
    refine R1 (g' := (54, _, .int (nI 7) :: _, _, _, _)) rfl rfl ?_
    refine R_iald 7 rfl (Nat.le_of_ble_eq_true rfl) rfl (by decide) (by decide) rfl ?_
    rw [hS.2.1, hi.1.1]
    refine R1 (g' := (56, _, _, _, _, _)) rfl rfl ?_
    rw [pk_mul]
    refine R_cgeN 81 (9 * qn Q 7) (9 * qn Q 7) rfl rfl (rfl) (rfl) (by omega) (by omega) (fun h56 => ?_) (fun h => by omega)
    exact hk
  | succ d ih =>
    intro w S hd hS
    obtain ⟨x, y, hpo⟩ := e9_partOf (s := S) (k := w / 9) (w := w % 9) (by rw [hS.2.1]; exact hi) (by rw [hS.2.1]; omega) (by omega)
    rw [hS.2.1] at hpo
    have hih := ih (w + 1) _ (by omega) (dI_mix (v := qPartOf Q (w / 9) (w % 9)) (dI_N (x := x) (y := y) hS))
    refine R1 (g' := (46, _, _, _, _, _)) rfl rfl ?_
    refine R1 (g' := (48, _, .int (nI 9) :: _, _, _, _)) rfl rfl ?_
    refine R1 (g' := (49, _, _, _, _, _)) rfl rfl ?_
    refine R_getf rfl rfl (Nat.le_of_ble_eq_true rfl) rfl rfl ?_
    refine R1 (g' := (54, _, .int (nI 7) :: _, _, _, _)) rfl rfl ?_
    refine R_iald 7 rfl (Nat.le_of_ble_eq_true rfl) rfl (by decide) (by decide) rfl ?_
    rw [hS.2.1, hi.1.1]
    refine R1 (g' := (56, _, _, _, _, _)) rfl rfl ?_
    rw [pk_mul]
    refine R_cgeN 81 (w) (9 * qn Q 7) rfl rfl (rfl) (rfl) (by omega) (by omega) (fun h => by omega) (fun h56 => ?_)
    refine R1 (g' := (60, _, _, _, _, _)) rfl rfl ?_
    refine R1 (g' := (61, _, _, _, _, _)) rfl rfl ?_
    refine R1 (g' := (62, _, _, _, _, _)) rfl rfl ?_
    refine R1 (g' := (64, _, .int (nI 9) :: _, _, _, _)) rfl rfl ?_
    refine R_idiv rfl (by decide) ?_
    rw [pk_div (by omega) (by decide) (by decide)]
    refine R1 (g' := (66, _, _, _, _, _)) rfl rfl ?_
    refine R1 (g' := (68, _, .int (nI 9) :: _, _, _, _)) rfl rfl ?_
    refine R_irem rfl (by decide) ?_
    rw [pk_rem (by omega) (by decide) (by decide)]
    refine R_call3 (Or.inr (Or.inl ⟨rfl, rfl⟩)) rfl rfl ⟨Nat.le_of_ble_eq_true rfl, Nat.le_of_ble_eq_true rfl⟩ (Nat.le_of_ble_eq_true rfl) ⟨rfl, rfl⟩ (⟨⟨_, _, _, rfl, (Nat.le_of_ble_eq_true rfl), rfl⟩, hpo⟩) ?_
    refine R_call2 (Or.inr (Or.inl ⟨rfl, rfl⟩)) rfl rfl ⟨Nat.le_of_ble_eq_true rfl, Nat.le_of_ble_eq_true rfl⟩ (Nat.le_of_ble_eq_true rfl) ⟨rfl, rfl⟩ (⟨⟨_, _, _, rfl, (Nat.le_of_ble_eq_true rfl), rfl⟩, e9_mix⟩) ?_
    refine R1 (g' := (78, _, _, _, _, _)) rfl rfl ?_
    refine R1 (g' := (45, _, _, _, _, _)) rfl rfl ?_
    refine R_lv [(1, .int (nI (w + 1))), (0, .ref 142)] rfl (List.forall_mem_cons.mpr ⟨by rw [nI_succ w]; rfl, List.forall_mem_cons.mpr ⟨rfl, fun _ h => absurd h List.not_mem_nil⟩⟩) ⟨rfl, rfl⟩ ?_
    exact hih
theorem dg9_c {S0 : xs} {Q : Nat → Int32} {h : Int64} {Po : xO → xw → Prop} (hi : pInv Q) (kk : ∀ S, dI S0 Q (hf (fun j => Q (41 + j)) h (4 * qn Q 8)) S → xRun M_X9_digest Po (115, [(1, .int (nI (4 * qn Q 8))), (0, .ref 142)], [], wd S, 0, 0)) : ∀ (d w : Nat) (S : xs), w + d = 4 * qn Q 8 → dI S0 Q (hf (fun j => Q (41 + j)) h w) S → xRun M_X9_digest Po (83, [(1, .int (nI w)), (0, .ref 142)], [], wd S, 0, 0) := by
  have m8 := hi.2.1.2
  intro d
  induction d with
  | zero =>
    intro w S hd hS
    obtain rfl : w = 4 * qn Q 8 := by omega
    have hk := kk S hS
    refine R1 (g' := (84, _, _, _, _, _)) rfl rfl ?_
    refine R1 (g' := (85, _, .int (nI 4) :: _, _, _, _)) rfl rfl ?_
    refine R1 (g' := (86, _, _, _, _, _)) rfl rfl ?_
    refine R_getf rfl rfl (Nat.le_of_ble_eq_true rfl) rfl rfl ?_
    refine R1 (g' := (91, _, .int (nI 8) :: _, _, _, _)) rfl rfl ?_
    refine R_iald 8 rfl (Nat.le_of_ble_eq_true rfl) rfl (by decide) (by decide) rfl ?_
    rw [hS.2.1, hi.2.1.1]
    refine R1 (g' := (93, _, _, _, _, _)) rfl rfl ?_
    rw [pk_mul]
    refine R_cgeN 115 (4 * qn Q 8) (4 * qn Q 8) rfl rfl (rfl) (rfl) (by omega) (by omega) (fun h93 => ?_) (fun h => by omega)
    exact hk
  | succ d ih =>
    intro w S hd hS
    have hih := ih (w + 1) _ (by omega) (dI_mix (v := Q (41 + w)) hS)
    refine R1 (g' := (84, _, _, _, _, _)) rfl rfl ?_
    refine R1 (g' := (85, _, .int (nI 4) :: _, _, _, _)) rfl rfl ?_
    refine R1 (g' := (86, _, _, _, _, _)) rfl rfl ?_
    refine R_getf rfl rfl (Nat.le_of_ble_eq_true rfl) rfl rfl ?_
    refine R1 (g' := (91, _, .int (nI 8) :: _, _, _, _)) rfl rfl ?_
    refine R_iald 8 rfl (Nat.le_of_ble_eq_true rfl) rfl (by decide) (by decide) rfl ?_
    rw [hS.2.1, hi.2.1.1]
    refine R1 (g' := (93, _, _, _, _, _)) rfl rfl ?_
    rw [pk_mul]
    refine R_cgeN 115 (w) (4 * qn Q 8) rfl rfl (rfl) (rfl) (by omega) (by omega) (fun h => by omega) (fun h93 => ?_)
    refine R1 (g' := (97, _, _, _, _, _)) rfl rfl ?_
    refine R1 (g' := (98, _, _, _, _, _)) rfl rfl ?_
    refine R_getf rfl rfl (Nat.le_of_ble_eq_true rfl) rfl rfl ?_
    refine R1 (g' := (103, _, .int (nI 41) :: _, _, _, _)) rfl rfl ?_
    refine R1 (g' := (104, _, _, _, _, _)) rfl rfl ?_
    refine R1 (g' := (105, _, _, _, _, _)) rfl rfl ?_
    rw [nI_add]
    refine R_iald (41 + w) rfl (Nat.le_of_ble_eq_true rfl) rfl (by omega) (by decide) rfl ?_
    rw [hS.2.1]
    refine R_call2 (Or.inr (Or.inl ⟨rfl, rfl⟩)) rfl rfl ⟨Nat.le_of_ble_eq_true rfl, Nat.le_of_ble_eq_true rfl⟩ (Nat.le_of_ble_eq_true rfl) ⟨rfl, rfl⟩ (⟨⟨_, _, _, rfl, (Nat.le_of_ble_eq_true rfl), rfl⟩, e9_mix⟩) ?_
    refine R1 (g' := (112, _, _, _, _, _)) rfl rfl ?_
    refine R1 (g' := (83, _, _, _, _, _)) rfl rfl ?_
    refine R_lv [(1, .int (nI (w + 1))), (0, .ref 142)] rfl (List.forall_mem_cons.mpr ⟨by rw [nI_succ w]; rfl, List.forall_mem_cons.mpr ⟨rfl, fun _ h => absurd h List.not_mem_nil⟩⟩) ⟨rfl, rfl⟩ ?_
    exact hih
def dgPo (Q : Nat → Int32) (L c : Nat) (o1 : xO) (w1 : xw) : Prop := ∃ v s', Rl s' ∧ hRs Q (min (qn Q 7) (qn Q 8)) (.inl (some (.int v))) ∧ o1 = .inl (some (.long (31 * (31 * (hst Q (hpt Q (hf (qOf Q) (31 * 3547 + (nI L).toInt64) 12) (qn Q 7)) (qn Q 8)) + v.toInt64) + (nI c).toInt64))) ∧ w1 = wd s'
theorem e9_digest {s : xs} {Q : Nat → Int32} {L c : Nat} (hR : Rl s) (hQ : s.1 143 = Q) (hL : s.1 142 5 = nI L) (hc : s.1 142 3 = nI c) : ∃ v s', Rl s' ∧ hRs Q (min (qn Q 7) (qn Q 8)) (.inl (some (.int v))) ∧ Ev_X9_digest [.ref 142] (wd s) (.inl (some (.long (31 * (31 * (hst Q (hpt Q (hf (qOf Q) (31 * 3547 + (nI L).toInt64) 12) (qn Q 7)) (qn Q 8)) + v.toInt64) + (nI c).toInt64)))) (wd s') := by
  have hi := hR.2.1
  rw [hQ] at hi
  have hrun : xRun M_X9_digest (dgPo Q L c) (0, xarg 0 [.ref 142], [], wd s, 0, 0) := by
    have d0 : dI s Q 3547 (sH (put s 142 6 (nI 0)) 3547) := ⟨Sx_tr (Sx_p (by decide) (by decide)) Sx_H, (put6n (s := s) (v := nI 0) (by decide)).trans hQ, put6 (s := s) (v := nI 0), sH_h⟩
    have d1 := dI_mix (v := nI L) d0
    have htail : ∀ S, dI s Q (hf (fun j => Q (41 + j)) (hf (fun j => qPartOf Q (j / 9) (j % 9)) (hf (qOf Q) (31 * 3547 + (nI L).toInt64) 12) (9 * qn Q 7)) (4 * qn Q 8)) S → xRun M_X9_digest (dgPo Q L c) (115, [(1, .int (nI (4 * qn Q 8))), (0, .ref 142)], [], wd S, 0, 0) := by
      intro S hS
      obtain ⟨v, s2, sw, s6, hr, hht⟩ := e9_hts (s := S) (by rw [hS.2.1]; exact hi)
      rw [hS.2.1] at hr
      rw [hpt_eq, hst_eq] at hS
      have h2 : s2.2.2 142 0 = hst Q (hpt Q (hf (qOf Q) (31 * 3547 + (nI L).toInt64) 12) (qn Q 7)) (qn Q 8) := by
        rw [sw.2.2.2.2.2]
        exact hS.2.2.2
      have c2 : s2.1 142 3 = nI c := by
        rw [sw.2.2.2.1, hS.1.2.2.1]
        exact hc
      have hfin : Rl (sH (sH s2 (31 * s2.2.2 142 0 + v.toInt64)) (31 * (sH s2 (31 * s2.2.2 142 0 + v.toInt64)).2.2 142 0 + (nI c).toInt64)) := Rl_Sx (Rl_Sx (Rl_Sw (Rl_Sx hR hS.1) sw) Sx_H) Sx_H
      refine R1 (g' := (116, _, _, _, _, _)) rfl rfl ?_
      refine R1 (g' := (117, _, _, _, _, _)) rfl rfl ?_
      refine R_call1 (Or.inr (Or.inl ⟨rfl, rfl⟩)) rfl rfl ⟨Nat.le_of_ble_eq_true rfl, Nat.le_of_ble_eq_true rfl⟩ (Nat.le_of_ble_eq_true rfl) ⟨rfl, rfl⟩ (⟨⟨_, _, _, rfl, (Nat.le_of_ble_eq_true rfl), rfl⟩, hht⟩) ?_
      refine R_call2 (Or.inr (Or.inl ⟨rfl, rfl⟩)) rfl rfl ⟨Nat.le_of_ble_eq_true rfl, Nat.le_of_ble_eq_true rfl⟩ (Nat.le_of_ble_eq_true rfl) ⟨rfl, rfl⟩ (⟨⟨_, _, _, rfl, (Nat.le_of_ble_eq_true rfl), rfl⟩, e9_mix⟩) ?_
      refine R1 (g' := (124, _, _, _, _, _)) rfl rfl ?_
      refine R1 (g' := (125, _, _, _, _, _)) rfl rfl ?_
      refine R_getf rfl rfl (Nat.le_of_ble_eq_true rfl) rfl rfl ?_
      rw [show (sH s2 (31 * s2.2.2 142 0 + v.toInt64)).1 142 3 = nI c from c2]
      refine R_call2 (Or.inr (Or.inl ⟨rfl, rfl⟩)) rfl rfl ⟨Nat.le_of_ble_eq_true rfl, Nat.le_of_ble_eq_true rfl⟩ (Nat.le_of_ble_eq_true rfl) ⟨rfl, rfl⟩ (⟨⟨_, _, _, rfl, (Nat.le_of_ble_eq_true rfl), rfl⟩, e9_mix⟩) ?_
      refine R1 (g' := (132, _, _, _, _, _)) rfl rfl ?_
      refine R_getf rfl rfl (Nat.le_of_ble_eq_true rfl) rfl rfl ?_
      refine R_lret rfl ?_
      exact ⟨v, _, hfin, hr, by rw [sH_h, sH_h, h2], rfl⟩
    have hc9 := fun S (hS : dI s Q (hf (fun j => qPartOf Q (j / 9) (j % 9)) (hf (qOf Q) (31 * 3547 + (nI L).toInt64) 12) (9 * qn Q 7)) S) => dg9_c (Po := dgPo Q L c) hi htail (4 * qn Q 8) 0 S (Nat.zero_add _) hS
    have hb9 := fun S (hS : dI s Q (hf (qOf Q) (31 * 3547 + (nI L).toInt64) 12) S) => dg9_b (Po := dgPo Q L c) hi (fun S hS => by
      have hk := hc9 S hS
      refine R1 (g' := (82, _, .int (nI 0) :: _, _, _, _)) rfl rfl ?_
      refine R1 (g' := (83, _, _, _, _, _)) rfl rfl ?_
      refine R_lv [(1, .int (nI 0)), (0, .ref 142)] rfl (List.forall_mem_cons.mpr ⟨rfl, List.forall_mem_cons.mpr ⟨rfl, fun _ h => absurd h List.not_mem_nil⟩⟩) ⟨rfl, rfl⟩ ?_
      exact hk) (9 * qn Q 7) 0 S (Nat.zero_add _) hS
    have ha9 := dg9_a (Po := dgPo Q L c) hi (fun S hS => by
      have hk := hb9 S hS
      refine R1 (g' := (44, _, .int (nI 0) :: _, _, _, _)) rfl rfl ?_
      refine R1 (g' := (45, _, _, _, _, _)) rfl rfl ?_
      refine R_lv [(1, .int (nI 0)), (0, .ref 142)] rfl (List.forall_mem_cons.mpr ⟨rfl, List.forall_mem_cons.mpr ⟨rfl, fun _ h => absurd h List.not_mem_nil⟩⟩) ⟨rfl, rfl⟩ ?_
      exact hk) 12 0 _ rfl d1
    refine R1 (g' := (1, _, _, _, _, _)) rfl rfl ?_
    refine R1 (g' := (2, _, .int (nI 0) :: _, _, _, _)) rfl rfl ?_
    refine R_put rfl rfl (Nat.le_of_ble_eq_true rfl) rfl (Nat.le_of_ble_eq_true rfl) ⟨_, rfl, Or.inl rfl, _, rfl, rfl⟩ rfl ?_
    change xRun _ _ (5, _, _, wd (put s 142 6 (nI 0)), _, _)
    refine R1 (g' := (6, _, _, _, _, _)) rfl rfl ?_
    refine R1 (g' := (9, _, _, _, _, _)) rfl rfl ?_
    refine R_putL rfl rfl (Nat.le_of_ble_eq_true rfl) rfl (Nat.le_of_ble_eq_true rfl) ⟨_, rfl, Or.inl rfl, _, rfl, rfl⟩ rfl ?_
    change xRun _ _ (12, _, _, wd (sH (put s 142 6 (nI 0)) 3547), _, _)
    refine R1 (g' := (13, _, _, _, _, _)) rfl rfl ?_
    refine R1 (g' := (14, _, _, _, _, _)) rfl rfl ?_
    refine R_getf rfl rfl (Nat.le_of_ble_eq_true rfl) rfl rfl ?_
    rw [show (sH (put s 142 6 (nI 0)) 3547).1 142 5 = nI L from (put6o (s := s) (v := nI 0) (by decide)).trans hL]
    refine R_call2 (Or.inr (Or.inl ⟨rfl, rfl⟩)) rfl rfl ⟨Nat.le_of_ble_eq_true rfl, Nat.le_of_ble_eq_true rfl⟩ (Nat.le_of_ble_eq_true rfl) ⟨rfl, rfl⟩ (⟨⟨_, _, _, rfl, (Nat.le_of_ble_eq_true rfl), rfl⟩, e9_mix⟩) ?_
    refine R1 (g' := (21, _, .int (nI 0) :: _, _, _, _)) rfl rfl ?_
    refine R1 (g' := (22, _, _, _, _, _)) rfl rfl ?_
    refine R_lv [(1, .int (nI 0)), (0, .ref 142)] rfl (List.forall_mem_cons.mpr ⟨rfl, List.forall_mem_cons.mpr ⟨rfl, fun _ h => absurd h List.not_mem_nil⟩⟩) ⟨rfl, rfl⟩ ?_
    exact ha9
  obtain ⟨o1, w1, ⟨v, s', hRl, hr, rfl, rfl⟩, hev⟩ := xEv_ex (ret := some .long) (Nat.le_of_ble_eq_true rfl) (fun o w z => by
    obtain ⟨v, s', _, _, rfl, rfl⟩ := z
    exact ⟨Nat.le_refl _, rfl⟩) hrun
  exact ⟨v, s', hRl, hr, hev⟩
theorem pr_digest {s : xs} (hR : Rl s) : ∃ v s1 s2, Ev_X8_digest [.ref 0] (wd s) (.inl (some (.long v))) (wd s1) ∧ Ev_X9_digest [.ref 142] (wd s1) (.inl (some (.long v))) (wd s2) ∧ Rl s2 := by
  obtain ⟨L, L90, c0, r5, heq⟩ := id hR.2.2.2
  obtain ⟨π, c, k1, k2, k3, k4, k5⟩ := id hR.2.2.1
  obtain ⟨v, s1, sx, hr, hev⟩ := e8_digest hR rfl c0 k3
  have e1 : s1.1 143 = s.1 143 := Sx_q sx (by decide)
  obtain ⟨v2, s2, hR2, hr2, hev2⟩ := e9_digest (Rl_Sx hR sx) e1 (sx.2.2.2.1.trans r5) (sx.2.2.1.trans k4)
  have hv := hRs_eq hR.2.1 (Nat.min_le_left _ _) hr hr2
  cases hv
  exact ⟨_, s1, s2, hev, hev2, hR2⟩
