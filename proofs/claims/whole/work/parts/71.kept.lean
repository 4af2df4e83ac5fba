theorem dI_i {v : Nat} (h : v < 2 ^ 31) : Jvm.FP.Core.DInt (v : Int) (FP.i2d (nI v)) := by
  have h1 := Jvm.FP.Core.i2d_int (nI v)
  rw [nI_toInt h] at h1
  exact h1
theorem dI_0 : Jvm.FP.Core.DInt (0 : Int) FP.dconst0 := by
  unfold Jvm.FP.Core.DInt
  show Jvm.FP.Core.Whole 0 (Jvm.FP.Core.val64 Jvm.FP.Core.dconst0)
  rw [Jvm.FP.Core.val64_dconst0]
  show Jvm.FP.Core.signed false (0 * _) = 0 * _
  rw [Nat.zero_mul, Int.zero_mul]
  rfl
theorem d_gt {v : Nat} (h : v < 2 ^ 31) (h1 : 1 ≤ v) : FP.dcmp (FP.i2d (nI v)) FP.dconst0 = some .gt := by
  have h2 := Jvm.FP.Core.dcmp_int (dI_i h) dI_0
  rw [show compare (v : Int) 0 = Ordering.gt from (Jvm.FP.Core.compare_gt_iff _ _).mpr (by omega)] at h2
  exact h2
theorem dI_fin {i : Int} {a : UInt64} (h : Jvm.FP.Core.DInt i a) : Jvm.FP.Core.DFin a ∧ (i ≠ 0 → ¬ Jvm.FP.Core.DZero a) ∧ Jvm.FP.Core.dIsNaN a = false := by
  unfold Jvm.FP.Core.DInt at h
  cases hv : Jvm.FP.Core.val64 a with
  | fin s c q =>
    rw [hv] at h
    refine ⟨⟨s, c, q, hv⟩, fun hi hz => ?_, (Jvm.FP.Core.notNaN_iff a).mpr (by rw [hv]; exact fun z => by cases z)⟩
    obtain ⟨s2, q2, e⟩ := hz
    rw [hv] at e
    cases e
    have h : Jvm.FP.Core.signed s (0 * 2 ^ q.toNat) = i * ((2 ^ (-q).toNat : Nat) : Int) := h
    rw [Nat.zero_mul, Jvm.FP.Core.signed_zero] at h
    rcases Int.mul_eq_zero.mp h.symm with z | z
    · exact hi z
    · have := Nat.two_pow_pos (-q).toNat
      omega
  | inf s =>
    rw [hv] at h
    exact h.elim
  | nan =>
    rw [hv] at h
    exact h.elim
theorem d_div {x v : Nat} (hv : v < 2 ^ 31) (hx : x < 2 ^ 31) (h1 : 1 ≤ x) : Jvm.FP.Core.dIsNaN (FP.ddiv (FP.i2d (nI v)) (FP.i2d (nI x))) = false :=
  Jvm.FP.Core.ddiv_out (dI_fin (dI_i hv)).2.2 (dI_fin (dI_i hx)).1 ((dI_fin (dI_i hx)).2.1 (by omega))
theorem n64_of {a : UInt64} (h : Jvm.FP.Core.dIsNaN a = false) : vf_n64 a := by
  have h2 := (Jvm.FP.Core.ne_nan a).mp ((Jvm.FP.Core.notNaN_iff a).mp h)
  unfold vf_n64
  rw [UInt64.le_iff_toNat_le, UInt64.toNat_and]
  show a.toNat &&& (2 ^ 63 - 1) ≤ 9218868437227405312
  rw [Nat.and_two_pow_sub_one_eq_mod]
  exact h2
theorem d_same {a : UInt64} (h : Jvm.FP.Core.dIsNaN a = false) : FP.dcmp a a = some .eq := Jvm.FP.Core.dcmp_self ((Jvm.FP.Core.notNaN_iff a).mp h)
theorem pr_kept {s : xs} (hR : Rl s) : ∃ v s1 s2, Ev_X8_kept [.ref 0] (wd s) (.inl (some (.double v))) (wd s1) ∧ Ev_X9_kept [.ref 142] (wd s1) (.inl (some (.double v))) (wd s2) ∧ Rl s2 ∧ FP.dcmp v v = some .eq := by
  obtain ⟨i7, n1, n8⟩ := hR.2.1.1
  obtain ⟨i6, x1, x2⟩ := hR.2.1.2.2.2.2.2.2
  obtain ⟨V, V1, V2⟩ := qVol hR.2.1 _ (Nat.le_refl _)
  have hcv := c_vol hR.1.1 hR.2.1
  rw [V2] at hcv
  have hrv := e9_volumes (s := put s 142 6 (nI 0)) (n := qn (s.1 143) 7) (by rw [put6n (by decide)]; exact i7) n8
  rw [put6n (by decide), V2] at hrv
  have e7 : s.1 2 7 = nI (qn (s.1 143) 6) := hR.1.1.1.2.2.2.2.2.2.2.trans i6
  have hnn := d_div (x := qn (s.1 143) 6) (v := V) (by omega) (by omega) x1
  have hgt := d_gt (v := qn (s.1 143) 6) (by omega) x1
  refine ⟨FP.ddiv (FP.i2d (nI V)) (FP.i2d (nI (qn (s.1 143) 6))), s, put s 142 6 (nI 0), ?_, ?_, Rl_code hR, d_same hnn⟩
  · refine ⟨Nat.le_of_ble_eq_true rfl, Nat.le_refl _, rfl, ?_⟩
    refine R1 (g' := (1, _, _, _, _, _)) rfl rfl ?_
    refine R_getf rfl rfl (Nat.le_of_ble_eq_true rfl) rfl rfl ?_
    refine R_getf rfl rfl (Nat.le_of_ble_eq_true rfl) rfl rfl ?_
    refine R_getf rfl rfl (Nat.le_of_ble_eq_true rfl) rfl rfl ?_
    rw [e7]
    refine R1 (g' := (11, _, _, _, _, _)) rfl rfl ?_
    refine R1 (g' := (12, _, _, _, _, _)) rfl rfl ?_
    refine R1 (g' := (13, _, _, _, _, _)) rfl rfl ?_
    refine R_getf rfl rfl (Nat.le_of_ble_eq_true rfl) rfl rfl ?_
    refine R_getf rfl rfl (Nat.le_of_ble_eq_true rfl) rfl rfl ?_
    refine R_call1 (Or.inr (Or.inl ⟨rfl, rfl⟩)) rfl rfl ⟨Nat.le_of_ble_eq_true rfl, Nat.le_of_ble_eq_true rfl⟩ (Nat.le_of_ble_eq_true rfl) ⟨rfl, rfl⟩ (⟨⟨_, _, _, rfl, (Nat.le_of_ble_eq_true rfl), rfl⟩, hcv⟩) ?_
    refine R1 (g' := (23, _, _, _, _, _)) rfl rfl ?_
    refine R1 (g' := (24, _, _, _, _, _)) rfl rfl ?_
    refine R1 (g' := (25, _, _, _, _, _)) rfl rfl ?_
    refine R1 (g' := (26, _, _, _, _, _)) rfl rfl ?_
    refine R1 (g' := (27, _, _, _, _, _)) rfl rfl ?_
    rw [hgt]
    refine R_le 36 rfl rfl (fun h => by exact absurd h (by decide)) (fun h27 => ?_)
    refine R1 (g' := (31, _, _, _, _, _)) rfl rfl ?_
    refine R1 (g' := (32, _, _, _, _, _)) rfl rfl ?_
    refine R_ddiv rfl (n64_of hnn) ?_
    refine R1 (g' := (37, _, _, _, _, _)) rfl rfl ?_
    refine R_dret rfl ?_
    exact ⟨rfl, rfl⟩
  · refine ⟨Nat.le_of_ble_eq_true rfl, Nat.le_refl _, rfl, ?_⟩
    refine R1 (g' := (1, _, _, _, _, _)) rfl rfl ?_
    refine R1 (g' := (2, _, .int (nI 0) :: _, _, _, _)) rfl rfl ?_
    refine R_put rfl rfl (Nat.le_of_ble_eq_true rfl) rfl (Nat.le_of_ble_eq_true rfl) ⟨_, rfl, Or.inl rfl, _, rfl, rfl⟩ rfl ?_
    change xRun _ _ (5, _, _, wd (put s 142 6 (nI 0)), _, _)
    refine R1 (g' := (6, _, _, _, _, _)) rfl rfl ?_
    refine R_call1 (Or.inr (Or.inl ⟨rfl, rfl⟩)) rfl rfl ⟨Nat.le_of_ble_eq_true rfl, Nat.le_of_ble_eq_true rfl⟩ (Nat.le_of_ble_eq_true rfl) ⟨rfl, rfl⟩ (⟨⟨_, _, _, rfl, (Nat.le_of_ble_eq_true rfl), rfl⟩, hrv⟩) ?_
    refine R1 (g' := (10, _, _, _, _, _)) rfl rfl ?_
    refine R1 (g' := (11, _, _, _, _, _)) rfl rfl ?_
    refine R_getf rfl rfl (Nat.le_of_ble_eq_true rfl) rfl rfl ?_
    refine R1 (g' := (16, _, .int (nI 6) :: _, _, _, _)) rfl rfl ?_
    refine R_iald 6 rfl (Nat.le_of_ble_eq_true rfl) rfl (by decide) (by decide) rfl ?_
    rw [put6n (by decide), i6]
    refine R1 (g' := (18, _, _, _, _, _)) rfl rfl ?_
    refine R_ddiv rfl (n64_of hnn) ?_
    refine R_dret rfl ?_
    exact ⟨rfl, rfl⟩
