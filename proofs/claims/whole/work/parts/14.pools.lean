theorem xlay_of {C : String} {T : u_T} {N : Nat} (h : (u_ws C T N).all (fun w => decide (w ∈ tables_1) && goodWord w) = true) : ∀ w ∈ u_ws C T N, w ∈ gW := fun w hw => by
  have h1 := List.all_eq_true.mp h w hw
  simp only [Bool.and_eq_true, decide_eq_true_eq] at h1
  exact gW_in h1.1 h1.2
theorem xat_of {L : List Cond} (h : L.all (fun w => decide (w ∈ tables_1) && (goodWord w || xkind w)) = true) : ∀ w ∈ L, w ∈ gW ∨ w ∈ xB := fun w hw => by
  have h1 := List.all_eq_true.mp h w hw
  simp only [Bool.and_eq_true, Bool.or_eq_true, decide_eq_true_eq] at h1
  exact h1.2.elim (fun g => Or.inl (gW_in h1.1 g)) (fun g => Or.inr (List.mem_filter.mpr ⟨h1.1, g⟩))
theorem xlay_0 : ∀ w ∈ u_ws RX0 TX0 13, w ∈ gW := xlay_of (by decide +kernel)
theorem xlay_1 : ∀ w ∈ u_ws RX1 TX1 2, w ∈ gW := xlay_of (by decide +kernel)
theorem xlay_2 : ∀ w ∈ u_ws RX2 TX2 8, w ∈ gW := xlay_of (by decide +kernel)
theorem xlay_3 : ∀ w ∈ u_ws RX3 TX3 1, w ∈ gW := xlay_of (by decide +kernel)
theorem xlay_4 : ∀ w ∈ u_ws RX4 TX4 2, w ∈ gW := xlay_of (by decide +kernel)
theorem xlay_5 : ∀ w ∈ u_ws RX5 TX5 2, w ∈ gW := xlay_of (by decide +kernel)
theorem xlay_6 : ∀ w ∈ u_ws RX6 TX6 5, w ∈ gW := xlay_of (by decide +kernel)
theorem xlay_7 : ∀ w ∈ u_ws RX7 TX7 11, w ∈ gW := xlay_of (by decide +kernel)
theorem xlay_8 : ∀ w ∈ u_ws RX8 TX8 5, w ∈ gW := xlay_of (by decide +kernel)
theorem xlay_9 : ∀ w ∈ u_ws RX9 TX9 18, w ∈ gW := xlay_of (by decide +kernel)
theorem xClok_ok : xClok := by
  intro ci q hq
  match ci, hq with
  | 0, hq => cases hq; exact ⟨xlay_0, nmX0, tyX0, tyX0_ok⟩
  | 1, hq => cases hq; exact ⟨xlay_1, nmX1, tyX1, tyX1_ok⟩
  | 2, hq => cases hq; exact ⟨xlay_2, nmX2, tyX2, tyX2_ok⟩
  | 3, hq => cases hq; exact ⟨xlay_3, nmX3, tyX3, tyX3_ok⟩
  | 4, hq => cases hq; exact ⟨xlay_4, nmX4, tyX4, tyX4_ok⟩
  | 5, hq => cases hq; exact ⟨xlay_5, nmX5, tyX5, tyX5_ok⟩
  | 6, hq => cases hq; exact ⟨xlay_6, nmX6, tyX6, tyX6_ok⟩
  | 7, hq => cases hq; exact ⟨xlay_7, nmX7, tyX7, tyX7_ok⟩
  | 8, hq => cases hq; exact ⟨xlay_8, nmX8, tyX8, tyX8_ok⟩
  | 9, hq => cases hq; exact ⟨xlay_9, nmX9, tyX9, tyX9_ok⟩
  | k + 10, hq => cases hq
theorem xty_ok : ∀ ty, goodWord (.arrayClass ty) = true → (ty = .int ∨ ty = .long) → Cond.arrayClass ty ∈ gW := by
  rintro ty - (rfl | rfl)
  · exact gw_50
  · exact gw_1217
theorem xat_X8_83 : ∀ w ∈ vx_atS "BarForger" 83 "java/lang/IllegalStateException" ["java/lang/RuntimeException", "java/lang/Exception"], w ∈ gW ∨ w ∈ xB := xat_of (by decide +kernel)
theorem xat_X8_122 : ∀ w ∈ vx_atS "BarForger" 122 "java/lang/IndexOutOfBoundsException" ["java/lang/RuntimeException", "java/lang/Exception"], w ∈ gW ∨ w ∈ xB := xat_of (by decide +kernel)
theorem xat_X8_258 : ∀ w ∈ vx_atS "BarForger" 258 "java/lang/IllegalArgumentException" ["java/lang/RuntimeException", "java/lang/Exception"], w ∈ gW ∨ w ∈ xB := xat_of (by decide +kernel)
def LF_X3 : List (Nat × Nat × Nat) := [(7, 3, 0)]
set_option maxRecDepth 100000 in
theorem xF_X3 : xFok RX3 (xal LF_X3) := xFok_of (List.forall_mem_cons.mpr ⟨⟨_, rfl, Nat.le_of_ble_eq_true rfl, gw_46⟩, (fun _ h => absurd h List.not_mem_nil)⟩)
def LK_X3 : List (Nat × Value) := []
theorem xK_X3 : xKok RX3 (xal LK_X3) := xKok_of (fun _ h => absurd h List.not_mem_nil)
def LI_X3 : List (Nat × Value) := (1000000, .retAddr 3) :: LK_X3
theorem xI_X3 : xKok RX3 (xal LI_X3) := xKok_of (List.forall_mem_cons.mpr ⟨⟨fun _ h => (by cases h), fun _ h => (by cases h)⟩, (fun _ h => absurd h List.not_mem_nil)⟩)
def LN_X3 : List (Nat × Nat × List Value) := []
theorem xN_X3 : xNWok RX3 (xal LN_X3) := xNWok_of (fun _ h => absurd h List.not_mem_nil)
def LF_X4 : List (Nat × Nat × Nat) := [(9, 4, 0), (15, 4, 1)]
set_option maxRecDepth 100000 in
theorem xF_X4 : xFok RX4 (xal LF_X4) := xFok_of (List.forall_mem_cons.mpr ⟨⟨_, rfl, Nat.le_of_ble_eq_true rfl, gw_57⟩, (List.forall_mem_cons.mpr ⟨⟨_, rfl, Nat.le_of_ble_eq_true rfl, gw_60⟩, (fun _ h => absurd h List.not_mem_nil)⟩)⟩)
def LK_X4 : List (Nat × Value) := []
theorem xK_X4 : xKok RX4 (xal LK_X4) := xKok_of (fun _ h => absurd h List.not_mem_nil)
def LI_X4 : List (Nat × Value) := (1000000, .retAddr 4) :: LK_X4
theorem xI_X4 : xKok RX4 (xal LI_X4) := xKok_of (List.forall_mem_cons.mpr ⟨⟨fun _ h => (by cases h), fun _ h => (by cases h)⟩, (fun _ h => absurd h List.not_mem_nil)⟩)
def LN_X4 : List (Nat × Nat × List Value) := []
theorem xN_X4 : xNWok RX4 (xal LN_X4) := xNWok_of (fun _ h => absurd h List.not_mem_nil)
def LF_X0 : List (Nat × Nat × Nat) := [(14, 0, 8), (20, 0, 9), (23, 0, 10), (26, 0, 11), (32, 0, 12), (36, 0, 0), (40, 0, 1), (43, 0, 3), (46, 0, 4), (49, 0, 5), (52, 0, 6), (55, 0, 7), (62, 0, 2), (98, 4, 0), (101, 4, 1)]
set_option maxRecDepth 100000 in
theorem xF_X0 : xFok RX0 (xal LF_X0) := xFok_of (List.forall_mem_cons.mpr ⟨⟨_, rfl, Nat.le_of_ble_eq_true rfl, gw_88⟩, (List.forall_mem_cons.mpr ⟨⟨_, rfl, Nat.le_of_ble_eq_true rfl, gw_91⟩, (List.forall_mem_cons.mpr ⟨⟨_, rfl, Nat.le_of_ble_eq_true rfl, gw_94⟩, (List.forall_mem_cons.mpr ⟨⟨_, rfl, Nat.le_of_ble_eq_true rfl, gw_97⟩, (List.forall_mem_cons.mpr ⟨⟨_, rfl, Nat.le_of_ble_eq_true rfl, gw_99⟩, (List.forall_mem_cons.mpr ⟨⟨_, rfl, Nat.le_of_ble_eq_true rfl, gw_68⟩, (List.forall_mem_cons.mpr ⟨⟨_, rfl, Nat.le_of_ble_eq_true rfl, gw_71⟩, (List.forall_mem_cons.mpr ⟨⟨_, rfl, Nat.le_of_ble_eq_true rfl, gw_77⟩, (List.forall_mem_cons.mpr ⟨⟨_, rfl, Nat.le_of_ble_eq_true rfl, gw_80⟩, (List.forall_mem_cons.mpr ⟨⟨_, rfl, Nat.le_of_ble_eq_true rfl, gw_82⟩, (List.forall_mem_cons.mpr ⟨⟨_, rfl, Nat.le_of_ble_eq_true rfl, gw_84⟩, (List.forall_mem_cons.mpr ⟨⟨_, rfl, Nat.le_of_ble_eq_true rfl, gw_86⟩, (List.forall_mem_cons.mpr ⟨⟨_, rfl, Nat.le_of_ble_eq_true rfl, gw_75⟩, (List.forall_mem_cons.mpr ⟨⟨_, rfl, Nat.le_of_ble_eq_true rfl, gw_59⟩, (List.forall_mem_cons.mpr ⟨⟨_, rfl, Nat.le_of_ble_eq_true rfl, gw_62⟩, (fun _ h => absurd h List.not_mem_nil)⟩)⟩)⟩)⟩)⟩)⟩)⟩)⟩)⟩)⟩)⟩)⟩)⟩)⟩)⟩)
def LK_X0 : List (Nat × Value) := [(107, .int (9000000))]
theorem xK_X0 : xKok RX0 (xal LK_X0) := xKok_of (List.forall_mem_cons.mpr ⟨⟨fun _ h => (by cases h; exact gw_752), fun _ h => (by cases h)⟩, (fun _ h => absurd h List.not_mem_nil)⟩)
def LI_X0 : List (Nat × Value) := (1000000, .retAddr 0) :: LK_X0
theorem xI_X0 : xKok RX0 (xal LI_X0) := xKok_of (List.forall_mem_cons.mpr ⟨⟨fun _ h => (by cases h), fun _ h => (by cases h)⟩, (List.forall_mem_cons.mpr ⟨⟨fun _ h => (by cases h; exact gw_752), fun _ h => (by cases h)⟩, (fun _ h => absurd h List.not_mem_nil)⟩)⟩)
def LN_X0 : List (Nat × Nat × List Value) := [(9, 3, [.null]), (29, 4, [.int 0, .int 0])]
theorem xN_X0 : xNWok RX0 (xal LN_X0) := xNWok_of (List.forall_mem_cons.mpr ⟨Or.inr ⟨by decide, _, rfl, gw_40, gw_41, gw_4, rfl, rfl, tyX3, tyX3_ok, by decide +kernel⟩, (List.forall_mem_cons.mpr ⟨Or.inr ⟨by decide, _, rfl, gw_51, gw_52, gw_5, rfl, rfl, tyX4, tyX4_ok, by decide +kernel⟩, (fun _ h => absurd h List.not_mem_nil)⟩)⟩)
def LF_X8 : List (Nat × Nat × Nat) := [(10, 8, 0), (16, 8, 1), (22, 8, 2), (29, 8, 3), (36, 8, 4), (40, 5, 0), (44, 0, 2), (93, 0, 1), (111, 0, 0), (155, 5, 1), (159, 6, 0), (184, 0, 3), (190, 6, 1), (199, 6, 2), (202, 6, 3), (212, 0, 7), (215, 2, 0), (226, 2, 1), (232, 1, 0), (262, 7, 0), (265, 2, 2), (268, 2, 3), (270, 2, 4)]
set_option maxRecDepth 100000 in
theorem xF_X8 : xFok RX8 (xal LF_X8) := xFok_of (List.forall_mem_cons.mpr ⟨⟨_, rfl, Nat.le_of_ble_eq_true rfl, gw_278⟩, (List.forall_mem_cons.mpr ⟨⟨_, rfl, Nat.le_of_ble_eq_true rfl, gw_279⟩, (List.forall_mem_cons.mpr ⟨⟨_, rfl, Nat.le_of_ble_eq_true rfl, gw_280⟩, (List.forall_mem_cons.mpr ⟨⟨_, rfl, Nat.le_of_ble_eq_true rfl, gw_281⟩, (List.forall_mem_cons.mpr ⟨⟨_, rfl, Nat.le_of_ble_eq_true rfl, gw_282⟩, (List.forall_mem_cons.mpr ⟨⟨_, rfl, Nat.le_of_ble_eq_true rfl, gw_161⟩, (List.forall_mem_cons.mpr ⟨⟨_, rfl, Nat.le_of_ble_eq_true rfl, gw_74⟩, (List.forall_mem_cons.mpr ⟨⟨_, rfl, Nat.le_of_ble_eq_true rfl, gw_72⟩, (List.forall_mem_cons.mpr ⟨⟨_, rfl, Nat.le_of_ble_eq_true rfl, gw_70⟩, (List.forall_mem_cons.mpr ⟨⟨_, rfl, Nat.le_of_ble_eq_true rfl, gw_163⟩, (List.forall_mem_cons.mpr ⟨⟨_, rfl, Nat.le_of_ble_eq_true rfl, gw_137⟩, (List.forall_mem_cons.mpr ⟨⟨_, rfl, Nat.le_of_ble_eq_true rfl, gw_79⟩, (List.forall_mem_cons.mpr ⟨⟨_, rfl, Nat.le_of_ble_eq_true rfl, gw_140⟩, (List.forall_mem_cons.mpr ⟨⟨_, rfl, Nat.le_of_ble_eq_true rfl, gw_143⟩, (List.forall_mem_cons.mpr ⟨⟨_, rfl, Nat.le_of_ble_eq_true rfl, gw_146⟩, (List.forall_mem_cons.mpr ⟨⟨_, rfl, Nat.le_of_ble_eq_true rfl, gw_87⟩, (List.forall_mem_cons.mpr ⟨⟨_, rfl, Nat.le_of_ble_eq_true rfl, gw_240⟩, (List.forall_mem_cons.mpr ⟨⟨_, rfl, Nat.le_of_ble_eq_true rfl, gw_242⟩, (List.forall_mem_cons.mpr ⟨⟨_, rfl, Nat.le_of_ble_eq_true rfl, gw_179⟩, (List.forall_mem_cons.mpr ⟨⟨_, rfl, Nat.le_of_ble_eq_true rfl, gw_197⟩, (List.forall_mem_cons.mpr ⟨⟨_, rfl, Nat.le_of_ble_eq_true rfl, gw_244⟩, (List.forall_mem_cons.mpr ⟨⟨_, rfl, Nat.le_of_ble_eq_true rfl, gw_246⟩, (List.forall_mem_cons.mpr ⟨⟨_, rfl, Nat.le_of_ble_eq_true rfl, gw_248⟩, (fun _ h => absurd h List.not_mem_nil)⟩)⟩)⟩)⟩)⟩)⟩)⟩)⟩)⟩)⟩)⟩)⟩)⟩)⟩)⟩)⟩)⟩)⟩)⟩)⟩)⟩)⟩)⟩)
def LK_X8 : List (Nat × Value) := [(50, .int (400000)), (59, .int (9000000)), (238, .long (109957)), (240, .long (31))]
theorem xK_X8 : xKok RX8 (xal LK_X8) := xKok_of (List.forall_mem_cons.mpr ⟨⟨fun _ h => (by cases h; exact gw_269), fun _ h => (by cases h)⟩, (List.forall_mem_cons.mpr ⟨⟨fun _ h => (by cases h; exact gw_669), fun _ h => (by cases h)⟩, (List.forall_mem_cons.mpr ⟨⟨fun _ h => (by cases h), fun _ h => (by cases h; exact gw_538)⟩, (List.forall_mem_cons.mpr ⟨⟨fun _ h => (by cases h), fun _ h => (by cases h; exact gw_539)⟩, (fun _ h => absurd h List.not_mem_nil)⟩)⟩)⟩)⟩)
def LI_X8 : List (Nat × Value) := (1000000, .retAddr 8) :: LK_X8
theorem xI_X8 : xKok RX8 (xal LI_X8) := xKok_of (List.forall_mem_cons.mpr ⟨⟨fun _ h => (by cases h), fun _ h => (by cases h)⟩, (List.forall_mem_cons.mpr ⟨⟨fun _ h => (by cases h; exact gw_269), fun _ h => (by cases h)⟩, (List.forall_mem_cons.mpr ⟨⟨fun _ h => (by cases h; exact gw_669), fun _ h => (by cases h)⟩, (List.forall_mem_cons.mpr ⟨⟨fun _ h => (by cases h), fun _ h => (by cases h; exact gw_538)⟩, (List.forall_mem_cons.mpr ⟨⟨fun _ h => (by cases h), fun _ h => (by cases h; exact gw_539)⟩, (fun _ h => absurd h List.not_mem_nil)⟩)⟩)⟩)⟩)⟩)
def LN_X8 : List (Nat × Nat × List Value) := [(7, 5, [.null, .null]), (19, 1, [.int 0, .null]), (26, 7, [.int 0, .null, .null, .null, .null, .null, .int 0, .int 0, .int 0, .int 0, .int 0]), (33, 2, [.int 0, .int 0, .null, .null, .null, .null, .int 0, .int 0])]
theorem xN_X8 : xNWok RX8 (xal LN_X8) := xNWok_of (List.forall_mem_cons.mpr ⟨Or.inr ⟨by decide, _, rfl, gw_28, gw_29, gw_2, rfl, rfl, tyX5, tyX5_ok, by decide +kernel⟩, (List.forall_mem_cons.mpr ⟨Or.inr ⟨by decide, _, rfl, gw_169, gw_170, gw_7, rfl, rfl, tyX1, tyX1_ok, by decide +kernel⟩, (List.forall_mem_cons.mpr ⟨Or.inr ⟨by decide, _, rfl, gw_186, gw_187, gw_8, rfl, rfl, tyX7, tyX7_ok, by decide +kernel⟩, (List.forall_mem_cons.mpr ⟨Or.inr ⟨by decide, _, rfl, gw_231, gw_232, gw_9, rfl, rfl, tyX2, tyX2_ok, by decide +kernel⟩, (fun _ h => absurd h List.not_mem_nil)⟩)⟩)⟩)⟩)
def LF_X6 : List (Nat × Nat × Nat) := [(14, 6, 1), (20, 6, 2), (23, 6, 3), (26, 6, 4), (29, 6, 0)]
set_option maxRecDepth 100000 in
theorem xF_X6 : xFok RX6 (xal LF_X6) := xFok_of (List.forall_mem_cons.mpr ⟨⟨_, rfl, Nat.le_of_ble_eq_true rfl, gw_138⟩, (List.forall_mem_cons.mpr ⟨⟨_, rfl, Nat.le_of_ble_eq_true rfl, gw_141⟩, (List.forall_mem_cons.mpr ⟨⟨_, rfl, Nat.le_of_ble_eq_true rfl, gw_144⟩, (List.forall_mem_cons.mpr ⟨⟨_, rfl, Nat.le_of_ble_eq_true rfl, gw_147⟩, (List.forall_mem_cons.mpr ⟨⟨_, rfl, Nat.le_of_ble_eq_true rfl, gw_135⟩, (fun _ h => absurd h List.not_mem_nil)⟩)⟩)⟩)⟩)⟩)
def LK_X6 : List (Nat × Value) := []
theorem xK_X6 : xKok RX6 (xal LK_X6) := xKok_of (fun _ h => absurd h List.not_mem_nil)
def LI_X6 : List (Nat × Value) := (1000000, .retAddr 6) :: LK_X6
theorem xI_X6 : xKok RX6 (xal LI_X6) := xKok_of (List.forall_mem_cons.mpr ⟨⟨fun _ h => (by cases h), fun _ h => (by cases h)⟩, (fun _ h => absurd h List.not_mem_nil)⟩)
def LN_X6 : List (Nat × Nat × List Value) := [(9, 3, [.null])]
theorem xN_X6 : xNWok RX6 (xal LN_X6) := xNWok_of (List.forall_mem_cons.mpr ⟨Or.inr ⟨by decide, _, rfl, gw_133, gw_41, gw_4, rfl, rfl, tyX3, tyX3_ok, by decide +kernel⟩, (fun _ h => absurd h List.not_mem_nil)⟩)
def LF_X5 : List (Nat × Nat × Nat) := [(12, 5, 0), (21, 5, 1), (36, 0, 8), (46, 6, 1), (47, 6, 3), (54, 0, 9), (57, 6, 2), (61, 6, 4), (64, 6, 0), (68, 0, 0), (74, 0, 10), (77, 0, 11), (84, 0, 1), (87, 0, 2), (90, 0, 3), (93, 0, 4), (100, 0, 5), (103, 0, 6)]
set_option maxRecDepth 100000 in
theorem xF_X5 : xFok RX5 (xal LF_X5) := xFok_of (List.forall_mem_cons.mpr ⟨⟨_, rfl, Nat.le_of_ble_eq_true rfl, gw_160⟩, (List.forall_mem_cons.mpr ⟨⟨_, rfl, Nat.le_of_ble_eq_true rfl, gw_162⟩, (List.forall_mem_cons.mpr ⟨⟨_, rfl, Nat.le_of_ble_eq_true rfl, gw_90⟩, (List.forall_mem_cons.mpr ⟨⟨_, rfl, Nat.le_of_ble_eq_true rfl, gw_139⟩, (List.forall_mem_cons.mpr ⟨⟨_, rfl, Nat.le_of_ble_eq_true rfl, gw_145⟩, (List.forall_mem_cons.mpr ⟨⟨_, rfl, Nat.le_of_ble_eq_true rfl, gw_93⟩, (List.forall_mem_cons.mpr ⟨⟨_, rfl, Nat.le_of_ble_eq_true rfl, gw_142⟩, (List.forall_mem_cons.mpr ⟨⟨_, rfl, Nat.le_of_ble_eq_true rfl, gw_148⟩, (List.forall_mem_cons.mpr ⟨⟨_, rfl, Nat.le_of_ble_eq_true rfl, gw_136⟩, (List.forall_mem_cons.mpr ⟨⟨_, rfl, Nat.le_of_ble_eq_true rfl, gw_69⟩, (List.forall_mem_cons.mpr ⟨⟨_, rfl, Nat.le_of_ble_eq_true rfl, gw_96⟩, (List.forall_mem_cons.mpr ⟨⟨_, rfl, Nat.le_of_ble_eq_true rfl, gw_98⟩, (List.forall_mem_cons.mpr ⟨⟨_, rfl, Nat.le_of_ble_eq_true rfl, gw_73⟩, (List.forall_mem_cons.mpr ⟨⟨_, rfl, Nat.le_of_ble_eq_true rfl, gw_76⟩, (List.forall_mem_cons.mpr ⟨⟨_, rfl, Nat.le_of_ble_eq_true rfl, gw_78⟩, (List.forall_mem_cons.mpr ⟨⟨_, rfl, Nat.le_of_ble_eq_true rfl, gw_81⟩, (List.forall_mem_cons.mpr ⟨⟨_, rfl, Nat.le_of_ble_eq_true rfl, gw_83⟩, (List.forall_mem_cons.mpr ⟨⟨_, rfl, Nat.le_of_ble_eq_true rfl, gw_85⟩, (fun _ h => absurd h List.not_mem_nil)⟩)⟩)⟩)⟩)⟩)⟩)⟩)⟩)⟩)⟩)⟩)⟩)⟩)⟩)⟩)⟩)⟩)⟩)
def LK_X5 : List (Nat × Value) := []
theorem xK_X5 : xKok RX5 (xal LK_X5) := xKok_of (fun _ h => absurd h List.not_mem_nil)
def LI_X5 : List (Nat × Value) := (1000000, .retAddr 5) :: LK_X5
theorem xI_X5 : xKok RX5 (xal LI_X5) := xKok_of (List.forall_mem_cons.mpr ⟨⟨fun _ h => (by cases h), fun _ h => (by cases h)⟩, (fun _ h => absurd h List.not_mem_nil)⟩)
def LN_X5 : List (Nat × Nat × List Value) := [(9, 0, [.int 0, .int 0, .int 0, .int 0, .int 0, .int 0, .int 0, .int 0, .null, .null, .null, .null, .null]), (18, 6, [.int 0, .null, .null, .null, .null])]
theorem xN_X5 : xNWok RX5 (xal LN_X5) := xNWok_of (List.forall_mem_cons.mpr ⟨Or.inr ⟨by decide, _, rfl, gw_34, gw_35, gw_3, rfl, rfl, tyX0, tyX0_ok, by decide +kernel⟩, (List.forall_mem_cons.mpr ⟨Or.inr ⟨by decide, _, rfl, gw_127, gw_128, gw_6, rfl, rfl, tyX6, tyX6_ok, by decide +kernel⟩, (fun _ h => absurd h List.not_mem_nil)⟩)⟩)
def LF_X1 : List (Nat × Nat × Nat) := [(11, 1, 1), (18, 1, 0)]
set_option maxRecDepth 100000 in
theorem xF_X1 : xFok RX1 (xal LF_X1) := xFok_of (List.forall_mem_cons.mpr ⟨⟨_, rfl, Nat.le_of_ble_eq_true rfl, gw_180⟩, (List.forall_mem_cons.mpr ⟨⟨_, rfl, Nat.le_of_ble_eq_true rfl, gw_178⟩, (fun _ h => absurd h List.not_mem_nil)⟩)⟩)
def LK_X1 : List (Nat × Value) := []
theorem xK_X1 : xKok RX1 (xal LK_X1) := xKok_of (fun _ h => absurd h List.not_mem_nil)
def LI_X1 : List (Nat × Value) := (1000000, .retAddr 1) :: LK_X1
theorem xI_X1 : xKok RX1 (xal LI_X1) := xKok_of (List.forall_mem_cons.mpr ⟨⟨fun _ h => (by cases h), fun _ h => (by cases h)⟩, (fun _ h => absurd h List.not_mem_nil)⟩)
def LN_X1 : List (Nat × Nat × List Value) := [(9, 5, [.null, .null]), (100009, 99, [])]
theorem xN_X1 : xNWok RX1 (xal LN_X1) := xNWok_of (List.forall_mem_cons.mpr ⟨Or.inr ⟨by decide, _, rfl, gw_175, gw_29, gw_2, rfl, rfl, tyX5, tyX5_ok, by decide +kernel⟩, (List.forall_mem_cons.mpr ⟨Or.inl ⟨rfl, gw_175⟩, (fun _ h => absurd h List.not_mem_nil)⟩)⟩)
def LF_X2 : List (Nat × Nat × Nat) := [(14, 2, 2), (20, 2, 3), (23, 2, 4), (26, 2, 5), (29, 2, 0), (37, 2, 6), (40, 2, 1), (51, 2, 7)]
set_option maxRecDepth 100000 in
theorem xF_X2 : xFok RX2 (xal LF_X2) := xFok_of (List.forall_mem_cons.mpr ⟨⟨_, rfl, Nat.le_of_ble_eq_true rfl, gw_243⟩, (List.forall_mem_cons.mpr ⟨⟨_, rfl, Nat.le_of_ble_eq_true rfl, gw_245⟩, (List.forall_mem_cons.mpr ⟨⟨_, rfl, Nat.le_of_ble_eq_true rfl, gw_247⟩, (List.forall_mem_cons.mpr ⟨⟨_, rfl, Nat.le_of_ble_eq_true rfl, gw_249⟩, (List.forall_mem_cons.mpr ⟨⟨_, rfl, Nat.le_of_ble_eq_true rfl, gw_239⟩, (List.forall_mem_cons.mpr ⟨⟨_, rfl, Nat.le_of_ble_eq_true rfl, gw_250⟩, (List.forall_mem_cons.mpr ⟨⟨_, rfl, Nat.le_of_ble_eq_true rfl, gw_241⟩, (List.forall_mem_cons.mpr ⟨⟨_, rfl, Nat.le_of_ble_eq_true rfl, gw_251⟩, (fun _ h => absurd h List.not_mem_nil)⟩)⟩)⟩)⟩)⟩)⟩)⟩)⟩)
def LK_X2 : List (Nat × Value) := []
theorem xK_X2 : xKok RX2 (xal LK_X2) := xKok_of (fun _ h => absurd h List.not_mem_nil)
def LI_X2 : List (Nat × Value) := (1000000, .retAddr 2) :: LK_X2
theorem xI_X2 : xKok RX2 (xal LI_X2) := xKok_of (List.forall_mem_cons.mpr ⟨⟨fun _ h => (by cases h), fun _ h => (by cases h)⟩, (fun _ h => absurd h List.not_mem_nil)⟩)
def LN_X2 : List (Nat × Nat × List Value) := [(9, 3, [.null])]
theorem xN_X2 : xNWok RX2 (xal LN_X2) := xNWok_of (List.forall_mem_cons.mpr ⟨Or.inr ⟨by decide, _, rfl, gw_237, gw_41, gw_4, rfl, rfl, tyX3, tyX3_ok, by decide +kernel⟩, (fun _ h => absurd h List.not_mem_nil)⟩)
def LF_J7 : List (Nat × Nat × Nat) := []
set_option maxRecDepth 100000 in
theorem xF_J7 : xFok RJ7 (xal LF_J7) := xFok_of (fun _ h => absurd h List.not_mem_nil)
def LK_J7 : List (Nat × Value) := []
theorem xK_J7 : xKok RJ7 (xal LK_J7) := xKok_of (fun _ h => absurd h List.not_mem_nil)
def LN_J7 : List (Nat × Nat × List Value) := []
theorem xN_J7 : xNWok RJ7 (xal LN_J7) := xNWok_of (fun _ h => absurd h List.not_mem_nil)
def LF_X7 : List (Nat × Nat × Nat) := [(16, 7, 1), (20, 7, 2), (23, 7, 3), (26, 7, 4), (32, 7, 5), (36, 0, 10), (45, 7, 7), (49, 7, 8), (52, 7, 9), (55, 7, 10), (58, 0, 8), (61, 0, 9), (72, 7, 6), (78, 7, 0), (112, 4, 0), (115, 4, 1)]
set_option maxRecDepth 100000 in
theorem xF_X7 : xFok RX7 (xal LF_X7) := xFok_of (List.forall_mem_cons.mpr ⟨⟨_, rfl, Nat.le_of_ble_eq_true rfl, gw_198⟩, (List.forall_mem_cons.mpr ⟨⟨_, rfl, Nat.le_of_ble_eq_true rfl, gw_199⟩, (List.forall_mem_cons.mpr ⟨⟨_, rfl, Nat.le_of_ble_eq_true rfl, gw_200⟩, (List.forall_mem_cons.mpr ⟨⟨_, rfl, Nat.le_of_ble_eq_true rfl, gw_201⟩, (List.forall_mem_cons.mpr ⟨⟨_, rfl, Nat.le_of_ble_eq_true rfl, gw_202⟩, (List.forall_mem_cons.mpr ⟨⟨_, rfl, Nat.le_of_ble_eq_true rfl, gw_95⟩, (List.forall_mem_cons.mpr ⟨⟨_, rfl, Nat.le_of_ble_eq_true rfl, gw_204⟩, (List.forall_mem_cons.mpr ⟨⟨_, rfl, Nat.le_of_ble_eq_true rfl, gw_205⟩, (List.forall_mem_cons.mpr ⟨⟨_, rfl, Nat.le_of_ble_eq_true rfl, gw_206⟩, (List.forall_mem_cons.mpr ⟨⟨_, rfl, Nat.le_of_ble_eq_true rfl, gw_207⟩, (List.forall_mem_cons.mpr ⟨⟨_, rfl, Nat.le_of_ble_eq_true rfl, gw_89⟩, (List.forall_mem_cons.mpr ⟨⟨_, rfl, Nat.le_of_ble_eq_true rfl, gw_92⟩, (List.forall_mem_cons.mpr ⟨⟨_, rfl, Nat.le_of_ble_eq_true rfl, gw_203⟩, (List.forall_mem_cons.mpr ⟨⟨_, rfl, Nat.le_of_ble_eq_true rfl, gw_196⟩, (List.forall_mem_cons.mpr ⟨⟨_, rfl, Nat.le_of_ble_eq_true rfl, gw_58⟩, (List.forall_mem_cons.mpr ⟨⟨_, rfl, Nat.le_of_ble_eq_true rfl, gw_61⟩, (fun _ h => absurd h List.not_mem_nil)⟩)⟩)⟩)⟩)⟩)⟩)⟩)⟩)⟩)⟩)⟩)⟩)⟩)⟩)⟩)⟩)
def LK_X7 : List (Nat × Value) := []
theorem xK_X7 : xKok RX7 (xal LK_X7) := xKok_of (fun _ h => absurd h List.not_mem_nil)
def LI_X7 : List (Nat × Value) := (1000000, .retAddr 7) :: LK_X7
theorem xI_X7 : xKok RX7 (xal LI_X7) := xKok_of (List.forall_mem_cons.mpr ⟨⟨fun _ h => (by cases h), fun _ h => (by cases h)⟩, (fun _ h => absurd h List.not_mem_nil)⟩)
def LN_X7 : List (Nat × Nat × List Value) := [(11, 3, [.null]), (29, 4, [.int 0, .int 0])]
theorem xN_X7 : xNWok RX7 (xal LN_X7) := xNWok_of (List.forall_mem_cons.mpr ⟨Or.inr ⟨by decide, _, rfl, gw_192, gw_41, gw_4, rfl, rfl, tyX3, tyX3_ok, by decide +kernel⟩, (List.forall_mem_cons.mpr ⟨Or.inr ⟨by decide, _, rfl, gw_194, gw_52, gw_5, rfl, rfl, tyX4, tyX4_ok, by decide +kernel⟩, (fun _ h => absurd h List.not_mem_nil)⟩)⟩)
def LF_X9 : List (Nat × Nat × Nat) := [(7, 9, 0), (13, 9, 1), (16, 9, 2), (19, 9, 4), (22, 9, 9), (25, 9, 10), (28, 9, 11), (31, 9, 12), (39, 9, 6), (43, 9, 3), (73, 9, 7), (76, 9, 8), (175, 9, 5), (178, 9, 13), (181, 9, 16), (187, 9, 15), (193, 9, 14), (216, 9, 17)]
set_option maxRecDepth 100000 in
theorem xF_X9 : xFok RX9 (xal LF_X9) := xFok_of (List.forall_mem_cons.mpr ⟨⟨_, rfl, Nat.le_of_ble_eq_true rfl, gw_886⟩, (List.forall_mem_cons.mpr ⟨⟨_, rfl, Nat.le_of_ble_eq_true rfl, gw_887⟩, (List.forall_mem_cons.mpr ⟨⟨_, rfl, Nat.le_of_ble_eq_true rfl, gw_888⟩, (List.forall_mem_cons.mpr ⟨⟨_, rfl, Nat.le_of_ble_eq_true rfl, gw_890⟩, (List.forall_mem_cons.mpr ⟨⟨_, rfl, Nat.le_of_ble_eq_true rfl, gw_895⟩, (List.forall_mem_cons.mpr ⟨⟨_, rfl, Nat.le_of_ble_eq_true rfl, gw_896⟩, (List.forall_mem_cons.mpr ⟨⟨_, rfl, Nat.le_of_ble_eq_true rfl, gw_897⟩, (List.forall_mem_cons.mpr ⟨⟨_, rfl, Nat.le_of_ble_eq_true rfl, gw_898⟩, (List.forall_mem_cons.mpr ⟨⟨_, rfl, Nat.le_of_ble_eq_true rfl, gw_892⟩, (List.forall_mem_cons.mpr ⟨⟨_, rfl, Nat.le_of_ble_eq_true rfl, gw_889⟩, (List.forall_mem_cons.mpr ⟨⟨_, rfl, Nat.le_of_ble_eq_true rfl, gw_893⟩, (List.forall_mem_cons.mpr ⟨⟨_, rfl, Nat.le_of_ble_eq_true rfl, gw_894⟩, (List.forall_mem_cons.mpr ⟨⟨_, rfl, Nat.le_of_ble_eq_true rfl, gw_891⟩, (List.forall_mem_cons.mpr ⟨⟨_, rfl, Nat.le_of_ble_eq_true rfl, gw_899⟩, (List.forall_mem_cons.mpr ⟨⟨_, rfl, Nat.le_of_ble_eq_true rfl, gw_902⟩, (List.forall_mem_cons.mpr ⟨⟨_, rfl, Nat.le_of_ble_eq_true rfl, gw_901⟩, (List.forall_mem_cons.mpr ⟨⟨_, rfl, Nat.le_of_ble_eq_true rfl, gw_900⟩, (List.forall_mem_cons.mpr ⟨⟨_, rfl, Nat.le_of_ble_eq_true rfl, gw_903⟩, (fun _ h => absurd h List.not_mem_nil)⟩)⟩)⟩)⟩)⟩)⟩)⟩)⟩)⟩)⟩)⟩)⟩)⟩)⟩)⟩)⟩)⟩)⟩)
def LK_X9 : List (Nat × Value) := [(34, .int (400000)), (65, .int (9000000)), (214, .long (31)), (220, .long (3547))]
theorem xK_X9 : xKok RX9 (xal LK_X9) := xKok_of (List.forall_mem_cons.mpr ⟨⟨fun _ h => (by cases h; exact gw_877), fun _ h => (by cases h)⟩, (List.forall_mem_cons.mpr ⟨⟨fun _ h => (by cases h; exact gw_955), fun _ h => (by cases h)⟩, (List.forall_mem_cons.mpr ⟨⟨fun _ h => (by cases h), fun _ h => (by cases h; exact gw_1216)⟩, (List.forall_mem_cons.mpr ⟨⟨fun _ h => (by cases h), fun _ h => (by cases h; exact gw_1211)⟩, (fun _ h => absurd h List.not_mem_nil)⟩)⟩)⟩)⟩)
def LI_X9 : List (Nat × Value) := (1000000, .retAddr 9) :: LK_X9
theorem xI_X9 : xKok RX9 (xal LI_X9) := xKok_of (List.forall_mem_cons.mpr ⟨⟨fun _ h => (by cases h), fun _ h => (by cases h)⟩, (List.forall_mem_cons.mpr ⟨⟨fun _ h => (by cases h; exact gw_877), fun _ h => (by cases h)⟩, (List.forall_mem_cons.mpr ⟨⟨fun _ h => (by cases h; exact gw_955), fun _ h => (by cases h)⟩, (List.forall_mem_cons.mpr ⟨⟨fun _ h => (by cases h), fun _ h => (by cases h; exact gw_1216)⟩, (List.forall_mem_cons.mpr ⟨⟨fun _ h => (by cases h), fun _ h => (by cases h; exact gw_1211)⟩, (fun _ h => absurd h List.not_mem_nil)⟩)⟩)⟩)⟩)⟩)
def LN_X9 : List (Nat × Nat × List Value) := []
theorem xN_X9 : xNWok RX9 (xal LN_X9) := xNWok_of (fun _ h => absurd h List.not_mem_nil)
def LF_L : List (Nat × Nat × Nat) := []
set_option maxRecDepth 100000 in
theorem xF_L : xFok RL (xal LF_L) := xFok_of (fun _ h => absurd h List.not_mem_nil)
def LK_L : List (Nat × Value) := []
theorem xK_L : xKok RL (xal LK_L) := xKok_of (fun _ h => absurd h List.not_mem_nil)
def LN_L : List (Nat × Nat × List Value) := []
theorem xN_L : xNWok RL (xal LN_L) := xNWok_of (fun _ h => absurd h List.not_mem_nil)
