section XLK0
variable {L : Nat} {sc : Nat → Int32} {Po : xO → xw → Prop} {P : xG → Prop} {s : xs} {F : Nat → Int64} {k kc ks : Nat}
set_option maxRecDepth 100000 in
theorem lc_0 (hP : xCl M_law L sc Po P) (hR : Rl s) (hL : L ≤ 3072) (hk : 6 * k + 6 ≤ L) (hc : kc + 5 ≤ 601024) (hs : ks + 30 ≤ 7293034) (K : ∀ s2 F2 kc2 ks2, Rl s2 → kc2 ≤ kc + 5 → ks2 ≤ ks + 30 → P (1548, [(0, .ref 1000000), (1, .ref 0), (2, .ref 142), (3, .ref 151), (4, .int (nI (6 * k)))], [], wo s2 F2, kc2, ks2)) : P (156, [(0, .ref 1000000), (1, .ref 0), (2, .ref 142), (3, .ref 151), (4, .int (nI (6 * k)))], [], wo s F, kc, ks) := by
  obtain ⟨kk, F2, s1, v, s2, h1, h2, hR2, e6, hv⟩ := hp_L_take (F := F) (p0 := sc (nI (6 * k) + nI 1).toNatClampNeg) (p1 := sc (nI (6 * k) + nI 2).toNatClampNeg) (p2 := sc (nI (6 * k) + nI 3).toNatClampNeg) (pr_take hR)
  refine P1 hP (g' := (157, _, _, _, _, _)) rfl rfl ?_
  refine P1 hP (g' := (158, _, _, _, _, _)) rfl rfl ?_
  refine P1 hP (g' := (160, _, _, _, _, _)) rfl rfl ?_
  refine P1 hP (g' := (161, _, .int (nI 1) :: _, _, _, _)) rfl rfl ?_
  refine P1 hP (g' := (162, _, _, _, _, _)) rfl rfl ?_
  refine P_sld hP rfl rfl (vq hL hk (by decide)) ?_
  refine P1 hP (g' := (164, _, _, _, _, _)) rfl rfl ?_
  refine P1 hP (g' := (166, _, _, _, _, _)) rfl rfl ?_
  refine P1 hP (g' := (167, _, .int (nI 2) :: _, _, _, _)) rfl rfl ?_
  refine P1 hP (g' := (168, _, _, _, _, _)) rfl rfl ?_
  refine P_sld hP rfl rfl (vq hL hk (by decide)) ?_
  refine P1 hP (g' := (170, _, _, _, _, _)) rfl rfl ?_
  refine P1 hP (g' := (172, _, _, _, _, _)) rfl rfl ?_
  refine P1 hP (g' := (173, _, .int (nI 3) :: _, _, _, _)) rfl rfl ?_
  refine P1 hP (g' := (174, _, _, _, _, _)) rfl rfl ?_
  refine P_sld hP rfl rfl (vq hL hk (by decide)) ?_
  refine P1 hP (g' := (176, _, _, _, _, _)) rfl rfl ?_
  refine P_call hP (Or.inl ⟨rfl, rfl⟩) rfl rfl (avs := [.ref 0, .int _, .int _, .int _, .ref 151]) rfl rfl h1 ⟨by show _ + _ ≤ 601024; omega, by show _ + _ ≤ 7293034; omega⟩ rfl ⟨rfl, rfl⟩ ⟨rfl, rfl⟩ ?_
  change P (179, _, _, wo s1 F2, _, _)
  refine P1 hP (g' := (181, _, _, _, _, _)) rfl rfl ?_
  refine P1 hP (g' := (182, _, _, _, _, _)) rfl rfl ?_
  refine P1 hP (g' := (183, _, _, _, _, _)) rfl rfl ?_
  refine P1 hP (g' := (185, _, _, _, _, _)) rfl rfl ?_
  refine P1 hP (g' := (186, _, .int (nI 1) :: _, _, _, _)) rfl rfl ?_
  refine P1 hP (g' := (187, _, _, _, _, _)) rfl rfl ?_
  refine P_sld hP rfl rfl (vq hL hk (by decide)) ?_
  refine P1 hP (g' := (189, _, _, _, _, _)) rfl rfl ?_
  refine P1 hP (g' := (191, _, _, _, _, _)) rfl rfl ?_
  refine P1 hP (g' := (192, _, .int (nI 2) :: _, _, _, _)) rfl rfl ?_
  refine P1 hP (g' := (193, _, _, _, _, _)) rfl rfl ?_
  refine P_sld hP rfl rfl (vq hL hk (by decide)) ?_
  refine P1 hP (g' := (195, _, _, _, _, _)) rfl rfl ?_
  refine P1 hP (g' := (197, _, _, _, _, _)) rfl rfl ?_
  refine P1 hP (g' := (198, _, .int (nI 3) :: _, _, _, _)) rfl rfl ?_
  refine P1 hP (g' := (199, _, _, _, _, _)) rfl rfl ?_
  refine P_sld hP rfl rfl (vq hL hk (by decide)) ?_
  refine P_call hP (Or.inr (Or.inl ⟨rfl, rfl⟩)) rfl rfl (avs := [.ref 142, .int _, .int _, .int _]) rfl rfl ⟨⟨_, _, _, rfl, Nat.le_of_ble_eq_true rfl, rfl⟩, _, _, F2, rfl, rfl, h2⟩ ⟨by show _ + _ ≤ 601024; omega, by show _ + _ ≤ 7293034; omega⟩ rfl ⟨rfl, rfl⟩ ⟨rfl, rfl⟩ ?_
  change P (203, _, _, wo s2 F2, _, _)
  refine P1 hP (g' := (205, _, _, _, _, _)) rfl rfl ?_
  refine P1 hP (g' := (206, _, _, _, _, _)) rfl rfl ?_
  refine P_call hP (Or.inr (Or.inl ⟨rfl, rfl⟩)) rfl rfl (avs := [.ref 142]) rfl rfl ⟨⟨_, _, _, rfl, Nat.le_of_ble_eq_true rfl, rfl⟩, _, _, F2, rfl, rfl, e9_thrown⟩ ⟨by show _ + _ ≤ 601024; omega, by show _ + _ ≤ 7293034; omega⟩ rfl ⟨rfl, rfl⟩ ⟨rfl, rfl⟩ ?_
  change P (209, _, _, wo s2 F2, _, _)
  refine P1 hP (g' := (211, _, _, _, _, _)) rfl rfl ?_
  refine P_ceq hP 216 rfl rfl (fun h211 => ?_) (fun h => by exact absurd e6 h)
  refine P1 hP (g' := (218, _, _, _, _, _)) rfl rfl ?_
  refine P_ne hP 233 rfl rfl (fun h218 => ?_) (fun h218 => ?_)
  · refine P1 hP (g' := (1548, _, _, _, _, _)) rfl rfl ?_
    refine P_lv hP [(0, .ref 1000000), (1, .ref 0), (2, .ref 142), (3, .ref 151), (4, .int (nI (6 * k)))] (List.forall_mem_cons.mpr ⟨rfl, List.forall_mem_cons.mpr ⟨rfl, List.forall_mem_cons.mpr ⟨rfl, List.forall_mem_cons.mpr ⟨rfl, List.forall_mem_cons.mpr ⟨rfl, fun _ h => absurd h List.not_mem_nil⟩⟩⟩⟩⟩) (K _ _ _ _ hR2 ?_ ?_) <;> omega
  · refine P1 hP (g' := (222, _, _, _, _, _)) rfl rfl ?_
    refine P1 hP (g' := (223, _, .int (nI 0) :: _, _, _, _)) rfl rfl ?_
    refine P_lald hP rfl ?_
    refine P1 hP (g' := (226, _, _, _, _, _)) rfl rfl ?_
    refine P1 hP (g' := (227, _, _, _, _, _)) rfl rfl ?_
    refine P1 hP (g' := (228, _, _, _, _, _)) rfl rfl ?_
    refine P_eq hP 233 rfl rfl (fun h228 => ?_) (fun h => by exact absurd (by rw [hv h218]; exact lgc _) h)
    refine P1 hP (g' := (1548, _, _, _, _, _)) rfl rfl ?_
    refine P_lv hP [(0, .ref 1000000), (1, .ref 0), (2, .ref 142), (3, .ref 151), (4, .int (nI (6 * k)))] (List.forall_mem_cons.mpr ⟨rfl, List.forall_mem_cons.mpr ⟨rfl, List.forall_mem_cons.mpr ⟨rfl, List.forall_mem_cons.mpr ⟨rfl, List.forall_mem_cons.mpr ⟨rfl, fun _ h => absurd h List.not_mem_nil⟩⟩⟩⟩⟩) (K _ _ _ _ hR2 ?_ ?_) <;> omega
set_option maxRecDepth 100000 in
theorem lc_1 (hP : xCl M_law L sc Po P) (hR : Rl s) (hL : L ≤ 3072) (hk : 6 * k + 6 ≤ L) (hc : kc + 5 ≤ 601024) (hs : ks + 30 ≤ 7293034) (K : ∀ s2 F2 kc2 ks2, Rl s2 → kc2 ≤ kc + 5 → ks2 ≤ ks + 30 → P (1548, [(0, .ref 1000000), (1, .ref 0), (2, .ref 142), (3, .ref 151), (4, .int (nI (6 * k)))], [], wo s2 F2, kc2, ks2)) : P (236, [(0, .ref 1000000), (1, .ref 0), (2, .ref 142), (3, .ref 151), (4, .int (nI (6 * k)))], [], wo s F, kc, ks) := by
  obtain ⟨kk, F2, s1, v, s2, h1, h2, hR2, e6, hv⟩ := hp_L_setScale (F := F) (p0 := sc (nI (6 * k) + nI 1).toNatClampNeg) (pr_setScale hR)
  refine P1 hP (g' := (237, _, _, _, _, _)) rfl rfl ?_
  refine P1 hP (g' := (238, _, _, _, _, _)) rfl rfl ?_
  refine P1 hP (g' := (240, _, _, _, _, _)) rfl rfl ?_
  refine P1 hP (g' := (241, _, .int (nI 1) :: _, _, _, _)) rfl rfl ?_
  refine P1 hP (g' := (242, _, _, _, _, _)) rfl rfl ?_
  refine P_sld hP rfl rfl (vq hL hk (by decide)) ?_
  refine P1 hP (g' := (244, _, _, _, _, _)) rfl rfl ?_
  refine P_call hP (Or.inl ⟨rfl, rfl⟩) rfl rfl (avs := [.ref 0, .int _, .ref 151]) rfl rfl h1 ⟨by show _ + _ ≤ 601024; omega, by show _ + _ ≤ 7293034; omega⟩ rfl ⟨rfl, rfl⟩ ⟨rfl, rfl⟩ ?_
  change P (247, _, _, wo s1 F2, _, _)
  refine P1 hP (g' := (249, _, _, _, _, _)) rfl rfl ?_
  refine P1 hP (g' := (250, _, _, _, _, _)) rfl rfl ?_
  refine P1 hP (g' := (251, _, _, _, _, _)) rfl rfl ?_
  refine P1 hP (g' := (253, _, _, _, _, _)) rfl rfl ?_
  refine P1 hP (g' := (254, _, .int (nI 1) :: _, _, _, _)) rfl rfl ?_
  refine P1 hP (g' := (255, _, _, _, _, _)) rfl rfl ?_
  refine P_sld hP rfl rfl (vq hL hk (by decide)) ?_
  refine P_call hP (Or.inr (Or.inl ⟨rfl, rfl⟩)) rfl rfl (avs := [.ref 142, .int _]) rfl rfl ⟨⟨_, _, _, rfl, Nat.le_of_ble_eq_true rfl, rfl⟩, _, _, F2, rfl, rfl, h2⟩ ⟨by show _ + _ ≤ 601024; omega, by show _ + _ ≤ 7293034; omega⟩ rfl ⟨rfl, rfl⟩ ⟨rfl, rfl⟩ ?_
  change P (259, _, _, wo s2 F2, _, _)
  refine P1 hP (g' := (261, _, _, _, _, _)) rfl rfl ?_
  refine P1 hP (g' := (262, _, _, _, _, _)) rfl rfl ?_
  refine P_call hP (Or.inr (Or.inl ⟨rfl, rfl⟩)) rfl rfl (avs := [.ref 142]) rfl rfl ⟨⟨_, _, _, rfl, Nat.le_of_ble_eq_true rfl, rfl⟩, _, _, F2, rfl, rfl, e9_thrown⟩ ⟨by show _ + _ ≤ 601024; omega, by show _ + _ ≤ 7293034; omega⟩ rfl ⟨rfl, rfl⟩ ⟨rfl, rfl⟩ ?_
  change P (265, _, _, wo s2 F2, _, _)
  refine P1 hP (g' := (267, _, _, _, _, _)) rfl rfl ?_
  refine P_ceq hP 272 rfl rfl (fun h267 => ?_) (fun h => by exact absurd e6 h)
  refine P1 hP (g' := (274, _, _, _, _, _)) rfl rfl ?_
  refine P_ne hP 289 rfl rfl (fun h274 => ?_) (fun h274 => ?_)
  · refine P1 hP (g' := (1548, _, _, _, _, _)) rfl rfl ?_
    refine P_lv hP [(0, .ref 1000000), (1, .ref 0), (2, .ref 142), (3, .ref 151), (4, .int (nI (6 * k)))] (List.forall_mem_cons.mpr ⟨rfl, List.forall_mem_cons.mpr ⟨rfl, List.forall_mem_cons.mpr ⟨rfl, List.forall_mem_cons.mpr ⟨rfl, List.forall_mem_cons.mpr ⟨rfl, fun _ h => absurd h List.not_mem_nil⟩⟩⟩⟩⟩) (K _ _ _ _ hR2 ?_ ?_) <;> omega
  · refine P1 hP (g' := (278, _, _, _, _, _)) rfl rfl ?_
    refine P1 hP (g' := (279, _, .int (nI 0) :: _, _, _, _)) rfl rfl ?_
    refine P_lald hP rfl ?_
    refine P1 hP (g' := (282, _, _, _, _, _)) rfl rfl ?_
    refine P1 hP (g' := (283, _, _, _, _, _)) rfl rfl ?_
    refine P1 hP (g' := (284, _, _, _, _, _)) rfl rfl ?_
    refine P_eq hP 289 rfl rfl (fun h284 => ?_) (fun h => by exact absurd (by rw [hv h274]; exact lgc _) h)
    refine P1 hP (g' := (1548, _, _, _, _, _)) rfl rfl ?_
    refine P_lv hP [(0, .ref 1000000), (1, .ref 0), (2, .ref 142), (3, .ref 151), (4, .int (nI (6 * k)))] (List.forall_mem_cons.mpr ⟨rfl, List.forall_mem_cons.mpr ⟨rfl, List.forall_mem_cons.mpr ⟨rfl, List.forall_mem_cons.mpr ⟨rfl, List.forall_mem_cons.mpr ⟨rfl, fun _ h => absurd h List.not_mem_nil⟩⟩⟩⟩⟩) (K _ _ _ _ hR2 ?_ ?_) <;> omega
set_option maxRecDepth 100000 in
theorem lc_2 (hP : xCl M_law L sc Po P) (hR : Rl s) (hL : L ≤ 3072) (hk : 6 * k + 6 ≤ L) (hc : kc + 5 ≤ 601024) (hs : ks + 30 ≤ 7293034) (K : ∀ s2 F2 kc2 ks2, Rl s2 → kc2 ≤ kc + 5 → ks2 ≤ ks + 30 → P (1548, [(0, .ref 1000000), (1, .ref 0), (2, .ref 142), (3, .ref 151), (4, .int (nI (6 * k)))], [], wo s2 F2, kc2, ks2)) : P (292, [(0, .ref 1000000), (1, .ref 0), (2, .ref 142), (3, .ref 151), (4, .int (nI (6 * k)))], [], wo s F, kc, ks) := by
  obtain ⟨kk, F2, s1, v, s2, h1, h2, hR2, e6, hv⟩ := hp_L_blow (F := F) (p0 := sc (nI (6 * k) + nI 1).toNatClampNeg) (p1 := sc (nI (6 * k) + nI 2).toNatClampNeg) (p2 := sc (nI (6 * k) + nI 3).toNatClampNeg) (pr_blow hR)
  refine P1 hP (g' := (293, _, _, _, _, _)) rfl rfl ?_
  refine P1 hP (g' := (294, _, _, _, _, _)) rfl rfl ?_
  refine P1 hP (g' := (296, _, _, _, _, _)) rfl rfl ?_
  refine P1 hP (g' := (297, _, .int (nI 1) :: _, _, _, _)) rfl rfl ?_
  refine P1 hP (g' := (298, _, _, _, _, _)) rfl rfl ?_
  refine P_sld hP rfl rfl (vq hL hk (by decide)) ?_
  refine P1 hP (g' := (300, _, _, _, _, _)) rfl rfl ?_
  refine P1 hP (g' := (302, _, _, _, _, _)) rfl rfl ?_
  refine P1 hP (g' := (303, _, .int (nI 2) :: _, _, _, _)) rfl rfl ?_
  refine P1 hP (g' := (304, _, _, _, _, _)) rfl rfl ?_
  refine P_sld hP rfl rfl (vq hL hk (by decide)) ?_
  refine P1 hP (g' := (306, _, _, _, _, _)) rfl rfl ?_
  refine P1 hP (g' := (308, _, _, _, _, _)) rfl rfl ?_
  refine P1 hP (g' := (309, _, .int (nI 3) :: _, _, _, _)) rfl rfl ?_
  refine P1 hP (g' := (310, _, _, _, _, _)) rfl rfl ?_
  refine P_sld hP rfl rfl (vq hL hk (by decide)) ?_
  refine P1 hP (g' := (312, _, _, _, _, _)) rfl rfl ?_
  refine P_call hP (Or.inl ⟨rfl, rfl⟩) rfl rfl (avs := [.ref 0, .int _, .int _, .int _, .ref 151]) rfl rfl h1 ⟨by show _ + _ ≤ 601024; omega, by show _ + _ ≤ 7293034; omega⟩ rfl ⟨rfl, rfl⟩ ⟨rfl, rfl⟩ ?_
  change P (315, _, _, wo s1 F2, _, _)
  refine P1 hP (g' := (317, _, _, _, _, _)) rfl rfl ?_
  refine P1 hP (g' := (318, _, _, _, _, _)) rfl rfl ?_
  refine P1 hP (g' := (319, _, _, _, _, _)) rfl rfl ?_
  refine P1 hP (g' := (321, _, _, _, _, _)) rfl rfl ?_
  refine P1 hP (g' := (322, _, .int (nI 1) :: _, _, _, _)) rfl rfl ?_
  refine P1 hP (g' := (323, _, _, _, _, _)) rfl rfl ?_
  refine P_sld hP rfl rfl (vq hL hk (by decide)) ?_
  refine P1 hP (g' := (325, _, _, _, _, _)) rfl rfl ?_
  refine P1 hP (g' := (327, _, _, _, _, _)) rfl rfl ?_
  refine P1 hP (g' := (328, _, .int (nI 2) :: _, _, _, _)) rfl rfl ?_
  refine P1 hP (g' := (329, _, _, _, _, _)) rfl rfl ?_
  refine P_sld hP rfl rfl (vq hL hk (by decide)) ?_
  refine P1 hP (g' := (331, _, _, _, _, _)) rfl rfl ?_
  refine P1 hP (g' := (333, _, _, _, _, _)) rfl rfl ?_
  refine P1 hP (g' := (334, _, .int (nI 3) :: _, _, _, _)) rfl rfl ?_
  refine P1 hP (g' := (335, _, _, _, _, _)) rfl rfl ?_
  refine P_sld hP rfl rfl (vq hL hk (by decide)) ?_
  refine P_call hP (Or.inr (Or.inl ⟨rfl, rfl⟩)) rfl rfl (avs := [.ref 142, .int _, .int _, .int _]) rfl rfl ⟨⟨_, _, _, rfl, Nat.le_of_ble_eq_true rfl, rfl⟩, _, _, F2, rfl, rfl, h2⟩ ⟨by show _ + _ ≤ 601024; omega, by show _ + _ ≤ 7293034; omega⟩ rfl ⟨rfl, rfl⟩ ⟨rfl, rfl⟩ ?_
  change P (339, _, _, wo s2 F2, _, _)
  refine P1 hP (g' := (341, _, _, _, _, _)) rfl rfl ?_
  refine P1 hP (g' := (342, _, _, _, _, _)) rfl rfl ?_
  refine P_call hP (Or.inr (Or.inl ⟨rfl, rfl⟩)) rfl rfl (avs := [.ref 142]) rfl rfl ⟨⟨_, _, _, rfl, Nat.le_of_ble_eq_true rfl, rfl⟩, _, _, F2, rfl, rfl, e9_thrown⟩ ⟨by show _ + _ ≤ 601024; omega, by show _ + _ ≤ 7293034; omega⟩ rfl ⟨rfl, rfl⟩ ⟨rfl, rfl⟩ ?_
  change P (345, _, _, wo s2 F2, _, _)
  refine P1 hP (g' := (347, _, _, _, _, _)) rfl rfl ?_
  refine P_ceq hP 352 rfl rfl (fun h347 => ?_) (fun h => by exact absurd e6 h)
  refine P1 hP (g' := (354, _, _, _, _, _)) rfl rfl ?_
  refine P_ne hP 369 rfl rfl (fun h354 => ?_) (fun h354 => ?_)
  · refine P1 hP (g' := (1548, _, _, _, _, _)) rfl rfl ?_
    refine P_lv hP [(0, .ref 1000000), (1, .ref 0), (2, .ref 142), (3, .ref 151), (4, .int (nI (6 * k)))] (List.forall_mem_cons.mpr ⟨rfl, List.forall_mem_cons.mpr ⟨rfl, List.forall_mem_cons.mpr ⟨rfl, List.forall_mem_cons.mpr ⟨rfl, List.forall_mem_cons.mpr ⟨rfl, fun _ h => absurd h List.not_mem_nil⟩⟩⟩⟩⟩) (K _ _ _ _ hR2 ?_ ?_) <;> omega
  · refine P1 hP (g' := (358, _, _, _, _, _)) rfl rfl ?_
    refine P1 hP (g' := (359, _, .int (nI 0) :: _, _, _, _)) rfl rfl ?_
    refine P_lald hP rfl ?_
    refine P1 hP (g' := (362, _, _, _, _, _)) rfl rfl ?_
    refine P1 hP (g' := (363, _, _, _, _, _)) rfl rfl ?_
    refine P1 hP (g' := (364, _, _, _, _, _)) rfl rfl ?_
    refine P_eq hP 369 rfl rfl (fun h364 => ?_) (fun h => by exact absurd (by rw [hv h354]; exact lgc _) h)
    refine P1 hP (g' := (1548, _, _, _, _, _)) rfl rfl ?_
    refine P_lv hP [(0, .ref 1000000), (1, .ref 0), (2, .ref 142), (3, .ref 151), (4, .int (nI (6 * k)))] (List.forall_mem_cons.mpr ⟨rfl, List.forall_mem_cons.mpr ⟨rfl, List.forall_mem_cons.mpr ⟨rfl, List.forall_mem_cons.mpr ⟨rfl, List.forall_mem_cons.mpr ⟨rfl, fun _ h => absurd h List.not_mem_nil⟩⟩⟩⟩⟩) (K _ _ _ _ hR2 ?_ ?_) <;> omega
set_option maxRecDepth 100000 in
theorem lc_3 (hP : xCl M_law L sc Po P) (hR : Rl s) (hL : L ≤ 3072) (hk : 6 * k + 6 ≤ L) (hc : kc + 5 ≤ 601024) (hs : ks + 30 ≤ 7293034) (K : ∀ s2 F2 kc2 ks2, Rl s2 → kc2 ≤ kc + 5 → ks2 ≤ ks + 30 → P (1548, [(0, .ref 1000000), (1, .ref 0), (2, .ref 142), (3, .ref 151), (4, .int (nI (6 * k)))], [], wo s2 F2, kc2, ks2)) : P (372, [(0, .ref 1000000), (1, .ref 0), (2, .ref 142), (3, .ref 151), (4, .int (nI (6 * k)))], [], wo s F, kc, ks) := by
  obtain ⟨o, s1, v, s2, h1, h2, hR2, h3⟩ := pr_heat hR
  have ho : o = .inl (some (.int v)) := h3.elim (fun z => z.1) (fun ⟨k9, E, hk9, _⟩ => by cases hk9)
  subst ho
  refine P1 hP (g' := (373, _, _, _, _, _)) rfl rfl ?_
  refine P_call hP (Or.inr (Or.inl ⟨rfl, rfl⟩)) rfl rfl (avs := [.ref 0]) rfl rfl ⟨⟨_, _, _, rfl, Nat.le_of_ble_eq_true rfl, rfl⟩, _, _, F, rfl, rfl, h1⟩ ⟨by show _ + _ ≤ 601024; omega, by show _ + _ ≤ 7293034; omega⟩ rfl ⟨rfl, rfl⟩ ⟨rfl, rfl⟩ ?_
  change P (376, _, _, wo s1 F, _, _)
  refine P1 hP (g' := (377, _, _, _, _, _)) rfl rfl ?_
  refine P_call hP (Or.inr (Or.inl ⟨rfl, rfl⟩)) rfl rfl (avs := [.ref 142]) rfl rfl ⟨⟨_, _, _, rfl, Nat.le_of_ble_eq_true rfl, rfl⟩, _, _, F, rfl, rfl, h2⟩ ⟨by show _ + _ ≤ 601024; omega, by show _ + _ ≤ 7293034; omega⟩ rfl ⟨rfl, rfl⟩ ⟨rfl, rfl⟩ ?_
  change P (380, _, _, wo s2 F, _, _)
  refine P_ceq hP 1548 rfl rfl (fun h380 => ?_) (fun h => by exact absurd rfl h)
  refine P_lv hP [(0, .ref 1000000), (1, .ref 0), (2, .ref 142), (3, .ref 151), (4, .int (nI (6 * k)))] (List.forall_mem_cons.mpr ⟨rfl, List.forall_mem_cons.mpr ⟨rfl, List.forall_mem_cons.mpr ⟨rfl, List.forall_mem_cons.mpr ⟨rfl, List.forall_mem_cons.mpr ⟨rfl, fun _ h => absurd h List.not_mem_nil⟩⟩⟩⟩⟩) (K _ _ _ _ hR2 ?_ ?_) <;> omega
set_option maxRecDepth 100000 in
theorem lc_4 (hP : xCl M_law L sc Po P) (hR : Rl s) (hL : L ≤ 3072) (hk : 6 * k + 6 ≤ L) (hc : kc + 5 ≤ 601024) (hs : ks + 30 ≤ 7293034) (K : ∀ s2 F2 kc2 ks2, Rl s2 → kc2 ≤ kc + 5 → ks2 ≤ ks + 30 → P (1548, [(0, .ref 1000000), (1, .ref 0), (2, .ref 142), (3, .ref 151), (4, .int (nI (6 * k)))], [], wo s2 F2, kc2, ks2)) : P (385, [(0, .ref 1000000), (1, .ref 0), (2, .ref 142), (3, .ref 151), (4, .int (nI (6 * k)))], [], wo s F, kc, ks) := by
  obtain ⟨kk, F2, s1, v, s2, h1, h2, hR2, e6, hv⟩ := hp_L_pause (F := F) (p0 := sc (nI (6 * k) + nI 1).toNatClampNeg) (pr_pause hR)
  refine P1 hP (g' := (386, _, _, _, _, _)) rfl rfl ?_
  refine P1 hP (g' := (387, _, _, _, _, _)) rfl rfl ?_
  refine P1 hP (g' := (389, _, _, _, _, _)) rfl rfl ?_
  refine P1 hP (g' := (390, _, .int (nI 1) :: _, _, _, _)) rfl rfl ?_
  refine P1 hP (g' := (391, _, _, _, _, _)) rfl rfl ?_
  refine P_sld hP rfl rfl (vq hL hk (by decide)) ?_
  refine P1 hP (g' := (393, _, _, _, _, _)) rfl rfl ?_
  refine P_call hP (Or.inl ⟨rfl, rfl⟩) rfl rfl (avs := [.ref 0, .int _, .ref 151]) rfl rfl h1 ⟨by show _ + _ ≤ 601024; omega, by show _ + _ ≤ 7293034; omega⟩ rfl ⟨rfl, rfl⟩ ⟨rfl, rfl⟩ ?_
  change P (396, _, _, wo s1 F2, _, _)
  refine P1 hP (g' := (398, _, _, _, _, _)) rfl rfl ?_
  refine P1 hP (g' := (399, _, _, _, _, _)) rfl rfl ?_
  refine P1 hP (g' := (400, _, _, _, _, _)) rfl rfl ?_
  refine P1 hP (g' := (402, _, _, _, _, _)) rfl rfl ?_
  refine P1 hP (g' := (403, _, .int (nI 1) :: _, _, _, _)) rfl rfl ?_
  refine P1 hP (g' := (404, _, _, _, _, _)) rfl rfl ?_
  refine P_sld hP rfl rfl (vq hL hk (by decide)) ?_
  refine P_call hP (Or.inr (Or.inl ⟨rfl, rfl⟩)) rfl rfl (avs := [.ref 142, .int _]) rfl rfl ⟨⟨_, _, _, rfl, Nat.le_of_ble_eq_true rfl, rfl⟩, _, _, F2, rfl, rfl, h2⟩ ⟨by show _ + _ ≤ 601024; omega, by show _ + _ ≤ 7293034; omega⟩ rfl ⟨rfl, rfl⟩ ⟨rfl, rfl⟩ ?_
  change P (408, _, _, wo s2 F2, _, _)
  refine P1 hP (g' := (410, _, _, _, _, _)) rfl rfl ?_
  refine P1 hP (g' := (411, _, _, _, _, _)) rfl rfl ?_
  refine P_call hP (Or.inr (Or.inl ⟨rfl, rfl⟩)) rfl rfl (avs := [.ref 142]) rfl rfl ⟨⟨_, _, _, rfl, Nat.le_of_ble_eq_true rfl, rfl⟩, _, _, F2, rfl, rfl, e9_thrown⟩ ⟨by show _ + _ ≤ 601024; omega, by show _ + _ ≤ 7293034; omega⟩ rfl ⟨rfl, rfl⟩ ⟨rfl, rfl⟩ ?_
  change P (414, _, _, wo s2 F2, _, _)
  refine P1 hP (g' := (416, _, _, _, _, _)) rfl rfl ?_
  refine P_ceq hP 421 rfl rfl (fun h416 => ?_) (fun h => by exact absurd e6 h)
  refine P1 hP (g' := (423, _, _, _, _, _)) rfl rfl ?_
  refine P_ne hP 438 rfl rfl (fun h423 => ?_) (fun h423 => ?_)
  · refine P1 hP (g' := (1548, _, _, _, _, _)) rfl rfl ?_
    refine P_lv hP [(0, .ref 1000000), (1, .ref 0), (2, .ref 142), (3, .ref 151), (4, .int (nI (6 * k)))] (List.forall_mem_cons.mpr ⟨rfl, List.forall_mem_cons.mpr ⟨rfl, List.forall_mem_cons.mpr ⟨rfl, List.forall_mem_cons.mpr ⟨rfl, List.forall_mem_cons.mpr ⟨rfl, fun _ h => absurd h List.not_mem_nil⟩⟩⟩⟩⟩) (K _ _ _ _ hR2 ?_ ?_) <;> omega
  · refine P1 hP (g' := (427, _, _, _, _, _)) rfl rfl ?_
    refine P1 hP (g' := (428, _, .int (nI 0) :: _, _, _, _)) rfl rfl ?_
    refine P_lald hP rfl ?_
    refine P1 hP (g' := (431, _, _, _, _, _)) rfl rfl ?_
    refine P1 hP (g' := (432, _, _, _, _, _)) rfl rfl ?_
    refine P1 hP (g' := (433, _, _, _, _, _)) rfl rfl ?_
    refine P_eq hP 438 rfl rfl (fun h433 => ?_) (fun h => by exact absurd (by rw [hv h423]; exact lgc _) h)
    refine P1 hP (g' := (1548, _, _, _, _, _)) rfl rfl ?_
    refine P_lv hP [(0, .ref 1000000), (1, .ref 0), (2, .ref 142), (3, .ref 151), (4, .int (nI (6 * k)))] (List.forall_mem_cons.mpr ⟨rfl, List.forall_mem_cons.mpr ⟨rfl, List.forall_mem_cons.mpr ⟨rfl, List.forall_mem_cons.mpr ⟨rfl, List.forall_mem_cons.mpr ⟨rfl, fun _ h => absurd h List.not_mem_nil⟩⟩⟩⟩⟩) (K _ _ _ _ hR2 ?_ ?_) <;> omega
set_option maxRecDepth 100000 in
theorem lc_5 (hP : xCl M_law L sc Po P) (hR : Rl s) (hL : L ≤ 3072) (hk : 6 * k + 6 ≤ L) (hc : kc + 5 ≤ 601024) (hs : ks + 30 ≤ 7293034) (K : ∀ s2 F2 kc2 ks2, Rl s2 → kc2 ≤ kc + 5 → ks2 ≤ ks + 30 → P (1548, [(0, .ref 1000000), (1, .ref 0), (2, .ref 142), (3, .ref 151), (4, .int (nI (6 * k)))], [], wo s2 F2, kc2, ks2)) : P (441, [(0, .ref 1000000), (1, .ref 0), (2, .ref 142), (3, .ref 151), (4, .int (nI (6 * k)))], [], wo s F, kc, ks) := by
  obtain ⟨kk, F2, s1, v, s2, h1, h2, hR2, e6, hv⟩ := hp_L_cut (F := F) (p0 := sc (nI (6 * k) + nI 1).toNatClampNeg) (p1 := sc (nI (6 * k) + nI 2).toNatClampNeg) (pr_cut hR)
  refine P1 hP (g' := (442, _, _, _, _, _)) rfl rfl ?_
  refine P1 hP (g' := (443, _, _, _, _, _)) rfl rfl ?_
  refine P1 hP (g' := (445, _, _, _, _, _)) rfl rfl ?_
  refine P1 hP (g' := (446, _, .int (nI 1) :: _, _, _, _)) rfl rfl ?_
  refine P1 hP (g' := (447, _, _, _, _, _)) rfl rfl ?_
  refine P_sld hP rfl rfl (vq hL hk (by decide)) ?_
  refine P1 hP (g' := (449, _, _, _, _, _)) rfl rfl ?_
  refine P1 hP (g' := (451, _, _, _, _, _)) rfl rfl ?_
  refine P1 hP (g' := (452, _, .int (nI 2) :: _, _, _, _)) rfl rfl ?_
  refine P1 hP (g' := (453, _, _, _, _, _)) rfl rfl ?_
  refine P_sld hP rfl rfl (vq hL hk (by decide)) ?_
  refine P1 hP (g' := (455, _, _, _, _, _)) rfl rfl ?_
  refine P_call hP (Or.inl ⟨rfl, rfl⟩) rfl rfl (avs := [.ref 0, .int _, .int _, .ref 151]) rfl rfl h1 ⟨by show _ + _ ≤ 601024; omega, by show _ + _ ≤ 7293034; omega⟩ rfl ⟨rfl, rfl⟩ ⟨rfl, rfl⟩ ?_
  change P (458, _, _, wo s1 F2, _, _)
  refine P1 hP (g' := (460, _, _, _, _, _)) rfl rfl ?_
  refine P1 hP (g' := (461, _, _, _, _, _)) rfl rfl ?_
  refine P1 hP (g' := (462, _, _, _, _, _)) rfl rfl ?_
  refine P1 hP (g' := (464, _, _, _, _, _)) rfl rfl ?_
  refine P1 hP (g' := (465, _, .int (nI 1) :: _, _, _, _)) rfl rfl ?_
  refine P1 hP (g' := (466, _, _, _, _, _)) rfl rfl ?_
  refine P_sld hP rfl rfl (vq hL hk (by decide)) ?_
  refine P1 hP (g' := (468, _, _, _, _, _)) rfl rfl ?_
  refine P1 hP (g' := (470, _, _, _, _, _)) rfl rfl ?_
  refine P1 hP (g' := (471, _, .int (nI 2) :: _, _, _, _)) rfl rfl ?_
  refine P1 hP (g' := (472, _, _, _, _, _)) rfl rfl ?_
  refine P_sld hP rfl rfl (vq hL hk (by decide)) ?_
  refine P_call hP (Or.inr (Or.inl ⟨rfl, rfl⟩)) rfl rfl (avs := [.ref 142, .int _, .int _]) rfl rfl ⟨⟨_, _, _, rfl, Nat.le_of_ble_eq_true rfl, rfl⟩, _, _, F2, rfl, rfl, h2⟩ ⟨by show _ + _ ≤ 601024; omega, by show _ + _ ≤ 7293034; omega⟩ rfl ⟨rfl, rfl⟩ ⟨rfl, rfl⟩ ?_
  change P (476, _, _, wo s2 F2, _, _)
  refine P1 hP (g' := (478, _, _, _, _, _)) rfl rfl ?_
  refine P1 hP (g' := (479, _, _, _, _, _)) rfl rfl ?_
  refine P_call hP (Or.inr (Or.inl ⟨rfl, rfl⟩)) rfl rfl (avs := [.ref 142]) rfl rfl ⟨⟨_, _, _, rfl, Nat.le_of_ble_eq_true rfl, rfl⟩, _, _, F2, rfl, rfl, e9_thrown⟩ ⟨by show _ + _ ≤ 601024; omega, by show _ + _ ≤ 7293034; omega⟩ rfl ⟨rfl, rfl⟩ ⟨rfl, rfl⟩ ?_
  change P (482, _, _, wo s2 F2, _, _)
  refine P1 hP (g' := (484, _, _, _, _, _)) rfl rfl ?_
  refine P_ceq hP 489 rfl rfl (fun h484 => ?_) (fun h => by exact absurd e6 h)
  refine P1 hP (g' := (491, _, _, _, _, _)) rfl rfl ?_
  refine P_ne hP 506 rfl rfl (fun h491 => ?_) (fun h491 => ?_)
  · refine P1 hP (g' := (1548, _, _, _, _, _)) rfl rfl ?_
    refine P_lv hP [(0, .ref 1000000), (1, .ref 0), (2, .ref 142), (3, .ref 151), (4, .int (nI (6 * k)))] (List.forall_mem_cons.mpr ⟨rfl, List.forall_mem_cons.mpr ⟨rfl, List.forall_mem_cons.mpr ⟨rfl, List.forall_mem_cons.mpr ⟨rfl, List.forall_mem_cons.mpr ⟨rfl, fun _ h => absurd h List.not_mem_nil⟩⟩⟩⟩⟩) (K _ _ _ _ hR2 ?_ ?_) <;> omega
  · refine P1 hP (g' := (495, _, _, _, _, _)) rfl rfl ?_
    refine P1 hP (g' := (496, _, .int (nI 0) :: _, _, _, _)) rfl rfl ?_
    refine P_lald hP rfl ?_
    refine P1 hP (g' := (499, _, _, _, _, _)) rfl rfl ?_
    refine P1 hP (g' := (500, _, _, _, _, _)) rfl rfl ?_
    refine P1 hP (g' := (501, _, _, _, _, _)) rfl rfl ?_
    refine P_eq hP 506 rfl rfl (fun h501 => ?_) (fun h => by exact absurd (by rw [hv h491]; exact lgc _) h)
    refine P1 hP (g' := (1548, _, _, _, _, _)) rfl rfl ?_
    refine P_lv hP [(0, .ref 1000000), (1, .ref 0), (2, .ref 142), (3, .ref 151), (4, .int (nI (6 * k)))] (List.forall_mem_cons.mpr ⟨rfl, List.forall_mem_cons.mpr ⟨rfl, List.forall_mem_cons.mpr ⟨rfl, List.forall_mem_cons.mpr ⟨rfl, List.forall_mem_cons.mpr ⟨rfl, fun _ h => absurd h List.not_mem_nil⟩⟩⟩⟩⟩) (K _ _ _ _ hR2 ?_ ?_) <;> omega
set_option maxRecDepth 100000 in
theorem lc_6 (hP : xCl M_law L sc Po P) (hR : Rl s) (hL : L ≤ 3072) (hk : 6 * k + 6 ≤ L) (hc : kc + 5 ≤ 601024) (hs : ks + 30 ≤ 7293034) (K : ∀ s2 F2 kc2 ks2, Rl s2 → kc2 ≤ kc + 5 → ks2 ≤ ks + 30 → P (1548, [(0, .ref 1000000), (1, .ref 0), (2, .ref 142), (3, .ref 151), (4, .int (nI (6 * k)))], [], wo s2 F2, kc2, ks2)) : P (509, [(0, .ref 1000000), (1, .ref 0), (2, .ref 142), (3, .ref 151), (4, .int (nI (6 * k)))], [], wo s F, kc, ks) := by
  obtain ⟨kk, F2, s1, v, s2, h1, h2, hR2, e6, hv⟩ := hp_L_weld (F := F) (p0 := sc (nI (6 * k) + nI 1).toNatClampNeg) (pr_weld hR)
  refine P1 hP (g' := (510, _, _, _, _, _)) rfl rfl ?_
  refine P1 hP (g' := (511, _, _, _, _, _)) rfl rfl ?_
  refine P1 hP (g' := (513, _, _, _, _, _)) rfl rfl ?_
  refine P1 hP (g' := (514, _, .int (nI 1) :: _, _, _, _)) rfl rfl ?_
  refine P1 hP (g' := (515, _, _, _, _, _)) rfl rfl ?_
  refine P_sld hP rfl rfl (vq hL hk (by decide)) ?_
  refine P1 hP (g' := (517, _, _, _, _, _)) rfl rfl ?_
  refine P_call hP (Or.inl ⟨rfl, rfl⟩) rfl rfl (avs := [.ref 0, .int _, .ref 151]) rfl rfl h1 ⟨by show _ + _ ≤ 601024; omega, by show _ + _ ≤ 7293034; omega⟩ rfl ⟨rfl, rfl⟩ ⟨rfl, rfl⟩ ?_
  change P (520, _, _, wo s1 F2, _, _)
  refine P1 hP (g' := (522, _, _, _, _, _)) rfl rfl ?_
  refine P1 hP (g' := (523, _, _, _, _, _)) rfl rfl ?_
  refine P1 hP (g' := (524, _, _, _, _, _)) rfl rfl ?_
  refine P1 hP (g' := (526, _, _, _, _, _)) rfl rfl ?_
  refine P1 hP (g' := (527, _, .int (nI 1) :: _, _, _, _)) rfl rfl ?_
  refine P1 hP (g' := (528, _, _, _, _, _)) rfl rfl ?_
  refine P_sld hP rfl rfl (vq hL hk (by decide)) ?_
  refine P_call hP (Or.inr (Or.inl ⟨rfl, rfl⟩)) rfl rfl (avs := [.ref 142, .int _]) rfl rfl ⟨⟨_, _, _, rfl, Nat.le_of_ble_eq_true rfl, rfl⟩, _, _, F2, rfl, rfl, h2⟩ ⟨by show _ + _ ≤ 601024; omega, by show _ + _ ≤ 7293034; omega⟩ rfl ⟨rfl, rfl⟩ ⟨rfl, rfl⟩ ?_
  change P (532, _, _, wo s2 F2, _, _)
  refine P1 hP (g' := (534, _, _, _, _, _)) rfl rfl ?_
  refine P1 hP (g' := (535, _, _, _, _, _)) rfl rfl ?_
  refine P_call hP (Or.inr (Or.inl ⟨rfl, rfl⟩)) rfl rfl (avs := [.ref 142]) rfl rfl ⟨⟨_, _, _, rfl, Nat.le_of_ble_eq_true rfl, rfl⟩, _, _, F2, rfl, rfl, e9_thrown⟩ ⟨by show _ + _ ≤ 601024; omega, by show _ + _ ≤ 7293034; omega⟩ rfl ⟨rfl, rfl⟩ ⟨rfl, rfl⟩ ?_
  change P (538, _, _, wo s2 F2, _, _)
  refine P1 hP (g' := (540, _, _, _, _, _)) rfl rfl ?_
  refine P_ceq hP 545 rfl rfl (fun h540 => ?_) (fun h => by exact absurd e6 h)
  refine P1 hP (g' := (547, _, _, _, _, _)) rfl rfl ?_
  refine P_ne hP 562 rfl rfl (fun h547 => ?_) (fun h547 => ?_)
  · refine P1 hP (g' := (1548, _, _, _, _, _)) rfl rfl ?_
    refine P_lv hP [(0, .ref 1000000), (1, .ref 0), (2, .ref 142), (3, .ref 151), (4, .int (nI (6 * k)))] (List.forall_mem_cons.mpr ⟨rfl, List.forall_mem_cons.mpr ⟨rfl, List.forall_mem_cons.mpr ⟨rfl, List.forall_mem_cons.mpr ⟨rfl, List.forall_mem_cons.mpr ⟨rfl, fun _ h => absurd h List.not_mem_nil⟩⟩⟩⟩⟩) (K _ _ _ _ hR2 ?_ ?_) <;> omega
  · refine P1 hP (g' := (551, _, _, _, _, _)) rfl rfl ?_
    refine P1 hP (g' := (552, _, .int (nI 0) :: _, _, _, _)) rfl rfl ?_
    refine P_lald hP rfl ?_
    refine P1 hP (g' := (555, _, _, _, _, _)) rfl rfl ?_
    refine P1 hP (g' := (556, _, _, _, _, _)) rfl rfl ?_
    refine P1 hP (g' := (557, _, _, _, _, _)) rfl rfl ?_
    refine P_eq hP 562 rfl rfl (fun h557 => ?_) (fun h => by exact absurd (by rw [hv h547]; exact lgc _) h)
    refine P1 hP (g' := (1548, _, _, _, _, _)) rfl rfl ?_
    refine P_lv hP [(0, .ref 1000000), (1, .ref 0), (2, .ref 142), (3, .ref 151), (4, .int (nI (6 * k)))] (List.forall_mem_cons.mpr ⟨rfl, List.forall_mem_cons.mpr ⟨rfl, List.forall_mem_cons.mpr ⟨rfl, List.forall_mem_cons.mpr ⟨rfl, List.forall_mem_cons.mpr ⟨rfl, fun _ h => absurd h List.not_mem_nil⟩⟩⟩⟩⟩) (K _ _ _ _ hR2 ?_ ?_) <;> omega
set_option maxRecDepth 100000 in
theorem lc_7 (hP : xCl M_law L sc Po P) (hR : Rl s) (hL : L ≤ 3072) (hk : 6 * k + 6 ≤ L) (hc : kc + 5 ≤ 601024) (hs : ks + 30 ≤ 7293034) (K : ∀ s2 F2 kc2 ks2, Rl s2 → kc2 ≤ kc + 5 → ks2 ≤ ks + 30 → P (1548, [(0, .ref 1000000), (1, .ref 0), (2, .ref 142), (3, .ref 151), (4, .int (nI (6 * k)))], [], wo s2 F2, kc2, ks2)) : P (565, [(0, .ref 1000000), (1, .ref 0), (2, .ref 142), (3, .ref 151), (4, .int (nI (6 * k)))], [], wo s F, kc, ks) := by
  obtain ⟨kk, F2, s1, v, s2, h1, h2, hR2, e6, hv⟩ := hp_L_crop (F := F) (pr_crop hR)
  refine P1 hP (g' := (566, _, _, _, _, _)) rfl rfl ?_
  refine P1 hP (g' := (567, _, _, _, _, _)) rfl rfl ?_
  refine P_call hP (Or.inl ⟨rfl, rfl⟩) rfl rfl (avs := [.ref 0, .ref 151]) rfl rfl h1 ⟨by show _ + _ ≤ 601024; omega, by show _ + _ ≤ 7293034; omega⟩ rfl ⟨rfl, rfl⟩ ⟨rfl, rfl⟩ ?_
  change P (570, _, _, wo s1 F2, _, _)
  refine P1 hP (g' := (572, _, _, _, _, _)) rfl rfl ?_
  refine P1 hP (g' := (573, _, _, _, _, _)) rfl rfl ?_
  refine P_call hP (Or.inr (Or.inl ⟨rfl, rfl⟩)) rfl rfl (avs := [.ref 142]) rfl rfl ⟨⟨_, _, _, rfl, Nat.le_of_ble_eq_true rfl, rfl⟩, _, _, F2, rfl, rfl, h2⟩ ⟨by show _ + _ ≤ 601024; omega, by show _ + _ ≤ 7293034; omega⟩ rfl ⟨rfl, rfl⟩ ⟨rfl, rfl⟩ ?_
  change P (576, _, _, wo s2 F2, _, _)
  refine P1 hP (g' := (578, _, _, _, _, _)) rfl rfl ?_
  refine P1 hP (g' := (579, _, _, _, _, _)) rfl rfl ?_
  refine P_call hP (Or.inr (Or.inl ⟨rfl, rfl⟩)) rfl rfl (avs := [.ref 142]) rfl rfl ⟨⟨_, _, _, rfl, Nat.le_of_ble_eq_true rfl, rfl⟩, _, _, F2, rfl, rfl, e9_thrown⟩ ⟨by show _ + _ ≤ 601024; omega, by show _ + _ ≤ 7293034; omega⟩ rfl ⟨rfl, rfl⟩ ⟨rfl, rfl⟩ ?_
  change P (582, _, _, wo s2 F2, _, _)
  refine P1 hP (g' := (584, _, _, _, _, _)) rfl rfl ?_
  refine P_ceq hP 589 rfl rfl (fun h584 => ?_) (fun h => by exact absurd e6 h)
  refine P1 hP (g' := (591, _, _, _, _, _)) rfl rfl ?_
  refine P_ne hP 606 rfl rfl (fun h591 => ?_) (fun h591 => ?_)
  · refine P1 hP (g' := (1548, _, _, _, _, _)) rfl rfl ?_
    refine P_lv hP [(0, .ref 1000000), (1, .ref 0), (2, .ref 142), (3, .ref 151), (4, .int (nI (6 * k)))] (List.forall_mem_cons.mpr ⟨rfl, List.forall_mem_cons.mpr ⟨rfl, List.forall_mem_cons.mpr ⟨rfl, List.forall_mem_cons.mpr ⟨rfl, List.forall_mem_cons.mpr ⟨rfl, fun _ h => absurd h List.not_mem_nil⟩⟩⟩⟩⟩) (K _ _ _ _ hR2 ?_ ?_) <;> omega
  · refine P1 hP (g' := (595, _, _, _, _, _)) rfl rfl ?_
    refine P1 hP (g' := (596, _, .int (nI 0) :: _, _, _, _)) rfl rfl ?_
    refine P_lald hP rfl ?_
    refine P1 hP (g' := (599, _, _, _, _, _)) rfl rfl ?_
    refine P1 hP (g' := (600, _, _, _, _, _)) rfl rfl ?_
    refine P1 hP (g' := (601, _, _, _, _, _)) rfl rfl ?_
    refine P_eq hP 606 rfl rfl (fun h601 => ?_) (fun h => by exact absurd (by rw [hv h591]; exact lgc _) h)
    refine P1 hP (g' := (1548, _, _, _, _, _)) rfl rfl ?_
    refine P_lv hP [(0, .ref 1000000), (1, .ref 0), (2, .ref 142), (3, .ref 151), (4, .int (nI (6 * k)))] (List.forall_mem_cons.mpr ⟨rfl, List.forall_mem_cons.mpr ⟨rfl, List.forall_mem_cons.mpr ⟨rfl, List.forall_mem_cons.mpr ⟨rfl, List.forall_mem_cons.mpr ⟨rfl, fun _ h => absurd h List.not_mem_nil⟩⟩⟩⟩⟩) (K _ _ _ _ hR2 ?_ ?_) <;> omega
set_option maxRecDepth 100000 in
theorem lc_8 (hP : xCl M_law L sc Po P) (hR : Rl s) (hL : L ≤ 3072) (hk : 6 * k + 6 ≤ L) (hc : kc + 5 ≤ 601024) (hs : ks + 30 ≤ 7293034) (K : ∀ s2 F2 kc2 ks2, Rl s2 → kc2 ≤ kc + 5 → ks2 ≤ ks + 30 → P (1548, [(0, .ref 1000000), (1, .ref 0), (2, .ref 142), (3, .ref 151), (4, .int (nI (6 * k)))], [], wo s2 F2, kc2, ks2)) : P (609, [(0, .ref 1000000), (1, .ref 0), (2, .ref 142), (3, .ref 151), (4, .int (nI (6 * k)))], [], wo s F, kc, ks) := by
  obtain ⟨kk, F2, s1, v, s2, h1, h2, hR2, e6, hv⟩ := hp_L_forge (F := F) (p0 := sc (nI (6 * k) + nI 1).toNatClampNeg) (p1 := sc (nI (6 * k) + nI 2).toNatClampNeg) (p2 := sc (nI (6 * k) + nI 3).toNatClampNeg) (p3 := sc (nI (6 * k) + nI 4).toNatClampNeg) (pr_forge hR)
  refine P1 hP (g' := (610, _, _, _, _, _)) rfl rfl ?_
  refine P1 hP (g' := (611, _, _, _, _, _)) rfl rfl ?_
  refine P1 hP (g' := (613, _, _, _, _, _)) rfl rfl ?_
  refine P1 hP (g' := (614, _, .int (nI 1) :: _, _, _, _)) rfl rfl ?_
  refine P1 hP (g' := (615, _, _, _, _, _)) rfl rfl ?_
  refine P_sld hP rfl rfl (vq hL hk (by decide)) ?_
  refine P1 hP (g' := (617, _, _, _, _, _)) rfl rfl ?_
  refine P1 hP (g' := (619, _, _, _, _, _)) rfl rfl ?_
  refine P1 hP (g' := (620, _, .int (nI 2) :: _, _, _, _)) rfl rfl ?_
  refine P1 hP (g' := (621, _, _, _, _, _)) rfl rfl ?_
  refine P_sld hP rfl rfl (vq hL hk (by decide)) ?_
  refine P1 hP (g' := (623, _, _, _, _, _)) rfl rfl ?_
  refine P1 hP (g' := (625, _, _, _, _, _)) rfl rfl ?_
  refine P1 hP (g' := (626, _, .int (nI 3) :: _, _, _, _)) rfl rfl ?_
  refine P1 hP (g' := (627, _, _, _, _, _)) rfl rfl ?_
  refine P_sld hP rfl rfl (vq hL hk (by decide)) ?_
  refine P1 hP (g' := (629, _, _, _, _, _)) rfl rfl ?_
  refine P1 hP (g' := (631, _, _, _, _, _)) rfl rfl ?_
  refine P1 hP (g' := (632, _, .int (nI 4) :: _, _, _, _)) rfl rfl ?_
  refine P1 hP (g' := (633, _, _, _, _, _)) rfl rfl ?_
  refine P_sld hP rfl rfl (vq hL hk (by decide)) ?_
  refine P1 hP (g' := (635, _, _, _, _, _)) rfl rfl ?_
  refine P_call hP (Or.inl ⟨rfl, rfl⟩) rfl rfl (avs := [.ref 0, .int _, .int _, .int _, .int _, .ref 151]) rfl rfl h1 ⟨by show _ + _ ≤ 601024; omega, by show _ + _ ≤ 7293034; omega⟩ rfl ⟨rfl, rfl⟩ ⟨rfl, rfl⟩ ?_
  change P (638, _, _, wo s1 F2, _, _)
  refine P1 hP (g' := (640, _, _, _, _, _)) rfl rfl ?_
  refine P1 hP (g' := (641, _, _, _, _, _)) rfl rfl ?_
  refine P1 hP (g' := (642, _, _, _, _, _)) rfl rfl ?_
  refine P1 hP (g' := (644, _, _, _, _, _)) rfl rfl ?_
  refine P1 hP (g' := (645, _, .int (nI 1) :: _, _, _, _)) rfl rfl ?_
  refine P1 hP (g' := (646, _, _, _, _, _)) rfl rfl ?_
  refine P_sld hP rfl rfl (vq hL hk (by decide)) ?_
  refine P1 hP (g' := (648, _, _, _, _, _)) rfl rfl ?_
  refine P1 hP (g' := (650, _, _, _, _, _)) rfl rfl ?_
  refine P1 hP (g' := (651, _, .int (nI 2) :: _, _, _, _)) rfl rfl ?_
  refine P1 hP (g' := (652, _, _, _, _, _)) rfl rfl ?_
  refine P_sld hP rfl rfl (vq hL hk (by decide)) ?_
  refine P1 hP (g' := (654, _, _, _, _, _)) rfl rfl ?_
  refine P1 hP (g' := (656, _, _, _, _, _)) rfl rfl ?_
  refine P1 hP (g' := (657, _, .int (nI 3) :: _, _, _, _)) rfl rfl ?_
  refine P1 hP (g' := (658, _, _, _, _, _)) rfl rfl ?_
  refine P_sld hP rfl rfl (vq hL hk (by decide)) ?_
  refine P1 hP (g' := (660, _, _, _, _, _)) rfl rfl ?_
  refine P1 hP (g' := (662, _, _, _, _, _)) rfl rfl ?_
  refine P1 hP (g' := (663, _, .int (nI 4) :: _, _, _, _)) rfl rfl ?_
  refine P1 hP (g' := (664, _, _, _, _, _)) rfl rfl ?_
  refine P_sld hP rfl rfl (vq hL hk (by decide)) ?_
  refine P_call hP (Or.inr (Or.inl ⟨rfl, rfl⟩)) rfl rfl (avs := [.ref 142, .int _, .int _, .int _, .int _]) rfl rfl ⟨⟨_, _, _, rfl, Nat.le_of_ble_eq_true rfl, rfl⟩, _, _, F2, rfl, rfl, h2⟩ ⟨by show _ + _ ≤ 601024; omega, by show _ + _ ≤ 7293034; omega⟩ rfl ⟨rfl, rfl⟩ ⟨rfl, rfl⟩ ?_
  change P (668, _, _, wo s2 F2, _, _)
  refine P1 hP (g' := (670, _, _, _, _, _)) rfl rfl ?_
  refine P1 hP (g' := (671, _, _, _, _, _)) rfl rfl ?_
  refine P_call hP (Or.inr (Or.inl ⟨rfl, rfl⟩)) rfl rfl (avs := [.ref 142]) rfl rfl ⟨⟨_, _, _, rfl, Nat.le_of_ble_eq_true rfl, rfl⟩, _, _, F2, rfl, rfl, e9_thrown⟩ ⟨by show _ + _ ≤ 601024; omega, by show _ + _ ≤ 7293034; omega⟩ rfl ⟨rfl, rfl⟩ ⟨rfl, rfl⟩ ?_
  change P (674, _, _, wo s2 F2, _, _)
  refine P1 hP (g' := (676, _, _, _, _, _)) rfl rfl ?_
  refine P_ceq hP 681 rfl rfl (fun h676 => ?_) (fun h => by exact absurd e6 h)
  refine P1 hP (g' := (683, _, _, _, _, _)) rfl rfl ?_
  refine P_ne hP 698 rfl rfl (fun h683 => ?_) (fun h683 => ?_)
  · refine P1 hP (g' := (1548, _, _, _, _, _)) rfl rfl ?_
    refine P_lv hP [(0, .ref 1000000), (1, .ref 0), (2, .ref 142), (3, .ref 151), (4, .int (nI (6 * k)))] (List.forall_mem_cons.mpr ⟨rfl, List.forall_mem_cons.mpr ⟨rfl, List.forall_mem_cons.mpr ⟨rfl, List.forall_mem_cons.mpr ⟨rfl, List.forall_mem_cons.mpr ⟨rfl, fun _ h => absurd h List.not_mem_nil⟩⟩⟩⟩⟩) (K _ _ _ _ hR2 ?_ ?_) <;> omega
  · refine P1 hP (g' := (687, _, _, _, _, _)) rfl rfl ?_
    refine P1 hP (g' := (688, _, .int (nI 0) :: _, _, _, _)) rfl rfl ?_
    refine P_lald hP rfl ?_
    refine P1 hP (g' := (691, _, _, _, _, _)) rfl rfl ?_
    refine P1 hP (g' := (692, _, _, _, _, _)) rfl rfl ?_
    refine P1 hP (g' := (693, _, _, _, _, _)) rfl rfl ?_
    refine P_eq hP 698 rfl rfl (fun h693 => ?_) (fun h => by exact absurd (by rw [hv h683]; exact lgc _) h)
    refine P1 hP (g' := (1548, _, _, _, _, _)) rfl rfl ?_
    refine P_lv hP [(0, .ref 1000000), (1, .ref 0), (2, .ref 142), (3, .ref 151), (4, .int (nI (6 * k)))] (List.forall_mem_cons.mpr ⟨rfl, List.forall_mem_cons.mpr ⟨rfl, List.forall_mem_cons.mpr ⟨rfl, List.forall_mem_cons.mpr ⟨rfl, List.forall_mem_cons.mpr ⟨rfl, fun _ h => absurd h List.not_mem_nil⟩⟩⟩⟩⟩) (K _ _ _ _ hR2 ?_ ?_) <;> omega
end XLK0
