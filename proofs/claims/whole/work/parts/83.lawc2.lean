section XLK2
variable {L : Nat} {sc : Nat → Int32} {Po : xO → xw → Prop} {P : xG → Prop} {s : xs} {F : Nat → Int64} {k kc ks : Nat}
set_option maxRecDepth 100000 in
theorem lc_17 (hP : xCl M_law L sc Po P) (hR : Rl s) (hL : L ≤ 3072) (hk : 6 * k + 6 ≤ L) (hc : kc + 5 ≤ 601024) (hs : ks + 30 ≤ 7293034) (K : ∀ s2 F2 kc2 ks2, Rl s2 → kc2 ≤ kc + 5 → ks2 ≤ ks + 30 → P (1548, [(0, .ref 1000000), (1, .ref 0), (2, .ref 142), (3, .ref 151), (4, .int (nI (6 * k)))], [], wo s2 F2, kc2, ks2)) : P (1286, [(0, .ref 1000000), (1, .ref 0), (2, .ref 142), (3, .ref 151), (4, .int (nI (6 * k)))], [], wo s F, kc, ks) := by
  obtain ⟨o, s1, v, s2, h1, h2, hR2, h3⟩ := pr_heatsToSteps hR
  have ho : o = .inl (some (.int v)) := h3.elim (fun z => z.1) (fun ⟨k9, E, hk9, _⟩ => by cases hk9)
  subst ho
  refine P1 hP (g' := (1287, _, _, _, _, _)) rfl rfl ?_
  refine P_call hP (Or.inr (Or.inl ⟨rfl, rfl⟩)) rfl rfl (avs := [.ref 0]) rfl rfl ⟨⟨_, _, _, rfl, Nat.le_of_ble_eq_true rfl, rfl⟩, _, _, F, rfl, rfl, h1⟩ ⟨by show _ + _ ≤ 601024; omega, by show _ + _ ≤ 7293034; omega⟩ rfl ⟨rfl, rfl⟩ ⟨rfl, rfl⟩ ?_
  change P (1290, _, _, wo s1 F, _, _)
  refine P1 hP (g' := (1291, _, _, _, _, _)) rfl rfl ?_
  refine P_call hP (Or.inr (Or.inl ⟨rfl, rfl⟩)) rfl rfl (avs := [.ref 142]) rfl rfl ⟨⟨_, _, _, rfl, Nat.le_of_ble_eq_true rfl, rfl⟩, _, _, F, rfl, rfl, h2⟩ ⟨by show _ + _ ≤ 601024; omega, by show _ + _ ≤ 7293034; omega⟩ rfl ⟨rfl, rfl⟩ ⟨rfl, rfl⟩ ?_
  change P (1294, _, _, wo s2 F, _, _)
  refine P_ceq hP 1548 rfl rfl (fun h1294 => ?_) (fun h => by exact absurd rfl h)
  refine P_lv hP [(0, .ref 1000000), (1, .ref 0), (2, .ref 142), (3, .ref 151), (4, .int (nI (6 * k)))] (List.forall_mem_cons.mpr ⟨rfl, List.forall_mem_cons.mpr ⟨rfl, List.forall_mem_cons.mpr ⟨rfl, List.forall_mem_cons.mpr ⟨rfl, List.forall_mem_cons.mpr ⟨rfl, fun _ h => absurd h List.not_mem_nil⟩⟩⟩⟩⟩) (K _ _ _ _ hR2 ?_ ?_) <;> omega
set_option maxRecDepth 100000 in
theorem lc_18 (hP : xCl M_law L sc Po P) (hR : Rl s) (hL : L ≤ 3072) (hk : 6 * k + 6 ≤ L) (hc : kc + 5 ≤ 601024) (hs : ks + 30 ≤ 7293034) (K : ∀ s2 F2 kc2 ks2, Rl s2 → kc2 ≤ kc + 5 → ks2 ≤ ks + 30 → P (1548, [(0, .ref 1000000), (1, .ref 0), (2, .ref 142), (3, .ref 151), (4, .int (nI (6 * k)))], [], wo s2 F2, kc2, ks2)) : P (1299, [(0, .ref 1000000), (1, .ref 0), (2, .ref 142), (3, .ref 151), (4, .int (nI (6 * k)))], [], wo s F, kc, ks) := by
  obtain ⟨kk, F2, s1, v, s2, h1, h2, hR2, e6, hv⟩ := hp_L_lengthAs (F := F) (p0 := sc (nI (6 * k) + nI 1).toNatClampNeg) (p1 := sc (nI (6 * k) + nI 2).toNatClampNeg) (pr_lengthAs hR)
  refine P1 hP (g' := (1300, _, _, _, _, _)) rfl rfl ?_
  refine P1 hP (g' := (1301, _, _, _, _, _)) rfl rfl ?_
  refine P1 hP (g' := (1303, _, _, _, _, _)) rfl rfl ?_
  refine P1 hP (g' := (1304, _, .int (nI 1) :: _, _, _, _)) rfl rfl ?_
  refine P1 hP (g' := (1305, _, _, _, _, _)) rfl rfl ?_
  refine P_sld hP rfl rfl (vq hL hk (by decide)) ?_
  refine P1 hP (g' := (1307, _, _, _, _, _)) rfl rfl ?_
  refine P1 hP (g' := (1309, _, _, _, _, _)) rfl rfl ?_
  refine P1 hP (g' := (1310, _, .int (nI 2) :: _, _, _, _)) rfl rfl ?_
  refine P1 hP (g' := (1311, _, _, _, _, _)) rfl rfl ?_
  refine P_sld hP rfl rfl (vq hL hk (by decide)) ?_
  refine P1 hP (g' := (1313, _, _, _, _, _)) rfl rfl ?_
  refine P_call hP (Or.inl ⟨rfl, rfl⟩) rfl rfl (avs := [.ref 0, .int _, .int _, .ref 151]) rfl rfl h1 ⟨by show _ + _ ≤ 601024; omega, by show _ + _ ≤ 7293034; omega⟩ rfl ⟨rfl, rfl⟩ ⟨rfl, rfl⟩ ?_
  change P (1316, _, _, wo s1 F2, _, _)
  refine P1 hP (g' := (1318, _, _, _, _, _)) rfl rfl ?_
  refine P1 hP (g' := (1319, _, _, _, _, _)) rfl rfl ?_
  refine P1 hP (g' := (1320, _, _, _, _, _)) rfl rfl ?_
  refine P1 hP (g' := (1322, _, _, _, _, _)) rfl rfl ?_
  refine P1 hP (g' := (1323, _, .int (nI 1) :: _, _, _, _)) rfl rfl ?_
  refine P1 hP (g' := (1324, _, _, _, _, _)) rfl rfl ?_
  refine P_sld hP rfl rfl (vq hL hk (by decide)) ?_
  refine P1 hP (g' := (1326, _, _, _, _, _)) rfl rfl ?_
  refine P1 hP (g' := (1328, _, _, _, _, _)) rfl rfl ?_
  refine P1 hP (g' := (1329, _, .int (nI 2) :: _, _, _, _)) rfl rfl ?_
  refine P1 hP (g' := (1330, _, _, _, _, _)) rfl rfl ?_
  refine P_sld hP rfl rfl (vq hL hk (by decide)) ?_
  refine P_call hP (Or.inr (Or.inl ⟨rfl, rfl⟩)) rfl rfl (avs := [.ref 142, .int _, .int _]) rfl rfl ⟨⟨_, _, _, rfl, Nat.le_of_ble_eq_true rfl, rfl⟩, _, _, F2, rfl, rfl, h2⟩ ⟨by show _ + _ ≤ 601024; omega, by show _ + _ ≤ 7293034; omega⟩ rfl ⟨rfl, rfl⟩ ⟨rfl, rfl⟩ ?_
  change P (1334, _, _, wo s2 F2, _, _)
  refine P1 hP (g' := (1336, _, _, _, _, _)) rfl rfl ?_
  refine P1 hP (g' := (1337, _, _, _, _, _)) rfl rfl ?_
  refine P_call hP (Or.inr (Or.inl ⟨rfl, rfl⟩)) rfl rfl (avs := [.ref 142]) rfl rfl ⟨⟨_, _, _, rfl, Nat.le_of_ble_eq_true rfl, rfl⟩, _, _, F2, rfl, rfl, e9_thrown⟩ ⟨by show _ + _ ≤ 601024; omega, by show _ + _ ≤ 7293034; omega⟩ rfl ⟨rfl, rfl⟩ ⟨rfl, rfl⟩ ?_
  change P (1340, _, _, wo s2 F2, _, _)
  refine P1 hP (g' := (1342, _, _, _, _, _)) rfl rfl ?_
  refine P_ceq hP 1347 rfl rfl (fun h1342 => ?_) (fun h => by exact absurd e6 h)
  refine P1 hP (g' := (1349, _, _, _, _, _)) rfl rfl ?_
  refine P_ne hP 1364 rfl rfl (fun h1349 => ?_) (fun h1349 => ?_)
  · refine P1 hP (g' := (1548, _, _, _, _, _)) rfl rfl ?_
    refine P_lv hP [(0, .ref 1000000), (1, .ref 0), (2, .ref 142), (3, .ref 151), (4, .int (nI (6 * k)))] (List.forall_mem_cons.mpr ⟨rfl, List.forall_mem_cons.mpr ⟨rfl, List.forall_mem_cons.mpr ⟨rfl, List.forall_mem_cons.mpr ⟨rfl, List.forall_mem_cons.mpr ⟨rfl, fun _ h => absurd h List.not_mem_nil⟩⟩⟩⟩⟩) (K _ _ _ _ hR2 ?_ ?_) <;> omega
  · refine P1 hP (g' := (1353, _, _, _, _, _)) rfl rfl ?_
    refine P1 hP (g' := (1354, _, .int (nI 0) :: _, _, _, _)) rfl rfl ?_
    refine P_lald hP rfl ?_
    refine P1 hP (g' := (1357, _, _, _, _, _)) rfl rfl ?_
    refine P1 hP (g' := (1358, _, _, _, _, _)) rfl rfl ?_
    refine P1 hP (g' := (1359, _, _, _, _, _)) rfl rfl ?_
    refine P_eq hP 1364 rfl rfl (fun h1359 => ?_) (fun h => by exact absurd (by rw [hv h1349]; exact lgc _) h)
    refine P1 hP (g' := (1548, _, _, _, _, _)) rfl rfl ?_
    refine P_lv hP [(0, .ref 1000000), (1, .ref 0), (2, .ref 142), (3, .ref 151), (4, .int (nI (6 * k)))] (List.forall_mem_cons.mpr ⟨rfl, List.forall_mem_cons.mpr ⟨rfl, List.forall_mem_cons.mpr ⟨rfl, List.forall_mem_cons.mpr ⟨rfl, List.forall_mem_cons.mpr ⟨rfl, fun _ h => absurd h List.not_mem_nil⟩⟩⟩⟩⟩) (K _ _ _ _ hR2 ?_ ?_) <;> omega
set_option maxRecDepth 100000 in
theorem lc_19 (hP : xCl M_law L sc Po P) (hR : Rl s) (hL : L ≤ 3072) (hk : 6 * k + 6 ≤ L) (hc : kc + 5 ≤ 601024) (hs : ks + 30 ≤ 7293034) (K : ∀ s2 F2 kc2 ks2, Rl s2 → kc2 ≤ kc + 5 → ks2 ≤ ks + 30 → P (1548, [(0, .ref 1000000), (1, .ref 0), (2, .ref 142), (3, .ref 151), (4, .int (nI (6 * k)))], [], wo s2 F2, kc2, ks2)) : P (1367, [(0, .ref 1000000), (1, .ref 0), (2, .ref 142), (3, .ref 151), (4, .int (nI (6 * k)))], [], wo s F, kc, ks) := by
  obtain ⟨v, s1, s2, h1, h2, hR2, hd⟩ := pr_kept hR
  refine P1 hP (g' := (1368, _, _, _, _, _)) rfl rfl ?_
  refine P_call hP (Or.inr (Or.inl ⟨rfl, rfl⟩)) rfl rfl (avs := [.ref 0]) rfl rfl ⟨⟨_, _, _, rfl, Nat.le_of_ble_eq_true rfl, rfl⟩, _, _, F, rfl, rfl, h1⟩ ⟨by show _ + _ ≤ 601024; omega, by show _ + _ ≤ 7293034; omega⟩ rfl ⟨rfl, rfl⟩ ⟨rfl, rfl⟩ ?_
  change P (1371, _, _, wo s1 F, _, _)
  refine P1 hP (g' := (1373, _, _, _, _, _)) rfl rfl ?_
  refine P1 hP (g' := (1374, _, _, _, _, _)) rfl rfl ?_
  refine P_call hP (Or.inr (Or.inl ⟨rfl, rfl⟩)) rfl rfl (avs := [.ref 142]) rfl rfl ⟨⟨_, _, _, rfl, Nat.le_of_ble_eq_true rfl, rfl⟩, _, _, F, rfl, rfl, h2⟩ ⟨by show _ + _ ≤ 601024; omega, by show _ + _ ≤ 7293034; omega⟩ rfl ⟨rfl, rfl⟩ ⟨rfl, rfl⟩ ?_
  change P (1377, _, _, wo s2 F, _, _)
  refine P1 hP (g' := (1379, _, _, _, _, _)) rfl rfl ?_
  refine P1 hP (g' := (1381, _, _, _, _, _)) rfl rfl ?_
  refine P1 hP (g' := (1383, _, _, _, _, _)) rfl rfl ?_
  refine P1 hP (g' := (1384, _, _, _, _, _)) rfl rfl ?_
  refine P_eq hP 1405 rfl rfl (fun h1384 => ?_) (fun h => by exact absurd (by rw [hd]; rfl) h)
  refine P1 hP (g' := (1548, _, _, _, _, _)) rfl rfl ?_
  refine P_lv hP [(0, .ref 1000000), (1, .ref 0), (2, .ref 142), (3, .ref 151), (4, .int (nI (6 * k)))] (List.forall_mem_cons.mpr ⟨rfl, List.forall_mem_cons.mpr ⟨rfl, List.forall_mem_cons.mpr ⟨rfl, List.forall_mem_cons.mpr ⟨rfl, List.forall_mem_cons.mpr ⟨rfl, fun _ h => absurd h List.not_mem_nil⟩⟩⟩⟩⟩) (K _ _ _ _ hR2 ?_ ?_) <;> omega
set_option maxRecDepth 100000 in
theorem lc_20 (hP : xCl M_law L sc Po P) (hR : Rl s) (hL : L ≤ 3072) (hk : 6 * k + 6 ≤ L) (hc : kc + 5 ≤ 601024) (hs : ks + 30 ≤ 7293034) (K : ∀ s2 F2 kc2 ks2, Rl s2 → kc2 ≤ kc + 5 → ks2 ≤ ks + 30 → P (1548, [(0, .ref 1000000), (1, .ref 0), (2, .ref 142), (3, .ref 151), (4, .int (nI (6 * k)))], [], wo s2 F2, kc2, ks2)) : P (1408, [(0, .ref 1000000), (1, .ref 0), (2, .ref 142), (3, .ref 151), (4, .int (nI (6 * k)))], [], wo s F, kc, ks) := by
  obtain ⟨kk, F2, s1, v, s2, h1, h2, hR2, e6, hv⟩ := hp_L_append (F := F) (p0 := sc (nI (6 * k) + nI 1).toNatClampNeg) (pr_append hR)
  refine P1 hP (g' := (1409, _, _, _, _, _)) rfl rfl ?_
  refine P1 hP (g' := (1410, _, _, _, _, _)) rfl rfl ?_
  refine P1 hP (g' := (1412, _, _, _, _, _)) rfl rfl ?_
  refine P1 hP (g' := (1413, _, .int (nI 1) :: _, _, _, _)) rfl rfl ?_
  refine P1 hP (g' := (1414, _, _, _, _, _)) rfl rfl ?_
  refine P_sld hP rfl rfl (vq hL hk (by decide)) ?_
  refine P1 hP (g' := (1416, _, _, _, _, _)) rfl rfl ?_
  refine P_call hP (Or.inl ⟨rfl, rfl⟩) rfl rfl (avs := [.ref 0, .int _, .ref 151]) rfl rfl h1 ⟨by show _ + _ ≤ 601024; omega, by show _ + _ ≤ 7293034; omega⟩ rfl ⟨rfl, rfl⟩ ⟨rfl, rfl⟩ ?_
  change P (1419, _, _, wo s1 F2, _, _)
  refine P1 hP (g' := (1421, _, _, _, _, _)) rfl rfl ?_
  refine P1 hP (g' := (1422, _, _, _, _, _)) rfl rfl ?_
  refine P1 hP (g' := (1423, _, _, _, _, _)) rfl rfl ?_
  refine P1 hP (g' := (1425, _, _, _, _, _)) rfl rfl ?_
  refine P1 hP (g' := (1426, _, .int (nI 1) :: _, _, _, _)) rfl rfl ?_
  refine P1 hP (g' := (1427, _, _, _, _, _)) rfl rfl ?_
  refine P_sld hP rfl rfl (vq hL hk (by decide)) ?_
  refine P_call hP (Or.inr (Or.inl ⟨rfl, rfl⟩)) rfl rfl (avs := [.ref 142, .int _]) rfl rfl ⟨⟨_, _, _, rfl, Nat.le_of_ble_eq_true rfl, rfl⟩, _, _, F2, rfl, rfl, h2⟩ ⟨by show _ + _ ≤ 601024; omega, by show _ + _ ≤ 7293034; omega⟩ rfl ⟨rfl, rfl⟩ ⟨rfl, rfl⟩ ?_
  change P (1431, _, _, wo s2 F2, _, _)
  refine P1 hP (g' := (1433, _, _, _, _, _)) rfl rfl ?_
  refine P1 hP (g' := (1434, _, _, _, _, _)) rfl rfl ?_
  refine P_call hP (Or.inr (Or.inl ⟨rfl, rfl⟩)) rfl rfl (avs := [.ref 142]) rfl rfl ⟨⟨_, _, _, rfl, Nat.le_of_ble_eq_true rfl, rfl⟩, _, _, F2, rfl, rfl, e9_thrown⟩ ⟨by show _ + _ ≤ 601024; omega, by show _ + _ ≤ 7293034; omega⟩ rfl ⟨rfl, rfl⟩ ⟨rfl, rfl⟩ ?_
  change P (1437, _, _, wo s2 F2, _, _)
  refine P1 hP (g' := (1439, _, _, _, _, _)) rfl rfl ?_
  refine P_ceq hP 1444 rfl rfl (fun h1439 => ?_) (fun h => by exact absurd e6 h)
  refine P1 hP (g' := (1446, _, _, _, _, _)) rfl rfl ?_
  refine P_ne hP 1461 rfl rfl (fun h1446 => ?_) (fun h1446 => ?_)
  · refine P1 hP (g' := (1548, _, _, _, _, _)) rfl rfl ?_
    refine P_lv hP [(0, .ref 1000000), (1, .ref 0), (2, .ref 142), (3, .ref 151), (4, .int (nI (6 * k)))] (List.forall_mem_cons.mpr ⟨rfl, List.forall_mem_cons.mpr ⟨rfl, List.forall_mem_cons.mpr ⟨rfl, List.forall_mem_cons.mpr ⟨rfl, List.forall_mem_cons.mpr ⟨rfl, fun _ h => absurd h List.not_mem_nil⟩⟩⟩⟩⟩) (K _ _ _ _ hR2 ?_ ?_) <;> omega
  · refine P1 hP (g' := (1450, _, _, _, _, _)) rfl rfl ?_
    refine P1 hP (g' := (1451, _, .int (nI 0) :: _, _, _, _)) rfl rfl ?_
    refine P_lald hP rfl ?_
    refine P1 hP (g' := (1454, _, _, _, _, _)) rfl rfl ?_
    refine P1 hP (g' := (1455, _, _, _, _, _)) rfl rfl ?_
    refine P1 hP (g' := (1456, _, _, _, _, _)) rfl rfl ?_
    refine P_eq hP 1461 rfl rfl (fun h1456 => ?_) (fun h => by exact absurd (by rw [hv h1446]; exact lgc _) h)
    refine P1 hP (g' := (1548, _, _, _, _, _)) rfl rfl ?_
    refine P_lv hP [(0, .ref 1000000), (1, .ref 0), (2, .ref 142), (3, .ref 151), (4, .int (nI (6 * k)))] (List.forall_mem_cons.mpr ⟨rfl, List.forall_mem_cons.mpr ⟨rfl, List.forall_mem_cons.mpr ⟨rfl, List.forall_mem_cons.mpr ⟨rfl, List.forall_mem_cons.mpr ⟨rfl, fun _ h => absurd h List.not_mem_nil⟩⟩⟩⟩⟩) (K _ _ _ _ hR2 ?_ ?_) <;> omega
set_option maxRecDepth 100000 in
theorem lc_21 (hP : xCl M_law L sc Po P) (hR : Rl s) (hL : L ≤ 3072) (hk : 6 * k + 6 ≤ L) (hc : kc + 5 ≤ 601024) (hs : ks + 30 ≤ 7293034) (K : ∀ s2 F2 kc2 ks2, Rl s2 → kc2 ≤ kc + 5 → ks2 ≤ ks + 30 → P (1548, [(0, .ref 1000000), (1, .ref 0), (2, .ref 142), (3, .ref 151), (4, .int (nI (6 * k)))], [], wo s2 F2, kc2, ks2)) : P (1464, [(0, .ref 1000000), (1, .ref 0), (2, .ref 142), (3, .ref 151), (4, .int (nI (6 * k)))], [], wo s F, kc, ks) := by
  obtain ⟨o, s1, v, s2, h1, h2, hR2, h3⟩ := pr_clearText hR
  have ho : o = .inl (some (.int v)) := h3.elim (fun z => z.1) (fun ⟨k9, E, hk9, _⟩ => by cases hk9)
  subst ho
  refine P1 hP (g' := (1465, _, _, _, _, _)) rfl rfl ?_
  refine P_call hP (Or.inr (Or.inl ⟨rfl, rfl⟩)) rfl rfl (avs := [.ref 0]) rfl rfl ⟨⟨_, _, _, rfl, Nat.le_of_ble_eq_true rfl, rfl⟩, _, _, F, rfl, rfl, h1⟩ ⟨by show _ + _ ≤ 601024; omega, by show _ + _ ≤ 7293034; omega⟩ rfl ⟨rfl, rfl⟩ ⟨rfl, rfl⟩ ?_
  change P (1468, _, _, wo s1 F, _, _)
  refine P1 hP (g' := (1469, _, _, _, _, _)) rfl rfl ?_
  refine P_call hP (Or.inr (Or.inl ⟨rfl, rfl⟩)) rfl rfl (avs := [.ref 142]) rfl rfl ⟨⟨_, _, _, rfl, Nat.le_of_ble_eq_true rfl, rfl⟩, _, _, F, rfl, rfl, h2⟩ ⟨by show _ + _ ≤ 601024; omega, by show _ + _ ≤ 7293034; omega⟩ rfl ⟨rfl, rfl⟩ ⟨rfl, rfl⟩ ?_
  change P (1472, _, _, wo s2 F, _, _)
  refine P_ceq hP 1548 rfl rfl (fun h1472 => ?_) (fun h => by exact absurd rfl h)
  refine P_lv hP [(0, .ref 1000000), (1, .ref 0), (2, .ref 142), (3, .ref 151), (4, .int (nI (6 * k)))] (List.forall_mem_cons.mpr ⟨rfl, List.forall_mem_cons.mpr ⟨rfl, List.forall_mem_cons.mpr ⟨rfl, List.forall_mem_cons.mpr ⟨rfl, List.forall_mem_cons.mpr ⟨rfl, fun _ h => absurd h List.not_mem_nil⟩⟩⟩⟩⟩) (K _ _ _ _ hR2 ?_ ?_) <;> omega
set_option maxRecDepth 100000 in
theorem lc_22 (hP : xCl M_law L sc Po P) (hR : Rl s) (hL : L ≤ 3072) (hk : 6 * k + 6 ≤ L) (hc : kc + 5 ≤ 601024) (hs : ks + 30 ≤ 7293034) (K : ∀ s2 F2 kc2 ks2, Rl s2 → kc2 ≤ kc + 5 → ks2 ≤ ks + 30 → P (1548, [(0, .ref 1000000), (1, .ref 0), (2, .ref 142), (3, .ref 151), (4, .int (nI (6 * k)))], [], wo s2 F2, kc2, ks2)) : P (1477, [(0, .ref 1000000), (1, .ref 0), (2, .ref 142), (3, .ref 151), (4, .int (nI (6 * k)))], [], wo s F, kc, ks) := by
  obtain ⟨o, s1, v, s2, h1, h2, hR2, h3⟩ := pr_carryOut hR
  have ho : o = .inl (some (.int v)) := h3.elim (fun z => z.1) (fun ⟨k9, E, hk9, _⟩ => by cases hk9)
  subst ho
  refine P1 hP (g' := (1478, _, _, _, _, _)) rfl rfl ?_
  refine P_call hP (Or.inr (Or.inl ⟨rfl, rfl⟩)) rfl rfl (avs := [.ref 0]) rfl rfl ⟨⟨_, _, _, rfl, Nat.le_of_ble_eq_true rfl, rfl⟩, _, _, F, rfl, rfl, h1⟩ ⟨by show _ + _ ≤ 601024; omega, by show _ + _ ≤ 7293034; omega⟩ rfl ⟨rfl, rfl⟩ ⟨rfl, rfl⟩ ?_
  change P (1481, _, _, wo s1 F, _, _)
  refine P1 hP (g' := (1482, _, _, _, _, _)) rfl rfl ?_
  refine P_call hP (Or.inr (Or.inl ⟨rfl, rfl⟩)) rfl rfl (avs := [.ref 142]) rfl rfl ⟨⟨_, _, _, rfl, Nat.le_of_ble_eq_true rfl, rfl⟩, _, _, F, rfl, rfl, h2⟩ ⟨by show _ + _ ≤ 601024; omega, by show _ + _ ≤ 7293034; omega⟩ rfl ⟨rfl, rfl⟩ ⟨rfl, rfl⟩ ?_
  change P (1485, _, _, wo s2 F, _, _)
  refine P_ceq hP 1548 rfl rfl (fun h1485 => ?_) (fun h => by exact absurd rfl h)
  refine P_lv hP [(0, .ref 1000000), (1, .ref 0), (2, .ref 142), (3, .ref 151), (4, .int (nI (6 * k)))] (List.forall_mem_cons.mpr ⟨rfl, List.forall_mem_cons.mpr ⟨rfl, List.forall_mem_cons.mpr ⟨rfl, List.forall_mem_cons.mpr ⟨rfl, List.forall_mem_cons.mpr ⟨rfl, fun _ h => absurd h List.not_mem_nil⟩⟩⟩⟩⟩) (K _ _ _ _ hR2 ?_ ?_) <;> omega
set_option maxRecDepth 100000 in
theorem lc_23 (hP : xCl M_law L sc Po P) (hR : Rl s) (hL : L ≤ 3072) (hk : 6 * k + 6 ≤ L) (hc : kc + 5 ≤ 601024) (hs : ks + 30 ≤ 7293034) (K : ∀ s2 F2 kc2 ks2, Rl s2 → kc2 ≤ kc + 5 → ks2 ≤ ks + 30 → P (1548, [(0, .ref 1000000), (1, .ref 0), (2, .ref 142), (3, .ref 151), (4, .int (nI (6 * k)))], [], wo s2 F2, kc2, ks2)) : P (1490, [(0, .ref 1000000), (1, .ref 0), (2, .ref 142), (3, .ref 151), (4, .int (nI (6 * k)))], [], wo s F, kc, ks) := by
  obtain ⟨kk, F2, s1, v, s2, h1, h2, hR2, e6, hv⟩ := hp_L_undo (F := F) (pr_undo hR)
  refine P1 hP (g' := (1491, _, _, _, _, _)) rfl rfl ?_
  refine P1 hP (g' := (1492, _, _, _, _, _)) rfl rfl ?_
  refine P_call hP (Or.inl ⟨rfl, rfl⟩) rfl rfl (avs := [.ref 0, .ref 151]) rfl rfl h1 ⟨by show _ + _ ≤ 601024; omega, by show _ + _ ≤ 7293034; omega⟩ rfl ⟨rfl, rfl⟩ ⟨rfl, rfl⟩ ?_
  change P (1495, _, _, wo s1 F2, _, _)
  refine P1 hP (g' := (1497, _, _, _, _, _)) rfl rfl ?_
  refine P1 hP (g' := (1498, _, _, _, _, _)) rfl rfl ?_
  refine P_call hP (Or.inr (Or.inl ⟨rfl, rfl⟩)) rfl rfl (avs := [.ref 142]) rfl rfl ⟨⟨_, _, _, rfl, Nat.le_of_ble_eq_true rfl, rfl⟩, _, _, F2, rfl, rfl, h2⟩ ⟨by show _ + _ ≤ 601024; omega, by show _ + _ ≤ 7293034; omega⟩ rfl ⟨rfl, rfl⟩ ⟨rfl, rfl⟩ ?_
  change P (1501, _, _, wo s2 F2, _, _)
  refine P1 hP (g' := (1503, _, _, _, _, _)) rfl rfl ?_
  refine P1 hP (g' := (1504, _, _, _, _, _)) rfl rfl ?_
  refine P_call hP (Or.inr (Or.inl ⟨rfl, rfl⟩)) rfl rfl (avs := [.ref 142]) rfl rfl ⟨⟨_, _, _, rfl, Nat.le_of_ble_eq_true rfl, rfl⟩, _, _, F2, rfl, rfl, e9_thrown⟩ ⟨by show _ + _ ≤ 601024; omega, by show _ + _ ≤ 7293034; omega⟩ rfl ⟨rfl, rfl⟩ ⟨rfl, rfl⟩ ?_
  change P (1507, _, _, wo s2 F2, _, _)
  refine P1 hP (g' := (1509, _, _, _, _, _)) rfl rfl ?_
  refine P_ceq hP 1514 rfl rfl (fun h1509 => ?_) (fun h => by exact absurd e6 h)
  refine P1 hP (g' := (1516, _, _, _, _, _)) rfl rfl ?_
  refine P_ne hP 1531 rfl rfl (fun h1516 => ?_) (fun h1516 => ?_)
  · refine P1 hP (g' := (1548, _, _, _, _, _)) rfl rfl ?_
    refine P_lv hP [(0, .ref 1000000), (1, .ref 0), (2, .ref 142), (3, .ref 151), (4, .int (nI (6 * k)))] (List.forall_mem_cons.mpr ⟨rfl, List.forall_mem_cons.mpr ⟨rfl, List.forall_mem_cons.mpr ⟨rfl, List.forall_mem_cons.mpr ⟨rfl, List.forall_mem_cons.mpr ⟨rfl, fun _ h => absurd h List.not_mem_nil⟩⟩⟩⟩⟩) (K _ _ _ _ hR2 ?_ ?_) <;> omega
  · refine P1 hP (g' := (1520, _, _, _, _, _)) rfl rfl ?_
    refine P1 hP (g' := (1521, _, .int (nI 0) :: _, _, _, _)) rfl rfl ?_
    refine P_lald hP rfl ?_
    refine P1 hP (g' := (1524, _, _, _, _, _)) rfl rfl ?_
    refine P1 hP (g' := (1525, _, _, _, _, _)) rfl rfl ?_
    refine P1 hP (g' := (1526, _, _, _, _, _)) rfl rfl ?_
    refine P_eq hP 1531 rfl rfl (fun h1526 => ?_) (fun h => by exact absurd (by rw [hv h1516]; exact lgc _) h)
    refine P1 hP (g' := (1548, _, _, _, _, _)) rfl rfl ?_
    refine P_lv hP [(0, .ref 1000000), (1, .ref 0), (2, .ref 142), (3, .ref 151), (4, .int (nI (6 * k)))] (List.forall_mem_cons.mpr ⟨rfl, List.forall_mem_cons.mpr ⟨rfl, List.forall_mem_cons.mpr ⟨rfl, List.forall_mem_cons.mpr ⟨rfl, List.forall_mem_cons.mpr ⟨rfl, fun _ h => absurd h List.not_mem_nil⟩⟩⟩⟩⟩) (K _ _ _ _ hR2 ?_ ?_) <;> omega
set_option maxRecDepth 100000 in
theorem lc_24 (hP : xCl M_law L sc Po P) (hR : Rl s) (hL : L ≤ 3072) (hk : 6 * k + 6 ≤ L) (hc : kc + 5 ≤ 601024) (hs : ks + 30 ≤ 7293034) (K : ∀ s2 F2 kc2 ks2, Rl s2 → kc2 ≤ kc + 5 → ks2 ≤ ks + 30 → P (1548, [(0, .ref 1000000), (1, .ref 0), (2, .ref 142), (3, .ref 151), (4, .int (nI (6 * k)))], [], wo s2 F2, kc2, ks2)) : P (1534, [(0, .ref 1000000), (1, .ref 0), (2, .ref 142), (3, .ref 151), (4, .int (nI (6 * k)))], [], wo s F, kc, ks) := by
  obtain ⟨v, s1, s2, h1, h2, hR2⟩ := pr_digest hR
  refine P1 hP (g' := (1535, _, _, _, _, _)) rfl rfl ?_
  refine P_call hP (Or.inr (Or.inl ⟨rfl, rfl⟩)) rfl rfl (avs := [.ref 0]) rfl rfl ⟨⟨_, _, _, rfl, Nat.le_of_ble_eq_true rfl, rfl⟩, _, _, F, rfl, rfl, h1⟩ ⟨by show _ + _ ≤ 601024; omega, by show _ + _ ≤ 7293034; omega⟩ rfl ⟨rfl, rfl⟩ ⟨rfl, rfl⟩ ?_
  change P (1538, _, _, wo s1 F, _, _)
  refine P1 hP (g' := (1539, _, _, _, _, _)) rfl rfl ?_
  refine P_call hP (Or.inr (Or.inl ⟨rfl, rfl⟩)) rfl rfl (avs := [.ref 142]) rfl rfl ⟨⟨_, _, _, rfl, Nat.le_of_ble_eq_true rfl, rfl⟩, _, _, F, rfl, rfl, h2⟩ ⟨by show _ + _ ≤ 601024; omega, by show _ + _ ≤ 7293034; omega⟩ rfl ⟨rfl, rfl⟩ ⟨rfl, rfl⟩ ?_
  change P (1542, _, _, wo s2 F, _, _)
  refine P1 hP (g' := (1543, _, _, _, _, _)) rfl rfl ?_
  refine P_eq hP 1548 rfl rfl (fun h1543 => ?_) (fun h => by exact absurd (lgc _) h)
  refine P_lv hP [(0, .ref 1000000), (1, .ref 0), (2, .ref 142), (3, .ref 151), (4, .int (nI (6 * k)))] (List.forall_mem_cons.mpr ⟨rfl, List.forall_mem_cons.mpr ⟨rfl, List.forall_mem_cons.mpr ⟨rfl, List.forall_mem_cons.mpr ⟨rfl, List.forall_mem_cons.mpr ⟨rfl, fun _ h => absurd h List.not_mem_nil⟩⟩⟩⟩⟩) (K _ _ _ _ hR2 ?_ ?_) <;> omega
end XLK2
