section XLK1
variable {L : Nat} {sc : Nat → Int32} {Po : xO → xw → Prop} {P : xG → Prop} {s : xs} {F : Nat → Int64} {k kc ks : Nat}
set_option maxRecDepth 100000 in
theorem lc_9 (hP : xCl M_law L sc Po P) (hR : Rl s) (hL : L ≤ 3072) (hk : 6 * k + 6 ≤ L) (hc : kc + 5 ≤ 601024) (hs : ks + 30 ≤ 7293034) (K : ∀ s2 F2 kc2 ks2, Rl s2 → kc2 ≤ kc + 5 → ks2 ≤ ks + 30 → P (1548, [(0, .ref 1000000), (1, .ref 0), (2, .ref 142), (3, .ref 151), (4, .int (nI (6 * k)))], [], wo s2 F2, kc2, ks2)) : P (701, [(0, .ref 1000000), (1, .ref 0), (2, .ref 142), (3, .ref 151), (4, .int (nI (6 * k)))], [], wo s F, kc, ks) := by
  obtain ⟨kk, F2, s1, v, s2, h1, h2, hR2, e6, hv⟩ := hp_L_part (F := F) (p0 := sc (nI (6 * k) + nI 1).toNatClampNeg) (p1 := sc (nI (6 * k) + nI 2).toNatClampNeg) (pr_part hR)
  refine P1 hP (g' := (702, _, _, _, _, _)) rfl rfl ?_
  refine P1 hP (g' := (703, _, _, _, _, _)) rfl rfl ?_
  refine P1 hP (g' := (705, _, _, _, _, _)) rfl rfl ?_
  refine P1 hP (g' := (706, _, .int (nI 1) :: _, _, _, _)) rfl rfl ?_
  refine P1 hP (g' := (707, _, _, _, _, _)) rfl rfl ?_
  refine P_sld hP rfl rfl (vq hL hk (by decide)) ?_
  refine P1 hP (g' := (709, _, _, _, _, _)) rfl rfl ?_
  refine P1 hP (g' := (711, _, _, _, _, _)) rfl rfl ?_
  refine P1 hP (g' := (712, _, .int (nI 2) :: _, _, _, _)) rfl rfl ?_
  refine P1 hP (g' := (713, _, _, _, _, _)) rfl rfl ?_
  refine P_sld hP rfl rfl (vq hL hk (by decide)) ?_
  refine P1 hP (g' := (715, _, _, _, _, _)) rfl rfl ?_
  refine P_call hP (Or.inl ⟨rfl, rfl⟩) rfl rfl (avs := [.ref 0, .int _, .int _, .ref 151]) rfl rfl h1 ⟨by show _ + _ ≤ 601024; omega, by show _ + _ ≤ 7293034; omega⟩ rfl ⟨rfl, rfl⟩ ⟨rfl, rfl⟩ ?_
  change P (718, _, _, wo s1 F2, _, _)
  refine P1 hP (g' := (720, _, _, _, _, _)) rfl rfl ?_
  refine P1 hP (g' := (721, _, _, _, _, _)) rfl rfl ?_
  refine P1 hP (g' := (722, _, _, _, _, _)) rfl rfl ?_
  refine P1 hP (g' := (724, _, _, _, _, _)) rfl rfl ?_
  refine P1 hP (g' := (725, _, .int (nI 1) :: _, _, _, _)) rfl rfl ?_
  refine P1 hP (g' := (726, _, _, _, _, _)) rfl rfl ?_
  refine P_sld hP rfl rfl (vq hL hk (by decide)) ?_
  refine P1 hP (g' := (728, _, _, _, _, _)) rfl rfl ?_
  refine P1 hP (g' := (730, _, _, _, _, _)) rfl rfl ?_
  refine P1 hP (g' := (731, _, .int (nI 2) :: _, _, _, _)) rfl rfl ?_
  refine P1 hP (g' := (732, _, _, _, _, _)) rfl rfl ?_
  refine P_sld hP rfl rfl (vq hL hk (by decide)) ?_
  refine P_call hP (Or.inr (Or.inl ⟨rfl, rfl⟩)) rfl rfl (avs := [.ref 142, .int _, .int _]) rfl rfl ⟨⟨_, _, _, rfl, Nat.le_of_ble_eq_true rfl, rfl⟩, _, _, F2, rfl, rfl, h2⟩ ⟨by show _ + _ ≤ 601024; omega, by show _ + _ ≤ 7293034; omega⟩ rfl ⟨rfl, rfl⟩ ⟨rfl, rfl⟩ ?_
  change P (736, _, _, wo s2 F2, _, _)
  refine P1 hP (g' := (738, _, _, _, _, _)) rfl rfl ?_
  refine P1 hP (g' := (739, _, _, _, _, _)) rfl rfl ?_
  refine P_call hP (Or.inr (Or.inl ⟨rfl, rfl⟩)) rfl rfl (avs := [.ref 142]) rfl rfl ⟨⟨_, _, _, rfl, Nat.le_of_ble_eq_true rfl, rfl⟩, _, _, F2, rfl, rfl, e9_thrown⟩ ⟨by show _ + _ ≤ 601024; omega, by show _ + _ ≤ 7293034; omega⟩ rfl ⟨rfl, rfl⟩ ⟨rfl, rfl⟩ ?_
  change P (742, _, _, wo s2 F2, _, _)
  refine P1 hP (g' := (744, _, _, _, _, _)) rfl rfl ?_
  refine P_ceq hP 749 rfl rfl (fun h744 => ?_) (fun h => by exact absurd e6 h)
  refine P1 hP (g' := (751, _, _, _, _, _)) rfl rfl ?_
  refine P_ne hP 766 rfl rfl (fun h751 => ?_) (fun h751 => ?_)
  · refine P1 hP (g' := (1548, _, _, _, _, _)) rfl rfl ?_
    refine P_lv hP [(0, .ref 1000000), (1, .ref 0), (2, .ref 142), (3, .ref 151), (4, .int (nI (6 * k)))] (List.forall_mem_cons.mpr ⟨rfl, List.forall_mem_cons.mpr ⟨rfl, List.forall_mem_cons.mpr ⟨rfl, List.forall_mem_cons.mpr ⟨rfl, List.forall_mem_cons.mpr ⟨rfl, fun _ h => absurd h List.not_mem_nil⟩⟩⟩⟩⟩) (K _ _ _ _ hR2 ?_ ?_) <;> omega
  · refine P1 hP (g' := (755, _, _, _, _, _)) rfl rfl ?_
    refine P1 hP (g' := (756, _, .int (nI 0) :: _, _, _, _)) rfl rfl ?_
    refine P_lald hP rfl ?_
    refine P1 hP (g' := (759, _, _, _, _, _)) rfl rfl ?_
    refine P1 hP (g' := (760, _, _, _, _, _)) rfl rfl ?_
    refine P1 hP (g' := (761, _, _, _, _, _)) rfl rfl ?_
    refine P_eq hP 766 rfl rfl (fun h761 => ?_) (fun h => by exact absurd (by rw [hv h751]; exact lgc _) h)
    refine P1 hP (g' := (1548, _, _, _, _, _)) rfl rfl ?_
    refine P_lv hP [(0, .ref 1000000), (1, .ref 0), (2, .ref 142), (3, .ref 151), (4, .int (nI (6 * k)))] (List.forall_mem_cons.mpr ⟨rfl, List.forall_mem_cons.mpr ⟨rfl, List.forall_mem_cons.mpr ⟨rfl, List.forall_mem_cons.mpr ⟨rfl, List.forall_mem_cons.mpr ⟨rfl, fun _ h => absurd h List.not_mem_nil⟩⟩⟩⟩⟩) (K _ _ _ _ hR2 ?_ ?_) <;> omega
set_option maxRecDepth 100000 in
theorem lc_10 (hP : xCl M_law L sc Po P) (hR : Rl s) (hL : L ≤ 3072) (hk : 6 * k + 6 ≤ L) (hc : kc + 5 ≤ 601024) (hs : ks + 30 ≤ 7293034) (K : ∀ s2 F2 kc2 ks2, Rl s2 → kc2 ≤ kc + 5 → ks2 ≤ ks + 30 → P (1548, [(0, .ref 1000000), (1, .ref 0), (2, .ref 142), (3, .ref 151), (4, .int (nI (6 * k)))], [], wo s2 F2, kc2, ks2)) : P (769, [(0, .ref 1000000), (1, .ref 0), (2, .ref 142), (3, .ref 151), (4, .int (nI (6 * k)))], [], wo s F, kc, ks) := by
  obtain ⟨kk, F2, s1, v, s2, h1, h2, hR2, e6, hv⟩ := hp_L_value (F := F) (p0 := sc (nI (6 * k) + nI 1).toNatClampNeg) (pr_value hR)
  refine P1 hP (g' := (770, _, _, _, _, _)) rfl rfl ?_
  refine P1 hP (g' := (771, _, _, _, _, _)) rfl rfl ?_
  refine P1 hP (g' := (773, _, _, _, _, _)) rfl rfl ?_
  refine P1 hP (g' := (774, _, .int (nI 1) :: _, _, _, _)) rfl rfl ?_
  refine P1 hP (g' := (775, _, _, _, _, _)) rfl rfl ?_
  refine P_sld hP rfl rfl (vq hL hk (by decide)) ?_
  refine P1 hP (g' := (777, _, _, _, _, _)) rfl rfl ?_
  refine P_call hP (Or.inl ⟨rfl, rfl⟩) rfl rfl (avs := [.ref 0, .int _, .ref 151]) rfl rfl h1 ⟨by show _ + _ ≤ 601024; omega, by show _ + _ ≤ 7293034; omega⟩ rfl ⟨rfl, rfl⟩ ⟨rfl, rfl⟩ ?_
  change P (780, _, _, wo s1 F2, _, _)
  refine P1 hP (g' := (782, _, _, _, _, _)) rfl rfl ?_
  refine P1 hP (g' := (783, _, _, _, _, _)) rfl rfl ?_
  refine P1 hP (g' := (784, _, _, _, _, _)) rfl rfl ?_
  refine P1 hP (g' := (786, _, _, _, _, _)) rfl rfl ?_
  refine P1 hP (g' := (787, _, .int (nI 1) :: _, _, _, _)) rfl rfl ?_
  refine P1 hP (g' := (788, _, _, _, _, _)) rfl rfl ?_
  refine P_sld hP rfl rfl (vq hL hk (by decide)) ?_
  refine P_call hP (Or.inr (Or.inl ⟨rfl, rfl⟩)) rfl rfl (avs := [.ref 142, .int _]) rfl rfl ⟨⟨_, _, _, rfl, Nat.le_of_ble_eq_true rfl, rfl⟩, _, _, F2, rfl, rfl, h2⟩ ⟨by show _ + _ ≤ 601024; omega, by show _ + _ ≤ 7293034; omega⟩ rfl ⟨rfl, rfl⟩ ⟨rfl, rfl⟩ ?_
  change P (792, _, _, wo s2 F2, _, _)
  refine P1 hP (g' := (794, _, _, _, _, _)) rfl rfl ?_
  refine P1 hP (g' := (795, _, _, _, _, _)) rfl rfl ?_
  refine P_call hP (Or.inr (Or.inl ⟨rfl, rfl⟩)) rfl rfl (avs := [.ref 142]) rfl rfl ⟨⟨_, _, _, rfl, Nat.le_of_ble_eq_true rfl, rfl⟩, _, _, F2, rfl, rfl, e9_thrown⟩ ⟨by show _ + _ ≤ 601024; omega, by show _ + _ ≤ 7293034; omega⟩ rfl ⟨rfl, rfl⟩ ⟨rfl, rfl⟩ ?_
  change P (798, _, _, wo s2 F2, _, _)
  refine P1 hP (g' := (800, _, _, _, _, _)) rfl rfl ?_
  refine P_ceq hP 805 rfl rfl (fun h800 => ?_) (fun h => by exact absurd e6 h)
  refine P1 hP (g' := (807, _, _, _, _, _)) rfl rfl ?_
  refine P_ne hP 822 rfl rfl (fun h807 => ?_) (fun h807 => ?_)
  · refine P1 hP (g' := (1548, _, _, _, _, _)) rfl rfl ?_
    refine P_lv hP [(0, .ref 1000000), (1, .ref 0), (2, .ref 142), (3, .ref 151), (4, .int (nI (6 * k)))] (List.forall_mem_cons.mpr ⟨rfl, List.forall_mem_cons.mpr ⟨rfl, List.forall_mem_cons.mpr ⟨rfl, List.forall_mem_cons.mpr ⟨rfl, List.forall_mem_cons.mpr ⟨rfl, fun _ h => absurd h List.not_mem_nil⟩⟩⟩⟩⟩) (K _ _ _ _ hR2 ?_ ?_) <;> omega
  · refine P1 hP (g' := (811, _, _, _, _, _)) rfl rfl ?_
    refine P1 hP (g' := (812, _, .int (nI 0) :: _, _, _, _)) rfl rfl ?_
    refine P_lald hP rfl ?_
    refine P1 hP (g' := (815, _, _, _, _, _)) rfl rfl ?_
    refine P1 hP (g' := (816, _, _, _, _, _)) rfl rfl ?_
    refine P1 hP (g' := (817, _, _, _, _, _)) rfl rfl ?_
    refine P_eq hP 822 rfl rfl (fun h817 => ?_) (fun h => by exact absurd (by rw [hv h807]; exact lgc _) h)
    refine P1 hP (g' := (1548, _, _, _, _, _)) rfl rfl ?_
    refine P_lv hP [(0, .ref 1000000), (1, .ref 0), (2, .ref 142), (3, .ref 151), (4, .int (nI (6 * k)))] (List.forall_mem_cons.mpr ⟨rfl, List.forall_mem_cons.mpr ⟨rfl, List.forall_mem_cons.mpr ⟨rfl, List.forall_mem_cons.mpr ⟨rfl, List.forall_mem_cons.mpr ⟨rfl, fun _ h => absurd h List.not_mem_nil⟩⟩⟩⟩⟩) (K _ _ _ _ hR2 ?_ ?_) <;> omega
set_option maxRecDepth 100000 in
theorem lc_11 (hP : xCl M_law L sc Po P) (hR : Rl s) (hL : L ≤ 3072) (hk : 6 * k + 6 ≤ L) (hc : kc + 5 ≤ 601024) (hs : ks + 30 ≤ 7293034) (K : ∀ s2 F2 kc2 ks2, Rl s2 → kc2 ≤ kc + 5 → ks2 ≤ ks + 30 → P (1548, [(0, .ref 1000000), (1, .ref 0), (2, .ref 142), (3, .ref 151), (4, .int (nI (6 * k)))], [], wo s2 F2, kc2, ks2)) : P (825, [(0, .ref 1000000), (1, .ref 0), (2, .ref 142), (3, .ref 151), (4, .int (nI (6 * k)))], [], wo s F, kc, ks) := by
  obtain ⟨kk, F2, s1, v, s2, h1, h2, hR2, e6, hv⟩ := hp_L_tellStep (F := F) (p0 := sc (nI (6 * k) + nI 1).toNatClampNeg) (p1 := sc (nI (6 * k) + nI 2).toNatClampNeg) (p2 := sc (nI (6 * k) + nI 3).toNatClampNeg) (p3 := sc (nI (6 * k) + nI 4).toNatClampNeg) (pr_tellStep hR)
  refine P1 hP (g' := (826, _, _, _, _, _)) rfl rfl ?_
  refine P1 hP (g' := (827, _, _, _, _, _)) rfl rfl ?_
  refine P1 hP (g' := (829, _, _, _, _, _)) rfl rfl ?_
  refine P1 hP (g' := (830, _, .int (nI 1) :: _, _, _, _)) rfl rfl ?_
  refine P1 hP (g' := (831, _, _, _, _, _)) rfl rfl ?_
  refine P_sld hP rfl rfl (vq hL hk (by decide)) ?_
  refine P1 hP (g' := (833, _, _, _, _, _)) rfl rfl ?_
  refine P1 hP (g' := (835, _, _, _, _, _)) rfl rfl ?_
  refine P1 hP (g' := (836, _, .int (nI 2) :: _, _, _, _)) rfl rfl ?_
  refine P1 hP (g' := (837, _, _, _, _, _)) rfl rfl ?_
  refine P_sld hP rfl rfl (vq hL hk (by decide)) ?_
  refine P1 hP (g' := (839, _, _, _, _, _)) rfl rfl ?_
  refine P1 hP (g' := (841, _, _, _, _, _)) rfl rfl ?_
  refine P1 hP (g' := (842, _, .int (nI 3) :: _, _, _, _)) rfl rfl ?_
  refine P1 hP (g' := (843, _, _, _, _, _)) rfl rfl ?_
  refine P_sld hP rfl rfl (vq hL hk (by decide)) ?_
  refine P1 hP (g' := (845, _, _, _, _, _)) rfl rfl ?_
  refine P1 hP (g' := (847, _, _, _, _, _)) rfl rfl ?_
  refine P1 hP (g' := (848, _, .int (nI 4) :: _, _, _, _)) rfl rfl ?_
  refine P1 hP (g' := (849, _, _, _, _, _)) rfl rfl ?_
  refine P_sld hP rfl rfl (vq hL hk (by decide)) ?_
  refine P1 hP (g' := (851, _, _, _, _, _)) rfl rfl ?_
  refine P_call hP (Or.inl ⟨rfl, rfl⟩) rfl rfl (avs := [.ref 0, .int _, .int _, .int _, .int _, .ref 151]) rfl rfl h1 ⟨by show _ + _ ≤ 601024; omega, by show _ + _ ≤ 7293034; omega⟩ rfl ⟨rfl, rfl⟩ ⟨rfl, rfl⟩ ?_
  change P (854, _, _, wo s1 F2, _, _)
  refine P1 hP (g' := (856, _, _, _, _, _)) rfl rfl ?_
  refine P1 hP (g' := (857, _, _, _, _, _)) rfl rfl ?_
  refine P1 hP (g' := (858, _, _, _, _, _)) rfl rfl ?_
  refine P1 hP (g' := (860, _, _, _, _, _)) rfl rfl ?_
  refine P1 hP (g' := (861, _, .int (nI 1) :: _, _, _, _)) rfl rfl ?_
  refine P1 hP (g' := (862, _, _, _, _, _)) rfl rfl ?_
  refine P_sld hP rfl rfl (vq hL hk (by decide)) ?_
  refine P1 hP (g' := (864, _, _, _, _, _)) rfl rfl ?_
  refine P1 hP (g' := (866, _, _, _, _, _)) rfl rfl ?_
  refine P1 hP (g' := (867, _, .int (nI 2) :: _, _, _, _)) rfl rfl ?_
  refine P1 hP (g' := (868, _, _, _, _, _)) rfl rfl ?_
  refine P_sld hP rfl rfl (vq hL hk (by decide)) ?_
  refine P1 hP (g' := (870, _, _, _, _, _)) rfl rfl ?_
  refine P1 hP (g' := (872, _, _, _, _, _)) rfl rfl ?_
  refine P1 hP (g' := (873, _, .int (nI 3) :: _, _, _, _)) rfl rfl ?_
  refine P1 hP (g' := (874, _, _, _, _, _)) rfl rfl ?_
  refine P_sld hP rfl rfl (vq hL hk (by decide)) ?_
  refine P1 hP (g' := (876, _, _, _, _, _)) rfl rfl ?_
  refine P1 hP (g' := (878, _, _, _, _, _)) rfl rfl ?_
  refine P1 hP (g' := (879, _, .int (nI 4) :: _, _, _, _)) rfl rfl ?_
  refine P1 hP (g' := (880, _, _, _, _, _)) rfl rfl ?_
  refine P_sld hP rfl rfl (vq hL hk (by decide)) ?_
  refine P_call hP (Or.inr (Or.inl ⟨rfl, rfl⟩)) rfl rfl (avs := [.ref 142, .int _, .int _, .int _, .int _]) rfl rfl ⟨⟨_, _, _, rfl, Nat.le_of_ble_eq_true rfl, rfl⟩, _, _, F2, rfl, rfl, h2⟩ ⟨by show _ + _ ≤ 601024; omega, by show _ + _ ≤ 7293034; omega⟩ rfl ⟨rfl, rfl⟩ ⟨rfl, rfl⟩ ?_
  change P (884, _, _, wo s2 F2, _, _)
  refine P1 hP (g' := (886, _, _, _, _, _)) rfl rfl ?_
  refine P1 hP (g' := (887, _, _, _, _, _)) rfl rfl ?_
  refine P_call hP (Or.inr (Or.inl ⟨rfl, rfl⟩)) rfl rfl (avs := [.ref 142]) rfl rfl ⟨⟨_, _, _, rfl, Nat.le_of_ble_eq_true rfl, rfl⟩, _, _, F2, rfl, rfl, e9_thrown⟩ ⟨by show _ + _ ≤ 601024; omega, by show _ + _ ≤ 7293034; omega⟩ rfl ⟨rfl, rfl⟩ ⟨rfl, rfl⟩ ?_
  change P (890, _, _, wo s2 F2, _, _)
  refine P1 hP (g' := (892, _, _, _, _, _)) rfl rfl ?_
  refine P_ceq hP 897 rfl rfl (fun h892 => ?_) (fun h => by exact absurd e6 h)
  refine P1 hP (g' := (899, _, _, _, _, _)) rfl rfl ?_
  refine P_ne hP 914 rfl rfl (fun h899 => ?_) (fun h899 => ?_)
  · refine P1 hP (g' := (1548, _, _, _, _, _)) rfl rfl ?_
    refine P_lv hP [(0, .ref 1000000), (1, .ref 0), (2, .ref 142), (3, .ref 151), (4, .int (nI (6 * k)))] (List.forall_mem_cons.mpr ⟨rfl, List.forall_mem_cons.mpr ⟨rfl, List.forall_mem_cons.mpr ⟨rfl, List.forall_mem_cons.mpr ⟨rfl, List.forall_mem_cons.mpr ⟨rfl, fun _ h => absurd h List.not_mem_nil⟩⟩⟩⟩⟩) (K _ _ _ _ hR2 ?_ ?_) <;> omega
  · refine P1 hP (g' := (903, _, _, _, _, _)) rfl rfl ?_
    refine P1 hP (g' := (904, _, .int (nI 0) :: _, _, _, _)) rfl rfl ?_
    refine P_lald hP rfl ?_
    refine P1 hP (g' := (907, _, _, _, _, _)) rfl rfl ?_
    refine P1 hP (g' := (908, _, _, _, _, _)) rfl rfl ?_
    refine P1 hP (g' := (909, _, _, _, _, _)) rfl rfl ?_
    refine P_eq hP 914 rfl rfl (fun h909 => ?_) (fun h => by exact absurd (by rw [hv h899]; exact lgc _) h)
    refine P1 hP (g' := (1548, _, _, _, _, _)) rfl rfl ?_
    refine P_lv hP [(0, .ref 1000000), (1, .ref 0), (2, .ref 142), (3, .ref 151), (4, .int (nI (6 * k)))] (List.forall_mem_cons.mpr ⟨rfl, List.forall_mem_cons.mpr ⟨rfl, List.forall_mem_cons.mpr ⟨rfl, List.forall_mem_cons.mpr ⟨rfl, List.forall_mem_cons.mpr ⟨rfl, fun _ h => absurd h List.not_mem_nil⟩⟩⟩⟩⟩) (K _ _ _ _ hR2 ?_ ?_) <;> omega
set_option maxRecDepth 100000 in
theorem lc_12 (hP : xCl M_law L sc Po P) (hR : Rl s) (hL : L ≤ 3072) (hk : 6 * k + 6 ≤ L) (hc : kc + 5 ≤ 601024) (hs : ks + 30 ≤ 7293034) (K : ∀ s2 F2 kc2 ks2, Rl s2 → kc2 ≤ kc + 5 → ks2 ≤ ks + 30 → P (1548, [(0, .ref 1000000), (1, .ref 0), (2, .ref 142), (3, .ref 151), (4, .int (nI (6 * k)))], [], wo s2 F2, kc2, ks2)) : P (917, [(0, .ref 1000000), (1, .ref 0), (2, .ref 142), (3, .ref 151), (4, .int (nI (6 * k)))], [], wo s F, kc, ks) := by
  obtain ⟨o, s1, v, s2, h1, h2, hR2, h3⟩ := pr_clearSteps hR
  have ho : o = .inl (some (.int v)) := h3.elim (fun z => z.1) (fun ⟨k9, E, hk9, _⟩ => by cases hk9)
  subst ho
  refine P1 hP (g' := (918, _, _, _, _, _)) rfl rfl ?_
  refine P_call hP (Or.inr (Or.inl ⟨rfl, rfl⟩)) rfl rfl (avs := [.ref 0]) rfl rfl ⟨⟨_, _, _, rfl, Nat.le_of_ble_eq_true rfl, rfl⟩, _, _, F, rfl, rfl, h1⟩ ⟨by show _ + _ ≤ 601024; omega, by show _ + _ ≤ 7293034; omega⟩ rfl ⟨rfl, rfl⟩ ⟨rfl, rfl⟩ ?_
  change P (921, _, _, wo s1 F, _, _)
  refine P1 hP (g' := (922, _, _, _, _, _)) rfl rfl ?_
  refine P_call hP (Or.inr (Or.inl ⟨rfl, rfl⟩)) rfl rfl (avs := [.ref 142]) rfl rfl ⟨⟨_, _, _, rfl, Nat.le_of_ble_eq_true rfl, rfl⟩, _, _, F, rfl, rfl, h2⟩ ⟨by show _ + _ ≤ 601024; omega, by show _ + _ ≤ 7293034; omega⟩ rfl ⟨rfl, rfl⟩ ⟨rfl, rfl⟩ ?_
  change P (925, _, _, wo s2 F, _, _)
  refine P_ceq hP 1548 rfl rfl (fun h925 => ?_) (fun h => by exact absurd rfl h)
  refine P_lv hP [(0, .ref 1000000), (1, .ref 0), (2, .ref 142), (3, .ref 151), (4, .int (nI (6 * k)))] (List.forall_mem_cons.mpr ⟨rfl, List.forall_mem_cons.mpr ⟨rfl, List.forall_mem_cons.mpr ⟨rfl, List.forall_mem_cons.mpr ⟨rfl, List.forall_mem_cons.mpr ⟨rfl, fun _ h => absurd h List.not_mem_nil⟩⟩⟩⟩⟩) (K _ _ _ _ hR2 ?_ ?_) <;> omega
set_option maxRecDepth 100000 in
theorem lc_13 (hP : xCl M_law L sc Po P) (hR : Rl s) (hL : L ≤ 3072) (hk : 6 * k + 6 ≤ L) (hc : kc + 5 ≤ 601024) (hs : ks + 30 ≤ 7293034) (K : ∀ s2 F2 kc2 ks2, Rl s2 → kc2 ≤ kc + 5 → ks2 ≤ ks + 30 → P (1548, [(0, .ref 1000000), (1, .ref 0), (2, .ref 142), (3, .ref 151), (4, .int (nI (6 * k)))], [], wo s2 F2, kc2, ks2)) : P (930, [(0, .ref 1000000), (1, .ref 0), (2, .ref 142), (3, .ref 151), (4, .int (nI (6 * k)))], [], wo s F, kc, ks) := by
  obtain ⟨kk, F2, s1, v, s2, h1, h2, hR2, e6, hv⟩ := hp_L_step (F := F) (p0 := sc (nI (6 * k) + nI 1).toNatClampNeg) (p1 := sc (nI (6 * k) + nI 2).toNatClampNeg) (pr_step hR)
  refine P1 hP (g' := (931, _, _, _, _, _)) rfl rfl ?_
  refine P1 hP (g' := (932, _, _, _, _, _)) rfl rfl ?_
  refine P1 hP (g' := (934, _, _, _, _, _)) rfl rfl ?_
  refine P1 hP (g' := (935, _, .int (nI 1) :: _, _, _, _)) rfl rfl ?_
  refine P1 hP (g' := (936, _, _, _, _, _)) rfl rfl ?_
  refine P_sld hP rfl rfl (vq hL hk (by decide)) ?_
  refine P1 hP (g' := (938, _, _, _, _, _)) rfl rfl ?_
  refine P1 hP (g' := (940, _, _, _, _, _)) rfl rfl ?_
  refine P1 hP (g' := (941, _, .int (nI 2) :: _, _, _, _)) rfl rfl ?_
  refine P1 hP (g' := (942, _, _, _, _, _)) rfl rfl ?_
  refine P_sld hP rfl rfl (vq hL hk (by decide)) ?_
  refine P1 hP (g' := (944, _, _, _, _, _)) rfl rfl ?_
  refine P_call hP (Or.inl ⟨rfl, rfl⟩) rfl rfl (avs := [.ref 0, .int _, .int _, .ref 151]) rfl rfl h1 ⟨by show _ + _ ≤ 601024; omega, by show _ + _ ≤ 7293034; omega⟩ rfl ⟨rfl, rfl⟩ ⟨rfl, rfl⟩ ?_
  change P (947, _, _, wo s1 F2, _, _)
  refine P1 hP (g' := (949, _, _, _, _, _)) rfl rfl ?_
  refine P1 hP (g' := (950, _, _, _, _, _)) rfl rfl ?_
  refine P1 hP (g' := (951, _, _, _, _, _)) rfl rfl ?_
  refine P1 hP (g' := (953, _, _, _, _, _)) rfl rfl ?_
  refine P1 hP (g' := (954, _, .int (nI 1) :: _, _, _, _)) rfl rfl ?_
  refine P1 hP (g' := (955, _, _, _, _, _)) rfl rfl ?_
  refine P_sld hP rfl rfl (vq hL hk (by decide)) ?_
  refine P1 hP (g' := (957, _, _, _, _, _)) rfl rfl ?_
  refine P1 hP (g' := (959, _, _, _, _, _)) rfl rfl ?_
  refine P1 hP (g' := (960, _, .int (nI 2) :: _, _, _, _)) rfl rfl ?_
  refine P1 hP (g' := (961, _, _, _, _, _)) rfl rfl ?_
  refine P_sld hP rfl rfl (vq hL hk (by decide)) ?_
  refine P_call hP (Or.inr (Or.inl ⟨rfl, rfl⟩)) rfl rfl (avs := [.ref 142, .int _, .int _]) rfl rfl ⟨⟨_, _, _, rfl, Nat.le_of_ble_eq_true rfl, rfl⟩, _, _, F2, rfl, rfl, h2⟩ ⟨by show _ + _ ≤ 601024; omega, by show _ + _ ≤ 7293034; omega⟩ rfl ⟨rfl, rfl⟩ ⟨rfl, rfl⟩ ?_
  change P (965, _, _, wo s2 F2, _, _)
  refine P1 hP (g' := (967, _, _, _, _, _)) rfl rfl ?_
  refine P1 hP (g' := (968, _, _, _, _, _)) rfl rfl ?_
  refine P_call hP (Or.inr (Or.inl ⟨rfl, rfl⟩)) rfl rfl (avs := [.ref 142]) rfl rfl ⟨⟨_, _, _, rfl, Nat.le_of_ble_eq_true rfl, rfl⟩, _, _, F2, rfl, rfl, e9_thrown⟩ ⟨by show _ + _ ≤ 601024; omega, by show _ + _ ≤ 7293034; omega⟩ rfl ⟨rfl, rfl⟩ ⟨rfl, rfl⟩ ?_
  change P (971, _, _, wo s2 F2, _, _)
  refine P1 hP (g' := (973, _, _, _, _, _)) rfl rfl ?_
  refine P_ceq hP 978 rfl rfl (fun h973 => ?_) (fun h => by exact absurd e6 h)
  refine P1 hP (g' := (980, _, _, _, _, _)) rfl rfl ?_
  refine P_ne hP 995 rfl rfl (fun h980 => ?_) (fun h980 => ?_)
  · refine P1 hP (g' := (1548, _, _, _, _, _)) rfl rfl ?_
    refine P_lv hP [(0, .ref 1000000), (1, .ref 0), (2, .ref 142), (3, .ref 151), (4, .int (nI (6 * k)))] (List.forall_mem_cons.mpr ⟨rfl, List.forall_mem_cons.mpr ⟨rfl, List.forall_mem_cons.mpr ⟨rfl, List.forall_mem_cons.mpr ⟨rfl, List.forall_mem_cons.mpr ⟨rfl, fun _ h => absurd h List.not_mem_nil⟩⟩⟩⟩⟩) (K _ _ _ _ hR2 ?_ ?_) <;> omega
  · refine P1 hP (g' := (984, _, _, _, _, _)) rfl rfl ?_
    refine P1 hP (g' := (985, _, .int (nI 0) :: _, _, _, _)) rfl rfl ?_
    refine P_lald hP rfl ?_
    refine P1 hP (g' := (988, _, _, _, _, _)) rfl rfl ?_
    refine P1 hP (g' := (989, _, _, _, _, _)) rfl rfl ?_
    refine P1 hP (g' := (990, _, _, _, _, _)) rfl rfl ?_
    refine P_eq hP 995 rfl rfl (fun h990 => ?_) (fun h => by exact absurd (by rw [hv h980]; exact lgc _) h)
    refine P1 hP (g' := (1548, _, _, _, _, _)) rfl rfl ?_
    refine P_lv hP [(0, .ref 1000000), (1, .ref 0), (2, .ref 142), (3, .ref 151), (4, .int (nI (6 * k)))] (List.forall_mem_cons.mpr ⟨rfl, List.forall_mem_cons.mpr ⟨rfl, List.forall_mem_cons.mpr ⟨rfl, List.forall_mem_cons.mpr ⟨rfl, List.forall_mem_cons.mpr ⟨rfl, fun _ h => absurd h List.not_mem_nil⟩⟩⟩⟩⟩) (K _ _ _ _ hR2 ?_ ?_) <;> omega
set_option maxRecDepth 100000 in
theorem lc_14 (hP : xCl M_law L sc Po P) (hR : Rl s) (hL : L ≤ 3072) (hk : 6 * k + 6 ≤ L) (hc : kc + 5 ≤ 601024) (hs : ks + 30 ≤ 7293034) (K : ∀ s2 F2 kc2 ks2, Rl s2 → kc2 ≤ kc + 5 → ks2 ≤ ks + 30 → P (1548, [(0, .ref 1000000), (1, .ref 0), (2, .ref 142), (3, .ref 151), (4, .int (nI (6 * k)))], [], wo s2 F2, kc2, ks2)) : P (998, [(0, .ref 1000000), (1, .ref 0), (2, .ref 142), (3, .ref 151), (4, .int (nI (6 * k)))], [], wo s F, kc, ks) := by
  obtain ⟨kk, F2, s1, v, s2, h1, h2, hR2, e6, hv⟩ := hp_L_way (F := F) (p0 := sc (nI (6 * k) + nI 1).toNatClampNeg) (p1 := sc (nI (6 * k) + nI 2).toNatClampNeg) (p2 := sc (nI (6 * k) + nI 3).toNatClampNeg) (p3 := sc (nI (6 * k) + nI 4).toNatClampNeg) (pr_way hR)
  refine P1 hP (g' := (999, _, _, _, _, _)) rfl rfl ?_
  refine P1 hP (g' := (1000, _, _, _, _, _)) rfl rfl ?_
  refine P1 hP (g' := (1002, _, _, _, _, _)) rfl rfl ?_
  refine P1 hP (g' := (1003, _, .int (nI 1) :: _, _, _, _)) rfl rfl ?_
  refine P1 hP (g' := (1004, _, _, _, _, _)) rfl rfl ?_
  refine P_sld hP rfl rfl (vq hL hk (by decide)) ?_
  refine P1 hP (g' := (1006, _, _, _, _, _)) rfl rfl ?_
  refine P1 hP (g' := (1008, _, _, _, _, _)) rfl rfl ?_
  refine P1 hP (g' := (1009, _, .int (nI 2) :: _, _, _, _)) rfl rfl ?_
  refine P1 hP (g' := (1010, _, _, _, _, _)) rfl rfl ?_
  refine P_sld hP rfl rfl (vq hL hk (by decide)) ?_
  refine P1 hP (g' := (1012, _, _, _, _, _)) rfl rfl ?_
  refine P1 hP (g' := (1014, _, _, _, _, _)) rfl rfl ?_
  refine P1 hP (g' := (1015, _, .int (nI 3) :: _, _, _, _)) rfl rfl ?_
  refine P1 hP (g' := (1016, _, _, _, _, _)) rfl rfl ?_
  refine P_sld hP rfl rfl (vq hL hk (by decide)) ?_
  refine P1 hP (g' := (1018, _, _, _, _, _)) rfl rfl ?_
  refine P1 hP (g' := (1020, _, _, _, _, _)) rfl rfl ?_
  refine P1 hP (g' := (1021, _, .int (nI 4) :: _, _, _, _)) rfl rfl ?_
  refine P1 hP (g' := (1022, _, _, _, _, _)) rfl rfl ?_
  refine P_sld hP rfl rfl (vq hL hk (by decide)) ?_
  refine P1 hP (g' := (1024, _, _, _, _, _)) rfl rfl ?_
  refine P_call hP (Or.inl ⟨rfl, rfl⟩) rfl rfl (avs := [.ref 0, .int _, .int _, .int _, .int _, .ref 151]) rfl rfl h1 ⟨by show _ + _ ≤ 601024; omega, by show _ + _ ≤ 7293034; omega⟩ rfl ⟨rfl, rfl⟩ ⟨rfl, rfl⟩ ?_
  change P (1027, _, _, wo s1 F2, _, _)
  refine P1 hP (g' := (1029, _, _, _, _, _)) rfl rfl ?_
  refine P1 hP (g' := (1030, _, _, _, _, _)) rfl rfl ?_
  refine P1 hP (g' := (1031, _, _, _, _, _)) rfl rfl ?_
  refine P1 hP (g' := (1033, _, _, _, _, _)) rfl rfl ?_
  refine P1 hP (g' := (1034, _, .int (nI 1) :: _, _, _, _)) rfl rfl ?_
  refine P1 hP (g' := (1035, _, _, _, _, _)) rfl rfl ?_
  refine P_sld hP rfl rfl (vq hL hk (by decide)) ?_
  refine P1 hP (g' := (1037, _, _, _, _, _)) rfl rfl ?_
  refine P1 hP (g' := (1039, _, _, _, _, _)) rfl rfl ?_
  refine P1 hP (g' := (1040, _, .int (nI 2) :: _, _, _, _)) rfl rfl ?_
  refine P1 hP (g' := (1041, _, _, _, _, _)) rfl rfl ?_
  refine P_sld hP rfl rfl (vq hL hk (by decide)) ?_
  refine P1 hP (g' := (1043, _, _, _, _, _)) rfl rfl ?_
  refine P1 hP (g' := (1045, _, _, _, _, _)) rfl rfl ?_
  refine P1 hP (g' := (1046, _, .int (nI 3) :: _, _, _, _)) rfl rfl ?_
  refine P1 hP (g' := (1047, _, _, _, _, _)) rfl rfl ?_
  refine P_sld hP rfl rfl (vq hL hk (by decide)) ?_
  refine P1 hP (g' := (1049, _, _, _, _, _)) rfl rfl ?_
  refine P1 hP (g' := (1051, _, _, _, _, _)) rfl rfl ?_
  refine P1 hP (g' := (1052, _, .int (nI 4) :: _, _, _, _)) rfl rfl ?_
  refine P1 hP (g' := (1053, _, _, _, _, _)) rfl rfl ?_
  refine P_sld hP rfl rfl (vq hL hk (by decide)) ?_
  refine P_call hP (Or.inr (Or.inl ⟨rfl, rfl⟩)) rfl rfl (avs := [.ref 142, .int _, .int _, .int _, .int _]) rfl rfl ⟨⟨_, _, _, rfl, Nat.le_of_ble_eq_true rfl, rfl⟩, _, _, F2, rfl, rfl, h2⟩ ⟨by show _ + _ ≤ 601024; omega, by show _ + _ ≤ 7293034; omega⟩ rfl ⟨rfl, rfl⟩ ⟨rfl, rfl⟩ ?_
  change P (1057, _, _, wo s2 F2, _, _)
  refine P1 hP (g' := (1059, _, _, _, _, _)) rfl rfl ?_
  refine P1 hP (g' := (1060, _, _, _, _, _)) rfl rfl ?_
  refine P_call hP (Or.inr (Or.inl ⟨rfl, rfl⟩)) rfl rfl (avs := [.ref 142]) rfl rfl ⟨⟨_, _, _, rfl, Nat.le_of_ble_eq_true rfl, rfl⟩, _, _, F2, rfl, rfl, e9_thrown⟩ ⟨by show _ + _ ≤ 601024; omega, by show _ + _ ≤ 7293034; omega⟩ rfl ⟨rfl, rfl⟩ ⟨rfl, rfl⟩ ?_
  change P (1063, _, _, wo s2 F2, _, _)
  refine P1 hP (g' := (1065, _, _, _, _, _)) rfl rfl ?_
  refine P_ceq hP 1070 rfl rfl (fun h1065 => ?_) (fun h => by exact absurd e6 h)
  refine P1 hP (g' := (1072, _, _, _, _, _)) rfl rfl ?_
  refine P_ne hP 1087 rfl rfl (fun h1072 => ?_) (fun h1072 => ?_)
  · refine P1 hP (g' := (1548, _, _, _, _, _)) rfl rfl ?_
    refine P_lv hP [(0, .ref 1000000), (1, .ref 0), (2, .ref 142), (3, .ref 151), (4, .int (nI (6 * k)))] (List.forall_mem_cons.mpr ⟨rfl, List.forall_mem_cons.mpr ⟨rfl, List.forall_mem_cons.mpr ⟨rfl, List.forall_mem_cons.mpr ⟨rfl, List.forall_mem_cons.mpr ⟨rfl, fun _ h => absurd h List.not_mem_nil⟩⟩⟩⟩⟩) (K _ _ _ _ hR2 ?_ ?_) <;> omega
  · refine P1 hP (g' := (1076, _, _, _, _, _)) rfl rfl ?_
    refine P1 hP (g' := (1077, _, .int (nI 0) :: _, _, _, _)) rfl rfl ?_
    refine P_lald hP rfl ?_
    refine P1 hP (g' := (1080, _, _, _, _, _)) rfl rfl ?_
    refine P1 hP (g' := (1081, _, _, _, _, _)) rfl rfl ?_
    refine P1 hP (g' := (1082, _, _, _, _, _)) rfl rfl ?_
    refine P_eq hP 1087 rfl rfl (fun h1082 => ?_) (fun h => by exact absurd (by rw [hv h1072]; exact lgc _) h)
    refine P1 hP (g' := (1548, _, _, _, _, _)) rfl rfl ?_
    refine P_lv hP [(0, .ref 1000000), (1, .ref 0), (2, .ref 142), (3, .ref 151), (4, .int (nI (6 * k)))] (List.forall_mem_cons.mpr ⟨rfl, List.forall_mem_cons.mpr ⟨rfl, List.forall_mem_cons.mpr ⟨rfl, List.forall_mem_cons.mpr ⟨rfl, List.forall_mem_cons.mpr ⟨rfl, fun _ h => absurd h List.not_mem_nil⟩⟩⟩⟩⟩) (K _ _ _ _ hR2 ?_ ?_) <;> omega
set_option maxRecDepth 100000 in
theorem lc_15 (hP : xCl M_law L sc Po P) (hR : Rl s) (hL : L ≤ 3072) (hk : 6 * k + 6 ≤ L) (hc : kc + 5 ≤ 601024) (hs : ks + 30 ≤ 7293034) (K : ∀ s2 F2 kc2 ks2, Rl s2 → kc2 ≤ kc + 5 → ks2 ≤ ks + 30 → P (1548, [(0, .ref 1000000), (1, .ref 0), (2, .ref 142), (3, .ref 151), (4, .int (nI (6 * k)))], [], wo s2 F2, kc2, ks2)) : P (1090, [(0, .ref 1000000), (1, .ref 0), (2, .ref 142), (3, .ref 151), (4, .int (nI (6 * k)))], [], wo s F, kc, ks) := by
  obtain ⟨kk, F2, s1, v, s2, h1, h2, hR2, e6, hv⟩ := hp_L_blowOf (F := F) (p0 := sc (nI (6 * k) + nI 1).toNatClampNeg) (p1 := sc (nI (6 * k) + nI 2).toNatClampNeg) (p2 := sc (nI (6 * k) + nI 3).toNatClampNeg) (p3 := sc (nI (6 * k) + nI 4).toNatClampNeg) (p4 := sc (nI (6 * k) + nI 5).toNatClampNeg) (pr_blowOf hR)
  refine P1 hP (g' := (1091, _, _, _, _, _)) rfl rfl ?_
  refine P1 hP (g' := (1092, _, _, _, _, _)) rfl rfl ?_
  refine P1 hP (g' := (1094, _, _, _, _, _)) rfl rfl ?_
  refine P1 hP (g' := (1095, _, .int (nI 1) :: _, _, _, _)) rfl rfl ?_
  refine P1 hP (g' := (1096, _, _, _, _, _)) rfl rfl ?_
  refine P_sld hP rfl rfl (vq hL hk (by decide)) ?_
  refine P1 hP (g' := (1098, _, _, _, _, _)) rfl rfl ?_
  refine P1 hP (g' := (1100, _, _, _, _, _)) rfl rfl ?_
  refine P1 hP (g' := (1101, _, .int (nI 2) :: _, _, _, _)) rfl rfl ?_
  refine P1 hP (g' := (1102, _, _, _, _, _)) rfl rfl ?_
  refine P_sld hP rfl rfl (vq hL hk (by decide)) ?_
  refine P1 hP (g' := (1104, _, _, _, _, _)) rfl rfl ?_
  refine P1 hP (g' := (1106, _, _, _, _, _)) rfl rfl ?_
  refine P1 hP (g' := (1107, _, .int (nI 3) :: _, _, _, _)) rfl rfl ?_
  refine P1 hP (g' := (1108, _, _, _, _, _)) rfl rfl ?_
  refine P_sld hP rfl rfl (vq hL hk (by decide)) ?_
  refine P1 hP (g' := (1110, _, _, _, _, _)) rfl rfl ?_
  refine P1 hP (g' := (1112, _, _, _, _, _)) rfl rfl ?_
  refine P1 hP (g' := (1113, _, .int (nI 4) :: _, _, _, _)) rfl rfl ?_
  refine P1 hP (g' := (1114, _, _, _, _, _)) rfl rfl ?_
  refine P_sld hP rfl rfl (vq hL hk (by decide)) ?_
  refine P1 hP (g' := (1116, _, _, _, _, _)) rfl rfl ?_
  refine P1 hP (g' := (1118, _, _, _, _, _)) rfl rfl ?_
  refine P1 hP (g' := (1119, _, .int (nI 5) :: _, _, _, _)) rfl rfl ?_
  refine P1 hP (g' := (1120, _, _, _, _, _)) rfl rfl ?_
  refine P_sld hP rfl rfl (vq hL hk (by decide)) ?_
  refine P1 hP (g' := (1122, _, _, _, _, _)) rfl rfl ?_
  refine P_call hP (Or.inl ⟨rfl, rfl⟩) rfl rfl (avs := [.ref 0, .int _, .int _, .int _, .int _, .int _, .ref 151]) rfl rfl h1 ⟨by show _ + _ ≤ 601024; omega, by show _ + _ ≤ 7293034; omega⟩ rfl ⟨rfl, rfl⟩ ⟨rfl, rfl⟩ ?_
  change P (1125, _, _, wo s1 F2, _, _)
  refine P1 hP (g' := (1127, _, _, _, _, _)) rfl rfl ?_
  refine P1 hP (g' := (1128, _, _, _, _, _)) rfl rfl ?_
  refine P1 hP (g' := (1129, _, _, _, _, _)) rfl rfl ?_
  refine P1 hP (g' := (1131, _, _, _, _, _)) rfl rfl ?_
  refine P1 hP (g' := (1132, _, .int (nI 1) :: _, _, _, _)) rfl rfl ?_
  refine P1 hP (g' := (1133, _, _, _, _, _)) rfl rfl ?_
  refine P_sld hP rfl rfl (vq hL hk (by decide)) ?_
  refine P1 hP (g' := (1135, _, _, _, _, _)) rfl rfl ?_
  refine P1 hP (g' := (1137, _, _, _, _, _)) rfl rfl ?_
  refine P1 hP (g' := (1138, _, .int (nI 2) :: _, _, _, _)) rfl rfl ?_
  refine P1 hP (g' := (1139, _, _, _, _, _)) rfl rfl ?_
  refine P_sld hP rfl rfl (vq hL hk (by decide)) ?_
  refine P1 hP (g' := (1141, _, _, _, _, _)) rfl rfl ?_
  refine P1 hP (g' := (1143, _, _, _, _, _)) rfl rfl ?_
  refine P1 hP (g' := (1144, _, .int (nI 3) :: _, _, _, _)) rfl rfl ?_
  refine P1 hP (g' := (1145, _, _, _, _, _)) rfl rfl ?_
  refine P_sld hP rfl rfl (vq hL hk (by decide)) ?_
  refine P1 hP (g' := (1147, _, _, _, _, _)) rfl rfl ?_
  refine P1 hP (g' := (1149, _, _, _, _, _)) rfl rfl ?_
  refine P1 hP (g' := (1150, _, .int (nI 4) :: _, _, _, _)) rfl rfl ?_
  refine P1 hP (g' := (1151, _, _, _, _, _)) rfl rfl ?_
  refine P_sld hP rfl rfl (vq hL hk (by decide)) ?_
  refine P1 hP (g' := (1153, _, _, _, _, _)) rfl rfl ?_
  refine P1 hP (g' := (1155, _, _, _, _, _)) rfl rfl ?_
  refine P1 hP (g' := (1156, _, .int (nI 5) :: _, _, _, _)) rfl rfl ?_
  refine P1 hP (g' := (1157, _, _, _, _, _)) rfl rfl ?_
  refine P_sld hP rfl rfl (vq hL hk (by decide)) ?_
  refine P_call hP (Or.inr (Or.inl ⟨rfl, rfl⟩)) rfl rfl (avs := [.ref 142, .int _, .int _, .int _, .int _, .int _]) rfl rfl ⟨⟨_, _, _, rfl, Nat.le_of_ble_eq_true rfl, rfl⟩, _, _, F2, rfl, rfl, h2⟩ ⟨by show _ + _ ≤ 601024; omega, by show _ + _ ≤ 7293034; omega⟩ rfl ⟨rfl, rfl⟩ ⟨rfl, rfl⟩ ?_
  change P (1161, _, _, wo s2 F2, _, _)
  refine P1 hP (g' := (1163, _, _, _, _, _)) rfl rfl ?_
  refine P1 hP (g' := (1164, _, _, _, _, _)) rfl rfl ?_
  refine P_call hP (Or.inr (Or.inl ⟨rfl, rfl⟩)) rfl rfl (avs := [.ref 142]) rfl rfl ⟨⟨_, _, _, rfl, Nat.le_of_ble_eq_true rfl, rfl⟩, _, _, F2, rfl, rfl, e9_thrown⟩ ⟨by show _ + _ ≤ 601024; omega, by show _ + _ ≤ 7293034; omega⟩ rfl ⟨rfl, rfl⟩ ⟨rfl, rfl⟩ ?_
  change P (1167, _, _, wo s2 F2, _, _)
  refine P1 hP (g' := (1169, _, _, _, _, _)) rfl rfl ?_
  refine P_ceq hP 1174 rfl rfl (fun h1169 => ?_) (fun h => by exact absurd e6 h)
  refine P1 hP (g' := (1176, _, _, _, _, _)) rfl rfl ?_
  refine P_ne hP 1191 rfl rfl (fun h1176 => ?_) (fun h1176 => ?_)
  · refine P1 hP (g' := (1548, _, _, _, _, _)) rfl rfl ?_
    refine P_lv hP [(0, .ref 1000000), (1, .ref 0), (2, .ref 142), (3, .ref 151), (4, .int (nI (6 * k)))] (List.forall_mem_cons.mpr ⟨rfl, List.forall_mem_cons.mpr ⟨rfl, List.forall_mem_cons.mpr ⟨rfl, List.forall_mem_cons.mpr ⟨rfl, List.forall_mem_cons.mpr ⟨rfl, fun _ h => absurd h List.not_mem_nil⟩⟩⟩⟩⟩) (K _ _ _ _ hR2 ?_ ?_) <;> omega
  · refine P1 hP (g' := (1180, _, _, _, _, _)) rfl rfl ?_
    refine P1 hP (g' := (1181, _, .int (nI 0) :: _, _, _, _)) rfl rfl ?_
    refine P_lald hP rfl ?_
    refine P1 hP (g' := (1184, _, _, _, _, _)) rfl rfl ?_
    refine P1 hP (g' := (1185, _, _, _, _, _)) rfl rfl ?_
    refine P1 hP (g' := (1186, _, _, _, _, _)) rfl rfl ?_
    refine P_eq hP 1191 rfl rfl (fun h1186 => ?_) (fun h => by exact absurd (by rw [hv h1176]; exact lgc _) h)
    refine P1 hP (g' := (1548, _, _, _, _, _)) rfl rfl ?_
    refine P_lv hP [(0, .ref 1000000), (1, .ref 0), (2, .ref 142), (3, .ref 151), (4, .int (nI (6 * k)))] (List.forall_mem_cons.mpr ⟨rfl, List.forall_mem_cons.mpr ⟨rfl, List.forall_mem_cons.mpr ⟨rfl, List.forall_mem_cons.mpr ⟨rfl, List.forall_mem_cons.mpr ⟨rfl, fun _ h => absurd h List.not_mem_nil⟩⟩⟩⟩⟩) (K _ _ _ _ hR2 ?_ ?_) <;> omega
set_option maxRecDepth 100000 in
theorem lc_16 (hP : xCl M_law L sc Po P) (hR : Rl s) (hL : L ≤ 3072) (hk : 6 * k + 6 ≤ L) (hc : kc + 5 ≤ 601024) (hs : ks + 30 ≤ 7293034) (K : ∀ s2 F2 kc2 ks2, Rl s2 → kc2 ≤ kc + 5 → ks2 ≤ ks + 30 → P (1548, [(0, .ref 1000000), (1, .ref 0), (2, .ref 142), (3, .ref 151), (4, .int (nI (6 * k)))], [], wo s2 F2, kc2, ks2)) : P (1194, [(0, .ref 1000000), (1, .ref 0), (2, .ref 142), (3, .ref 151), (4, .int (nI (6 * k)))], [], wo s F, kc, ks) := by
  obtain ⟨kk, F2, s1, v, s2, h1, h2, hR2, e6, hv⟩ := hp_L_heatsTo (F := F) (p0 := sc (nI (6 * k) + nI 1).toNatClampNeg) (p1 := sc (nI (6 * k) + nI 2).toNatClampNeg) (p2 := sc (nI (6 * k) + nI 3).toNatClampNeg) (p3 := sc (nI (6 * k) + nI 4).toNatClampNeg) (pr_heatsTo hR)
  refine P1 hP (g' := (1195, _, _, _, _, _)) rfl rfl ?_
  refine P1 hP (g' := (1196, _, _, _, _, _)) rfl rfl ?_
  refine P1 hP (g' := (1198, _, _, _, _, _)) rfl rfl ?_
  refine P1 hP (g' := (1199, _, .int (nI 1) :: _, _, _, _)) rfl rfl ?_
  refine P1 hP (g' := (1200, _, _, _, _, _)) rfl rfl ?_
  refine P_sld hP rfl rfl (vq hL hk (by decide)) ?_
  refine P1 hP (g' := (1202, _, _, _, _, _)) rfl rfl ?_
  refine P1 hP (g' := (1204, _, _, _, _, _)) rfl rfl ?_
  refine P1 hP (g' := (1205, _, .int (nI 2) :: _, _, _, _)) rfl rfl ?_
  refine P1 hP (g' := (1206, _, _, _, _, _)) rfl rfl ?_
  refine P_sld hP rfl rfl (vq hL hk (by decide)) ?_
  refine P1 hP (g' := (1208, _, _, _, _, _)) rfl rfl ?_
  refine P1 hP (g' := (1210, _, _, _, _, _)) rfl rfl ?_
  refine P1 hP (g' := (1211, _, .int (nI 3) :: _, _, _, _)) rfl rfl ?_
  refine P1 hP (g' := (1212, _, _, _, _, _)) rfl rfl ?_
  refine P_sld hP rfl rfl (vq hL hk (by decide)) ?_
  refine P1 hP (g' := (1214, _, _, _, _, _)) rfl rfl ?_
  refine P1 hP (g' := (1216, _, _, _, _, _)) rfl rfl ?_
  refine P1 hP (g' := (1217, _, .int (nI 4) :: _, _, _, _)) rfl rfl ?_
  refine P1 hP (g' := (1218, _, _, _, _, _)) rfl rfl ?_
  refine P_sld hP rfl rfl (vq hL hk (by decide)) ?_
  refine P1 hP (g' := (1220, _, _, _, _, _)) rfl rfl ?_
  refine P_call hP (Or.inl ⟨rfl, rfl⟩) rfl rfl (avs := [.ref 0, .int _, .int _, .int _, .int _, .ref 151]) rfl rfl h1 ⟨by show _ + _ ≤ 601024; omega, by show _ + _ ≤ 7293034; omega⟩ rfl ⟨rfl, rfl⟩ ⟨rfl, rfl⟩ ?_
  change P (1223, _, _, wo s1 F2, _, _)
  refine P1 hP (g' := (1225, _, _, _, _, _)) rfl rfl ?_
  refine P1 hP (g' := (1226, _, _, _, _, _)) rfl rfl ?_
  refine P1 hP (g' := (1227, _, _, _, _, _)) rfl rfl ?_
  refine P1 hP (g' := (1229, _, _, _, _, _)) rfl rfl ?_
  refine P1 hP (g' := (1230, _, .int (nI 1) :: _, _, _, _)) rfl rfl ?_
  refine P1 hP (g' := (1231, _, _, _, _, _)) rfl rfl ?_
  refine P_sld hP rfl rfl (vq hL hk (by decide)) ?_
  refine P1 hP (g' := (1233, _, _, _, _, _)) rfl rfl ?_
  refine P1 hP (g' := (1235, _, _, _, _, _)) rfl rfl ?_
  refine P1 hP (g' := (1236, _, .int (nI 2) :: _, _, _, _)) rfl rfl ?_
  refine P1 hP (g' := (1237, _, _, _, _, _)) rfl rfl ?_
  refine P_sld hP rfl rfl (vq hL hk (by decide)) ?_
  refine P1 hP (g' := (1239, _, _, _, _, _)) rfl rfl ?_
  refine P1 hP (g' := (1241, _, _, _, _, _)) rfl rfl ?_
  refine P1 hP (g' := (1242, _, .int (nI 3) :: _, _, _, _)) rfl rfl ?_
  refine P1 hP (g' := (1243, _, _, _, _, _)) rfl rfl ?_
  refine P_sld hP rfl rfl (vq hL hk (by decide)) ?_
  refine P1 hP (g' := (1245, _, _, _, _, _)) rfl rfl ?_
  refine P1 hP (g' := (1247, _, _, _, _, _)) rfl rfl ?_
  refine P1 hP (g' := (1248, _, .int (nI 4) :: _, _, _, _)) rfl rfl ?_
  refine P1 hP (g' := (1249, _, _, _, _, _)) rfl rfl ?_
  refine P_sld hP rfl rfl (vq hL hk (by decide)) ?_
  refine P_call hP (Or.inr (Or.inl ⟨rfl, rfl⟩)) rfl rfl (avs := [.ref 142, .int _, .int _, .int _, .int _]) rfl rfl ⟨⟨_, _, _, rfl, Nat.le_of_ble_eq_true rfl, rfl⟩, _, _, F2, rfl, rfl, h2⟩ ⟨by show _ + _ ≤ 601024; omega, by show _ + _ ≤ 7293034; omega⟩ rfl ⟨rfl, rfl⟩ ⟨rfl, rfl⟩ ?_
  change P (1253, _, _, wo s2 F2, _, _)
  refine P1 hP (g' := (1255, _, _, _, _, _)) rfl rfl ?_
  refine P1 hP (g' := (1256, _, _, _, _, _)) rfl rfl ?_
  refine P_call hP (Or.inr (Or.inl ⟨rfl, rfl⟩)) rfl rfl (avs := [.ref 142]) rfl rfl ⟨⟨_, _, _, rfl, Nat.le_of_ble_eq_true rfl, rfl⟩, _, _, F2, rfl, rfl, e9_thrown⟩ ⟨by show _ + _ ≤ 601024; omega, by show _ + _ ≤ 7293034; omega⟩ rfl ⟨rfl, rfl⟩ ⟨rfl, rfl⟩ ?_
  change P (1259, _, _, wo s2 F2, _, _)
  refine P1 hP (g' := (1261, _, _, _, _, _)) rfl rfl ?_
  refine P_ceq hP 1266 rfl rfl (fun h1261 => ?_) (fun h => by exact absurd e6 h)
  refine P1 hP (g' := (1268, _, _, _, _, _)) rfl rfl ?_
  refine P_ne hP 1283 rfl rfl (fun h1268 => ?_) (fun h1268 => ?_)
  · refine P1 hP (g' := (1548, _, _, _, _, _)) rfl rfl ?_
    refine P_lv hP [(0, .ref 1000000), (1, .ref 0), (2, .ref 142), (3, .ref 151), (4, .int (nI (6 * k)))] (List.forall_mem_cons.mpr ⟨rfl, List.forall_mem_cons.mpr ⟨rfl, List.forall_mem_cons.mpr ⟨rfl, List.forall_mem_cons.mpr ⟨rfl, List.forall_mem_cons.mpr ⟨rfl, fun _ h => absurd h List.not_mem_nil⟩⟩⟩⟩⟩) (K _ _ _ _ hR2 ?_ ?_) <;> omega
  · refine P1 hP (g' := (1272, _, _, _, _, _)) rfl rfl ?_
    refine P1 hP (g' := (1273, _, .int (nI 0) :: _, _, _, _)) rfl rfl ?_
    refine P_lald hP rfl ?_
    refine P1 hP (g' := (1276, _, _, _, _, _)) rfl rfl ?_
    refine P1 hP (g' := (1277, _, _, _, _, _)) rfl rfl ?_
    refine P1 hP (g' := (1278, _, _, _, _, _)) rfl rfl ?_
    refine P_eq hP 1283 rfl rfl (fun h1278 => ?_) (fun h => by exact absurd (by rw [hv h1268]; exact lgc _) h)
    refine P1 hP (g' := (1548, _, _, _, _, _)) rfl rfl ?_
    refine P_lv hP [(0, .ref 1000000), (1, .ref 0), (2, .ref 142), (3, .ref 151), (4, .int (nI (6 * k)))] (List.forall_mem_cons.mpr ⟨rfl, List.forall_mem_cons.mpr ⟨rfl, List.forall_mem_cons.mpr ⟨rfl, List.forall_mem_cons.mpr ⟨rfl, List.forall_mem_cons.mpr ⟨rfl, fun _ h => absurd h List.not_mem_nil⟩⟩⟩⟩⟩) (K _ _ _ _ hR2 ?_ ?_) <;> omega
end XLK1
