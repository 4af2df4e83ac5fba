/-! the law's start: the world after the two constructors, and the relation that holds in it -/
theorem xok_P {n i : Nat} {s : xs} {f : Nat → Int32} (h : xok (n, cells s)) (hc : okC n (cellAt i f (s.2.1 i) (s.2.2 i))) : xok (n, cells (setP s i f)) := by
  rw [← cells_setP s i f rfl]
  exact xok_set (w := (n, cells s)) h hc
theorem xok_put {n i k : Nat} {s : xs} {v : Int32} (h : xok (n, cells s)) (hc : ∀ f, okC n (cellAt i f (s.2.1 i) (s.2.2 i))) : xok (n, cells (put s i k v)) := xok_P h (hc _)
theorem x_z0 : xok (1, va_up (cells z0) 0 (.inr (8, [.null, .null, .null, .null, .null]))) := xok_new (n := 0) (C := cells z0) (fun i hi => absurd hi (Nat.not_lt_zero _)) rfl
theorem x_zA : xok (142, cells zA) := by
  have h : xok (142, cells z0) := (k_Forger x_z0).2
  unfold zA sBegin zS
  exact xok_put (xok_put (xok_put (xok_put (xok_put (xok_put (xok_put (xok_put (xok_put (xok_put (xok_put (xok_put (h) (fun _ => by first | exact trivial | rfl)) (fun _ => by first | exact trivial | rfl)) (fun _ => by first | exact trivial | rfl)) (fun _ => by first | exact trivial | rfl)) (fun _ => by first | exact trivial | rfl)) (fun _ => by first | exact trivial | rfl)) (fun _ => by first | exact trivial | rfl)) (fun _ => by first | exact trivial | rfl)) (fun _ => by first | exact trivial | rfl)) (fun _ => by first | exact trivial | rfl)) (fun _ => by first | exact trivial | rfl)) (fun _ => by first | exact trivial | rfl)
theorem x_zM : xok (143, va_up (cells zA) 142 (.inr (9, [.null, .null, .null, .int 0, .null, .int 0, .int 0, .int 0, .int 0, .null, .null, .null, .null, .int 0, .int 0, .int 0, .int 0, .long 0]))) := xok_new x_zA rfl
theorem x_zB : xok (151, cells zB) := xok_P (k_Model x_zM).2 trivial
theorem zq_0 {i : Nat} (hi : 12 < i) : zQ i = 0 := by
  unfold zQ qBegin
  (repeat rw [if_neg (by omega)])
  exact pk_un (by omega)
theorem Rl_zB : Rl zB := by
  have e0 : zB.1 143 = zQ := setP_at _ _ _
  have hS : bRel zS 2 (upd (fun _ => 0) 1 (nI 10)) := ⟨⟨rfl, rfl, rfl, rfl, rfl, rfl, rfl, rfl⟩, fun k hk => ⟨(show upd (fun _ => (0 : Int32)) 1 (nI 10) (9 + 4 * k) = 0 from pk_un (by omega)).symm, (show upd (fun _ => (0 : Int32)) 1 (nI 10) (10 + 4 * k) = 0 from pk_un (by omega)).symm, (show upd (fun _ => (0 : Int32)) 1 (nI 10) (11 + 4 * k) = 0 from pk_un (by omega)).symm, (show upd (fun _ => (0 : Int32)) 1 (nI 10) (12 + 4 * k) = 0 from pk_un (by omega)).symm⟩⟩
  have hb : bRel zA 2 zQ := r_begin (w := nI 40) (x := nI 40) (v := nI 400000) hS
  have ez : ∀ i, i ≠ 143 → zB.1 i = zA.1 i := fun i hi => setP_ne _ _ hi
  refine ⟨?_, ?_, ⟨fun j => 43 + 20 * j, 0, ⟨fun j hj => ⟨?_, ?_⟩, fun i j _ _ h => ?_⟩, by decide, by decide +kernel, by decide +kernel, fun j hj => absurd hj (Nat.not_lt_zero _)⟩, ⟨0, by decide, by decide +kernel, by decide +kernel, fun j hj => absurd hj (Nat.not_lt_zero _)⟩⟩
  · rw [e0]
    refine ⟨?_, ?_⟩
    · exact bRel_fr (fun i a b => ez i (by omega)) hb
    · refine ⟨by decide +kernel, fun k hk => ?_⟩
      rw [zq_0 (by omega), zq_0 (by omega), zq_0 (by omega), zq_0 (by omega)]
      exact ⟨rfl, rfl, rfl, rfl⟩
  · rw [e0]
    exact pInv_of (n := 1) (m := 0) (t := 1250) (c := 10) (x := 400000) (by decide +kernel) (by decide) (by decide) (by decide +kernel) (by decide) (by decide +kernel) (by decide) (by decide) (by decide +kernel) (by decide) (fun k hk => by
      obtain rfl : k = 0 := by omega
      exact qPart_of (a := 40) (b := 40) (v := 400000) (by decide +kernel) (by decide +kernel) (by decide +kernel) (by decide) (by decide) (by decide) (by decide)) (fun k hk => absurd hk (Nat.not_lt_zero _)) (by decide +kernel) (by decide) (by decide)
  · show hA 4 j = some (43 + 20 * j)
    rcases (show j = 0 ∨ j = 1 ∨ j = 2 ∨ j = 3 by omega) with rfl | rfl | rfl | rfl <;> rfl
  · show hPl (43 + 20 * j)
    unfold hPl
    omega
  · have h2 : 43 + 20 * i = 43 + 20 * j := h
    omega
section XLR
variable {L : Nat} {sc : Nat → Int32} {Po : xO → xw → Prop} {P : xG → Prop}
theorem inc6 (k : Nat) : nI (6 * k) + Int32.ofInt 6 = nI (6 * (k + 1)) := by
  rw [show Int32.ofInt 6 = nI 6 from by decide +kernel, nI_add]
  exact congrArg nI (by omega)
set_option maxRecDepth 100000 in
theorem law_body (hP : xCl M_law L sc Po P) {s : xs} {F : Nat → Int64} {k kc ks : Nat} (hR : Rl s) (hL : L ≤ 3072) (hk : 6 * k + 6 ≤ L) (hc : kc + 5 ≤ 601024) (hs : ks + 30 ≤ 7293034) (K : ∀ s2 F2 kc2 ks2, Rl s2 → kc2 ≤ kc + 5 → ks2 ≤ ks + 30 → P (1548, [(0, .ref 1000000), (1, .ref 0), (2, .ref 142), (3, .ref 151), (4, .int (nI (6 * k)))], [], wo s2 F2, kc2, ks2)) : P (33, [(0, .ref 1000000), (1, .ref 0), (2, .ref 142), (3, .ref 151), (4, .int (nI (6 * k)))], [], wo s F, kc, ks) := by
  refine P1 hP (g' := (34, _, _, _, _, _)) rfl rfl ?_
  refine P1 hP (g' := (36, _, _, _, _, _)) rfl rfl ?_
  refine P_sld hP rfl rfl (vq0 hL hk) ?_
  refine P1 hP (g' := (39, _, .int (nI 31) :: _, _, _, _)) rfl rfl ?_
  refine P1 hP (g' := (40, _, _, _, _, _)) rfl rfl ?_
  change P (40, [(0, .ref 1000000), (1, .ref 0), (2, .ref 142), (3, .ref 151), (4, .int (nI (6 * k)))], [.int (sc (nI (6 * k)).toNatClampNeg &&& nI 31)], wo s F, kc, ks)
  obtain ⟨n, hn, e⟩ := and31 (sc (nI (6 * k)).toNatClampNeg)
  rw [e]
  by_cases h0 : n = 0
  · subst h0
    exact P_tsw hP 116 156 rfl (by decide +kernel) (by decide +kernel) rfl rfl (lc_0 hP hR hL hk hc hs K)
  by_cases h1 : n = 1
  · subst h1
    exact P_tsw hP 196 236 rfl (by decide +kernel) (by decide +kernel) rfl rfl (lc_1 hP hR hL hk hc hs K)
  by_cases h2 : n = 2
  · subst h2
    exact P_tsw hP 252 292 rfl (by decide +kernel) (by decide +kernel) rfl rfl (lc_2 hP hR hL hk hc hs K)
  by_cases h3 : n = 3
  · subst h3
    exact P_tsw hP 332 372 rfl (by decide +kernel) (by decide +kernel) rfl rfl (lc_3 hP hR hL hk hc hs K)
  by_cases h4 : n = 4
  · subst h4
    exact P_tsw hP 345 385 rfl (by decide +kernel) (by decide +kernel) rfl rfl (lc_4 hP hR hL hk hc hs K)
  by_cases h5 : n = 5
  · subst h5
    exact P_tsw hP 401 441 rfl (by decide +kernel) (by decide +kernel) rfl rfl (lc_5 hP hR hL hk hc hs K)
  by_cases h6 : n = 6
  · subst h6
    exact P_tsw hP 469 509 rfl (by decide +kernel) (by decide +kernel) rfl rfl (lc_6 hP hR hL hk hc hs K)
  by_cases h7 : n = 7
  · subst h7
    exact P_tsw hP 525 565 rfl (by decide +kernel) (by decide +kernel) rfl rfl (lc_7 hP hR hL hk hc hs K)
  by_cases h8 : n = 8
  · subst h8
    exact P_tsw hP 569 609 rfl (by decide +kernel) (by decide +kernel) rfl rfl (lc_8 hP hR hL hk hc hs K)
  by_cases h9 : n = 9
  · subst h9
    exact P_tsw hP 661 701 rfl (by decide +kernel) (by decide +kernel) rfl rfl (lc_9 hP hR hL hk hc hs K)
  by_cases h10 : n = 10
  · subst h10
    exact P_tsw hP 729 769 rfl (by decide +kernel) (by decide +kernel) rfl rfl (lc_10 hP hR hL hk hc hs K)
  by_cases h11 : n = 11
  · subst h11
    exact P_tsw hP 785 825 rfl (by decide +kernel) (by decide +kernel) rfl rfl (lc_11 hP hR hL hk hc hs K)
  by_cases h12 : n = 12
  · subst h12
    exact P_tsw hP 877 917 rfl (by decide +kernel) (by decide +kernel) rfl rfl (lc_12 hP hR hL hk hc hs K)
  by_cases h13 : n = 13
  · subst h13
    exact P_tsw hP 890 930 rfl (by decide +kernel) (by decide +kernel) rfl rfl (lc_13 hP hR hL hk hc hs K)
  by_cases h14 : n = 14
  · subst h14
    exact P_tsw hP 958 998 rfl (by decide +kernel) (by decide +kernel) rfl rfl (lc_14 hP hR hL hk hc hs K)
  by_cases h15 : n = 15
  · subst h15
    exact P_tsw hP 1050 1090 rfl (by decide +kernel) (by decide +kernel) rfl rfl (lc_15 hP hR hL hk hc hs K)
  by_cases h16 : n = 16
  · subst h16
    exact P_tsw hP 1154 1194 rfl (by decide +kernel) (by decide +kernel) rfl rfl (lc_16 hP hR hL hk hc hs K)
  by_cases h17 : n = 17
  · subst h17
    exact P_tsw hP 1246 1286 rfl (by decide +kernel) (by decide +kernel) rfl rfl (lc_17 hP hR hL hk hc hs K)
  by_cases h18 : n = 18
  · subst h18
    exact P_tsw hP 1259 1299 rfl (by decide +kernel) (by decide +kernel) rfl rfl (lc_18 hP hR hL hk hc hs K)
  by_cases h19 : n = 19
  · subst h19
    exact P_tsw hP 1327 1367 rfl (by decide +kernel) (by decide +kernel) rfl rfl (lc_19 hP hR hL hk hc hs K)
  by_cases h20 : n = 20
  · subst h20
    exact P_tsw hP 1368 1408 rfl (by decide +kernel) (by decide +kernel) rfl rfl (lc_20 hP hR hL hk hc hs K)
  by_cases h21 : n = 21
  · subst h21
    exact P_tsw hP 1424 1464 rfl (by decide +kernel) (by decide +kernel) rfl rfl (lc_21 hP hR hL hk hc hs K)
  by_cases h22 : n = 22
  · subst h22
    exact P_tsw hP 1437 1477 rfl (by decide +kernel) (by decide +kernel) rfl rfl (lc_22 hP hR hL hk hc hs K)
  by_cases h23 : n = 23
  · subst h23
    exact P_tsw hP 1450 1490 rfl (by decide +kernel) (by decide +kernel) rfl rfl (lc_23 hP hR hL hk hc hs K)
  by_cases h24 : n = 24
  · subst h24
    exact P_tsw hP 1494 1534 rfl (by decide +kernel) (by decide +kernel) rfl rfl (lc_24 hP hR hL hk hc hs K)
  exact P_tswO hP 1548 rfl (Or.inr (by rw [nI_toInt (by omega)]; omega)) rfl (K s F kc ks hR (Nat.le_add_right _ _) (Nat.le_add_right _ _))
set_option maxRecDepth 100000 in
theorem law_step (hP : xCl M_law L sc Po P) (hE : ∀ w, Po (.inl (some (.int (nI 1)))) w) {s : xs} {F : Nat → Int64} {k kc ks : Nat} (hR : Rl s) (hL : L ≤ 3072) (hk : k ≤ 600) (K : 6 * k + 6 ≤ L → P (33, [(0, .ref 1000000), (1, .ref 0), (2, .ref 142), (3, .ref 151), (4, .int (nI (6 * k)))], [], wo s F, kc, ks)) : P (23, [(0, .ref 1000000), (1, .ref 0), (2, .ref 142), (3, .ref 151), (4, .int (nI (6 * k)))], [], wo s F, kc, ks) := by
  refine P1 hP (g' := (25, _, _, _, _, _)) rfl rfl ?_
  refine P1 hP (g' := (26, _, _, _, _, _)) rfl rfl ?_
  refine P_slen hP rfl rfl ?_
  refine P1 hP (g' := (29, _, .int (nI 6) :: _, _, _, _)) rfl rfl ?_
  refine P1 hP (g' := (30, _, _, _, _, _)) rfl rfl ?_
  refine P_cgt hP 1554 rfl rfl (fun h30 => ?_) (fun h30 => ?_)
  · refine P1 hP (g' := (1555, _, .int (nI 1) :: _, _, _, _)) rfl rfl ?_
    exact P_iret hP rfl (hE _)
  · exact K (Nat.le_of_not_lt (fun z => h30 ((cgl hL hk).mpr z)))
set_option maxRecDepth 100000 in
theorem law_loop (hP : xCl M_law L sc Po P) (hE : ∀ w, Po (.inl (some (.int (nI 1)))) w) (hL : L ≤ 3072) : ∀ (n k : Nat) (s : xs) (F : Nat → Int64) (kc ks : Nat), Rl s → L < 6 * (k + n) + 6 → k + n ≤ 600 → kc + 5 * n ≤ 601024 → ks + 30 * n ≤ 7293034 → P (23, [(0, .ref 1000000), (1, .ref 0), (2, .ref 142), (3, .ref 151), (4, .int (nI (6 * k)))], [], wo s F, kc, ks) := by
  intro n
  induction n with
  | zero =>
    intro k s F kc ks hR h1 h2 h3 h4
    exact law_step hP hE hR hL (by omega) (fun h => absurd h1 (by omega))
  | succ n ih =>
    intro k s F kc ks hR h1 h2 h3 h4
    refine law_step hP hE hR hL (by omega) (fun h => ?_)
    refine law_body hP hR hL h (by omega) (by omega) (fun s2 F2 kc2 ks2 hR2 a b => ?_)
    refine P1 hP (g' := (1551, _, _, _, _, _)) rfl rfl ?_
    refine P1 hP (g' := (23, _, _, _, _, _)) rfl rfl ?_
    exact P_lv hP [(0, .ref 1000000), (1, .ref 0), (2, .ref 142), (3, .ref 151), (4, .int (nI (6 * (k + 1))))] (List.forall_mem_cons.mpr ⟨rfl, List.forall_mem_cons.mpr ⟨rfl, List.forall_mem_cons.mpr ⟨rfl, List.forall_mem_cons.mpr ⟨rfl, List.forall_mem_cons.mpr ⟨congrArg (fun z => some (Value.int z)) (inc6 k), fun _ h => absurd h List.not_mem_nil⟩⟩⟩⟩⟩) (ih (k + 1) s2 F2 kc2 ks2 hR2 (by omega) (by omega) (by omega) (by omega))
set_option maxRecDepth 100000 in
theorem law_run (hP : xCl M_law L sc Po P) (hE : ∀ w, Po (.inl (some (.int (nI 1)))) w) (hL : L ≤ 3072) : P (0, [(0, .ref 1000000)], [], (0, cells z0), 0, 0) := by
  refine P_new hP rfl rfl (by decide) ⟨Nat.le_of_ble_eq_true rfl, Nat.le_of_ble_eq_true rfl⟩ (fun i hi => absurd hi (Nat.not_lt_zero _)) rfl rfl rfl ?_
  change P (3, _, [.ref 0], (1, va_up (cells z0) 0 (.inr (8, [.null, .null, .null, .null, .null]))), _, _)
  refine P1 hP (g' := (4, _, _, _, _, _)) rfl rfl ?_
  refine P_call hP (Or.inr (Or.inr ⟨rfl, rfl⟩)) rfl rfl (avs := [.ref 0]) rfl rfl ⟨⟨_, _, rfl⟩, (k_Forger x_z0).1⟩ ⟨Nat.le_of_ble_eq_true rfl, Nat.le_of_ble_eq_true rfl⟩ rfl ⟨rfl, rfl⟩ ⟨rfl, rfl⟩ ?_
  change P (7, _, [.ref 0], (142, cells zA), _, _)
  refine P1 hP (g' := (8, _, _, _, _, _)) rfl rfl ?_
  refine P_new hP rfl rfl (by decide) ⟨Nat.le_of_ble_eq_true rfl, Nat.le_of_ble_eq_true rfl⟩ x_zA rfl rfl rfl ?_
  change P (11, _, [.ref 142], (143, va_up (cells zA) 142 (.inr (9, [.null, .null, .null, .int 0, .null, .int 0, .int 0, .int 0, .int 0, .null, .null, .null, .null, .int 0, .int 0, .int 0, .int 0, .long 0]))), _, _)
  refine P1 hP (g' := (12, _, _, _, _, _)) rfl rfl ?_
  refine P_call hP (Or.inr (Or.inr ⟨rfl, rfl⟩)) rfl rfl (avs := [.ref 142]) rfl rfl ⟨⟨_, _, rfl⟩, (k_Model x_zM).1⟩ ⟨Nat.le_of_ble_eq_true rfl, Nat.le_of_ble_eq_true rfl⟩ rfl ⟨rfl, rfl⟩ ⟨rfl, rfl⟩ ?_
  change P (15, _, [.ref 142], (151, cells zB), _, _)
  refine P1 hP (g' := (16, _, _, _, _, _)) rfl rfl ?_
  refine P1 hP (g' := (17, _, .int (nI 1) :: _, _, _, _)) rfl rfl ?_
  refine P_newl hP rfl ⟨Nat.le_of_ble_eq_true rfl, Nat.le_of_ble_eq_true rfl⟩ x_zB rfl rfl rfl ?_
  change P (19, _, [.ref 151], wo zB (fun _ => 0), _, _)
  refine P1 hP (g' := (20, _, _, _, _, _)) rfl rfl ?_
  refine P1 hP (g' := (21, _, .int (nI 0) :: _, _, _, _)) rfl rfl ?_
  refine P1 hP (g' := (23, _, _, _, _, _)) rfl rfl ?_
  exact P_lv hP [(0, .ref 1000000), (1, .ref 0), (2, .ref 142), (3, .ref 151), (4, .int (nI (6 * 0)))] (List.forall_mem_cons.mpr ⟨rfl, List.forall_mem_cons.mpr ⟨rfl, List.forall_mem_cons.mpr ⟨rfl, List.forall_mem_cons.mpr ⟨rfl, List.forall_mem_cons.mpr ⟨rfl, fun _ h => absurd h List.not_mem_nil⟩⟩⟩⟩⟩) (law_loop hP hE hL 512 0 zB _ _ _ Rl_zB (by omega) (by decide) (Nat.le_of_ble_eq_true rfl) (Nat.le_of_ble_eq_true rfl))
end XLR
