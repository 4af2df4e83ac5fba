def nIt (a b k : Nat) : Nat → Nat × Nat
  | 0 => (a, b)
  | c + 1 => (nNW (nIt a b k c).1 (nIt a b k c).2 k, nNH (nIt a b k c).1 (nIt a b k c).2 k)
def nLast (a b k v : Nat) : Nat → Nat
  | 0 => 0
  | c + 1 => bif Nat.beq (nLast a b k v c) c && nCan (nIt a b k c).1 (nIt a b k c).2 k v then c + 1 else nLast a b k v c
theorem nLast_le {a b k v : Nat} : ∀ c, nLast a b k v c ≤ c
  | 0 => Nat.le_refl _
  | c + 1 => by
    unfold nLast
    cases h : (Nat.beq (nLast a b k v c) c && nCan (nIt a b k c).1 (nIt a b k c).2 k v)
    · exact Nat.le_succ_of_le (nLast_le c)
    · exact Nat.le_refl _
theorem nLast_go {a b k v c : Nat} (h : nLast a b k v c = c) (h2 : nCan (nIt a b k c).1 (nIt a b k c).2 k v = true) : nLast a b k v (c + 1) = c + 1 := by
  unfold nLast
  rw [h, h2, Nat.beq_refl]
  rfl
theorem nLast_stop {a b k v c : Nat} (h : nLast a b k v c = c) (h2 : nCan (nIt a b k c).1 (nIt a b k c).2 k v = false) : ∀ d, nLast a b k v (c + 1 + d) = c
  | 0 => by
    show nLast a b k v (c + 1) = c
    unfold nLast
    rw [h, h2, Nat.beq_refl]
    rfl
  | d + 1 => by
    have ih := nLast_stop h h2 d
    show nLast a b k v (c + 1 + d + 1) = c
    unfold nLast
    have hb : Nat.beq (nLast a b k v (c + 1 + d)) (c + 1 + d) = false := by
      rw [ih]
      cases hz : Nat.beq c (c + 1 + d)
      · rfl
      · have := Nat.eq_of_beq_eq_true hz
        omega
    rw [hb]
    exact ih
theorem nCan_rg {a b k v : Nat} (h : nCan a b k v = true) : nRg (nNW a b k) = true ∧ nRg (nNH a b k) = true := by
  simp only [nCan, Bool.and_eq_true] at h
  exact h.2
def sSec (s : xs) (p a b : Nat) : xs := setP s (p + 9) (secF (s.1 (p + 9)) (nI a) (nI b))
theorem sSec_w (s : xs) (p a b : Nat) : (sSec s p a b).1 (p + 9) 0 = nI a := by rw [sSec, setP_at]; rfl
theorem sSec_h (s : xs) (p a b : Nat) : (sSec s p a b).1 (p + 9) 1 = nI b := by rw [sSec, setP_at]; rfl
theorem sSec_ne (s : xs) (p a b : Nat) {q : Nat} (h : q ≠ p + 9) : (sSec s p a b).1 q = s.1 q := setP_ne _ _ h
theorem sSec_S (s : xs) (p a b a2 b2 : Nat) : setP (sSec s p a b) (p + 9) (secF ((sSec s p a b).1 (p + 9)) (nI a2) (nI b2)) = sSec s p a2 b2 := by
  unfold sSec
  rw [setP_setP, setP_at, secF_F]
theorem canStrike_loop {s : xs} {p k a b v q c : Nat} (hp : xbar p) (hk8 : k < 8) (hV : s.1 (p + 6) k = nI v) (ha : nRg a = true) (hb : nRg b = true) (hv : v < 2 ^ 31) (hq : q ≤ 2) (hc : c < 2 ^ 20) : ∀ (d j : Nat), j + d = c → nLast a b q v j = j → nRg (nIt a b q j).1 = true → nRg (nIt a b q j).2 = true → xRun M_X0_canStrike (fun o1 w1 => o1 = .inl (some (.int (bI (Nat.beq (nLast a b q v c) c)))) ∧ w1 = wd (sSec s p (nIt a b q (nLast a b q v c)).1 (nIt a b q (nLast a b q v c)).2)) (44, [(4, .int (nI (j))), (0, .ref p), (1, .int (nI k)), (2, .int (nI q)), (3, .int (nI c))], [], wd (sSec s p (nIt a b q j).1 (nIt a b q j).2), 0, 0) := by
  obtain ⟨h152, hcell, hrW, hrH, hrV, hrB, hsc⟩ := id hp
  intro d
  induction d with
  | zero =>
    intro j hj hL r1 r2
    have hj : j = c := by omega
    subst hj
    refine R1 (g' := (46, _, _, _, _, _)) rfl rfl ?_
    refine R1 (g' := (47, _, _, _, _, _)) rfl rfl ?_
    refine R_cge 85 rfl rfl (fun h47 => ?_) (fun h => by exact absurd (nI_le (Nat.le_refl _) (by omega)) h)
    refine R1 (g' := (86, _, .int (nI 1) :: _, _, _, _)) rfl rfl ?_
    refine R_iret rfl ?_
    rw [hL, Nat.beq_refl]
    exact ⟨rfl, rfl⟩
  | succ d ih =>
    intro j hj hL r1 r2
    have hlt : j < c := by omega
    have hV2 : (sSec s p (nIt a b q j).1 (nIt a b q j).2).1 (p + 6) k = nI v := by rw [sSec_ne _ _ _ _ (by omega)]; exact hV
    refine R1 (g' := (46, _, _, _, _, _)) rfl rfl ?_
    refine R1 (g' := (47, _, _, _, _, _)) rfl rfl ?_
    refine R_cge 85 rfl rfl (fun h => by exact absurd h (nI_ge hlt (by omega))) (fun h47 => ?_)
    refine R1 (g' := (51, _, _, _, _, _)) rfl rfl ?_
    refine R_getf rfl rfl (by omega) (hcell _ _ _) rfl ?_
    refine R1 (g' := (55, _, _, _, _, _)) rfl rfl ?_
    refine R1 (g' := (56, _, _, _, _, _)) rfl rfl ?_
    refine R_getf rfl rfl (by omega) (hcell _ _ _) rfl ?_
    refine R1 (g' := (60, _, _, _, _, _)) rfl rfl ?_
    refine R_call2 (Or.inr (Or.inl ⟨rfl, rfl⟩)) rfl rfl ⟨Nat.le_of_ble_eq_true rfl, Nat.le_of_ble_eq_true rfl⟩ (Nat.le_of_ble_eq_true rfl) ⟨(by simp [okL, okS, okV, xarg, xput1, wd, Value.category] <;> omega), (by simp [okL, okS, okV, xarg, xput1, wd, Value.category] <;> omega)⟩ ⟨⟨_, _, _, rfl, (by show _ < 151; omega), hrV.2.1 _ _ _⟩, e_Row_get hrV (by decide) hk8⟩ ?_
    rw [hV2]
    refine R_call3 (Or.inr (Or.inl ⟨rfl, rfl⟩)) rfl rfl ⟨Nat.le_of_ble_eq_true rfl, Nat.le_of_ble_eq_true rfl⟩ (Nat.le_of_ble_eq_true rfl) ⟨(by simp [okL, okS, okV, xarg, xput1, wd, Value.category] <;> omega), (by simp [okL, okS, okV, xarg, xput1, wd, Value.category] <;> omega)⟩ ⟨⟨_, _, _, rfl, hsc.1, hsc.2 _ _ _⟩, e_allows hsc (sSec_w _ _ _ _) (sSec_h _ _ _ _) r1 r2 hq hv⟩ ?_
    refine R_ne 71 rfl rfl (fun h66 => ?_) (fun h66 => ?_)
    · refine R1 (g' := (72, _, _, _, _, _)) rfl rfl ?_
      refine R_getf rfl rfl (by omega) (hcell _ _ _) rfl ?_
      refine R1 (g' := (76, _, _, _, _, _)) rfl rfl ?_
      refine R_call2 (Or.inr (Or.inl ⟨rfl, rfl⟩)) rfl rfl ⟨Nat.le_of_ble_eq_true rfl, Nat.le_of_ble_eq_true rfl⟩ (Nat.le_of_ble_eq_true rfl) ⟨(by simp [okL, okS, okV, xarg, xput1, wd, Value.category] <;> omega), (by simp [okL, okS, okV, xarg, xput1, wd, Value.category] <;> omega)⟩ ⟨⟨_, _, _, rfl, hsc.1, hsc.2 _ _ _⟩, e_change hsc (sSec_w _ _ _ _) (sSec_h _ _ _ _) r1 r2 hq⟩ ?_
      rw [sSec_S]
      refine R1 (g' := (82, _, _, _, _, _)) rfl rfl ?_
      refine R1 (g' := (44, _, _, _, _, _)) rfl rfl ?_
      refine R_lv [(4, .int (nI (j + 1))), (0, .ref p), (1, .int (nI k)), (2, .int (nI q)), (3, .int (nI c))] rfl (List.forall_mem_cons.mpr ⟨by rw [nI_succ j]; rfl, List.forall_mem_cons.mpr ⟨rfl, List.forall_mem_cons.mpr ⟨rfl, List.forall_mem_cons.mpr ⟨rfl, List.forall_mem_cons.mpr ⟨rfl, fun _ h => absurd h List.not_mem_nil⟩⟩⟩⟩⟩) ⟨rfl, rfl⟩ ?_
      have hcan := bI_n h66
      exact ih (j + 1) (by omega) (nLast_go hL hcan) (nCan_rg hcan).1 (nCan_rg hcan).2
    · refine R1 (g' := (70, _, .int (nI 0) :: _, _, _, _)) rfl rfl ?_
      refine R_iret rfl ?_
      have hst := nLast_stop hL (bI_e h66) d
      rw [show j + 1 + d = c by omega] at hst
      have hne : Nat.beq (nLast a b q v c) c = false := by
        rw [hst]
        cases hz : Nat.beq j c
        · rfl
        · have := Nat.eq_of_beq_eq_true hz; omega
      rw [hne, hst]
      exact ⟨rfl, rfl⟩
theorem e_canStrike {s : xs} {p k a b v q c n t : Nat} (hp : xbar p) (hn : s.1 p 0 = nI n) (hn8 : n ≤ 8) (hk : k < n) (hW : s.1 (p + 2) k = nI a) (hH : s.1 (p + 4) k = nI b) (hV : s.1 (p + 6) k = nI v) (ha : nRg a = true) (hb : nRg b = true) (hv : v < 2 ^ 31) (ht : s.1 p 1 = nI t) (ht2 : t < 2 ^ 20) (hq : q ≤ 2) (hc : c ≤ nBl t) : Ev_X0_canStrike [.ref p, .int (nI k), .int (nI q), .int (nI c)] (wd s) (.inl (some (.int (bI (Nat.beq (nLast a b q v c) c))))) (wd (sSec s p (nIt a b q (nLast a b q v c)).1 (nIt a b q (nLast a b q v c)).2)) := by
  obtain ⟨h152, hcell, hrW, hrH, hrV, hrB, hsc⟩ := id hp
  have hk8 : k < 8 := by omega
  have hh : bI (xhas (nI k) n) = 1 := bI_t (by rw [xhas_nI (by omega) (by omega)]; exact decide_eq_true hk)
  have hbl : nBl t < 2 ^ 20 := by unfold nBl; split <;> omega
  refine ⟨Nat.le_of_ble_eq_true rfl, Nat.le_refl _, Or.inr ⟨rfl, bI_01 _⟩, ?_⟩
  refine R1 (g' := (1, _, _, _, _, _)) rfl rfl ?_
  refine R1 (g' := (2, _, _, _, _, _)) rfl rfl ?_
  refine R_call2 (Or.inr (Or.inl ⟨rfl, rfl⟩)) rfl rfl ⟨Nat.le_of_ble_eq_true rfl, Nat.le_of_ble_eq_true rfl⟩ (Nat.le_of_ble_eq_true rfl) ⟨(by simp [okL, okS, okV, xarg, xput1, wd, Value.category] <;> omega), (by simp [okL, okS, okV, xarg, xput1, wd, Value.category] <;> omega)⟩ ⟨⟨_, _, _, rfl, (by show _ < 151; omega), hcell _ _ _⟩, e_has hp hn⟩ ?_
  rw [hh]
  refine R_eq 16 rfl rfl (fun h => by exact absurd h (by decide)) (fun h5 => ?_)
  refine R1 (g' := (9, _, _, _, _, _)) rfl rfl ?_
  refine R1 (g' := (10, _, _, _, _, _)) rfl rfl ?_
  refine R_call1 (Or.inr (Or.inl ⟨rfl, rfl⟩)) rfl rfl ⟨Nat.le_of_ble_eq_true rfl, Nat.le_of_ble_eq_true rfl⟩ (Nat.le_of_ble_eq_true rfl) ⟨(by simp [okL, okS, okV, xarg, xput1, wd, Value.category] <;> omega), (by simp [okL, okS, okV, xarg, xput1, wd, Value.category] <;> omega)⟩ ⟨⟨_, _, _, rfl, (by show _ < 151; omega), hcell _ _ _⟩, e_blowsUntilHeat hp ht (by omega)⟩ ?_
  refine R_cleN 18 (c) (nBl t) rfl rfl (rfl) (rfl) (by omega) (by omega) (fun h13 => ?_) (fun h => by exact absurd hc h)
  refine R1 (g' := (19, _, _, _, _, _)) rfl rfl ?_
  refine R_getf rfl rfl (by omega) (hcell _ _ _) rfl ?_
  refine R1 (g' := (23, _, _, _, _, _)) rfl rfl ?_
  refine R_getf rfl rfl (by omega) (hcell _ _ _) rfl ?_
  refine R1 (g' := (27, _, _, _, _, _)) rfl rfl ?_
  refine R_call2 (Or.inr (Or.inl ⟨rfl, rfl⟩)) rfl rfl ⟨Nat.le_of_ble_eq_true rfl, Nat.le_of_ble_eq_true rfl⟩ (Nat.le_of_ble_eq_true rfl) ⟨(by simp [okL, okS, okV, xarg, xput1, wd, Value.category] <;> omega), (by simp [okL, okS, okV, xarg, xput1, wd, Value.category] <;> omega)⟩ ⟨⟨_, _, _, rfl, (by show _ < 151; omega), hrW.2.1 _ _ _⟩, e_Row_get hrW (by decide) hk8⟩ ?_
  refine R1 (g' := (31, _, _, _, _, _)) rfl rfl ?_
  refine R_getf rfl rfl (by omega) (hcell _ _ _) rfl ?_
  refine R1 (g' := (35, _, _, _, _, _)) rfl rfl ?_
  refine R_call2 (Or.inr (Or.inl ⟨rfl, rfl⟩)) rfl rfl ⟨Nat.le_of_ble_eq_true rfl, Nat.le_of_ble_eq_true rfl⟩ (Nat.le_of_ble_eq_true rfl) ⟨(by simp [okL, okS, okV, xarg, xput1, wd, Value.category] <;> omega), (by simp [okL, okS, okV, xarg, xput1, wd, Value.category] <;> omega)⟩ ⟨⟨_, _, _, rfl, (by show _ < 151; omega), hrH.2.1 _ _ _⟩, e_Row_get hrH (by decide) hk8⟩ ?_
  rw [hW, hH]
  refine R_call3 (Or.inr (Or.inl ⟨rfl, rfl⟩)) rfl rfl ⟨Nat.le_of_ble_eq_true rfl, Nat.le_of_ble_eq_true rfl⟩ (Nat.le_of_ble_eq_true rfl) ⟨(by simp [okL, okS, okV, xarg, xput1, wd, Value.category] <;> omega), (by simp [okL, okS, okV, xarg, xput1, wd, Value.category] <;> omega)⟩ ⟨⟨_, _, _, rfl, hsc.1, hsc.2 _ _ _⟩, e_become hsc⟩ ?_
  refine R1 (g' := (42, _, .int (nI 0) :: _, _, _, _)) rfl rfl ?_
  refine R1 (g' := (44, _, _, _, _, _)) rfl rfl ?_
  exact R_lv [(4, .int (nI (0))), (0, .ref p), (1, .int (nI k)), (2, .int (nI q)), (3, .int (nI c))] rfl (List.forall_mem_cons.mpr ⟨rfl, List.forall_mem_cons.mpr ⟨rfl, List.forall_mem_cons.mpr ⟨rfl, List.forall_mem_cons.mpr ⟨rfl, List.forall_mem_cons.mpr ⟨rfl, fun _ h => absurd h List.not_mem_nil⟩⟩⟩⟩⟩) ⟨rfl, rfl⟩ (canStrike_loop hp hk8 hV ha hb hv hq (by omega) c 0 (Nat.zero_add _) rfl ha hb)
theorem e_canStrikeW {s : xs} {p k q c n t : Nat} (hp : xbar p) (hn : s.1 p 0 = nI n) (hn8 : n ≤ 8) (hk : k < n) (ht : s.1 p 1 = nI t) (ht2 : t < 2 ^ 20) (hc : nBl t < c) (hc2 : c < 2 ^ 31) : Ev_X0_canStrike [.ref p, .int (nI k), .int (nI q), .int (nI c)] (wd s) (.inl (some (.int (bI false)))) (wd s) := by
  obtain ⟨h152, hcell, hrW, hrH, hrV, hrB, hsc⟩ := id hp
  have hh : bI (xhas (nI k) n) = 1 := bI_t (by rw [xhas_nI (by omega) (by omega)]; exact decide_eq_true hk)
  refine ⟨Nat.le_of_ble_eq_true rfl, Nat.le_refl _, Or.inr ⟨rfl, bI_01 _⟩, ?_⟩
  refine R1 (g' := (1, _, _, _, _, _)) rfl rfl ?_
  refine R1 (g' := (2, _, _, _, _, _)) rfl rfl ?_
  refine R_call2 (Or.inr (Or.inl ⟨rfl, rfl⟩)) rfl rfl ⟨Nat.le_of_ble_eq_true rfl, Nat.le_of_ble_eq_true rfl⟩ (Nat.le_of_ble_eq_true rfl) ⟨(by simp [okL, okS, okV, xarg, xput1, wd, Value.category] <;> omega), (by simp [okL, okS, okV, xarg, xput1, wd, Value.category] <;> omega)⟩ ⟨⟨_, _, _, rfl, (by show _ < 151; omega), hcell _ _ _⟩, e_has hp hn⟩ ?_
  rw [hh]
  refine R_eq 16 rfl rfl (fun h => by exact absurd h (by decide)) (fun h5 => ?_)
  refine R1 (g' := (9, _, _, _, _, _)) rfl rfl ?_
  refine R1 (g' := (10, _, _, _, _, _)) rfl rfl ?_
  refine R_call1 (Or.inr (Or.inl ⟨rfl, rfl⟩)) rfl rfl ⟨Nat.le_of_ble_eq_true rfl, Nat.le_of_ble_eq_true rfl⟩ (Nat.le_of_ble_eq_true rfl) ⟨(by simp [okL, okS, okV, xarg, xput1, wd, Value.category] <;> omega), (by simp [okL, okS, okV, xarg, xput1, wd, Value.category] <;> omega)⟩ ⟨⟨_, _, _, rfl, (by show _ < 151; omega), hcell _ _ _⟩, e_blowsUntilHeat hp ht (by omega)⟩ ?_
  refine R_cleN 18 (c) (nBl t) rfl rfl (rfl) (rfl) (by omega) (by omega) (fun h => by omega) (fun h13 => ?_)
  refine R1 (g' := (17, _, .int (nI 0) :: _, _, _, _)) rfl rfl ?_
  refine R_iret rfl ?_
  exact ⟨rfl, rfl⟩
theorem e_canStrikeN {s : xs} {p n : Nat} {x y z : Int32} (hp : xbar p) (hn : s.1 p 0 = nI n) (hx : xhas x n = false) : Ev_X0_canStrike [.ref p, .int x, .int y, .int z] (wd s) (.inl (some (.int (bI false)))) (wd s) := by
  obtain ⟨h152, hcell, hrW, hrH, hrV, hrB, hsc⟩ := id hp
  have hh : bI (xhas x n) = 0 := bI_f hx
  refine ⟨Nat.le_of_ble_eq_true rfl, Nat.le_refl _, Or.inr ⟨rfl, bI_01 _⟩, ?_⟩
  refine R1 (g' := (1, _, _, _, _, _)) rfl rfl ?_
  refine R1 (g' := (2, _, _, _, _, _)) rfl rfl ?_
  refine R_call2 (Or.inr (Or.inl ⟨rfl, rfl⟩)) rfl rfl ⟨Nat.le_of_ble_eq_true rfl, Nat.le_of_ble_eq_true rfl⟩ (Nat.le_of_ble_eq_true rfl) ⟨(by simp [okL, okS, okV, xarg, xput1, wd, Value.category] <;> omega), (by simp [okL, okS, okV, xarg, xput1, wd, Value.category] <;> omega)⟩ ⟨⟨_, _, _, rfl, (by show _ < 151; omega), hcell _ _ _⟩, e_has hp hn⟩ ?_
  rw [hh]
  refine R_eq 16 rfl rfl (fun h5 => ?_) (fun h => by exact absurd rfl h)
  refine R1 (g' := (17, _, .int (nI 0) :: _, _, _, _)) rfl rfl ?_
  refine R_iret rfl ?_
  exact ⟨rfl, rfl⟩
def sStrike (s : xs) (p k a b c : Nat) : xs :=
  let s1 := sSec s p a b
  let s2 := put s1 (p + 2) k (nI a)
  let s3 := put s2 (p + 4) k (nI b)
  let s4 := put s3 (p + 8) k (s3.1 (p + 8) k + nI c)
  let s5 := put s4 p 4 (s4.1 p 4 + nI c)
  put s5 p 1 (s5.1 p 1 - nI (c * 12))
theorem strike_loop {s : xs} {p k a b q c : Nat} (hp : xbar p) (hk8 : k < 8) (hq : q ≤ 2) (hc : c < 2 ^ 20) (hR : ∀ j, j < c → nRg (nIt a b q j).1 = true ∧ nRg (nIt a b q j).2 = true) : ∀ (d j : Nat), j + d = c → xRun M_X0_strike (fun o1 w1 => o1 = .inl none ∧ w1 = wd (sStrike s p k (nIt a b q c).1 (nIt a b q c).2 c)) (26, [(4, .int (nI (j))), (0, .ref p), (1, .int (nI k)), (2, .int (nI q)), (3, .int (nI c))], [], wd (sSec s p (nIt a b q j).1 (nIt a b q j).2), 0, 0) := by
  obtain ⟨h152, hcell, hrW, hrH, hrV, hrB, hsc⟩ := id hp
  intro d
  induction d with
  | zero =>
    intro j hj
    have hj : j = c := by omega
    subst hj
    have e1 : (put (sSec s p (nIt a b q j).1 (nIt a b q j).2) (p + 2) k (nI (nIt a b q j).1)).1 (p + 9) 1 = nI (nIt a b q j).2 := by rw [put_ne _ _ (by omega)]; exact sSec_h _ _ _ _
    refine R1 (g' := (28, _, _, _, _, _)) rfl rfl ?_
    refine R1 (g' := (29, _, _, _, _, _)) rfl rfl ?_
    refine R_cge 46 rfl rfl (fun h29 => ?_) (fun h => by exact absurd (nI_le (Nat.le_refl _) (by omega)) h)
    refine R1 (g' := (47, _, _, _, _, _)) rfl rfl ?_
    refine R_getf rfl rfl (by omega) (hcell _ _ _) rfl ?_
    refine R1 (g' := (51, _, _, _, _, _)) rfl rfl ?_
    refine R1 (g' := (52, _, _, _, _, _)) rfl rfl ?_
    refine R_getf rfl rfl (by omega) (hcell _ _ _) rfl ?_
    refine R_getf rfl rfl hsc.1 (hsc.2 _ _ _) rfl ?_
    rw [sSec_w]
    refine R_call3 (Or.inr (Or.inl ⟨rfl, rfl⟩)) rfl rfl ⟨Nat.le_of_ble_eq_true rfl, Nat.le_of_ble_eq_true rfl⟩ (Nat.le_of_ble_eq_true rfl) ⟨(by simp [okL, okS, okV, xarg, xput1, wd, Value.category] <;> omega), (by simp [okL, okS, okV, xarg, xput1, wd, Value.category] <;> omega)⟩ ⟨⟨_, _, _, rfl, (by show _ < 151; omega), hrW.2.1 _ _ _⟩, e_Row_set hrW (by decide) hk8⟩ ?_
    refine R1 (g' := (62, _, _, _, _, _)) rfl rfl ?_
    refine R_getf rfl rfl (by omega) (hcell _ _ _) rfl ?_
    refine R1 (g' := (66, _, _, _, _, _)) rfl rfl ?_
    refine R1 (g' := (67, _, _, _, _, _)) rfl rfl ?_
    refine R_getf rfl rfl (by omega) (hcell _ _ _) rfl ?_
    refine R_getf (s := put (sSec s p (nIt a b q j).1 (nIt a b q j).2) (p + 2) k (nI (nIt a b q j).1)) rfl rfl hsc.1 (hsc.2 _ _ _) rfl ?_
    rw [e1]
    refine R_call3 (Or.inr (Or.inl ⟨rfl, rfl⟩)) rfl rfl ⟨Nat.le_of_ble_eq_true rfl, Nat.le_of_ble_eq_true rfl⟩ (Nat.le_of_ble_eq_true rfl) ⟨(by simp [okL, okS, okV, xarg, xput1, wd, Value.category] <;> omega), (by simp [okL, okS, okV, xarg, xput1, wd, Value.category] <;> omega)⟩ ⟨⟨_, _, _, rfl, (by show _ < 151; omega), hrH.2.1 _ _ _⟩, e_Row_set hrH (by decide) hk8⟩ ?_
    refine R1 (g' := (77, _, _, _, _, _)) rfl rfl ?_
    refine R_getf rfl rfl (by omega) (hcell _ _ _) rfl ?_
    refine R1 (g' := (81, _, _, _, _, _)) rfl rfl ?_
    refine R1 (g' := (82, _, _, _, _, _)) rfl rfl ?_
    refine R_getf rfl rfl (by omega) (hcell _ _ _) rfl ?_
    refine R1 (g' := (86, _, _, _, _, _)) rfl rfl ?_
    refine R_call2 (Or.inr (Or.inl ⟨rfl, rfl⟩)) rfl rfl ⟨Nat.le_of_ble_eq_true rfl, Nat.le_of_ble_eq_true rfl⟩ (Nat.le_of_ble_eq_true rfl) ⟨(by simp [okL, okS, okV, xarg, xput1, wd, Value.category] <;> omega), (by simp [okL, okS, okV, xarg, xput1, wd, Value.category] <;> omega)⟩ ⟨⟨_, _, _, rfl, (by show _ < 151; omega), hrB.2.1 _ _ _⟩, e_Row_get hrB (by decide) hk8⟩ ?_
    refine R1 (g' := (90, _, _, _, _, _)) rfl rfl ?_
    refine R1 (g' := (91, _, _, _, _, _)) rfl rfl ?_
    refine R_call3 (Or.inr (Or.inl ⟨rfl, rfl⟩)) rfl rfl ⟨Nat.le_of_ble_eq_true rfl, Nat.le_of_ble_eq_true rfl⟩ (Nat.le_of_ble_eq_true rfl) ⟨(by simp [okL, okS, okV, xarg, xput1, wd, Value.category] <;> omega), (by simp [okL, okS, okV, xarg, xput1, wd, Value.category] <;> omega)⟩ ⟨⟨_, _, _, rfl, (by show _ < 151; omega), hrB.2.1 _ _ _⟩, e_Row_set hrB (by decide) hk8⟩ ?_
    refine R1 (g' := (95, _, _, _, _, _)) rfl rfl ?_
    refine R1 (g' := (96, _, _, _, _, _)) rfl rfl ?_
    refine R_getf rfl rfl (by omega) (hcell _ _ _) rfl ?_
    refine R1 (g' := (100, _, _, _, _, _)) rfl rfl ?_
    refine R1 (g' := (101, _, _, _, _, _)) rfl rfl ?_
    refine R_put rfl rfl (by omega) (hcell _ _ _) (Nat.le_of_ble_eq_true rfl) ⟨_, rfl, Or.inl rfl, _, rfl, rfl⟩ (hcell _ _ _) ?_
    refine R1 (g' := (105, _, _, _, _, _)) rfl rfl ?_
    refine R1 (g' := (106, _, _, _, _, _)) rfl rfl ?_
    refine R_getf rfl rfl (by omega) (hcell _ _ _) rfl ?_
    refine R1 (g' := (110, _, _, _, _, _)) rfl rfl ?_
    refine R1 (g' := (112, _, .int (nI 12) :: _, _, _, _)) rfl rfl ?_
    refine R1 (g' := (113, _, _, _, _, _)) rfl rfl ?_
    rw [pk_mul]
    refine R1 (g' := (114, _, _, _, _, _)) rfl rfl ?_
    refine R_put rfl rfl (by omega) (hcell _ _ _) (Nat.le_of_ble_eq_true rfl) ⟨_, rfl, Or.inl rfl, _, rfl, rfl⟩ (hcell _ _ _) ?_
    refine R_vret rfl ?_
    exact ⟨rfl, rfl⟩
  | succ d ih =>
    intro j hj
    have hlt : j < c := by omega
    obtain ⟨r1, r2⟩ := hR j hlt
    refine R1 (g' := (28, _, _, _, _, _)) rfl rfl ?_
    refine R1 (g' := (29, _, _, _, _, _)) rfl rfl ?_
    refine R_cge 46 rfl rfl (fun h => by exact absurd h (nI_ge hlt (by omega))) (fun h29 => ?_)
    refine R1 (g' := (33, _, _, _, _, _)) rfl rfl ?_
    refine R_getf rfl rfl (by omega) (hcell _ _ _) rfl ?_
    refine R1 (g' := (37, _, _, _, _, _)) rfl rfl ?_
    refine R_call2 (Or.inr (Or.inl ⟨rfl, rfl⟩)) rfl rfl ⟨Nat.le_of_ble_eq_true rfl, Nat.le_of_ble_eq_true rfl⟩ (Nat.le_of_ble_eq_true rfl) ⟨(by simp [okL, okS, okV, xarg, xput1, wd, Value.category] <;> omega), (by simp [okL, okS, okV, xarg, xput1, wd, Value.category] <;> omega)⟩ ⟨⟨_, _, _, rfl, hsc.1, hsc.2 _ _ _⟩, e_change hsc (sSec_w _ _ _ _) (sSec_h _ _ _ _) r1 r2 hq⟩ ?_
    rw [sSec_S]
    refine R1 (g' := (43, _, _, _, _, _)) rfl rfl ?_
    refine R1 (g' := (26, _, _, _, _, _)) rfl rfl ?_
    refine R_lv [(4, .int (nI (j + 1))), (0, .ref p), (1, .int (nI k)), (2, .int (nI q)), (3, .int (nI c))] rfl (List.forall_mem_cons.mpr ⟨by rw [nI_succ j]; rfl, List.forall_mem_cons.mpr ⟨rfl, List.forall_mem_cons.mpr ⟨rfl, List.forall_mem_cons.mpr ⟨rfl, List.forall_mem_cons.mpr ⟨rfl, fun _ h => absurd h List.not_mem_nil⟩⟩⟩⟩⟩) ⟨rfl, rfl⟩ ?_
    exact ih (j + 1) (by omega)
theorem e_strike {s : xs} {p k a b q c : Nat} (hp : xbar p) (hk8 : k < 8) (hW : s.1 (p + 2) k = nI a) (hH : s.1 (p + 4) k = nI b) (hq : q ≤ 2) (hc : c < 2 ^ 20) (hR : ∀ j, j < c → nRg (nIt a b q j).1 = true ∧ nRg (nIt a b q j).2 = true) : Ev_X0_strike [.ref p, .int (nI k), .int (nI q), .int (nI c)] (wd s) (.inl none) (wd (sStrike s p k (nIt a b q c).1 (nIt a b q c).2 c)) := by
  obtain ⟨h152, hcell, hrW, hrH, hrV, hrB, hsc⟩ := id hp
  refine ⟨Nat.le_of_ble_eq_true rfl, Nat.le_refl _, rfl, ?_⟩
  refine R1 (g' := (1, _, _, _, _, _)) rfl rfl ?_
  refine R_getf rfl rfl (by omega) (hcell _ _ _) rfl ?_
  refine R1 (g' := (5, _, _, _, _, _)) rfl rfl ?_
  refine R_getf rfl rfl (by omega) (hcell _ _ _) rfl ?_
  refine R1 (g' := (9, _, _, _, _, _)) rfl rfl ?_
  refine R_call2 (Or.inr (Or.inl ⟨rfl, rfl⟩)) rfl rfl ⟨Nat.le_of_ble_eq_true rfl, Nat.le_of_ble_eq_true rfl⟩ (Nat.le_of_ble_eq_true rfl) ⟨(by simp [okL, okS, okV, xarg, xput1, wd, Value.category] <;> omega), (by simp [okL, okS, okV, xarg, xput1, wd, Value.category] <;> omega)⟩ ⟨⟨_, _, _, rfl, (by show _ < 151; omega), hrW.2.1 _ _ _⟩, e_Row_get hrW (by decide) hk8⟩ ?_
  refine R1 (g' := (13, _, _, _, _, _)) rfl rfl ?_
  refine R_getf rfl rfl (by omega) (hcell _ _ _) rfl ?_
  refine R1 (g' := (17, _, _, _, _, _)) rfl rfl ?_
  refine R_call2 (Or.inr (Or.inl ⟨rfl, rfl⟩)) rfl rfl ⟨Nat.le_of_ble_eq_true rfl, Nat.le_of_ble_eq_true rfl⟩ (Nat.le_of_ble_eq_true rfl) ⟨(by simp [okL, okS, okV, xarg, xput1, wd, Value.category] <;> omega), (by simp [okL, okS, okV, xarg, xput1, wd, Value.category] <;> omega)⟩ ⟨⟨_, _, _, rfl, (by show _ < 151; omega), hrH.2.1 _ _ _⟩, e_Row_get hrH (by decide) hk8⟩ ?_
  rw [hW, hH]
  refine R_call3 (Or.inr (Or.inl ⟨rfl, rfl⟩)) rfl rfl ⟨Nat.le_of_ble_eq_true rfl, Nat.le_of_ble_eq_true rfl⟩ (Nat.le_of_ble_eq_true rfl) ⟨(by simp [okL, okS, okV, xarg, xput1, wd, Value.category] <;> omega), (by simp [okL, okS, okV, xarg, xput1, wd, Value.category] <;> omega)⟩ ⟨⟨_, _, _, rfl, hsc.1, hsc.2 _ _ _⟩, e_become hsc⟩ ?_
  refine R1 (g' := (24, _, .int (nI 0) :: _, _, _, _)) rfl rfl ?_
  refine R1 (g' := (26, _, _, _, _, _)) rfl rfl ?_
  exact R_lv [(4, .int (nI (0))), (0, .ref p), (1, .int (nI k)), (2, .int (nI q)), (3, .int (nI c))] rfl (List.forall_mem_cons.mpr ⟨rfl, List.forall_mem_cons.mpr ⟨rfl, List.forall_mem_cons.mpr ⟨rfl, List.forall_mem_cons.mpr ⟨rfl, List.forall_mem_cons.mpr ⟨rfl, fun _ h => absurd h List.not_mem_nil⟩⟩⟩⟩⟩) ⟨rfl, rfl⟩ (strike_loop hp hk8 hq hc hR c 0 (Nat.zero_add _))
theorem sCopyPart_out (s : xs) (p f t : Nat) : (∀ i, i ≠ p + 2 → i ≠ p + 4 → i ≠ p + 6 → i ≠ p + 8 → (sCopyPart s p f t).1 i = s.1 i) ∧ (sCopyPart s p f t).2 = s.2 := by
  refine ⟨fun i h1 h2 h3 h4 => ?_, rfl⟩
  unfold sCopyPart
  simp only
  rw [put_ne _ _ h4, put_ne _ _ h3, put_ne _ _ h2, put_ne _ _ h1]
def sUp (s : xs) (p n : Nat) : Nat → xs
  | 0 => s
  | d + 1 => sCopyPart (sUp s p n d) p (n - d - 1) (n - d)
def sDn (s : xs) (p k : Nat) : Nat → xs
  | 0 => s
  | d + 1 => sCopyPart (sDn s p k d) p (k + d + 1) (k + d)
theorem sUp_out {s : xs} {p n : Nat} : ∀ d, (∀ i, i ≠ p + 2 → i ≠ p + 4 → i ≠ p + 6 → i ≠ p + 8 → (sUp s p n d).1 i = s.1 i) ∧ (sUp s p n d).2 = s.2
  | 0 => ⟨fun _ _ _ _ _ => rfl, rfl⟩
  | d + 1 => ⟨fun i h1 h2 h3 h4 => ((sCopyPart_out _ _ _ _).1 i h1 h2 h3 h4).trans ((sUp_out d).1 i h1 h2 h3 h4), (sUp_out d).2⟩
theorem sDn_out {s : xs} {p k : Nat} : ∀ d, (∀ i, i ≠ p + 2 → i ≠ p + 4 → i ≠ p + 6 → i ≠ p + 8 → (sDn s p k d).1 i = s.1 i) ∧ (sDn s p k d).2 = s.2
  | 0 => ⟨fun _ _ _ _ _ => rfl, rfl⟩
  | d + 1 => ⟨fun i h1 h2 h3 h4 => ((sCopyPart_out _ _ _ _).1 i h1 h2 h3 h4).trans ((sDn_out d).1 i h1 h2 h3 h4), (sDn_out d).2⟩
def sSplit (s : xs) (p k n : Nat) (c : Int32) : xs :=
  let s0 := sUp s p n (n - k)
  let s1 := put s0 p 0 (s0.1 p 0 + nI 1)
  let s2 := put s1 (p + 6) (k + 1) (s1.1 (p + 6) k - c * s1.1 (p + 2) k * s1.1 (p + 4) k)
  put s2 (p + 6) k (c * s1.1 (p + 2) k * s1.1 (p + 4) k)
theorem split_loop {s : xs} {p k n : Nat} {c : Int32} (hp : xbar p) (hn8 : n < 8) (hk : k < n) : ∀ (e d : Nat), d + e = n - k → xRun M_X0_split (fun o1 w1 => o1 = .inl none ∧ w1 = wd (sSplit s p k n c)) (5, [(3, .int (nI (n - d))), (0, .ref p), (1, .int (nI k)), (2, .int c)], [], wd (sUp s p n d), 0, 0) := by
  obtain ⟨h152, hcell, hrW, hrH, hrV, hrB, hsc⟩ := id hp
  intro e
  induction e with
  | zero =>
    intro d hd
    have hd : d = n - k := by omega
    subst hd
    have hk7 : k < 8 := by omega
    have hk8 : k + 1 < 8 := by omega
    refine R1 (g' := (6, _, _, _, _, _)) rfl rfl ?_
    refine R1 (g' := (7, _, _, _, _, _)) rfl rfl ?_
    refine R_cleN 24 (n - (n - k)) (k) rfl rfl (rfl) (rfl) (by omega) (by omega) (fun h7 => ?_) (fun h => by omega)
    refine R1 (g' := (25, _, _, _, _, _)) rfl rfl ?_
    refine R1 (g' := (26, _, _, _, _, _)) rfl rfl ?_
    refine R_getf rfl rfl (by omega) (hcell _ _ _) rfl ?_
    refine R1 (g' := (30, _, .int (nI 1) :: _, _, _, _)) rfl rfl ?_
    refine R1 (g' := (31, _, _, _, _, _)) rfl rfl ?_
    refine R_put rfl rfl (by omega) (hcell _ _ _) (Nat.le_of_ble_eq_true rfl) ⟨_, rfl, Or.inl rfl, _, rfl, rfl⟩ (hcell _ _ _) ?_
    refine R1 (g' := (35, _, _, _, _, _)) rfl rfl ?_
    refine R1 (g' := (36, _, _, _, _, _)) rfl rfl ?_
    refine R_getf rfl rfl (by omega) (hcell _ _ _) rfl ?_
    refine R1 (g' := (40, _, _, _, _, _)) rfl rfl ?_
    refine R_call2 (Or.inr (Or.inl ⟨rfl, rfl⟩)) rfl rfl ⟨Nat.le_of_ble_eq_true rfl, Nat.le_of_ble_eq_true rfl⟩ (Nat.le_of_ble_eq_true rfl) ⟨(by simp [okL, okS, okV, xarg, xput1, wd, Value.category] <;> omega), (by simp [okL, okS, okV, xarg, xput1, wd, Value.category] <;> omega)⟩ ⟨⟨_, _, _, rfl, (by show _ < 151; omega), hrW.2.1 _ _ _⟩, e_Row_get hrW (by decide) hk7⟩ ?_
    refine R1 (g' := (44, _, _, _, _, _)) rfl rfl ?_
    refine R1 (g' := (45, _, _, _, _, _)) rfl rfl ?_
    refine R_getf rfl rfl (by omega) (hcell _ _ _) rfl ?_
    refine R1 (g' := (49, _, _, _, _, _)) rfl rfl ?_
    refine R_call2 (Or.inr (Or.inl ⟨rfl, rfl⟩)) rfl rfl ⟨Nat.le_of_ble_eq_true rfl, Nat.le_of_ble_eq_true rfl⟩ (Nat.le_of_ble_eq_true rfl) ⟨(by simp [okL, okS, okV, xarg, xput1, wd, Value.category] <;> omega), (by simp [okL, okS, okV, xarg, xput1, wd, Value.category] <;> omega)⟩ ⟨⟨_, _, _, rfl, (by show _ < 151; omega), hrH.2.1 _ _ _⟩, e_Row_get hrH (by decide) hk7⟩ ?_
    refine R1 (g' := (53, _, _, _, _, _)) rfl rfl ?_
    refine R1 (g' := (54, _, _, _, _, _)) rfl rfl ?_
    refine R1 (g' := (55, _, _, _, _, _)) rfl rfl ?_
    refine R_getf rfl rfl (by omega) (hcell _ _ _) rfl ?_
    refine R1 (g' := (59, _, _, _, _, _)) rfl rfl ?_
    refine R1 (g' := (60, _, .int (nI 1) :: _, _, _, _)) rfl rfl ?_
    refine R1 (g' := (61, _, _, _, _, _)) rfl rfl ?_
    rw [nI_add]
    refine R1 (g' := (62, _, _, _, _, _)) rfl rfl ?_
    refine R_getf rfl rfl (by omega) (hcell _ _ _) rfl ?_
    refine R1 (g' := (66, _, _, _, _, _)) rfl rfl ?_
    refine R_call2 (Or.inr (Or.inl ⟨rfl, rfl⟩)) rfl rfl ⟨Nat.le_of_ble_eq_true rfl, Nat.le_of_ble_eq_true rfl⟩ (Nat.le_of_ble_eq_true rfl) ⟨(by simp [okL, okS, okV, xarg, xput1, wd, Value.category] <;> omega), (by simp [okL, okS, okV, xarg, xput1, wd, Value.category] <;> omega)⟩ ⟨⟨_, _, _, rfl, (by show _ < 151; omega), hrV.2.1 _ _ _⟩, e_Row_get hrV (by decide) hk7⟩ ?_
    refine R1 (g' := (70, _, _, _, _, _)) rfl rfl ?_
    refine R1 (g' := (71, _, _, _, _, _)) rfl rfl ?_
    refine R_call3 (Or.inr (Or.inl ⟨rfl, rfl⟩)) rfl rfl ⟨Nat.le_of_ble_eq_true rfl, Nat.le_of_ble_eq_true rfl⟩ (Nat.le_of_ble_eq_true rfl) ⟨(by simp [okL, okS, okV, xarg, xput1, wd, Value.category] <;> omega), (by simp [okL, okS, okV, xarg, xput1, wd, Value.category] <;> omega)⟩ ⟨⟨_, _, _, rfl, (by show _ < 151; omega), hrV.2.1 _ _ _⟩, e_Row_set hrV (by decide) hk8⟩ ?_
    refine R1 (g' := (75, _, _, _, _, _)) rfl rfl ?_
    refine R_getf rfl rfl (by omega) (hcell _ _ _) rfl ?_
    refine R1 (g' := (79, _, _, _, _, _)) rfl rfl ?_
    refine R1 (g' := (80, _, _, _, _, _)) rfl rfl ?_
    refine R_call3 (Or.inr (Or.inl ⟨rfl, rfl⟩)) rfl rfl ⟨Nat.le_of_ble_eq_true rfl, Nat.le_of_ble_eq_true rfl⟩ (Nat.le_of_ble_eq_true rfl) ⟨(by simp [okL, okS, okV, xarg, xput1, wd, Value.category] <;> omega), (by simp [okL, okS, okV, xarg, xput1, wd, Value.category] <;> omega)⟩ ⟨⟨_, _, _, rfl, (by show _ < 151; omega), hrV.2.1 _ _ _⟩, e_Row_set hrV (by decide) hk7⟩ ?_
    refine R_vret rfl ?_
    exact ⟨rfl, rfl⟩
  | succ e ih =>
    intro d hd
    refine R1 (g' := (6, _, _, _, _, _)) rfl rfl ?_
    refine R1 (g' := (7, _, _, _, _, _)) rfl rfl ?_
    refine R_cleN 24 (n - d) (k) rfl rfl (rfl) (rfl) (by omega) (by omega) (fun h => by omega) (fun h7 => ?_)
    refine R1 (g' := (11, _, _, _, _, _)) rfl rfl ?_
    refine R1 (g' := (12, _, _, _, _, _)) rfl rfl ?_
    refine R1 (g' := (13, _, .int (nI 1) :: _, _, _, _)) rfl rfl ?_
    refine R1 (g' := (14, _, _, _, _, _)) rfl rfl ?_
    rw [pk_sub (show 1 ≤ n - d by omega)]
    refine R1 (g' := (15, _, _, _, _, _)) rfl rfl ?_
    refine R_call3 (Or.inr (Or.inl ⟨rfl, rfl⟩)) rfl rfl ⟨Nat.le_of_ble_eq_true rfl, Nat.le_of_ble_eq_true rfl⟩ (Nat.le_of_ble_eq_true rfl) ⟨(by simp [okL, okS, okV, xarg, xput1, wd, Value.category] <;> omega), (by simp [okL, okS, okV, xarg, xput1, wd, Value.category] <;> omega)⟩ ⟨⟨_, _, _, rfl, (by show _ < 151; omega), hcell _ _ _⟩, e_copyPart hp (f := n - d - 1) (t := n - d) (by omega) (by omega)⟩ ?_
    refine R1 (g' := (21, _, _, _, _, _)) rfl rfl ?_
    refine R1 (g' := (5, _, _, _, _, _)) rfl rfl ?_
    refine R_lv [(3, .int (nI (n - (d + 1)))), (0, .ref p), (1, .int (nI k)), (2, .int c)] rfl (List.forall_mem_cons.mpr ⟨by rw [show nI (n - (d + 1)) = nI (n - d) + Int32.ofInt (-1) by rw [show n - d = (n - (d + 1)) + 1 by omega]; exact (pk_m1 _).symm]; rfl, List.forall_mem_cons.mpr ⟨rfl, List.forall_mem_cons.mpr ⟨rfl, List.forall_mem_cons.mpr ⟨rfl, fun _ h => absurd h List.not_mem_nil⟩⟩⟩⟩) ⟨rfl, rfl⟩ ?_
    exact ih (d + 1) (by omega)
theorem e_split {s : xs} {p k n : Nat} {c : Int32} (hp : xbar p) (hn : s.1 p 0 = nI n) (hn8 : n < 8) (hk : k < n) : Ev_X0_split [.ref p, .int (nI k), .int c] (wd s) (.inl none) (wd (sSplit s p k n c)) := by
  obtain ⟨h152, hcell, hrW, hrH, hrV, hrB, hsc⟩ := id hp
  refine ⟨Nat.le_of_ble_eq_true rfl, Nat.le_refl _, rfl, ?_⟩
  refine R1 (g' := (1, _, _, _, _, _)) rfl rfl ?_
  refine R_getf rfl rfl (by omega) (hcell _ _ _) rfl ?_
  rw [hn]
  refine R1 (g' := (5, _, _, _, _, _)) rfl rfl ?_
  exact R_lv [(3, .int (nI (n - 0))), (0, .ref p), (1, .int (nI k)), (2, .int c)] rfl (List.forall_mem_cons.mpr ⟨rfl, List.forall_mem_cons.mpr ⟨rfl, List.forall_mem_cons.mpr ⟨rfl, List.forall_mem_cons.mpr ⟨rfl, fun _ h => absurd h List.not_mem_nil⟩⟩⟩⟩) ⟨rfl, rfl⟩ (split_loop hp hn8 hk (n - k) 0 (by omega))
def sJoin (s : xs) (p k n : Nat) : xs :=
  let s1 := put s (p + 6) k (s.1 (p + 6) k + s.1 (p + 6) (k + 1))
  let s2 := put s1 (p + 8) k (s1.1 (p + 8) k + s1.1 (p + 8) (k + 1))
  let s3 := put s2 p 0 (nI (n - 1))
  sDn s3 p (k + 1) (n - 1 - (k + 1))
theorem join_loop {s : xs} {p k n : Nat} (hp : xbar p) (hn8 : n ≤ 8) (hk : k + 1 < n) (h0 : s.1 p 0 = nI (n - 1)) : ∀ (e d : Nat), d + e = n - 1 - (k + 1) → xRun M_X0_join (fun o1 w1 => o1 = .inl none ∧ w1 = wd (sDn s p (k + 1) (n - 1 - (k + 1)))) (68, [(2, .int (nI (k + 1 + d))), (0, .ref p), (1, .int (nI k))], [], wd (sDn s p (k + 1) d), 0, 0) := by
  obtain ⟨h152, hcell, hrW, hrH, hrV, hrB, hsc⟩ := id hp
  intro e
  induction e with
  | zero =>
    intro d hd
    have hd : d = n - 1 - (k + 1) := by omega
    subst hd
    have h1 : (sDn s p (k + 1) (n - 1 - (k + 1))).1 p 0 = nI (n - 1) := by rw [(sDn_out _).1 p (by omega) (by omega) (by omega) (by omega)]; exact h0
    refine R1 (g' := (69, _, _, _, _, _)) rfl rfl ?_
    refine R1 (g' := (70, _, _, _, _, _)) rfl rfl ?_
    refine R_getf rfl rfl (by omega) (hcell _ _ _) rfl ?_
    rw [h1]
    refine R_cgeN 90 (k + 1 + (n - 1 - (k + 1))) (n - 1) rfl rfl (rfl) (rfl) (by omega) (by omega) (fun h73 => ?_) (fun h => by omega)
    refine R_vret rfl ?_
    exact ⟨rfl, rfl⟩
  | succ e ih =>
    intro d hd
    have h1 : (sDn s p (k + 1) d).1 p 0 = nI (n - 1) := by rw [(sDn_out _).1 p (by omega) (by omega) (by omega) (by omega)]; exact h0
    refine R1 (g' := (69, _, _, _, _, _)) rfl rfl ?_
    refine R1 (g' := (70, _, _, _, _, _)) rfl rfl ?_
    refine R_getf rfl rfl (by omega) (hcell _ _ _) rfl ?_
    rw [h1]
    refine R_cgeN 90 (k + 1 + d) (n - 1) rfl rfl (rfl) (rfl) (by omega) (by omega) (fun h => by omega) (fun h73 => ?_)
    refine R1 (g' := (77, _, _, _, _, _)) rfl rfl ?_
    refine R1 (g' := (78, _, _, _, _, _)) rfl rfl ?_
    refine R1 (g' := (79, _, .int (nI 1) :: _, _, _, _)) rfl rfl ?_
    refine R1 (g' := (80, _, _, _, _, _)) rfl rfl ?_
    rw [nI_add]
    refine R1 (g' := (81, _, _, _, _, _)) rfl rfl ?_
    refine R_call3 (Or.inr (Or.inl ⟨rfl, rfl⟩)) rfl rfl ⟨Nat.le_of_ble_eq_true rfl, Nat.le_of_ble_eq_true rfl⟩ (Nat.le_of_ble_eq_true rfl) ⟨(by simp [okL, okS, okV, xarg, xput1, wd, Value.category] <;> omega), (by simp [okL, okS, okV, xarg, xput1, wd, Value.category] <;> omega)⟩ ⟨⟨_, _, _, rfl, (by show _ < 151; omega), hcell _ _ _⟩, e_copyPart hp (f := k + 1 + d + 1) (t := k + 1 + d) (by omega) (by omega)⟩ ?_
    refine R1 (g' := (87, _, _, _, _, _)) rfl rfl ?_
    refine R1 (g' := (68, _, _, _, _, _)) rfl rfl ?_
    refine R_lv [(2, .int (nI (k + 1 + (d + 1)))), (0, .ref p), (1, .int (nI k))] rfl (List.forall_mem_cons.mpr ⟨by rw [← Nat.add_assoc, nI_succ (k + 1 + d)]; rfl, List.forall_mem_cons.mpr ⟨rfl, List.forall_mem_cons.mpr ⟨rfl, fun _ h => absurd h List.not_mem_nil⟩⟩⟩) ⟨rfl, rfl⟩ ?_
    exact ih (d + 1) (by omega)
theorem e_join {s : xs} {p k n : Nat} (hp : xbar p) (hn : s.1 p 0 = nI n) (hn8 : n ≤ 8) (hk : k + 1 < n) : Ev_X0_join [.ref p, .int (nI k)] (wd s) (.inl none) (wd (sJoin s p k n)) := by
  obtain ⟨h152, hcell, hrW, hrH, hrV, hrB, hsc⟩ := id hp
  have hk7 : k < 8 := by omega
  have hk8 : k + 1 < 8 := by omega
  have e1 : (put (put s (p + 6) k (s.1 (p + 6) k + s.1 (p + 6) (k + 1))) (p + 8) k ((put s (p + 6) k (s.1 (p + 6) k + s.1 (p + 6) (k + 1))).1 (p + 8) k + (put s (p + 6) k (s.1 (p + 6) k + s.1 (p + 6) (k + 1))).1 (p + 8) (k + 1))).1 p 0 = nI n := by
    rw [put_ne _ _ (by omega), put_ne _ _ (by omega)]
    exact hn
  refine ⟨Nat.le_of_ble_eq_true rfl, Nat.le_refl _, rfl, ?_⟩
  refine R1 (g' := (1, _, _, _, _, _)) rfl rfl ?_
  refine R_getf rfl rfl (by omega) (hcell _ _ _) rfl ?_
  refine R1 (g' := (5, _, _, _, _, _)) rfl rfl ?_
  refine R1 (g' := (6, _, _, _, _, _)) rfl rfl ?_
  refine R_getf rfl rfl (by omega) (hcell _ _ _) rfl ?_
  refine R1 (g' := (10, _, _, _, _, _)) rfl rfl ?_
  refine R_call2 (Or.inr (Or.inl ⟨rfl, rfl⟩)) rfl rfl ⟨Nat.le_of_ble_eq_true rfl, Nat.le_of_ble_eq_true rfl⟩ (Nat.le_of_ble_eq_true rfl) ⟨(by simp [okL, okS, okV, xarg, xput1, wd, Value.category] <;> omega), (by simp [okL, okS, okV, xarg, xput1, wd, Value.category] <;> omega)⟩ ⟨⟨_, _, _, rfl, (by show _ < 151; omega), hrV.2.1 _ _ _⟩, e_Row_get hrV (by decide) hk7⟩ ?_
  refine R1 (g' := (14, _, _, _, _, _)) rfl rfl ?_
  refine R_getf rfl rfl (by omega) (hcell _ _ _) rfl ?_
  refine R1 (g' := (18, _, _, _, _, _)) rfl rfl ?_
  refine R1 (g' := (19, _, .int (nI 1) :: _, _, _, _)) rfl rfl ?_
  refine R1 (g' := (20, _, _, _, _, _)) rfl rfl ?_
  rw [nI_add]
  refine R_call2 (Or.inr (Or.inl ⟨rfl, rfl⟩)) rfl rfl ⟨Nat.le_of_ble_eq_true rfl, Nat.le_of_ble_eq_true rfl⟩ (Nat.le_of_ble_eq_true rfl) ⟨(by simp [okL, okS, okV, xarg, xput1, wd, Value.category] <;> omega), (by simp [okL, okS, okV, xarg, xput1, wd, Value.category] <;> omega)⟩ ⟨⟨_, _, _, rfl, (by show _ < 151; omega), hrV.2.1 _ _ _⟩, e_Row_get hrV (by decide) hk8⟩ ?_
  refine R1 (g' := (24, _, _, _, _, _)) rfl rfl ?_
  refine R_call3 (Or.inr (Or.inl ⟨rfl, rfl⟩)) rfl rfl ⟨Nat.le_of_ble_eq_true rfl, Nat.le_of_ble_eq_true rfl⟩ (Nat.le_of_ble_eq_true rfl) ⟨(by simp [okL, okS, okV, xarg, xput1, wd, Value.category] <;> omega), (by simp [okL, okS, okV, xarg, xput1, wd, Value.category] <;> omega)⟩ ⟨⟨_, _, _, rfl, (by show _ < 151; omega), hrV.2.1 _ _ _⟩, e_Row_set hrV (by decide) hk7⟩ ?_
  refine R1 (g' := (28, _, _, _, _, _)) rfl rfl ?_
  refine R_getf rfl rfl (by omega) (hcell _ _ _) rfl ?_
  refine R1 (g' := (32, _, _, _, _, _)) rfl rfl ?_
  refine R1 (g' := (33, _, _, _, _, _)) rfl rfl ?_
  refine R_getf rfl rfl (by omega) (hcell _ _ _) rfl ?_
  refine R1 (g' := (37, _, _, _, _, _)) rfl rfl ?_
  refine R_call2 (Or.inr (Or.inl ⟨rfl, rfl⟩)) rfl rfl ⟨Nat.le_of_ble_eq_true rfl, Nat.le_of_ble_eq_true rfl⟩ (Nat.le_of_ble_eq_true rfl) ⟨(by simp [okL, okS, okV, xarg, xput1, wd, Value.category] <;> omega), (by simp [okL, okS, okV, xarg, xput1, wd, Value.category] <;> omega)⟩ ⟨⟨_, _, _, rfl, (by show _ < 151; omega), hrB.2.1 _ _ _⟩, e_Row_get hrB (by decide) hk7⟩ ?_
  refine R1 (g' := (41, _, _, _, _, _)) rfl rfl ?_
  refine R_getf rfl rfl (by omega) (hcell _ _ _) rfl ?_
  refine R1 (g' := (45, _, _, _, _, _)) rfl rfl ?_
  refine R1 (g' := (46, _, .int (nI 1) :: _, _, _, _)) rfl rfl ?_
  refine R1 (g' := (47, _, _, _, _, _)) rfl rfl ?_
  rw [nI_add]
  refine R_call2 (Or.inr (Or.inl ⟨rfl, rfl⟩)) rfl rfl ⟨Nat.le_of_ble_eq_true rfl, Nat.le_of_ble_eq_true rfl⟩ (Nat.le_of_ble_eq_true rfl) ⟨(by simp [okL, okS, okV, xarg, xput1, wd, Value.category] <;> omega), (by simp [okL, okS, okV, xarg, xput1, wd, Value.category] <;> omega)⟩ ⟨⟨_, _, _, rfl, (by show _ < 151; omega), hrB.2.1 _ _ _⟩, e_Row_get hrB (by decide) hk8⟩ ?_
  refine R1 (g' := (51, _, _, _, _, _)) rfl rfl ?_
  refine R_call3 (Or.inr (Or.inl ⟨rfl, rfl⟩)) rfl rfl ⟨Nat.le_of_ble_eq_true rfl, Nat.le_of_ble_eq_true rfl⟩ (Nat.le_of_ble_eq_true rfl) ⟨(by simp [okL, okS, okV, xarg, xput1, wd, Value.category] <;> omega), (by simp [okL, okS, okV, xarg, xput1, wd, Value.category] <;> omega)⟩ ⟨⟨_, _, _, rfl, (by show _ < 151; omega), hrB.2.1 _ _ _⟩, e_Row_set hrB (by decide) hk7⟩ ?_
  refine R1 (g' := (55, _, _, _, _, _)) rfl rfl ?_
  refine R1 (g' := (56, _, _, _, _, _)) rfl rfl ?_
  refine R_getf (s := put (put s (p + 6) k (s.1 (p + 6) k + s.1 (p + 6) (k + 1))) (p + 8) k ((put s (p + 6) k (s.1 (p + 6) k + s.1 (p + 6) (k + 1))).1 (p + 8) k + (put s (p + 6) k (s.1 (p + 6) k + s.1 (p + 6) (k + 1))).1 (p + 8) (k + 1))) rfl rfl (by omega) (hcell _ _ _) rfl ?_
  rw [e1]
  refine R1 (g' := (60, _, .int (nI 1) :: _, _, _, _)) rfl rfl ?_
  refine R1 (g' := (61, _, _, _, _, _)) rfl rfl ?_
  rw [pk_sub (show 1 ≤ n by omega)]
  refine R_put rfl rfl (by omega) (hcell _ _ _) (Nat.le_of_ble_eq_true rfl) ⟨_, rfl, Or.inl rfl, _, rfl, rfl⟩ (hcell _ _ _) ?_
  refine R1 (g' := (65, _, _, _, _, _)) rfl rfl ?_
  refine R1 (g' := (66, _, .int (nI 1) :: _, _, _, _)) rfl rfl ?_
  refine R1 (g' := (67, _, _, _, _, _)) rfl rfl ?_
  rw [nI_add]
  refine R1 (g' := (68, _, _, _, _, _)) rfl rfl ?_
  exact R_lv [(2, .int (nI (k + 1 + 0))), (0, .ref p), (1, .int (nI k))] rfl (List.forall_mem_cons.mpr ⟨rfl, List.forall_mem_cons.mpr ⟨rfl, List.forall_mem_cons.mpr ⟨rfl, fun _ h => absurd h List.not_mem_nil⟩⟩⟩) ⟨rfl, rfl⟩ (join_loop hp hn8 hk (put_val _ _ _ _ _ _ ▸ by simp) (n - 1 - (k + 1)) 0 (Nat.zero_add _))
