theorem lsw_d {x : Int} (h1 : x ≠ ((99 : Nat) : Int)) (h2 : x ≠ ((100 : Nat) : Int)) (h3 : x ≠ ((104 : Nat) : Int)) (h4 : x ≠ ((116 : Nat) : Int)) (h5 : x ≠ ((117 : Nat) : Int)) : xtg 8 (Op.lookupswitch.offset (#[(99, 70), (100, 52), (104, 75), (116, 58), (117, 64)] : Array (Int × Int)).toList 99 x) = some 107 := by
  have e : Op.lookupswitch.offset (#[(99, 70), (100, 52), (104, 75), (116, 58), (117, 64)] : Array (Int × Int)).toList 99 x = 99 := by
    simp [Op.lookupswitch.offset, List.find?, List.lookup]
    omega
  rw [e]
  rfl
theorem toInt_ne {x : Int32} {n : Nat} (hn : n < 2 ^ 31) (h : x ≠ nI n) : x.toInt ≠ (n : Int) := fun e => h (Int32.toInt_inj.mp (e.trans (nI_toInt hn).symm))
theorem e2_readOrder {s : xs} {g : Nat → Int32} {L p o : Nat} (h : cT s g L p o) (hp : p + 20 < 1000) : ∃ o1 w1, rdPo s o (pRd g p) o1 w1 ∧ Ev_X2_readOrder [.ref 133] (wd s) o1 w1 := by
  have h6 := h.2.1
  have h1 := h.2.2.1
  have ho := h.2.2.2.2.2.1
  by_cases x1 : g p = nI 104
  · have hr : pRd g p = .inr (3, 0, 0, p + 1) := if_pos x1
    rw [hr]
    refine xEv_ex (Nat.le_of_ble_eq_true rfl) (fun o1 w1 k => rdPo_ro k) ?_
    refine R1 (g' := (1, _, _, _, _, _)) rfl rfl ?_
    refine R1 (g' := (2, _, _, _, _, _)) rfl rfl ?_
    refine R_getf rfl rfl (Nat.le_of_ble_eq_true rfl) rfl rfl ?_
    rw [h6]
    refine R_call2 (Or.inr (Or.inl ⟨rfl, rfl⟩)) rfl rfl ⟨Nat.le_of_ble_eq_true rfl, Nat.le_of_ble_eq_true rfl⟩ (Nat.le_of_ble_eq_true rfl) ⟨rfl, rfl⟩ (⟨⟨_, _, _, rfl, (Nat.le_of_ble_eq_true rfl), rfl⟩, e2_byteAt h (by omega)⟩) ?_
    rw [x1]
    refine R_lsw 83 rfl (by decide) rfl ?_
    refine R1 (g' := (84, _, _, _, _, _)) rfl rfl ?_
    refine R_getf rfl rfl (Nat.le_of_ble_eq_true rfl) rfl rfl ?_
    refine R1 (g' := (88, _, _, _, _, _)) rfl rfl ?_
    refine R_getf rfl rfl (Nat.le_of_ble_eq_true rfl) rfl rfl ?_
    refine R1 (g' := (92, _, .int (nI 3) :: _, _, _, _)) rfl rfl ?_
    rw [h1]
    refine R_call3 (Or.inr (Or.inl ⟨rfl, rfl⟩)) rfl rfl ⟨Nat.le_of_ble_eq_true rfl, Nat.le_of_ble_eq_true rfl⟩ (Nat.le_of_ble_eq_true rfl) ⟨rfl, rfl⟩ (⟨⟨_, _, _, rfl, (Nat.le_of_ble_eq_true rfl), rfl⟩, e_Row_set xrw_134 (by decide) ho⟩) ?_
    refine R1 (g' := (96, _, _, _, _, _)) rfl rfl ?_
    refine R1 (g' := (97, _, _, _, _, _)) rfl rfl ?_
    refine R_getf rfl rfl (Nat.le_of_ble_eq_true rfl) rfl rfl ?_
    rw [setP_ne _ _ (by decide), h6]
    refine R1 (g' := (101, _, .int (nI 1) :: _, _, _, _)) rfl rfl ?_
    refine R1 (g' := (102, _, _, _, _, _)) rfl rfl ?_
    rw [nI_add]
    refine R_put rfl rfl (Nat.le_of_ble_eq_true rfl) rfl (Nat.le_of_ble_eq_true rfl) ⟨_, rfl, Or.inl rfl, _, rfl, rfl⟩ rfl ?_
    change xRun _ _ (105, _, _, wd (put (setP s 135 (upd (s.1 135) o (nI 3))) 133 6 (nI (p + 1))), _, _)
    refine R1 (g' := (106, _, .int (nI 1) :: _, _, _, _)) rfl rfl ?_
    refine R_iret rfl ?_
    exact ⟨_, rfl, cO_put (cO_row cO_rf (Or.inl rfl)) (Or.inl rfl), rfl, by rw [put_val, if_pos rfl, if_pos rfl], by rw [put_ne _ _ (by decide), setP_at, pk_us], fun z => absurd rfl z⟩
  · by_cases x2 : g p = nI 99
    · have hr : pRd g p = pCu g p := (if_neg x1).trans (if_pos x2)
      rw [hr]
      obtain ⟨o1, w1, hk, hev⟩ := e2_readCut h hp
      refine xEv_ex (Nat.le_of_ble_eq_true rfl) (fun o1 w1 k => rdPo_ro k) ?_
      have hk0 := hk
      obtain ⟨s2, rfl, _, hk⟩ := hk
      revert hk hk0 hev
      cases pCu g p with
      | inl e =>
        intro hev hk0 hk
        obtain ⟨rfl, hk⟩ := hk
        refine R1 (g' := (1, _, _, _, _, _)) rfl rfl ?_
        refine R1 (g' := (2, _, _, _, _, _)) rfl rfl ?_
        refine R_getf rfl rfl (Nat.le_of_ble_eq_true rfl) rfl rfl ?_
        rw [h6]
        refine R_call2 (Or.inr (Or.inl ⟨rfl, rfl⟩)) rfl rfl ⟨Nat.le_of_ble_eq_true rfl, Nat.le_of_ble_eq_true rfl⟩ (Nat.le_of_ble_eq_true rfl) ⟨rfl, rfl⟩ (⟨⟨_, _, _, rfl, (Nat.le_of_ble_eq_true rfl), rfl⟩, e2_byteAt h (by omega)⟩) ?_
        rw [x2]
        refine R_lsw 78 rfl (by decide) rfl ?_
        refine R1 (g' := (79, _, _, _, _, _)) rfl rfl ?_
        refine R_call1 (Or.inr (Or.inl ⟨rfl, rfl⟩)) rfl rfl ⟨Nat.le_of_ble_eq_true rfl, Nat.le_of_ble_eq_true rfl⟩ (Nat.le_of_ble_eq_true rfl) ⟨rfl, rfl⟩ (⟨⟨_, _, _, rfl, (Nat.le_of_ble_eq_true rfl), rfl⟩, hev⟩) ?_
        refine R_iret rfl ?_
        exact hk0
      | inr z =>
        intro hev hk0 hk
        obtain ⟨a, b, c, q⟩ := z
        obtain ⟨rfl, hk⟩ := hk
        refine R1 (g' := (1, _, _, _, _, _)) rfl rfl ?_
        refine R1 (g' := (2, _, _, _, _, _)) rfl rfl ?_
        refine R_getf rfl rfl (Nat.le_of_ble_eq_true rfl) rfl rfl ?_
        rw [h6]
        refine R_call2 (Or.inr (Or.inl ⟨rfl, rfl⟩)) rfl rfl ⟨Nat.le_of_ble_eq_true rfl, Nat.le_of_ble_eq_true rfl⟩ (Nat.le_of_ble_eq_true rfl) ⟨rfl, rfl⟩ (⟨⟨_, _, _, rfl, (Nat.le_of_ble_eq_true rfl), rfl⟩, e2_byteAt h (by omega)⟩) ?_
        rw [x2]
        refine R_lsw 78 rfl (by decide) rfl ?_
        refine R1 (g' := (79, _, _, _, _, _)) rfl rfl ?_
        refine R_call1 (Or.inr (Or.inl ⟨rfl, rfl⟩)) rfl rfl ⟨Nat.le_of_ble_eq_true rfl, Nat.le_of_ble_eq_true rfl⟩ (Nat.le_of_ble_eq_true rfl) ⟨rfl, rfl⟩ (⟨⟨_, _, _, rfl, (Nat.le_of_ble_eq_true rfl), rfl⟩, hev⟩) ?_
        refine R_iret rfl ?_
        exact hk0
    · by_cases x3 : g p = nI 100
      · have hr : pRd g p = pBl g p 0 := (if_neg x1).trans ((if_neg x2).trans (if_pos x3))
        rw [hr]
        obtain ⟨o1, w1, hk, hev⟩ := e2_readBlows (q := 0) h hp
        refine xEv_ex (Nat.le_of_ble_eq_true rfl) (fun o1 w1 k => rdPo_ro k) ?_
        have hk0 := hk
        obtain ⟨s2, rfl, _, hk⟩ := hk
        revert hk hk0 hev
        cases pBl g p 0 with
        | inl e =>
          intro hev hk0 hk
          obtain ⟨rfl, hk⟩ := hk
          refine R1 (g' := (1, _, _, _, _, _)) rfl rfl ?_
          refine R1 (g' := (2, _, _, _, _, _)) rfl rfl ?_
          refine R_getf rfl rfl (Nat.le_of_ble_eq_true rfl) rfl rfl ?_
          rw [h6]
          refine R_call2 (Or.inr (Or.inl ⟨rfl, rfl⟩)) rfl rfl ⟨Nat.le_of_ble_eq_true rfl, Nat.le_of_ble_eq_true rfl⟩ (Nat.le_of_ble_eq_true rfl) ⟨rfl, rfl⟩ (⟨⟨_, _, _, rfl, (Nat.le_of_ble_eq_true rfl), rfl⟩, e2_byteAt h (by omega)⟩) ?_
          rw [x3]
          refine R_lsw 60 rfl (by decide) rfl ?_
          refine R1 (g' := (61, _, _, _, _, _)) rfl rfl ?_
          refine R1 (g' := (62, _, .int (nI 0) :: _, _, _, _)) rfl rfl ?_
          refine R_call2 (Or.inr (Or.inl ⟨rfl, rfl⟩)) rfl rfl ⟨Nat.le_of_ble_eq_true rfl, Nat.le_of_ble_eq_true rfl⟩ (Nat.le_of_ble_eq_true rfl) ⟨rfl, rfl⟩ (⟨⟨_, _, _, rfl, (Nat.le_of_ble_eq_true rfl), rfl⟩, hev⟩) ?_
          refine R_iret rfl ?_
          exact hk0
        | inr z =>
          intro hev hk0 hk
          obtain ⟨a, b, c, q⟩ := z
          obtain ⟨rfl, hk⟩ := hk
          refine R1 (g' := (1, _, _, _, _, _)) rfl rfl ?_
          refine R1 (g' := (2, _, _, _, _, _)) rfl rfl ?_
          refine R_getf rfl rfl (Nat.le_of_ble_eq_true rfl) rfl rfl ?_
          rw [h6]
          refine R_call2 (Or.inr (Or.inl ⟨rfl, rfl⟩)) rfl rfl ⟨Nat.le_of_ble_eq_true rfl, Nat.le_of_ble_eq_true rfl⟩ (Nat.le_of_ble_eq_true rfl) ⟨rfl, rfl⟩ (⟨⟨_, _, _, rfl, (Nat.le_of_ble_eq_true rfl), rfl⟩, e2_byteAt h (by omega)⟩) ?_
          rw [x3]
          refine R_lsw 60 rfl (by decide) rfl ?_
          refine R1 (g' := (61, _, _, _, _, _)) rfl rfl ?_
          refine R1 (g' := (62, _, .int (nI 0) :: _, _, _, _)) rfl rfl ?_
          refine R_call2 (Or.inr (Or.inl ⟨rfl, rfl⟩)) rfl rfl ⟨Nat.le_of_ble_eq_true rfl, Nat.le_of_ble_eq_true rfl⟩ (Nat.le_of_ble_eq_true rfl) ⟨rfl, rfl⟩ (⟨⟨_, _, _, rfl, (Nat.le_of_ble_eq_true rfl), rfl⟩, hev⟩) ?_
          refine R_iret rfl ?_
          exact hk0
      · by_cases x4 : g p = nI 116
        · have hr : pRd g p = pBl g p 1 := (if_neg x1).trans ((if_neg x2).trans ((if_neg x3).trans (if_pos x4)))
          rw [hr]
          obtain ⟨o1, w1, hk, hev⟩ := e2_readBlows (q := 1) h hp
          refine xEv_ex (Nat.le_of_ble_eq_true rfl) (fun o1 w1 k => rdPo_ro k) ?_
          have hk0 := hk
          obtain ⟨s2, rfl, _, hk⟩ := hk
          revert hk hk0 hev
          cases pBl g p 1 with
          | inl e =>
            intro hev hk0 hk
            obtain ⟨rfl, hk⟩ := hk
            refine R1 (g' := (1, _, _, _, _, _)) rfl rfl ?_
            refine R1 (g' := (2, _, _, _, _, _)) rfl rfl ?_
            refine R_getf rfl rfl (Nat.le_of_ble_eq_true rfl) rfl rfl ?_
            rw [h6]
            refine R_call2 (Or.inr (Or.inl ⟨rfl, rfl⟩)) rfl rfl ⟨Nat.le_of_ble_eq_true rfl, Nat.le_of_ble_eq_true rfl⟩ (Nat.le_of_ble_eq_true rfl) ⟨rfl, rfl⟩ (⟨⟨_, _, _, rfl, (Nat.le_of_ble_eq_true rfl), rfl⟩, e2_byteAt h (by omega)⟩) ?_
            rw [x4]
            refine R_lsw 66 rfl (by decide) rfl ?_
            refine R1 (g' := (67, _, _, _, _, _)) rfl rfl ?_
            refine R1 (g' := (68, _, .int (nI 1) :: _, _, _, _)) rfl rfl ?_
            refine R_call2 (Or.inr (Or.inl ⟨rfl, rfl⟩)) rfl rfl ⟨Nat.le_of_ble_eq_true rfl, Nat.le_of_ble_eq_true rfl⟩ (Nat.le_of_ble_eq_true rfl) ⟨rfl, rfl⟩ (⟨⟨_, _, _, rfl, (Nat.le_of_ble_eq_true rfl), rfl⟩, hev⟩) ?_
            refine R_iret rfl ?_
            exact hk0
          | inr z =>
            intro hev hk0 hk
            obtain ⟨a, b, c, q⟩ := z
            obtain ⟨rfl, hk⟩ := hk
            refine R1 (g' := (1, _, _, _, _, _)) rfl rfl ?_
            refine R1 (g' := (2, _, _, _, _, _)) rfl rfl ?_
            refine R_getf rfl rfl (Nat.le_of_ble_eq_true rfl) rfl rfl ?_
            rw [h6]
            refine R_call2 (Or.inr (Or.inl ⟨rfl, rfl⟩)) rfl rfl ⟨Nat.le_of_ble_eq_true rfl, Nat.le_of_ble_eq_true rfl⟩ (Nat.le_of_ble_eq_true rfl) ⟨rfl, rfl⟩ (⟨⟨_, _, _, rfl, (Nat.le_of_ble_eq_true rfl), rfl⟩, e2_byteAt h (by omega)⟩) ?_
            rw [x4]
            refine R_lsw 66 rfl (by decide) rfl ?_
            refine R1 (g' := (67, _, _, _, _, _)) rfl rfl ?_
            refine R1 (g' := (68, _, .int (nI 1) :: _, _, _, _)) rfl rfl ?_
            refine R_call2 (Or.inr (Or.inl ⟨rfl, rfl⟩)) rfl rfl ⟨Nat.le_of_ble_eq_true rfl, Nat.le_of_ble_eq_true rfl⟩ (Nat.le_of_ble_eq_true rfl) ⟨rfl, rfl⟩ (⟨⟨_, _, _, rfl, (Nat.le_of_ble_eq_true rfl), rfl⟩, hev⟩) ?_
            refine R_iret rfl ?_
            exact hk0
        · by_cases x5 : g p = nI 117
          · have hr : pRd g p = pBl g p 2 := (if_neg x1).trans ((if_neg x2).trans ((if_neg x3).trans ((if_neg x4).trans (if_pos x5))))
            rw [hr]
            obtain ⟨o1, w1, hk, hev⟩ := e2_readBlows (q := 2) h hp
            refine xEv_ex (Nat.le_of_ble_eq_true rfl) (fun o1 w1 k => rdPo_ro k) ?_
            have hk0 := hk
            obtain ⟨s2, rfl, _, hk⟩ := hk
            revert hk hk0 hev
            cases pBl g p 2 with
            | inl e =>
              intro hev hk0 hk
              obtain ⟨rfl, hk⟩ := hk
              refine R1 (g' := (1, _, _, _, _, _)) rfl rfl ?_
              refine R1 (g' := (2, _, _, _, _, _)) rfl rfl ?_
              refine R_getf rfl rfl (Nat.le_of_ble_eq_true rfl) rfl rfl ?_
              rw [h6]
              refine R_call2 (Or.inr (Or.inl ⟨rfl, rfl⟩)) rfl rfl ⟨Nat.le_of_ble_eq_true rfl, Nat.le_of_ble_eq_true rfl⟩ (Nat.le_of_ble_eq_true rfl) ⟨rfl, rfl⟩ (⟨⟨_, _, _, rfl, (Nat.le_of_ble_eq_true rfl), rfl⟩, e2_byteAt h (by omega)⟩) ?_
              rw [x5]
              refine R_lsw 72 rfl (by decide) rfl ?_
              refine R1 (g' := (73, _, _, _, _, _)) rfl rfl ?_
              refine R1 (g' := (74, _, .int (nI 2) :: _, _, _, _)) rfl rfl ?_
              refine R_call2 (Or.inr (Or.inl ⟨rfl, rfl⟩)) rfl rfl ⟨Nat.le_of_ble_eq_true rfl, Nat.le_of_ble_eq_true rfl⟩ (Nat.le_of_ble_eq_true rfl) ⟨rfl, rfl⟩ (⟨⟨_, _, _, rfl, (Nat.le_of_ble_eq_true rfl), rfl⟩, hev⟩) ?_
              refine R_iret rfl ?_
              exact hk0
            | inr z =>
              intro hev hk0 hk
              obtain ⟨a, b, c, q⟩ := z
              obtain ⟨rfl, hk⟩ := hk
              refine R1 (g' := (1, _, _, _, _, _)) rfl rfl ?_
              refine R1 (g' := (2, _, _, _, _, _)) rfl rfl ?_
              refine R_getf rfl rfl (Nat.le_of_ble_eq_true rfl) rfl rfl ?_
              rw [h6]
              refine R_call2 (Or.inr (Or.inl ⟨rfl, rfl⟩)) rfl rfl ⟨Nat.le_of_ble_eq_true rfl, Nat.le_of_ble_eq_true rfl⟩ (Nat.le_of_ble_eq_true rfl) ⟨rfl, rfl⟩ (⟨⟨_, _, _, rfl, (Nat.le_of_ble_eq_true rfl), rfl⟩, e2_byteAt h (by omega)⟩) ?_
              rw [x5]
              refine R_lsw 72 rfl (by decide) rfl ?_
              refine R1 (g' := (73, _, _, _, _, _)) rfl rfl ?_
              refine R1 (g' := (74, _, .int (nI 2) :: _, _, _, _)) rfl rfl ?_
              refine R_call2 (Or.inr (Or.inl ⟨rfl, rfl⟩)) rfl rfl ⟨Nat.le_of_ble_eq_true rfl, Nat.le_of_ble_eq_true rfl⟩ (Nat.le_of_ble_eq_true rfl) ⟨rfl, rfl⟩ (⟨⟨_, _, _, rfl, (Nat.le_of_ble_eq_true rfl), rfl⟩, hev⟩) ?_
              refine R_iret rfl ?_
              exact hk0
          · have hr : pRd g p = .inl p := (if_neg x1).trans ((if_neg x2).trans ((if_neg x3).trans ((if_neg x4).trans (if_neg x5))))
            rw [hr]
            refine xEv_ex (Nat.le_of_ble_eq_true rfl) (fun o1 w1 k => rdPo_ro k) ?_
            have n1 := toInt_ne (by decide) x1
            have n2 := toInt_ne (by decide) x2
            have n3 := toInt_ne (by decide) x3
            have n4 := toInt_ne (by decide) x4
            have n5 := toInt_ne (by decide) x5
            refine R1 (g' := (1, _, _, _, _, _)) rfl rfl ?_
            refine R1 (g' := (2, _, _, _, _, _)) rfl rfl ?_
            refine R_getf rfl rfl (Nat.le_of_ble_eq_true rfl) rfl rfl ?_
            rw [h6]
            refine R_call2 (Or.inr (Or.inl ⟨rfl, rfl⟩)) rfl rfl ⟨Nat.le_of_ble_eq_true rfl, Nat.le_of_ble_eq_true rfl⟩ (Nat.le_of_ble_eq_true rfl) ⟨rfl, rfl⟩ (⟨⟨_, _, _, rfl, (Nat.le_of_ble_eq_true rfl), rfl⟩, e2_byteAt h (by omega)⟩) ?_
            refine R_lsw 107 rfl (by decide) (lsw_d n2 n3 n1 n4 n5) ?_
            refine R1 (g' := (108, _, _, _, _, _)) rfl rfl ?_
            refine R1 (g' := (109, _, _, _, _, _)) rfl rfl ?_
            refine R_getf rfl rfl (Nat.le_of_ble_eq_true rfl) rfl rfl ?_
            rw [h6]
            refine R_call2 (Or.inr (Or.inl ⟨rfl, rfl⟩)) rfl rfl ⟨Nat.le_of_ble_eq_true rfl, Nat.le_of_ble_eq_true rfl⟩ (Nat.le_of_ble_eq_true rfl) ⟨rfl, rfl⟩ (⟨⟨_, _, _, rfl, (Nat.le_of_ble_eq_true rfl), rfl⟩, e2_fail⟩) ?_
            refine R_iret rfl ?_
            exact ⟨_, rfl, cO_put cO_rf (Or.inr rfl), rfl, by rw [put_val, if_pos rfl, if_pos rfl]⟩
