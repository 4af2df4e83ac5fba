/-! the law's helpers: a call of the class whose refusals are told by number -/
def wo (s : xs) (F : Nat → Int64) : xw := (152, va_up (cells s) 151 (.inl (1, 1, .inr (.inl F))))
section XH
variable {M : xM} {Po : xO → xw → Prop} {pc : Nat} {lv : List (Nat × Value)} {r : List Value} {kc ks : Nat} {s : xs} {i : Instr} {F : Nat → Int64}
theorem R_lastO {x : Int64} {st : List Value} (h : xlk M.2.1 pc = some .lastore) (k : xRun M Po (pc + 1, lv, st, wo s (vp_updL F 0 x), kc, ks)) : xRun M Po (pc, lv, .long x :: .int (nI 0) :: .ref 151 :: st, wo s F, kc, ks) := by
  refine R0 h rfl ⟨1, F, ⟨Nat.le_of_ble_eq_true rfl, ?_⟩, nI_in (by decide) (by decide), ?_⟩
  · show va_up (cells s) 151 (.inl (1, 1, .inr (.inl F))) 151 = _
    rw [va_up_self]
  · show xRun M Po (pc + 1, lv, st, (152, va_up (va_up (cells s) 151 (.inl (1, 1, .inr (.inl F)))) 151 (.inl (1, 1, .inr (.inl (vp_updL F 0 x))))), kc, ks)
    rw [va_up_up]
    exact k
theorem R_callH {w w1 : xw} {avs : List Value} {st : List Value} {j key argc mc ms : Nat} {rel : xR} {E : String} {jv : Int32} (hi : i = .invokevirtual j ∧ key = 3 * j + 1) (h : xlk M.2.1 pc = some i) (hC : M.2.2.2.2.2.2.2.1 key = some (argc, mc, ms, rel)) (hs : st = avs.reverse ++ r) (hlen : avs.length = argc)
    (hc : kc + mc ≤ M.2.2.2.2.2.2.2.2.1 ∧ ks + ms ≤ M.2.2.2.2.2.2.2.2.2) (hcat : (r.map (fun v => v.category)).sum ≤ 8) (hok : okL w.1 lv = true ∧ okS w.1 r = true) (hr : rel avs w (.inr E) w1) (hH : M.2.2.2.2.2.2.1 pc E = some jv) (kk : Po (.inl (some (.int jv))) w1) : xRun M Po (pc, lv, st, w, kc, ks) := by
  obtain ⟨rfl, rfl⟩ := hi
  exact R0 h rfl ⟨argc, mc, ms, rel, avs, r, .inr E, w1, hC, hs, hlen, hr, hc.1, hc.2, hcat, hok.1, hok.2, by dsimp only; rw [hH]; exact kk⟩
end XH
def HP (f g : xR) (la ra : List Value) (s : xs) (F : Nat → Int64) : Prop := ∃ kk F' s1 v s2, f la (wo s F) (.inl (some (.int kk))) (wo s1 F') ∧ g ra (wd s1) (.inl (some (.int v))) (wd s2) ∧ Rl s2 ∧ s2.1 142 6 = kk ∧ (kk = 0 → F' 0 = v.toInt64)
theorem xbc_IAE : Cond.castable "java/lang/IllegalArgumentException" "java/lang/IllegalArgumentException" ∈ xB := List.mem_filter.mpr ⟨List.mem_of_getElem? (i := 603) (by decide +kernel), rfl⟩
theorem xbc_IOB : Cond.castable "java/lang/IndexOutOfBoundsException" "java/lang/IndexOutOfBoundsException" ∈ xB := List.mem_filter.mpr ⟨List.mem_of_getElem? (i := 694) (by decide +kernel), rfl⟩
theorem xbc_ISE : Cond.castable "java/lang/IllegalStateException" "java/lang/IllegalStateException" ∈ xB := List.mem_filter.mpr ⟨List.mem_of_getElem? (i := 710) (by decide +kernel), rfl⟩
theorem gw_590 : (Jvm.Cond.classLink "BarForgerLaw" (13 : Nat) "java/lang/IllegalArgumentException") ∈ gW := gW_in (List.mem_of_getElem? (i := 590) (by decide +kernel)) (by decide +kernel)
theorem gw_591 : (Jvm.Cond.methodLink "BarForgerLaw" (7 : Nat) ({ cls := "BarForger", name := "take", desc := "(III)I" } : Jvm.MethodName)) ∈ gW := gW_in (List.mem_of_getElem? (i := 591) (by decide +kernel)) (by decide +kernel)
theorem gw_592 : (Jvm.Cond.instanceMethod ({ cls := "BarForger", name := "take", desc := "(III)I" } : Jvm.MethodName)) ∈ gW := gW_in (List.mem_of_getElem? (i := 592) (by decide +kernel)) (by decide +kernel)
theorem gw_593 : (Jvm.Cond.selects "BarForger" ({ cls := "BarForger", name := "take", desc := "(III)I" } : Jvm.MethodName) ({ cls := "BarForger", name := "take", desc := "(III)I" } : Jvm.MethodName)) ∈ gW := gW_in (List.mem_of_getElem? (i := 593) (by decide +kernel)) (by decide +kernel)
theorem gw_594 : (Jvm.Cond.code ({ cls := "BarForger", name := "take", desc := "(III)I" } : Jvm.MethodName) prog_1_method_2_code (4 : Nat) (Option.some Jvm.ClassFile.FieldType.int)) ∈ gW := gW_in (List.mem_of_getElem? (i := 594) (by decide +kernel)) (by decide +kernel)
theorem gw_674 : (Jvm.Cond.methodLink "BarForgerLaw" (15 : Nat) ({ cls := "BarForger", name := "setScale", desc := "(I)I" } : Jvm.MethodName)) ∈ gW := gW_in (List.mem_of_getElem? (i := 674) (by decide +kernel)) (by decide +kernel)
theorem gw_675 : (Jvm.Cond.instanceMethod ({ cls := "BarForger", name := "setScale", desc := "(I)I" } : Jvm.MethodName)) ∈ gW := gW_in (List.mem_of_getElem? (i := 675) (by decide +kernel)) (by decide +kernel)
theorem gw_676 : (Jvm.Cond.selects "BarForger" ({ cls := "BarForger", name := "setScale", desc := "(I)I" } : Jvm.MethodName) ({ cls := "BarForger", name := "setScale", desc := "(I)I" } : Jvm.MethodName)) ∈ gW := gW_in (List.mem_of_getElem? (i := 676) (by decide +kernel)) (by decide +kernel)
theorem gw_677 : (Jvm.Cond.code ({ cls := "BarForger", name := "setScale", desc := "(I)I" } : Jvm.MethodName) prog_1_method_3_code (3 : Nat) (Option.some Jvm.ClassFile.FieldType.int)) ∈ gW := gW_in (List.mem_of_getElem? (i := 677) (by decide +kernel)) (by decide +kernel)
theorem gw_681 : (Jvm.Cond.classLink "BarForgerLaw" (22 : Nat) "java/lang/IndexOutOfBoundsException") ∈ gW := gW_in (List.mem_of_getElem? (i := 681) (by decide +kernel)) (by decide +kernel)
theorem gw_682 : (Jvm.Cond.classLink "BarForgerLaw" (24 : Nat) "java/lang/IllegalStateException") ∈ gW := gW_in (List.mem_of_getElem? (i := 682) (by decide +kernel)) (by decide +kernel)
theorem gw_683 : (Jvm.Cond.methodLink "BarForgerLaw" (19 : Nat) ({ cls := "BarForger", name := "blow", desc := "(III)I" } : Jvm.MethodName)) ∈ gW := gW_in (List.mem_of_getElem? (i := 683) (by decide +kernel)) (by decide +kernel)
theorem gw_684 : (Jvm.Cond.instanceMethod ({ cls := "BarForger", name := "blow", desc := "(III)I" } : Jvm.MethodName)) ∈ gW := gW_in (List.mem_of_getElem? (i := 684) (by decide +kernel)) (by decide +kernel)
theorem gw_685 : (Jvm.Cond.selects "BarForger" ({ cls := "BarForger", name := "blow", desc := "(III)I" } : Jvm.MethodName) ({ cls := "BarForger", name := "blow", desc := "(III)I" } : Jvm.MethodName)) ∈ gW := gW_in (List.mem_of_getElem? (i := 685) (by decide +kernel)) (by decide +kernel)
theorem gw_686 : (Jvm.Cond.code ({ cls := "BarForger", name := "blow", desc := "(III)I" } : Jvm.MethodName) prog_1_method_4_code (4 : Nat) (Option.some Jvm.ClassFile.FieldType.int)) ∈ gW := gW_in (List.mem_of_getElem? (i := 686) (by decide +kernel)) (by decide +kernel)
theorem gw_727 : (Jvm.Cond.methodLink "BarForgerLaw" (26 : Nat) ({ cls := "BarForger", name := "pause", desc := "(I)I" } : Jvm.MethodName)) ∈ gW := gW_in (List.mem_of_getElem? (i := 727) (by decide +kernel)) (by decide +kernel)
theorem gw_728 : (Jvm.Cond.instanceMethod ({ cls := "BarForger", name := "pause", desc := "(I)I" } : Jvm.MethodName)) ∈ gW := gW_in (List.mem_of_getElem? (i := 728) (by decide +kernel)) (by decide +kernel)
theorem gw_729 : (Jvm.Cond.selects "BarForger" ({ cls := "BarForger", name := "pause", desc := "(I)I" } : Jvm.MethodName) ({ cls := "BarForger", name := "pause", desc := "(I)I" } : Jvm.MethodName)) ∈ gW := gW_in (List.mem_of_getElem? (i := 729) (by decide +kernel)) (by decide +kernel)
theorem gw_730 : (Jvm.Cond.code ({ cls := "BarForger", name := "pause", desc := "(I)I" } : Jvm.MethodName) prog_1_method_6_code (2 : Nat) (Option.some Jvm.ClassFile.FieldType.int)) ∈ gW := gW_in (List.mem_of_getElem? (i := 730) (by decide +kernel)) (by decide +kernel)
theorem gw_735 : (Jvm.Cond.methodLink "BarForgerLaw" (29 : Nat) ({ cls := "BarForger", name := "cut", desc := "(II)I" } : Jvm.MethodName)) ∈ gW := gW_in (List.mem_of_getElem? (i := 735) (by decide +kernel)) (by decide +kernel)
theorem gw_736 : (Jvm.Cond.instanceMethod ({ cls := "BarForger", name := "cut", desc := "(II)I" } : Jvm.MethodName)) ∈ gW := gW_in (List.mem_of_getElem? (i := 736) (by decide +kernel)) (by decide +kernel)
theorem gw_737 : (Jvm.Cond.selects "BarForger" ({ cls := "BarForger", name := "cut", desc := "(II)I" } : Jvm.MethodName) ({ cls := "BarForger", name := "cut", desc := "(II)I" } : Jvm.MethodName)) ∈ gW := gW_in (List.mem_of_getElem? (i := 737) (by decide +kernel)) (by decide +kernel)
theorem gw_738 : (Jvm.Cond.code ({ cls := "BarForger", name := "cut", desc := "(II)I" } : Jvm.MethodName) prog_1_method_7_code (3 : Nat) (Option.some Jvm.ClassFile.FieldType.int)) ∈ gW := gW_in (List.mem_of_getElem? (i := 738) (by decide +kernel)) (by decide +kernel)
theorem gw_743 : (Jvm.Cond.methodLink "BarForgerLaw" (33 : Nat) ({ cls := "BarForger", name := "weld", desc := "(I)I" } : Jvm.MethodName)) ∈ gW := gW_in (List.mem_of_getElem? (i := 743) (by decide +kernel)) (by decide +kernel)
theorem gw_744 : (Jvm.Cond.instanceMethod ({ cls := "BarForger", name := "weld", desc := "(I)I" } : Jvm.MethodName)) ∈ gW := gW_in (List.mem_of_getElem? (i := 744) (by decide +kernel)) (by decide +kernel)
theorem gw_745 : (Jvm.Cond.selects "BarForger" ({ cls := "BarForger", name := "weld", desc := "(I)I" } : Jvm.MethodName) ({ cls := "BarForger", name := "weld", desc := "(I)I" } : Jvm.MethodName)) ∈ gW := gW_in (List.mem_of_getElem? (i := 745) (by decide +kernel)) (by decide +kernel)
theorem gw_746 : (Jvm.Cond.code ({ cls := "BarForger", name := "weld", desc := "(I)I" } : Jvm.MethodName) prog_1_method_8_code (2 : Nat) (Option.some Jvm.ClassFile.FieldType.int)) ∈ gW := gW_in (List.mem_of_getElem? (i := 746) (by decide +kernel)) (by decide +kernel)
theorem gw_761 : (Jvm.Cond.methodLink "BarForgerLaw" (36 : Nat) ({ cls := "BarForger", name := "crop", desc := "()I" } : Jvm.MethodName)) ∈ gW := gW_in (List.mem_of_getElem? (i := 761) (by decide +kernel)) (by decide +kernel)
theorem gw_762 : (Jvm.Cond.instanceMethod ({ cls := "BarForger", name := "crop", desc := "()I" } : Jvm.MethodName)) ∈ gW := gW_in (List.mem_of_getElem? (i := 762) (by decide +kernel)) (by decide +kernel)
theorem gw_763 : (Jvm.Cond.selects "BarForger" ({ cls := "BarForger", name := "crop", desc := "()I" } : Jvm.MethodName) ({ cls := "BarForger", name := "crop", desc := "()I" } : Jvm.MethodName)) ∈ gW := gW_in (List.mem_of_getElem? (i := 763) (by decide +kernel)) (by decide +kernel)
theorem gw_764 : (Jvm.Cond.code ({ cls := "BarForger", name := "crop", desc := "()I" } : Jvm.MethodName) prog_1_method_9_code (1 : Nat) (Option.some Jvm.ClassFile.FieldType.int)) ∈ gW := gW_in (List.mem_of_getElem? (i := 764) (by decide +kernel)) (by decide +kernel)
theorem gw_773 : (Jvm.Cond.methodLink "BarForgerLaw" (40 : Nat) ({ cls := "BarForger", name := "forge", desc := "(IIII)I" } : Jvm.MethodName)) ∈ gW := gW_in (List.mem_of_getElem? (i := 773) (by decide +kernel)) (by decide +kernel)
theorem gw_774 : (Jvm.Cond.instanceMethod ({ cls := "BarForger", name := "forge", desc := "(IIII)I" } : Jvm.MethodName)) ∈ gW := gW_in (List.mem_of_getElem? (i := 774) (by decide +kernel)) (by decide +kernel)
theorem gw_775 : (Jvm.Cond.selects "BarForger" ({ cls := "BarForger", name := "forge", desc := "(IIII)I" } : Jvm.MethodName) ({ cls := "BarForger", name := "forge", desc := "(IIII)I" } : Jvm.MethodName)) ∈ gW := gW_in (List.mem_of_getElem? (i := 775) (by decide +kernel)) (by decide +kernel)
theorem gw_776 : (Jvm.Cond.code ({ cls := "BarForger", name := "forge", desc := "(IIII)I" } : Jvm.MethodName) prog_1_method_10_code (6 : Nat) (Option.some Jvm.ClassFile.FieldType.int)) ∈ gW := gW_in (List.mem_of_getElem? (i := 776) (by decide +kernel)) (by decide +kernel)
theorem gw_784 : (Jvm.Cond.methodLink "BarForgerLaw" (44 : Nat) ({ cls := "BarForger", name := "part", desc := "(II)I" } : Jvm.MethodName)) ∈ gW := gW_in (List.mem_of_getElem? (i := 784) (by decide +kernel)) (by decide +kernel)
theorem gw_785 : (Jvm.Cond.instanceMethod ({ cls := "BarForger", name := "part", desc := "(II)I" } : Jvm.MethodName)) ∈ gW := gW_in (List.mem_of_getElem? (i := 785) (by decide +kernel)) (by decide +kernel)
theorem gw_786 : (Jvm.Cond.selects "BarForger" ({ cls := "BarForger", name := "part", desc := "(II)I" } : Jvm.MethodName) ({ cls := "BarForger", name := "part", desc := "(II)I" } : Jvm.MethodName)) ∈ gW := gW_in (List.mem_of_getElem? (i := 786) (by decide +kernel)) (by decide +kernel)
theorem gw_787 : (Jvm.Cond.code ({ cls := "BarForger", name := "part", desc := "(II)I" } : Jvm.MethodName) prog_1_method_11_code (3 : Nat) (Option.some Jvm.ClassFile.FieldType.int)) ∈ gW := gW_in (List.mem_of_getElem? (i := 787) (by decide +kernel)) (by decide +kernel)
theorem gw_791 : (Jvm.Cond.methodLink "BarForgerLaw" (47 : Nat) ({ cls := "BarForger", name := "value", desc := "(I)I" } : Jvm.MethodName)) ∈ gW := gW_in (List.mem_of_getElem? (i := 791) (by decide +kernel)) (by decide +kernel)
theorem gw_792 : (Jvm.Cond.instanceMethod ({ cls := "BarForger", name := "value", desc := "(I)I" } : Jvm.MethodName)) ∈ gW := gW_in (List.mem_of_getElem? (i := 792) (by decide +kernel)) (by decide +kernel)
theorem gw_793 : (Jvm.Cond.selects "BarForger" ({ cls := "BarForger", name := "value", desc := "(I)I" } : Jvm.MethodName) ({ cls := "BarForger", name := "value", desc := "(I)I" } : Jvm.MethodName)) ∈ gW := gW_in (List.mem_of_getElem? (i := 793) (by decide +kernel)) (by decide +kernel)
theorem gw_794 : (Jvm.Cond.code ({ cls := "BarForger", name := "value", desc := "(I)I" } : Jvm.MethodName) prog_1_method_12_code (2 : Nat) (Option.some Jvm.ClassFile.FieldType.int)) ∈ gW := gW_in (List.mem_of_getElem? (i := 794) (by decide +kernel)) (by decide +kernel)
theorem gw_798 : (Jvm.Cond.methodLink "BarForgerLaw" (50 : Nat) ({ cls := "BarForger", name := "tellStep", desc := "(IIII)I" } : Jvm.MethodName)) ∈ gW := gW_in (List.mem_of_getElem? (i := 798) (by decide +kernel)) (by decide +kernel)
theorem gw_799 : (Jvm.Cond.instanceMethod ({ cls := "BarForger", name := "tellStep", desc := "(IIII)I" } : Jvm.MethodName)) ∈ gW := gW_in (List.mem_of_getElem? (i := 799) (by decide +kernel)) (by decide +kernel)
theorem gw_800 : (Jvm.Cond.selects "BarForger" ({ cls := "BarForger", name := "tellStep", desc := "(IIII)I" } : Jvm.MethodName) ({ cls := "BarForger", name := "tellStep", desc := "(IIII)I" } : Jvm.MethodName)) ∈ gW := gW_in (List.mem_of_getElem? (i := 800) (by decide +kernel)) (by decide +kernel)
theorem gw_801 : (Jvm.Cond.code ({ cls := "BarForger", name := "tellStep", desc := "(IIII)I" } : Jvm.MethodName) prog_1_method_13_code (5 : Nat) (Option.some Jvm.ClassFile.FieldType.int)) ∈ gW := gW_in (List.mem_of_getElem? (i := 801) (by decide +kernel)) (by decide +kernel)
theorem gw_811 : (Jvm.Cond.methodLink "BarForgerLaw" (53 : Nat) ({ cls := "BarForger", name := "step", desc := "(II)I" } : Jvm.MethodName)) ∈ gW := gW_in (List.mem_of_getElem? (i := 811) (by decide +kernel)) (by decide +kernel)
theorem gw_812 : (Jvm.Cond.instanceMethod ({ cls := "BarForger", name := "step", desc := "(II)I" } : Jvm.MethodName)) ∈ gW := gW_in (List.mem_of_getElem? (i := 812) (by decide +kernel)) (by decide +kernel)
theorem gw_813 : (Jvm.Cond.selects "BarForger" ({ cls := "BarForger", name := "step", desc := "(II)I" } : Jvm.MethodName) ({ cls := "BarForger", name := "step", desc := "(II)I" } : Jvm.MethodName)) ∈ gW := gW_in (List.mem_of_getElem? (i := 813) (by decide +kernel)) (by decide +kernel)
theorem gw_814 : (Jvm.Cond.code ({ cls := "BarForger", name := "step", desc := "(II)I" } : Jvm.MethodName) prog_1_method_15_code (3 : Nat) (Option.some Jvm.ClassFile.FieldType.int)) ∈ gW := gW_in (List.mem_of_getElem? (i := 814) (by decide +kernel)) (by decide +kernel)
theorem gw_820 : (Jvm.Cond.methodLink "BarForgerLaw" (56 : Nat) ({ cls := "BarForger", name := "way", desc := "(IIII)I" } : Jvm.MethodName)) ∈ gW := gW_in (List.mem_of_getElem? (i := 820) (by decide +kernel)) (by decide +kernel)
theorem gw_821 : (Jvm.Cond.instanceMethod ({ cls := "BarForger", name := "way", desc := "(IIII)I" } : Jvm.MethodName)) ∈ gW := gW_in (List.mem_of_getElem? (i := 821) (by decide +kernel)) (by decide +kernel)
theorem gw_822 : (Jvm.Cond.selects "BarForger" ({ cls := "BarForger", name := "way", desc := "(IIII)I" } : Jvm.MethodName) ({ cls := "BarForger", name := "way", desc := "(IIII)I" } : Jvm.MethodName)) ∈ gW := gW_in (List.mem_of_getElem? (i := 822) (by decide +kernel)) (by decide +kernel)
theorem gw_823 : (Jvm.Cond.code ({ cls := "BarForger", name := "way", desc := "(IIII)I" } : Jvm.MethodName) prog_1_method_16_code (5 : Nat) (Option.some Jvm.ClassFile.FieldType.int)) ∈ gW := gW_in (List.mem_of_getElem? (i := 823) (by decide +kernel)) (by decide +kernel)
theorem gw_827 : (Jvm.Cond.methodLink "BarForgerLaw" (59 : Nat) ({ cls := "BarForger", name := "blowOf", desc := "(IIIII)I" } : Jvm.MethodName)) ∈ gW := gW_in (List.mem_of_getElem? (i := 827) (by decide +kernel)) (by decide +kernel)
theorem gw_828 : (Jvm.Cond.instanceMethod ({ cls := "BarForger", name := "blowOf", desc := "(IIIII)I" } : Jvm.MethodName)) ∈ gW := gW_in (List.mem_of_getElem? (i := 828) (by decide +kernel)) (by decide +kernel)
theorem gw_829 : (Jvm.Cond.selects "BarForger" ({ cls := "BarForger", name := "blowOf", desc := "(IIIII)I" } : Jvm.MethodName) ({ cls := "BarForger", name := "blowOf", desc := "(IIIII)I" } : Jvm.MethodName)) ∈ gW := gW_in (List.mem_of_getElem? (i := 829) (by decide +kernel)) (by decide +kernel)
theorem gw_830 : (Jvm.Cond.code ({ cls := "BarForger", name := "blowOf", desc := "(IIIII)I" } : Jvm.MethodName) prog_1_method_17_code (7 : Nat) (Option.some Jvm.ClassFile.FieldType.int)) ∈ gW := gW_in (List.mem_of_getElem? (i := 830) (by decide +kernel)) (by decide +kernel)
theorem gw_835 : (Jvm.Cond.methodLink "BarForgerLaw" (63 : Nat) ({ cls := "BarForger", name := "heatsTo", desc := "(IIII)I" } : Jvm.MethodName)) ∈ gW := gW_in (List.mem_of_getElem? (i := 835) (by decide +kernel)) (by decide +kernel)
theorem gw_836 : (Jvm.Cond.instanceMethod ({ cls := "BarForger", name := "heatsTo", desc := "(IIII)I" } : Jvm.MethodName)) ∈ gW := gW_in (List.mem_of_getElem? (i := 836) (by decide +kernel)) (by decide +kernel)
theorem gw_837 : (Jvm.Cond.selects "BarForger" ({ cls := "BarForger", name := "heatsTo", desc := "(IIII)I" } : Jvm.MethodName) ({ cls := "BarForger", name := "heatsTo", desc := "(IIII)I" } : Jvm.MethodName)) ∈ gW := gW_in (List.mem_of_getElem? (i := 837) (by decide +kernel)) (by decide +kernel)
theorem gw_838 : (Jvm.Cond.code ({ cls := "BarForger", name := "heatsTo", desc := "(IIII)I" } : Jvm.MethodName) prog_1_method_18_code (5 : Nat) (Option.some Jvm.ClassFile.FieldType.int)) ∈ gW := gW_in (List.mem_of_getElem? (i := 838) (by decide +kernel)) (by decide +kernel)
theorem gw_842 : (Jvm.Cond.methodLink "BarForgerLaw" (66 : Nat) ({ cls := "BarForger", name := "lengthAs", desc := "(II)I" } : Jvm.MethodName)) ∈ gW := gW_in (List.mem_of_getElem? (i := 842) (by decide +kernel)) (by decide +kernel)
theorem gw_843 : (Jvm.Cond.instanceMethod ({ cls := "BarForger", name := "lengthAs", desc := "(II)I" } : Jvm.MethodName)) ∈ gW := gW_in (List.mem_of_getElem? (i := 843) (by decide +kernel)) (by decide +kernel)
theorem gw_844 : (Jvm.Cond.selects "BarForger" ({ cls := "BarForger", name := "lengthAs", desc := "(II)I" } : Jvm.MethodName) ({ cls := "BarForger", name := "lengthAs", desc := "(II)I" } : Jvm.MethodName)) ∈ gW := gW_in (List.mem_of_getElem? (i := 844) (by decide +kernel)) (by decide +kernel)
theorem gw_845 : (Jvm.Cond.code ({ cls := "BarForger", name := "lengthAs", desc := "(II)I" } : Jvm.MethodName) prog_1_method_20_code (3 : Nat) (Option.some Jvm.ClassFile.FieldType.int)) ∈ gW := gW_in (List.mem_of_getElem? (i := 845) (by decide +kernel)) (by decide +kernel)
theorem gw_850 : (Jvm.Cond.methodLink "BarForgerLaw" (69 : Nat) ({ cls := "BarForger", name := "append", desc := "(I)I" } : Jvm.MethodName)) ∈ gW := gW_in (List.mem_of_getElem? (i := 850) (by decide +kernel)) (by decide +kernel)
theorem gw_851 : (Jvm.Cond.instanceMethod ({ cls := "BarForger", name := "append", desc := "(I)I" } : Jvm.MethodName)) ∈ gW := gW_in (List.mem_of_getElem? (i := 851) (by decide +kernel)) (by decide +kernel)
theorem gw_852 : (Jvm.Cond.selects "BarForger" ({ cls := "BarForger", name := "append", desc := "(I)I" } : Jvm.MethodName) ({ cls := "BarForger", name := "append", desc := "(I)I" } : Jvm.MethodName)) ∈ gW := gW_in (List.mem_of_getElem? (i := 852) (by decide +kernel)) (by decide +kernel)
theorem gw_853 : (Jvm.Cond.code ({ cls := "BarForger", name := "append", desc := "(I)I" } : Jvm.MethodName) prog_1_method_22_code (2 : Nat) (Option.some Jvm.ClassFile.FieldType.int)) ∈ gW := gW_in (List.mem_of_getElem? (i := 853) (by decide +kernel)) (by decide +kernel)
theorem gw_862 : (Jvm.Cond.methodLink "BarForgerLaw" (72 : Nat) ({ cls := "BarForger", name := "undo", desc := "()I" } : Jvm.MethodName)) ∈ gW := gW_in (List.mem_of_getElem? (i := 862) (by decide +kernel)) (by decide +kernel)
theorem gw_863 : (Jvm.Cond.instanceMethod ({ cls := "BarForger", name := "undo", desc := "()I" } : Jvm.MethodName)) ∈ gW := gW_in (List.mem_of_getElem? (i := 863) (by decide +kernel)) (by decide +kernel)
theorem gw_864 : (Jvm.Cond.selects "BarForger" ({ cls := "BarForger", name := "undo", desc := "()I" } : Jvm.MethodName) ({ cls := "BarForger", name := "undo", desc := "()I" } : Jvm.MethodName)) ∈ gW := gW_in (List.mem_of_getElem? (i := 864) (by decide +kernel)) (by decide +kernel)
theorem gw_865 : (Jvm.Cond.code ({ cls := "BarForger", name := "undo", desc := "()I" } : Jvm.MethodName) prog_1_method_25_code (1 : Nat) (Option.some Jvm.ClassFile.FieldType.int)) ∈ gW := gW_in (List.mem_of_getElem? (i := 865) (by decide +kernel)) (by decide +kernel)
def T_L_take : List (Nat × Instr) := [(0, .aload 4), (2, .iconst 0), (3, .aload_n 0), (4, .iload_n 1), (5, .iload_n 2), (6, .iload_n 3), (7, .invokevirtual 7), (10, .i2l), (11, .lastore), (12, .goto 7), (15, .astore 5), (17, .iconst 1), (18, .ireturn), (19, .iconst 0), (20, .ireturn)]
theorem tb_L_take : ∀ pc i, xlk T_L_take pc = some i → ∃ n, decode cL_take pc = .ok (i, xlen i n) := xTb_of (by decide +kernel)
abbrev rm_L_take : Room := { frames := 9, cells := 3, slots := 18, locals := 168 }
abbrev hh_L_take : List (Nat × Nat × Nat × Nat) := [(0, 12, 15, 13)]
def L_L_take : List (Nat × Nat × Nat × Nat × xR) := [(22, 4, 3, 18, xVR 8 (xFr Ev_X8_take))]
def HD_L_take : Nat → String → Option Int32 := fun pc E => bif Nat.beq pc 7 then (if E = "java/lang/IllegalArgumentException" then some (nI 1) else none) else none
def M_L_take : xM := (6, T_L_take, xal LF_L, xal LK_L, xal LN_L, xal [], HD_L_take, xcl L_L_take, 3, 18)
def Ev_L_take : xR := fun avs w o w1 => ∃ v0 : Int32, o = .inl (some (.int v0)) ∧ xEv M_L_take (some .int) avs w o w1
theorem hd_L_take : ∀ pc E j, HD_L_take pc E = some j → xHk RL cL_take 6 hh_L_take pc E j := by
  intro pc E j h
  unfold HD_L_take at h
  cases hb : Nat.beq pc 7 with
  | false =>
    rw [hb] at h
    cases h
  | true =>
    rw [hb] at h
    obtain rfl := Nat.eq_of_beq_eq_true hb
    dsimp only [cond_true] at h
    split at h
    · rename_i he
      subst he
      cases h
      exact ⟨[], ⟨0, 12, 15, 13⟩, [], _, 5, 2, .astore 5, 1, rfl, (fun _ h => absurd h List.not_mem_nil), by decide, by decide, gw_590, xbc_IAE, by decide, Or.inl ⟨rfl, rfl⟩, by decide +kernel, by decide +kernel, rfl, by decide +kernel⟩
    cases h
set_option maxRecDepth 100000 in
theorem snd_L_take {l : Launch} {D : va_G} {tc : Nat → ClassId} (hl : l.stackTraces = false) {avs : List Value} {w w1 : xw} {o : xO} (h : Ev_L_take avs w o w1) : w.1 ≤ w1.1 ∧ xCTW l D tc yL_take (.codeWith yL_take cL_take 6 (some .int) hh_L_take :: gW) rm_L_take avs w o w1 := by
  obtain ⟨v0, rfl, h⟩ := h
  exact met_soundW (y := yL_take) (M := M_L_take) (rm := rm_L_take) (hh := hh_L_take) (by decide +kernel) tb_L_take xK_L xClok_ok xF_L xN_L (fun _ h => nomatch (show (none : Option Value) = some _ from h)) xty_ok rfl rfl (fun _ _ h => nomatch (show (none : Option String) = some _ from h)) hd_L_take
    (fun p e s m args below meth c N0 ρ0 A0 Q hC hNs hZ => xCall_of (List.forall_mem_cons.mpr ⟨cok_VF (n := 3) (y := yX8_take) (bytes := cX8_take) (maxL := 4) (ret := (some .int)) (rm := rm_X8_take) hC hNs hZ rfl rfl ⟨gw_594, gw_1, gw_591, gw_592, gw_593⟩ (by decide +kernel) ⟨Nat.le_of_ble_eq_true rfl, Nat.le_of_ble_eq_true rfl⟩ (fun _ _ _ _ h => snd_X8_take hl h), (fun _ h => absurd h List.not_mem_nil)⟩)) h
theorem ev_L_take {s s1 : xs} {F : Nat → Int64} {p0 p1 p2 : Int32} {v : Int32} (h : Ev_X8_take [.ref 0, .int p0, .int p1, .int p2] (wd s) (.inl (some (.int v))) (wd s1)) : Ev_L_take [.ref 0, .int p0, .int p1, .int p2, .ref 151] (wo s F) (.inl (some (.int (nI 0)))) (wo s1 (vp_updL F 0 v.toInt64)) := by
  refine ⟨_, rfl, Nat.le_of_ble_eq_true rfl, Nat.le_refl _, Or.inl rfl, ?_⟩
  refine R1 (g' := (2, _, _, _, _, _)) rfl rfl ?_
  refine R1 (g' := (3, _, .int (nI 0) :: _, _, _, _)) rfl rfl ?_
  refine R1 (g' := (4, _, _, _, _, _)) rfl rfl ?_
  refine R1 (g' := (5, _, _, _, _, _)) rfl rfl ?_
  refine R1 (g' := (6, _, _, _, _, _)) rfl rfl ?_
  refine R1 (g' := (7, _, _, _, _, _)) rfl rfl ?_
  refine R_call (Or.inr (Or.inl ⟨rfl, rfl⟩)) rfl rfl (avs := [.ref 0, .int p0, .int p1, .int p2]) rfl rfl ⟨Nat.le_of_ble_eq_true rfl, Nat.le_of_ble_eq_true rfl⟩ (Nat.le_of_ble_eq_true rfl) ⟨rfl, rfl⟩ ⟨⟨_, _, _, rfl, Nat.le_of_ble_eq_true rfl, rfl⟩, _, _, F, rfl, rfl, h⟩ ?_
  change xRun _ _ (10, _, _, wo s1 F, _, _)
  refine R1 (g' := (11, _, _, _, _, _)) rfl rfl ?_
  refine R_lastO rfl ?_
  refine R1 (g' := (19, _, _, _, _, _)) rfl rfl ?_
  refine R1 (g' := (20, _, .int (nI 0) :: _, _, _, _)) rfl rfl ?_
  refine R_iret rfl ?_
  exact ⟨rfl, rfl⟩
theorem ex_L_take_0 {s s1 : xs} {F : Nat → Int64} {p0 p1 p2 : Int32} (h : Ev_X8_take [.ref 0, .int p0, .int p1, .int p2] (wd s) (.inr "java/lang/IllegalArgumentException") (wd s1)) : Ev_L_take [.ref 0, .int p0, .int p1, .int p2, .ref 151] (wo s F) (.inl (some (.int (nI 1)))) (wo s1 F) := by
  refine ⟨_, rfl, Nat.le_of_ble_eq_true rfl, Nat.le_refl _, Or.inl rfl, ?_⟩
  refine R1 (g' := (2, _, _, _, _, _)) rfl rfl ?_
  refine R1 (g' := (3, _, .int (nI 0) :: _, _, _, _)) rfl rfl ?_
  refine R1 (g' := (4, _, _, _, _, _)) rfl rfl ?_
  refine R1 (g' := (5, _, _, _, _, _)) rfl rfl ?_
  refine R1 (g' := (6, _, _, _, _, _)) rfl rfl ?_
  refine R1 (g' := (7, _, _, _, _, _)) rfl rfl ?_
  refine R_callH ⟨rfl, rfl⟩ rfl rfl (avs := [.ref 0, .int p0, .int p1, .int p2]) rfl rfl ⟨Nat.le_of_ble_eq_true rfl, Nat.le_of_ble_eq_true rfl⟩ (Nat.le_of_ble_eq_true rfl) ⟨rfl, rfl⟩ ⟨⟨_, _, _, rfl, Nat.le_of_ble_eq_true rfl, rfl⟩, _, _, F, rfl, rfl, h⟩ (by decide +kernel) ⟨rfl, rfl⟩
theorem hp_L_take {s : xs} {F : Nat → Int64} {p0 p1 p2 : Int32} (hP : Pair Ev_X8_take Ev_X9_take [.ref 0, .int p0, .int p1, .int p2] [.ref 142, .int p0, .int p1, .int p2] ["java/lang/IllegalArgumentException"] s) : HP Ev_L_take Ev_X9_take [.ref 0, .int p0, .int p1, .int p2, .ref 151] [.ref 142, .int p0, .int p1, .int p2] s F := by
  obtain ⟨o, s1, v, s2, h1, h2, hR, h3⟩ := hP
  rcases h3 with ⟨rfl, e⟩ | ⟨k, E, hk, rfl, e⟩
  · exact ⟨nI 0, vp_updL F 0 v.toInt64, s1, v, s2, ev_L_take h1, h2, hR, e, fun _ => by simp [vp_updL]⟩
  · match k, hk with
    | 0, hk =>
      cases hk
      exact ⟨nI 1, F, s1, v, s2, ex_L_take_0 h1, h2, hR, e, fun h => absurd h (by decide)⟩
    | k + 1, hk => cases hk
def T_L_setScale : List (Nat × Instr) := [(0, .aload_n 2), (1, .iconst 0), (2, .aload_n 0), (3, .iload_n 1), (4, .invokevirtual 15), (7, .i2l), (8, .lastore), (9, .goto 6), (12, .astore_n 3), (13, .iconst 1), (14, .ireturn), (15, .iconst 0), (16, .ireturn)]
theorem tb_L_setScale : ∀ pc i, xlk T_L_setScale pc = some i → ∃ n, decode cL_setScale pc = .ok (i, xlen i n) := xTb_of (by decide +kernel)
abbrev rm_L_setScale : Room := { frames := 8, cells := 1, slots := 6, locals := 167 }
abbrev hh_L_setScale : List (Nat × Nat × Nat × Nat) := [(0, 9, 12, 13)]
def L_L_setScale : List (Nat × Nat × Nat × Nat × xR) := [(46, 2, 1, 6, xVR 8 (xFr Ev_X8_setScale))]
def HD_L_setScale : Nat → String → Option Int32 := fun pc E => bif Nat.beq pc 4 then (if E = "java/lang/IllegalArgumentException" then some (nI 1) else none) else none
def M_L_setScale : xM := (4, T_L_setScale, xal LF_L, xal LK_L, xal LN_L, xal [], HD_L_setScale, xcl L_L_setScale, 1, 6)
def Ev_L_setScale : xR := fun avs w o w1 => ∃ v0 : Int32, o = .inl (some (.int v0)) ∧ xEv M_L_setScale (some .int) avs w o w1
theorem hd_L_setScale : ∀ pc E j, HD_L_setScale pc E = some j → xHk RL cL_setScale 4 hh_L_setScale pc E j := by
  intro pc E j h
  unfold HD_L_setScale at h
  cases hb : Nat.beq pc 4 with
  | false =>
    rw [hb] at h
    cases h
  | true =>
    rw [hb] at h
    obtain rfl := Nat.eq_of_beq_eq_true hb
    dsimp only [cond_true] at h
    split at h
    · rename_i he
      subst he
      cases h
      exact ⟨[], ⟨0, 9, 12, 13⟩, [], _, 3, 1, .astore_n 3, 1, rfl, (fun _ h => absurd h List.not_mem_nil), by decide, by decide, gw_590, xbc_IAE, by decide, Or.inr ⟨3, rfl, rfl, rfl⟩, by decide +kernel, by decide +kernel, rfl, by decide +kernel⟩
    cases h
set_option maxRecDepth 100000 in
theorem snd_L_setScale {l : Launch} {D : va_G} {tc : Nat → ClassId} (hl : l.stackTraces = false) {avs : List Value} {w w1 : xw} {o : xO} (h : Ev_L_setScale avs w o w1) : w.1 ≤ w1.1 ∧ xCTW l D tc yL_setScale (.codeWith yL_setScale cL_setScale 4 (some .int) hh_L_setScale :: gW) rm_L_setScale avs w o w1 := by
  obtain ⟨v0, rfl, h⟩ := h
  exact met_soundW (y := yL_setScale) (M := M_L_setScale) (rm := rm_L_setScale) (hh := hh_L_setScale) (by decide +kernel) tb_L_setScale xK_L xClok_ok xF_L xN_L (fun _ h => nomatch (show (none : Option Value) = some _ from h)) xty_ok rfl rfl (fun _ _ h => nomatch (show (none : Option String) = some _ from h)) hd_L_setScale
    (fun p e s m args below meth c N0 ρ0 A0 Q hC hNs hZ => xCall_of (List.forall_mem_cons.mpr ⟨cok_VF (n := 1) (y := yX8_setScale) (bytes := cX8_setScale) (maxL := 3) (ret := (some .int)) (rm := rm_X8_setScale) hC hNs hZ rfl rfl ⟨gw_677, gw_1, gw_674, gw_675, gw_676⟩ (by decide +kernel) ⟨Nat.le_of_ble_eq_true rfl, Nat.le_of_ble_eq_true rfl⟩ (fun _ _ _ _ h => snd_X8_setScale hl h), (fun _ h => absurd h List.not_mem_nil)⟩)) h
theorem ev_L_setScale {s s1 : xs} {F : Nat → Int64} {p0 : Int32} {v : Int32} (h : Ev_X8_setScale [.ref 0, .int p0] (wd s) (.inl (some (.int v))) (wd s1)) : Ev_L_setScale [.ref 0, .int p0, .ref 151] (wo s F) (.inl (some (.int (nI 0)))) (wo s1 (vp_updL F 0 v.toInt64)) := by
  refine ⟨_, rfl, Nat.le_of_ble_eq_true rfl, Nat.le_refl _, Or.inl rfl, ?_⟩
  refine R1 (g' := (1, _, _, _, _, _)) rfl rfl ?_
  refine R1 (g' := (2, _, .int (nI 0) :: _, _, _, _)) rfl rfl ?_
  refine R1 (g' := (3, _, _, _, _, _)) rfl rfl ?_
  refine R1 (g' := (4, _, _, _, _, _)) rfl rfl ?_
  refine R_call (Or.inr (Or.inl ⟨rfl, rfl⟩)) rfl rfl (avs := [.ref 0, .int p0]) rfl rfl ⟨Nat.le_of_ble_eq_true rfl, Nat.le_of_ble_eq_true rfl⟩ (Nat.le_of_ble_eq_true rfl) ⟨rfl, rfl⟩ ⟨⟨_, _, _, rfl, Nat.le_of_ble_eq_true rfl, rfl⟩, _, _, F, rfl, rfl, h⟩ ?_
  change xRun _ _ (7, _, _, wo s1 F, _, _)
  refine R1 (g' := (8, _, _, _, _, _)) rfl rfl ?_
  refine R_lastO rfl ?_
  refine R1 (g' := (15, _, _, _, _, _)) rfl rfl ?_
  refine R1 (g' := (16, _, .int (nI 0) :: _, _, _, _)) rfl rfl ?_
  refine R_iret rfl ?_
  exact ⟨rfl, rfl⟩
theorem ex_L_setScale_0 {s s1 : xs} {F : Nat → Int64} {p0 : Int32} (h : Ev_X8_setScale [.ref 0, .int p0] (wd s) (.inr "java/lang/IllegalArgumentException") (wd s1)) : Ev_L_setScale [.ref 0, .int p0, .ref 151] (wo s F) (.inl (some (.int (nI 1)))) (wo s1 F) := by
  refine ⟨_, rfl, Nat.le_of_ble_eq_true rfl, Nat.le_refl _, Or.inl rfl, ?_⟩
  refine R1 (g' := (1, _, _, _, _, _)) rfl rfl ?_
  refine R1 (g' := (2, _, .int (nI 0) :: _, _, _, _)) rfl rfl ?_
  refine R1 (g' := (3, _, _, _, _, _)) rfl rfl ?_
  refine R1 (g' := (4, _, _, _, _, _)) rfl rfl ?_
  refine R_callH ⟨rfl, rfl⟩ rfl rfl (avs := [.ref 0, .int p0]) rfl rfl ⟨Nat.le_of_ble_eq_true rfl, Nat.le_of_ble_eq_true rfl⟩ (Nat.le_of_ble_eq_true rfl) ⟨rfl, rfl⟩ ⟨⟨_, _, _, rfl, Nat.le_of_ble_eq_true rfl, rfl⟩, _, _, F, rfl, rfl, h⟩ (by decide +kernel) ⟨rfl, rfl⟩
theorem hp_L_setScale {s : xs} {F : Nat → Int64} {p0 : Int32} (hP : Pair Ev_X8_setScale Ev_X9_setScale [.ref 0, .int p0] [.ref 142, .int p0] ["java/lang/IllegalArgumentException"] s) : HP Ev_L_setScale Ev_X9_setScale [.ref 0, .int p0, .ref 151] [.ref 142, .int p0] s F := by
  obtain ⟨o, s1, v, s2, h1, h2, hR, h3⟩ := hP
  rcases h3 with ⟨rfl, e⟩ | ⟨k, E, hk, rfl, e⟩
  · exact ⟨nI 0, vp_updL F 0 v.toInt64, s1, v, s2, ev_L_setScale h1, h2, hR, e, fun _ => by simp [vp_updL]⟩
  · match k, hk with
    | 0, hk =>
      cases hk
      exact ⟨nI 1, F, s1, v, s2, ex_L_setScale_0 h1, h2, hR, e, fun h => absurd h (by decide)⟩
    | k + 1, hk => cases hk
def T_L_blow : List (Nat × Instr) := [(0, .aload 4), (2, .iconst 0), (3, .aload_n 0), (4, .iload_n 1), (5, .iload_n 2), (6, .iload_n 3), (7, .invokevirtual 19), (10, .i2l), (11, .lastore), (12, .goto 15), (15, .astore 5), (17, .iconst 1), (18, .ireturn), (19, .astore 5), (21, .iconst 2), (22, .ireturn), (23, .astore 5), (25, .iconst 3), (26, .ireturn), (27, .iconst 0), (28, .ireturn)]
theorem tb_L_blow : ∀ pc i, xlk T_L_blow pc = some i → ∃ n, decode cL_blow pc = .ok (i, xlen i n) := xTb_of (by decide +kernel)
abbrev rm_L_blow : Room := { frames := 8, cells := 4, slots := 24, locals := 168 }
abbrev hh_L_blow : List (Nat × Nat × Nat × Nat) := [(0, 12, 15, 22), (0, 12, 19, 13), (0, 12, 23, 24)]
def L_L_blow : List (Nat × Nat × Nat × Nat × xR) := [(58, 4, 4, 24, xVR 8 (xFr Ev_X8_blow))]
def HD_L_blow : Nat → String → Option Int32 := fun pc E => bif Nat.beq pc 7 then (if E = "java/lang/IndexOutOfBoundsException" then some (nI 1) else if E = "java/lang/IllegalArgumentException" then some (nI 2) else if E = "java/lang/IllegalStateException" then some (nI 3) else none) else none
def M_L_blow : xM := (6, T_L_blow, xal LF_L, xal LK_L, xal LN_L, xal [], HD_L_blow, xcl L_L_blow, 4, 24)
def Ev_L_blow : xR := fun avs w o w1 => ∃ v0 : Int32, o = .inl (some (.int v0)) ∧ xEv M_L_blow (some .int) avs w o w1
theorem hd_L_blow : ∀ pc E j, HD_L_blow pc E = some j → xHk RL cL_blow 6 hh_L_blow pc E j := by
  intro pc E j h
  unfold HD_L_blow at h
  cases hb : Nat.beq pc 7 with
  | false =>
    rw [hb] at h
    cases h
  | true =>
    rw [hb] at h
    obtain rfl := Nat.eq_of_beq_eq_true hb
    dsimp only [cond_true] at h
    split at h
    · rename_i he
      subst he
      cases h
      exact ⟨[], ⟨0, 12, 15, 22⟩, [⟨0, 12, 19, 13⟩, ⟨0, 12, 23, 24⟩], _, 5, 2, .astore 5, 1, rfl, (fun _ h => absurd h List.not_mem_nil), by decide, by decide, gw_681, xbc_IOB, by decide, Or.inl ⟨rfl, rfl⟩, by decide +kernel, by decide +kernel, rfl, by decide +kernel⟩
    split at h
    · rename_i he
      subst he
      cases h
      exact ⟨[⟨0, 12, 15, 22⟩], ⟨0, 12, 19, 13⟩, [⟨0, 12, 23, 24⟩], _, 5, 2, .astore 5, 2, rfl, (List.forall_mem_cons.mpr ⟨⟨by decide, _, gw_681, List.mem_of_getElem? (i := 0) rfl⟩, (fun _ h => absurd h List.not_mem_nil)⟩), by decide, by decide, gw_590, xbc_IAE, by decide, Or.inl ⟨rfl, rfl⟩, by decide +kernel, by decide +kernel, rfl, by decide +kernel⟩
    split at h
    · rename_i he
      subst he
      cases h
      exact ⟨[⟨0, 12, 15, 22⟩, ⟨0, 12, 19, 13⟩], ⟨0, 12, 23, 24⟩, [], _, 5, 2, .astore 5, 3, rfl, (List.forall_mem_cons.mpr ⟨⟨by decide, _, gw_681, List.mem_of_getElem? (i := 1) rfl⟩, (List.forall_mem_cons.mpr ⟨⟨by decide, _, gw_590, List.mem_of_getElem? (i := 2) rfl⟩, (fun _ h => absurd h List.not_mem_nil)⟩)⟩), by decide, by decide, gw_682, xbc_ISE, by decide, Or.inl ⟨rfl, rfl⟩, by decide +kernel, by decide +kernel, rfl, by decide +kernel⟩
    cases h
set_option maxRecDepth 100000 in
theorem snd_L_blow {l : Launch} {D : va_G} {tc : Nat → ClassId} (hl : l.stackTraces = false) {avs : List Value} {w w1 : xw} {o : xO} (h : Ev_L_blow avs w o w1) : w.1 ≤ w1.1 ∧ xCTW l D tc yL_blow (.codeWith yL_blow cL_blow 6 (some .int) hh_L_blow :: gW) rm_L_blow avs w o w1 := by
  obtain ⟨v0, rfl, h⟩ := h
  exact met_soundW (y := yL_blow) (M := M_L_blow) (rm := rm_L_blow) (hh := hh_L_blow) (by decide +kernel) tb_L_blow xK_L xClok_ok xF_L xN_L (fun _ h => nomatch (show (none : Option Value) = some _ from h)) xty_ok rfl rfl (fun _ _ h => nomatch (show (none : Option String) = some _ from h)) hd_L_blow
    (fun p e s m args below meth c N0 ρ0 A0 Q hC hNs hZ => xCall_of (List.forall_mem_cons.mpr ⟨cok_VF (n := 3) (y := yX8_blow) (bytes := cX8_blow) (maxL := 4) (ret := (some .int)) (rm := rm_X8_blow) hC hNs hZ rfl rfl ⟨gw_686, gw_1, gw_683, gw_684, gw_685⟩ (by decide +kernel) ⟨Nat.le_of_ble_eq_true rfl, Nat.le_of_ble_eq_true rfl⟩ (fun _ _ _ _ h => snd_X8_blow hl h), (fun _ h => absurd h List.not_mem_nil)⟩)) h
theorem ev_L_blow {s s1 : xs} {F : Nat → Int64} {p0 p1 p2 : Int32} {v : Int32} (h : Ev_X8_blow [.ref 0, .int p0, .int p1, .int p2] (wd s) (.inl (some (.int v))) (wd s1)) : Ev_L_blow [.ref 0, .int p0, .int p1, .int p2, .ref 151] (wo s F) (.inl (some (.int (nI 0)))) (wo s1 (vp_updL F 0 v.toInt64)) := by
  refine ⟨_, rfl, Nat.le_of_ble_eq_true rfl, Nat.le_refl _, Or.inl rfl, ?_⟩
  refine R1 (g' := (2, _, _, _, _, _)) rfl rfl ?_
  refine R1 (g' := (3, _, .int (nI 0) :: _, _, _, _)) rfl rfl ?_
  refine R1 (g' := (4, _, _, _, _, _)) rfl rfl ?_
  refine R1 (g' := (5, _, _, _, _, _)) rfl rfl ?_
  refine R1 (g' := (6, _, _, _, _, _)) rfl rfl ?_
  refine R1 (g' := (7, _, _, _, _, _)) rfl rfl ?_
  refine R_call (Or.inr (Or.inl ⟨rfl, rfl⟩)) rfl rfl (avs := [.ref 0, .int p0, .int p1, .int p2]) rfl rfl ⟨Nat.le_of_ble_eq_true rfl, Nat.le_of_ble_eq_true rfl⟩ (Nat.le_of_ble_eq_true rfl) ⟨rfl, rfl⟩ ⟨⟨_, _, _, rfl, Nat.le_of_ble_eq_true rfl, rfl⟩, _, _, F, rfl, rfl, h⟩ ?_
  change xRun _ _ (10, _, _, wo s1 F, _, _)
  refine R1 (g' := (11, _, _, _, _, _)) rfl rfl ?_
  refine R_lastO rfl ?_
  refine R1 (g' := (27, _, _, _, _, _)) rfl rfl ?_
  refine R1 (g' := (28, _, .int (nI 0) :: _, _, _, _)) rfl rfl ?_
  refine R_iret rfl ?_
  exact ⟨rfl, rfl⟩
theorem ex_L_blow_0 {s s1 : xs} {F : Nat → Int64} {p0 p1 p2 : Int32} (h : Ev_X8_blow [.ref 0, .int p0, .int p1, .int p2] (wd s) (.inr "java/lang/IndexOutOfBoundsException") (wd s1)) : Ev_L_blow [.ref 0, .int p0, .int p1, .int p2, .ref 151] (wo s F) (.inl (some (.int (nI 1)))) (wo s1 F) := by
  refine ⟨_, rfl, Nat.le_of_ble_eq_true rfl, Nat.le_refl _, Or.inl rfl, ?_⟩
  refine R1 (g' := (2, _, _, _, _, _)) rfl rfl ?_
  refine R1 (g' := (3, _, .int (nI 0) :: _, _, _, _)) rfl rfl ?_
  refine R1 (g' := (4, _, _, _, _, _)) rfl rfl ?_
  refine R1 (g' := (5, _, _, _, _, _)) rfl rfl ?_
  refine R1 (g' := (6, _, _, _, _, _)) rfl rfl ?_
  refine R1 (g' := (7, _, _, _, _, _)) rfl rfl ?_
  refine R_callH ⟨rfl, rfl⟩ rfl rfl (avs := [.ref 0, .int p0, .int p1, .int p2]) rfl rfl ⟨Nat.le_of_ble_eq_true rfl, Nat.le_of_ble_eq_true rfl⟩ (Nat.le_of_ble_eq_true rfl) ⟨rfl, rfl⟩ ⟨⟨_, _, _, rfl, Nat.le_of_ble_eq_true rfl, rfl⟩, _, _, F, rfl, rfl, h⟩ (by decide +kernel) ⟨rfl, rfl⟩
theorem ex_L_blow_1 {s s1 : xs} {F : Nat → Int64} {p0 p1 p2 : Int32} (h : Ev_X8_blow [.ref 0, .int p0, .int p1, .int p2] (wd s) (.inr "java/lang/IllegalArgumentException") (wd s1)) : Ev_L_blow [.ref 0, .int p0, .int p1, .int p2, .ref 151] (wo s F) (.inl (some (.int (nI 2)))) (wo s1 F) := by
  refine ⟨_, rfl, Nat.le_of_ble_eq_true rfl, Nat.le_refl _, Or.inl rfl, ?_⟩
  refine R1 (g' := (2, _, _, _, _, _)) rfl rfl ?_
  refine R1 (g' := (3, _, .int (nI 0) :: _, _, _, _)) rfl rfl ?_
  refine R1 (g' := (4, _, _, _, _, _)) rfl rfl ?_
  refine R1 (g' := (5, _, _, _, _, _)) rfl rfl ?_
  refine R1 (g' := (6, _, _, _, _, _)) rfl rfl ?_
  refine R1 (g' := (7, _, _, _, _, _)) rfl rfl ?_
  refine R_callH ⟨rfl, rfl⟩ rfl rfl (avs := [.ref 0, .int p0, .int p1, .int p2]) rfl rfl ⟨Nat.le_of_ble_eq_true rfl, Nat.le_of_ble_eq_true rfl⟩ (Nat.le_of_ble_eq_true rfl) ⟨rfl, rfl⟩ ⟨⟨_, _, _, rfl, Nat.le_of_ble_eq_true rfl, rfl⟩, _, _, F, rfl, rfl, h⟩ (by decide +kernel) ⟨rfl, rfl⟩
theorem ex_L_blow_2 {s s1 : xs} {F : Nat → Int64} {p0 p1 p2 : Int32} (h : Ev_X8_blow [.ref 0, .int p0, .int p1, .int p2] (wd s) (.inr "java/lang/IllegalStateException") (wd s1)) : Ev_L_blow [.ref 0, .int p0, .int p1, .int p2, .ref 151] (wo s F) (.inl (some (.int (nI 3)))) (wo s1 F) := by
  refine ⟨_, rfl, Nat.le_of_ble_eq_true rfl, Nat.le_refl _, Or.inl rfl, ?_⟩
  refine R1 (g' := (2, _, _, _, _, _)) rfl rfl ?_
  refine R1 (g' := (3, _, .int (nI 0) :: _, _, _, _)) rfl rfl ?_
  refine R1 (g' := (4, _, _, _, _, _)) rfl rfl ?_
  refine R1 (g' := (5, _, _, _, _, _)) rfl rfl ?_
  refine R1 (g' := (6, _, _, _, _, _)) rfl rfl ?_
  refine R1 (g' := (7, _, _, _, _, _)) rfl rfl ?_
  refine R_callH ⟨rfl, rfl⟩ rfl rfl (avs := [.ref 0, .int p0, .int p1, .int p2]) rfl rfl ⟨Nat.le_of_ble_eq_true rfl, Nat.le_of_ble_eq_true rfl⟩ (Nat.le_of_ble_eq_true rfl) ⟨rfl, rfl⟩ ⟨⟨_, _, _, rfl, Nat.le_of_ble_eq_true rfl, rfl⟩, _, _, F, rfl, rfl, h⟩ (by decide +kernel) ⟨rfl, rfl⟩
theorem hp_L_blow {s : xs} {F : Nat → Int64} {p0 p1 p2 : Int32} (hP : Pair Ev_X8_blow Ev_X9_blow [.ref 0, .int p0, .int p1, .int p2] [.ref 142, .int p0, .int p1, .int p2] ["java/lang/IndexOutOfBoundsException", "java/lang/IllegalArgumentException", "java/lang/IllegalStateException"] s) : HP Ev_L_blow Ev_X9_blow [.ref 0, .int p0, .int p1, .int p2, .ref 151] [.ref 142, .int p0, .int p1, .int p2] s F := by
  obtain ⟨o, s1, v, s2, h1, h2, hR, h3⟩ := hP
  rcases h3 with ⟨rfl, e⟩ | ⟨k, E, hk, rfl, e⟩
  · exact ⟨nI 0, vp_updL F 0 v.toInt64, s1, v, s2, ev_L_blow h1, h2, hR, e, fun _ => by simp [vp_updL]⟩
  · match k, hk with
    | 0, hk =>
      cases hk
      exact ⟨nI 1, F, s1, v, s2, ex_L_blow_0 h1, h2, hR, e, fun h => absurd h (by decide)⟩
    | 1, hk =>
      cases hk
      exact ⟨nI 2, F, s1, v, s2, ex_L_blow_1 h1, h2, hR, e, fun h => absurd h (by decide)⟩
    | 2, hk =>
      cases hk
      exact ⟨nI 3, F, s1, v, s2, ex_L_blow_2 h1, h2, hR, e, fun h => absurd h (by decide)⟩
    | k + 3, hk => cases hk
def T_L_pause : List (Nat × Instr) := [(0, .aload_n 2), (1, .iconst 0), (2, .aload_n 0), (3, .iload_n 1), (4, .invokevirtual 26), (7, .i2l), (8, .lastore), (9, .goto 6), (12, .astore_n 3), (13, .iconst 1), (14, .ireturn), (15, .iconst 0), (16, .ireturn)]
theorem tb_L_pause : ∀ pc i, xlk T_L_pause pc = some i → ∃ n, decode cL_pause pc = .ok (i, xlen i n) := xTb_of (by decide +kernel)
abbrev rm_L_pause : Room := { frames := 8, cells := 1, slots := 6, locals := 166 }
abbrev hh_L_pause : List (Nat × Nat × Nat × Nat) := [(0, 9, 12, 13)]
def L_L_pause : List (Nat × Nat × Nat × Nat × xR) := [(79, 2, 1, 6, xVR 8 (xFr Ev_X8_pause))]
def HD_L_pause : Nat → String → Option Int32 := fun pc E => bif Nat.beq pc 4 then (if E = "java/lang/IllegalArgumentException" then some (nI 1) else none) else none
def M_L_pause : xM := (4, T_L_pause, xal LF_L, xal LK_L, xal LN_L, xal [], HD_L_pause, xcl L_L_pause, 1, 6)
def Ev_L_pause : xR := fun avs w o w1 => ∃ v0 : Int32, o = .inl (some (.int v0)) ∧ xEv M_L_pause (some .int) avs w o w1
theorem hd_L_pause : ∀ pc E j, HD_L_pause pc E = some j → xHk RL cL_pause 4 hh_L_pause pc E j := by
  intro pc E j h
  unfold HD_L_pause at h
  cases hb : Nat.beq pc 4 with
  | false =>
    rw [hb] at h
    cases h
  | true =>
    rw [hb] at h
    obtain rfl := Nat.eq_of_beq_eq_true hb
    dsimp only [cond_true] at h
    split at h
    · rename_i he
      subst he
      cases h
      exact ⟨[], ⟨0, 9, 12, 13⟩, [], _, 3, 1, .astore_n 3, 1, rfl, (fun _ h => absurd h List.not_mem_nil), by decide, by decide, gw_590, xbc_IAE, by decide, Or.inr ⟨3, rfl, rfl, rfl⟩, by decide +kernel, by decide +kernel, rfl, by decide +kernel⟩
    cases h
set_option maxRecDepth 100000 in
theorem snd_L_pause {l : Launch} {D : va_G} {tc : Nat → ClassId} (hl : l.stackTraces = false) {avs : List Value} {w w1 : xw} {o : xO} (h : Ev_L_pause avs w o w1) : w.1 ≤ w1.1 ∧ xCTW l D tc yL_pause (.codeWith yL_pause cL_pause 4 (some .int) hh_L_pause :: gW) rm_L_pause avs w o w1 := by
  obtain ⟨v0, rfl, h⟩ := h
  exact met_soundW (y := yL_pause) (M := M_L_pause) (rm := rm_L_pause) (hh := hh_L_pause) (by decide +kernel) tb_L_pause xK_L xClok_ok xF_L xN_L (fun _ h => nomatch (show (none : Option Value) = some _ from h)) xty_ok rfl rfl (fun _ _ h => nomatch (show (none : Option String) = some _ from h)) hd_L_pause
    (fun p e s m args below meth c N0 ρ0 A0 Q hC hNs hZ => xCall_of (List.forall_mem_cons.mpr ⟨cok_VF (n := 1) (y := yX8_pause) (bytes := cX8_pause) (maxL := 2) (ret := (some .int)) (rm := rm_X8_pause) hC hNs hZ rfl rfl ⟨gw_730, gw_1, gw_727, gw_728, gw_729⟩ (by decide +kernel) ⟨Nat.le_of_ble_eq_true rfl, Nat.le_of_ble_eq_true rfl⟩ (fun _ _ _ _ h => snd_X8_pause hl h), (fun _ h => absurd h List.not_mem_nil)⟩)) h
theorem ev_L_pause {s s1 : xs} {F : Nat → Int64} {p0 : Int32} {v : Int32} (h : Ev_X8_pause [.ref 0, .int p0] (wd s) (.inl (some (.int v))) (wd s1)) : Ev_L_pause [.ref 0, .int p0, .ref 151] (wo s F) (.inl (some (.int (nI 0)))) (wo s1 (vp_updL F 0 v.toInt64)) := by
  refine ⟨_, rfl, Nat.le_of_ble_eq_true rfl, Nat.le_refl _, Or.inl rfl, ?_⟩
  refine R1 (g' := (1, _, _, _, _, _)) rfl rfl ?_
  refine R1 (g' := (2, _, .int (nI 0) :: _, _, _, _)) rfl rfl ?_
  refine R1 (g' := (3, _, _, _, _, _)) rfl rfl ?_
  refine R1 (g' := (4, _, _, _, _, _)) rfl rfl ?_
  refine R_call (Or.inr (Or.inl ⟨rfl, rfl⟩)) rfl rfl (avs := [.ref 0, .int p0]) rfl rfl ⟨Nat.le_of_ble_eq_true rfl, Nat.le_of_ble_eq_true rfl⟩ (Nat.le_of_ble_eq_true rfl) ⟨rfl, rfl⟩ ⟨⟨_, _, _, rfl, Nat.le_of_ble_eq_true rfl, rfl⟩, _, _, F, rfl, rfl, h⟩ ?_
  change xRun _ _ (7, _, _, wo s1 F, _, _)
  refine R1 (g' := (8, _, _, _, _, _)) rfl rfl ?_
  refine R_lastO rfl ?_
  refine R1 (g' := (15, _, _, _, _, _)) rfl rfl ?_
  refine R1 (g' := (16, _, .int (nI 0) :: _, _, _, _)) rfl rfl ?_
  refine R_iret rfl ?_
  exact ⟨rfl, rfl⟩
theorem ex_L_pause_0 {s s1 : xs} {F : Nat → Int64} {p0 : Int32} (h : Ev_X8_pause [.ref 0, .int p0] (wd s) (.inr "java/lang/IllegalArgumentException") (wd s1)) : Ev_L_pause [.ref 0, .int p0, .ref 151] (wo s F) (.inl (some (.int (nI 1)))) (wo s1 F) := by
  refine ⟨_, rfl, Nat.le_of_ble_eq_true rfl, Nat.le_refl _, Or.inl rfl, ?_⟩
  refine R1 (g' := (1, _, _, _, _, _)) rfl rfl ?_
  refine R1 (g' := (2, _, .int (nI 0) :: _, _, _, _)) rfl rfl ?_
  refine R1 (g' := (3, _, _, _, _, _)) rfl rfl ?_
  refine R1 (g' := (4, _, _, _, _, _)) rfl rfl ?_
  refine R_callH ⟨rfl, rfl⟩ rfl rfl (avs := [.ref 0, .int p0]) rfl rfl ⟨Nat.le_of_ble_eq_true rfl, Nat.le_of_ble_eq_true rfl⟩ (Nat.le_of_ble_eq_true rfl) ⟨rfl, rfl⟩ ⟨⟨_, _, _, rfl, Nat.le_of_ble_eq_true rfl, rfl⟩, _, _, F, rfl, rfl, h⟩ (by decide +kernel) ⟨rfl, rfl⟩
theorem hp_L_pause {s : xs} {F : Nat → Int64} {p0 : Int32} (hP : Pair Ev_X8_pause Ev_X9_pause [.ref 0, .int p0] [.ref 142, .int p0] ["java/lang/IllegalArgumentException"] s) : HP Ev_L_pause Ev_X9_pause [.ref 0, .int p0, .ref 151] [.ref 142, .int p0] s F := by
  obtain ⟨o, s1, v, s2, h1, h2, hR, h3⟩ := hP
  rcases h3 with ⟨rfl, e⟩ | ⟨k, E, hk, rfl, e⟩
  · exact ⟨nI 0, vp_updL F 0 v.toInt64, s1, v, s2, ev_L_pause h1, h2, hR, e, fun _ => by simp [vp_updL]⟩
  · match k, hk with
    | 0, hk =>
      cases hk
      exact ⟨nI 1, F, s1, v, s2, ex_L_pause_0 h1, h2, hR, e, fun h => absurd h (by decide)⟩
    | k + 1, hk => cases hk
def T_L_cut : List (Nat × Instr) := [(0, .aload_n 3), (1, .iconst 0), (2, .aload_n 0), (3, .iload_n 1), (4, .iload_n 2), (5, .invokevirtual 29), (8, .i2l), (9, .lastore), (10, .goto 15), (13, .astore 4), (15, .iconst 1), (16, .ireturn), (17, .astore 4), (19, .iconst 2), (20, .ireturn), (21, .astore 4), (23, .iconst 3), (24, .ireturn), (25, .iconst 0), (26, .ireturn)]
theorem tb_L_cut : ∀ pc i, xlk T_L_cut pc = some i → ∃ n, decode cL_cut pc = .ok (i, xlen i n) := xTb_of (by decide +kernel)
abbrev rm_L_cut : Room := { frames := 8, cells := 3, slots := 18, locals := 167 }
abbrev hh_L_cut : List (Nat × Nat × Nat × Nat) := [(0, 10, 13, 22), (0, 10, 17, 13), (0, 10, 21, 24)]
def L_L_cut : List (Nat × Nat × Nat × Nat × xR) := [(88, 3, 3, 18, xVR 8 (xFr Ev_X8_cut))]
def HD_L_cut : Nat → String → Option Int32 := fun pc E => bif Nat.beq pc 5 then (if E = "java/lang/IndexOutOfBoundsException" then some (nI 1) else if E = "java/lang/IllegalArgumentException" then some (nI 2) else if E = "java/lang/IllegalStateException" then some (nI 3) else none) else none
def M_L_cut : xM := (5, T_L_cut, xal LF_L, xal LK_L, xal LN_L, xal [], HD_L_cut, xcl L_L_cut, 3, 18)
def Ev_L_cut : xR := fun avs w o w1 => ∃ v0 : Int32, o = .inl (some (.int v0)) ∧ xEv M_L_cut (some .int) avs w o w1
theorem hd_L_cut : ∀ pc E j, HD_L_cut pc E = some j → xHk RL cL_cut 5 hh_L_cut pc E j := by
  intro pc E j h
  unfold HD_L_cut at h
  cases hb : Nat.beq pc 5 with
  | false =>
    rw [hb] at h
    cases h
  | true =>
    rw [hb] at h
    obtain rfl := Nat.eq_of_beq_eq_true hb
    dsimp only [cond_true] at h
    split at h
    · rename_i he
      subst he
      cases h
      exact ⟨[], ⟨0, 10, 13, 22⟩, [⟨0, 10, 17, 13⟩, ⟨0, 10, 21, 24⟩], _, 4, 2, .astore 4, 1, rfl, (fun _ h => absurd h List.not_mem_nil), by decide, by decide, gw_681, xbc_IOB, by decide, Or.inl ⟨rfl, rfl⟩, by decide +kernel, by decide +kernel, rfl, by decide +kernel⟩
    split at h
    · rename_i he
      subst he
      cases h
      exact ⟨[⟨0, 10, 13, 22⟩], ⟨0, 10, 17, 13⟩, [⟨0, 10, 21, 24⟩], _, 4, 2, .astore 4, 2, rfl, (List.forall_mem_cons.mpr ⟨⟨by decide, _, gw_681, List.mem_of_getElem? (i := 0) rfl⟩, (fun _ h => absurd h List.not_mem_nil)⟩), by decide, by decide, gw_590, xbc_IAE, by decide, Or.inl ⟨rfl, rfl⟩, by decide +kernel, by decide +kernel, rfl, by decide +kernel⟩
    split at h
    · rename_i he
      subst he
      cases h
      exact ⟨[⟨0, 10, 13, 22⟩, ⟨0, 10, 17, 13⟩], ⟨0, 10, 21, 24⟩, [], _, 4, 2, .astore 4, 3, rfl, (List.forall_mem_cons.mpr ⟨⟨by decide, _, gw_681, List.mem_of_getElem? (i := 1) rfl⟩, (List.forall_mem_cons.mpr ⟨⟨by decide, _, gw_590, List.mem_of_getElem? (i := 2) rfl⟩, (fun _ h => absurd h List.not_mem_nil)⟩)⟩), by decide, by decide, gw_682, xbc_ISE, by decide, Or.inl ⟨rfl, rfl⟩, by decide +kernel, by decide +kernel, rfl, by decide +kernel⟩
    cases h
set_option maxRecDepth 100000 in
theorem snd_L_cut {l : Launch} {D : va_G} {tc : Nat → ClassId} (hl : l.stackTraces = false) {avs : List Value} {w w1 : xw} {o : xO} (h : Ev_L_cut avs w o w1) : w.1 ≤ w1.1 ∧ xCTW l D tc yL_cut (.codeWith yL_cut cL_cut 5 (some .int) hh_L_cut :: gW) rm_L_cut avs w o w1 := by
  obtain ⟨v0, rfl, h⟩ := h
  exact met_soundW (y := yL_cut) (M := M_L_cut) (rm := rm_L_cut) (hh := hh_L_cut) (by decide +kernel) tb_L_cut xK_L xClok_ok xF_L xN_L (fun _ h => nomatch (show (none : Option Value) = some _ from h)) xty_ok rfl rfl (fun _ _ h => nomatch (show (none : Option String) = some _ from h)) hd_L_cut
    (fun p e s m args below meth c N0 ρ0 A0 Q hC hNs hZ => xCall_of (List.forall_mem_cons.mpr ⟨cok_VF (n := 2) (y := yX8_cut) (bytes := cX8_cut) (maxL := 3) (ret := (some .int)) (rm := rm_X8_cut) hC hNs hZ rfl rfl ⟨gw_738, gw_1, gw_735, gw_736, gw_737⟩ (by decide +kernel) ⟨Nat.le_of_ble_eq_true rfl, Nat.le_of_ble_eq_true rfl⟩ (fun _ _ _ _ h => snd_X8_cut hl h), (fun _ h => absurd h List.not_mem_nil)⟩)) h
theorem ev_L_cut {s s1 : xs} {F : Nat → Int64} {p0 p1 : Int32} {v : Int32} (h : Ev_X8_cut [.ref 0, .int p0, .int p1] (wd s) (.inl (some (.int v))) (wd s1)) : Ev_L_cut [.ref 0, .int p0, .int p1, .ref 151] (wo s F) (.inl (some (.int (nI 0)))) (wo s1 (vp_updL F 0 v.toInt64)) := by
  refine ⟨_, rfl, Nat.le_of_ble_eq_true rfl, Nat.le_refl _, Or.inl rfl, ?_⟩
  refine R1 (g' := (1, _, _, _, _, _)) rfl rfl ?_
  refine R1 (g' := (2, _, .int (nI 0) :: _, _, _, _)) rfl rfl ?_
  refine R1 (g' := (3, _, _, _, _, _)) rfl rfl ?_
  refine R1 (g' := (4, _, _, _, _, _)) rfl rfl ?_
  refine R1 (g' := (5, _, _, _, _, _)) rfl rfl ?_
  refine R_call (Or.inr (Or.inl ⟨rfl, rfl⟩)) rfl rfl (avs := [.ref 0, .int p0, .int p1]) rfl rfl ⟨Nat.le_of_ble_eq_true rfl, Nat.le_of_ble_eq_true rfl⟩ (Nat.le_of_ble_eq_true rfl) ⟨rfl, rfl⟩ ⟨⟨_, _, _, rfl, Nat.le_of_ble_eq_true rfl, rfl⟩, _, _, F, rfl, rfl, h⟩ ?_
  change xRun _ _ (8, _, _, wo s1 F, _, _)
  refine R1 (g' := (9, _, _, _, _, _)) rfl rfl ?_
  refine R_lastO rfl ?_
  refine R1 (g' := (25, _, _, _, _, _)) rfl rfl ?_
  refine R1 (g' := (26, _, .int (nI 0) :: _, _, _, _)) rfl rfl ?_
  refine R_iret rfl ?_
  exact ⟨rfl, rfl⟩
theorem ex_L_cut_0 {s s1 : xs} {F : Nat → Int64} {p0 p1 : Int32} (h : Ev_X8_cut [.ref 0, .int p0, .int p1] (wd s) (.inr "java/lang/IndexOutOfBoundsException") (wd s1)) : Ev_L_cut [.ref 0, .int p0, .int p1, .ref 151] (wo s F) (.inl (some (.int (nI 1)))) (wo s1 F) := by
  refine ⟨_, rfl, Nat.le_of_ble_eq_true rfl, Nat.le_refl _, Or.inl rfl, ?_⟩
  refine R1 (g' := (1, _, _, _, _, _)) rfl rfl ?_
  refine R1 (g' := (2, _, .int (nI 0) :: _, _, _, _)) rfl rfl ?_
  refine R1 (g' := (3, _, _, _, _, _)) rfl rfl ?_
  refine R1 (g' := (4, _, _, _, _, _)) rfl rfl ?_
  refine R1 (g' := (5, _, _, _, _, _)) rfl rfl ?_
  refine R_callH ⟨rfl, rfl⟩ rfl rfl (avs := [.ref 0, .int p0, .int p1]) rfl rfl ⟨Nat.le_of_ble_eq_true rfl, Nat.le_of_ble_eq_true rfl⟩ (Nat.le_of_ble_eq_true rfl) ⟨rfl, rfl⟩ ⟨⟨_, _, _, rfl, Nat.le_of_ble_eq_true rfl, rfl⟩, _, _, F, rfl, rfl, h⟩ (by decide +kernel) ⟨rfl, rfl⟩
theorem ex_L_cut_1 {s s1 : xs} {F : Nat → Int64} {p0 p1 : Int32} (h : Ev_X8_cut [.ref 0, .int p0, .int p1] (wd s) (.inr "java/lang/IllegalArgumentException") (wd s1)) : Ev_L_cut [.ref 0, .int p0, .int p1, .ref 151] (wo s F) (.inl (some (.int (nI 2)))) (wo s1 F) := by
  refine ⟨_, rfl, Nat.le_of_ble_eq_true rfl, Nat.le_refl _, Or.inl rfl, ?_⟩
  refine R1 (g' := (1, _, _, _, _, _)) rfl rfl ?_
  refine R1 (g' := (2, _, .int (nI 0) :: _, _, _, _)) rfl rfl ?_
  refine R1 (g' := (3, _, _, _, _, _)) rfl rfl ?_
  refine R1 (g' := (4, _, _, _, _, _)) rfl rfl ?_
  refine R1 (g' := (5, _, _, _, _, _)) rfl rfl ?_
  refine R_callH ⟨rfl, rfl⟩ rfl rfl (avs := [.ref 0, .int p0, .int p1]) rfl rfl ⟨Nat.le_of_ble_eq_true rfl, Nat.le_of_ble_eq_true rfl⟩ (Nat.le_of_ble_eq_true rfl) ⟨rfl, rfl⟩ ⟨⟨_, _, _, rfl, Nat.le_of_ble_eq_true rfl, rfl⟩, _, _, F, rfl, rfl, h⟩ (by decide +kernel) ⟨rfl, rfl⟩
theorem ex_L_cut_2 {s s1 : xs} {F : Nat → Int64} {p0 p1 : Int32} (h : Ev_X8_cut [.ref 0, .int p0, .int p1] (wd s) (.inr "java/lang/IllegalStateException") (wd s1)) : Ev_L_cut [.ref 0, .int p0, .int p1, .ref 151] (wo s F) (.inl (some (.int (nI 3)))) (wo s1 F) := by
  refine ⟨_, rfl, Nat.le_of_ble_eq_true rfl, Nat.le_refl _, Or.inl rfl, ?_⟩
  refine R1 (g' := (1, _, _, _, _, _)) rfl rfl ?_
  refine R1 (g' := (2, _, .int (nI 0) :: _, _, _, _)) rfl rfl ?_
  refine R1 (g' := (3, _, _, _, _, _)) rfl rfl ?_
  refine R1 (g' := (4, _, _, _, _, _)) rfl rfl ?_
  refine R1 (g' := (5, _, _, _, _, _)) rfl rfl ?_
  refine R_callH ⟨rfl, rfl⟩ rfl rfl (avs := [.ref 0, .int p0, .int p1]) rfl rfl ⟨Nat.le_of_ble_eq_true rfl, Nat.le_of_ble_eq_true rfl⟩ (Nat.le_of_ble_eq_true rfl) ⟨rfl, rfl⟩ ⟨⟨_, _, _, rfl, Nat.le_of_ble_eq_true rfl, rfl⟩, _, _, F, rfl, rfl, h⟩ (by decide +kernel) ⟨rfl, rfl⟩
theorem hp_L_cut {s : xs} {F : Nat → Int64} {p0 p1 : Int32} (hP : Pair Ev_X8_cut Ev_X9_cut [.ref 0, .int p0, .int p1] [.ref 142, .int p0, .int p1] ["java/lang/IndexOutOfBoundsException", "java/lang/IllegalArgumentException", "java/lang/IllegalStateException"] s) : HP Ev_L_cut Ev_X9_cut [.ref 0, .int p0, .int p1, .ref 151] [.ref 142, .int p0, .int p1] s F := by
  obtain ⟨o, s1, v, s2, h1, h2, hR, h3⟩ := hP
  rcases h3 with ⟨rfl, e⟩ | ⟨k, E, hk, rfl, e⟩
  · exact ⟨nI 0, vp_updL F 0 v.toInt64, s1, v, s2, ev_L_cut h1, h2, hR, e, fun _ => by simp [vp_updL]⟩
  · match k, hk with
    | 0, hk =>
      cases hk
      exact ⟨nI 1, F, s1, v, s2, ex_L_cut_0 h1, h2, hR, e, fun h => absurd h (by decide)⟩
    | 1, hk =>
      cases hk
      exact ⟨nI 2, F, s1, v, s2, ex_L_cut_1 h1, h2, hR, e, fun h => absurd h (by decide)⟩
    | 2, hk =>
      cases hk
      exact ⟨nI 3, F, s1, v, s2, ex_L_cut_2 h1, h2, hR, e, fun h => absurd h (by decide)⟩
    | k + 3, hk => cases hk
def T_L_weld : List (Nat × Instr) := [(0, .aload_n 2), (1, .iconst 0), (2, .aload_n 0), (3, .iload_n 1), (4, .invokevirtual 33), (7, .i2l), (8, .lastore), (9, .goto 9), (12, .astore_n 3), (13, .iconst 1), (14, .ireturn), (15, .astore_n 3), (16, .iconst 2), (17, .ireturn), (18, .iconst 0), (19, .ireturn)]
theorem tb_L_weld : ∀ pc i, xlk T_L_weld pc = some i → ∃ n, decode cL_weld pc = .ok (i, xlen i n) := xTb_of (by decide +kernel)
abbrev rm_L_weld : Room := { frames := 7, cells := 1, slots := 6, locals := 166 }
abbrev hh_L_weld : List (Nat × Nat × Nat × Nat) := [(0, 9, 12, 22), (0, 9, 15, 24)]
def L_L_weld : List (Nat × Nat × Nat × Nat × xR) := [(100, 2, 1, 6, xVR 8 (xFr Ev_X8_weld))]
def HD_L_weld : Nat → String → Option Int32 := fun pc E => bif Nat.beq pc 4 then (if E = "java/lang/IndexOutOfBoundsException" then some (nI 1) else if E = "java/lang/IllegalStateException" then some (nI 2) else none) else none
def M_L_weld : xM := (4, T_L_weld, xal LF_L, xal LK_L, xal LN_L, xal [], HD_L_weld, xcl L_L_weld, 1, 6)
def Ev_L_weld : xR := fun avs w o w1 => ∃ v0 : Int32, o = .inl (some (.int v0)) ∧ xEv M_L_weld (some .int) avs w o w1
theorem hd_L_weld : ∀ pc E j, HD_L_weld pc E = some j → xHk RL cL_weld 4 hh_L_weld pc E j := by
  intro pc E j h
  unfold HD_L_weld at h
  cases hb : Nat.beq pc 4 with
  | false =>
    rw [hb] at h
    cases h
  | true =>
    rw [hb] at h
    obtain rfl := Nat.eq_of_beq_eq_true hb
    dsimp only [cond_true] at h
    split at h
    · rename_i he
      subst he
      cases h
      exact ⟨[], ⟨0, 9, 12, 22⟩, [⟨0, 9, 15, 24⟩], _, 3, 1, .astore_n 3, 1, rfl, (fun _ h => absurd h List.not_mem_nil), by decide, by decide, gw_681, xbc_IOB, by decide, Or.inr ⟨3, rfl, rfl, rfl⟩, by decide +kernel, by decide +kernel, rfl, by decide +kernel⟩
    split at h
    · rename_i he
      subst he
      cases h
      exact ⟨[⟨0, 9, 12, 22⟩], ⟨0, 9, 15, 24⟩, [], _, 3, 1, .astore_n 3, 2, rfl, (List.forall_mem_cons.mpr ⟨⟨by decide, _, gw_681, List.mem_of_getElem? (i := 1) rfl⟩, (fun _ h => absurd h List.not_mem_nil)⟩), by decide, by decide, gw_682, xbc_ISE, by decide, Or.inr ⟨3, rfl, rfl, rfl⟩, by decide +kernel, by decide +kernel, rfl, by decide +kernel⟩
    cases h
set_option maxRecDepth 100000 in
theorem snd_L_weld {l : Launch} {D : va_G} {tc : Nat → ClassId} (hl : l.stackTraces = false) {avs : List Value} {w w1 : xw} {o : xO} (h : Ev_L_weld avs w o w1) : w.1 ≤ w1.1 ∧ xCTW l D tc yL_weld (.codeWith yL_weld cL_weld 4 (some .int) hh_L_weld :: gW) rm_L_weld avs w o w1 := by
  obtain ⟨v0, rfl, h⟩ := h
  exact met_soundW (y := yL_weld) (M := M_L_weld) (rm := rm_L_weld) (hh := hh_L_weld) (by decide +kernel) tb_L_weld xK_L xClok_ok xF_L xN_L (fun _ h => nomatch (show (none : Option Value) = some _ from h)) xty_ok rfl rfl (fun _ _ h => nomatch (show (none : Option String) = some _ from h)) hd_L_weld
    (fun p e s m args below meth c N0 ρ0 A0 Q hC hNs hZ => xCall_of (List.forall_mem_cons.mpr ⟨cok_VF (n := 1) (y := yX8_weld) (bytes := cX8_weld) (maxL := 2) (ret := (some .int)) (rm := rm_X8_weld) hC hNs hZ rfl rfl ⟨gw_746, gw_1, gw_743, gw_744, gw_745⟩ (by decide +kernel) ⟨Nat.le_of_ble_eq_true rfl, Nat.le_of_ble_eq_true rfl⟩ (fun _ _ _ _ h => snd_X8_weld hl h), (fun _ h => absurd h List.not_mem_nil)⟩)) h
theorem ev_L_weld {s s1 : xs} {F : Nat → Int64} {p0 : Int32} {v : Int32} (h : Ev_X8_weld [.ref 0, .int p0] (wd s) (.inl (some (.int v))) (wd s1)) : Ev_L_weld [.ref 0, .int p0, .ref 151] (wo s F) (.inl (some (.int (nI 0)))) (wo s1 (vp_updL F 0 v.toInt64)) := by
  refine ⟨_, rfl, Nat.le_of_ble_eq_true rfl, Nat.le_refl _, Or.inl rfl, ?_⟩
  refine R1 (g' := (1, _, _, _, _, _)) rfl rfl ?_
  refine R1 (g' := (2, _, .int (nI 0) :: _, _, _, _)) rfl rfl ?_
  refine R1 (g' := (3, _, _, _, _, _)) rfl rfl ?_
  refine R1 (g' := (4, _, _, _, _, _)) rfl rfl ?_
  refine R_call (Or.inr (Or.inl ⟨rfl, rfl⟩)) rfl rfl (avs := [.ref 0, .int p0]) rfl rfl ⟨Nat.le_of_ble_eq_true rfl, Nat.le_of_ble_eq_true rfl⟩ (Nat.le_of_ble_eq_true rfl) ⟨rfl, rfl⟩ ⟨⟨_, _, _, rfl, Nat.le_of_ble_eq_true rfl, rfl⟩, _, _, F, rfl, rfl, h⟩ ?_
  change xRun _ _ (7, _, _, wo s1 F, _, _)
  refine R1 (g' := (8, _, _, _, _, _)) rfl rfl ?_
  refine R_lastO rfl ?_
  refine R1 (g' := (18, _, _, _, _, _)) rfl rfl ?_
  refine R1 (g' := (19, _, .int (nI 0) :: _, _, _, _)) rfl rfl ?_
  refine R_iret rfl ?_
  exact ⟨rfl, rfl⟩
theorem ex_L_weld_0 {s s1 : xs} {F : Nat → Int64} {p0 : Int32} (h : Ev_X8_weld [.ref 0, .int p0] (wd s) (.inr "java/lang/IndexOutOfBoundsException") (wd s1)) : Ev_L_weld [.ref 0, .int p0, .ref 151] (wo s F) (.inl (some (.int (nI 1)))) (wo s1 F) := by
  refine ⟨_, rfl, Nat.le_of_ble_eq_true rfl, Nat.le_refl _, Or.inl rfl, ?_⟩
  refine R1 (g' := (1, _, _, _, _, _)) rfl rfl ?_
  refine R1 (g' := (2, _, .int (nI 0) :: _, _, _, _)) rfl rfl ?_
  refine R1 (g' := (3, _, _, _, _, _)) rfl rfl ?_
  refine R1 (g' := (4, _, _, _, _, _)) rfl rfl ?_
  refine R_callH ⟨rfl, rfl⟩ rfl rfl (avs := [.ref 0, .int p0]) rfl rfl ⟨Nat.le_of_ble_eq_true rfl, Nat.le_of_ble_eq_true rfl⟩ (Nat.le_of_ble_eq_true rfl) ⟨rfl, rfl⟩ ⟨⟨_, _, _, rfl, Nat.le_of_ble_eq_true rfl, rfl⟩, _, _, F, rfl, rfl, h⟩ (by decide +kernel) ⟨rfl, rfl⟩
theorem ex_L_weld_1 {s s1 : xs} {F : Nat → Int64} {p0 : Int32} (h : Ev_X8_weld [.ref 0, .int p0] (wd s) (.inr "java/lang/IllegalStateException") (wd s1)) : Ev_L_weld [.ref 0, .int p0, .ref 151] (wo s F) (.inl (some (.int (nI 2)))) (wo s1 F) := by
  refine ⟨_, rfl, Nat.le_of_ble_eq_true rfl, Nat.le_refl _, Or.inl rfl, ?_⟩
  refine R1 (g' := (1, _, _, _, _, _)) rfl rfl ?_
  refine R1 (g' := (2, _, .int (nI 0) :: _, _, _, _)) rfl rfl ?_
  refine R1 (g' := (3, _, _, _, _, _)) rfl rfl ?_
  refine R1 (g' := (4, _, _, _, _, _)) rfl rfl ?_
  refine R_callH ⟨rfl, rfl⟩ rfl rfl (avs := [.ref 0, .int p0]) rfl rfl ⟨Nat.le_of_ble_eq_true rfl, Nat.le_of_ble_eq_true rfl⟩ (Nat.le_of_ble_eq_true rfl) ⟨rfl, rfl⟩ ⟨⟨_, _, _, rfl, Nat.le_of_ble_eq_true rfl, rfl⟩, _, _, F, rfl, rfl, h⟩ (by decide +kernel) ⟨rfl, rfl⟩
theorem hp_L_weld {s : xs} {F : Nat → Int64} {p0 : Int32} (hP : Pair Ev_X8_weld Ev_X9_weld [.ref 0, .int p0] [.ref 142, .int p0] ["java/lang/IndexOutOfBoundsException", "java/lang/IllegalStateException"] s) : HP Ev_L_weld Ev_X9_weld [.ref 0, .int p0, .ref 151] [.ref 142, .int p0] s F := by
  obtain ⟨o, s1, v, s2, h1, h2, hR, h3⟩ := hP
  rcases h3 with ⟨rfl, e⟩ | ⟨k, E, hk, rfl, e⟩
  · exact ⟨nI 0, vp_updL F 0 v.toInt64, s1, v, s2, ev_L_weld h1, h2, hR, e, fun _ => by simp [vp_updL]⟩
  · match k, hk with
    | 0, hk =>
      cases hk
      exact ⟨nI 1, F, s1, v, s2, ex_L_weld_0 h1, h2, hR, e, fun h => absurd h (by decide)⟩
    | 1, hk =>
      cases hk
      exact ⟨nI 2, F, s1, v, s2, ex_L_weld_1 h1, h2, hR, e, fun h => absurd h (by decide)⟩
    | k + 2, hk => cases hk
def T_L_crop : List (Nat × Instr) := [(0, .aload_n 1), (1, .iconst 0), (2, .aload_n 0), (3, .invokevirtual 36), (6, .i2l), (7, .lastore), (8, .goto 6), (11, .astore_n 2), (12, .iconst 1), (13, .ireturn), (14, .iconst 0), (15, .ireturn)]
theorem tb_L_crop : ∀ pc i, xlk T_L_crop pc = some i → ∃ n, decode cL_crop pc = .ok (i, xlen i n) := xTb_of (by decide +kernel)
abbrev rm_L_crop : Room := { frames := 7, cells := 1, slots := 6, locals := 165 }
abbrev hh_L_crop : List (Nat × Nat × Nat × Nat) := [(0, 8, 11, 24)]
def L_L_crop : List (Nat × Nat × Nat × Nat × xR) := [(109, 1, 1, 6, xVR 8 (xFr Ev_X8_crop))]
def HD_L_crop : Nat → String → Option Int32 := fun pc E => bif Nat.beq pc 3 then (if E = "java/lang/IllegalStateException" then some (nI 1) else none) else none
def M_L_crop : xM := (3, T_L_crop, xal LF_L, xal LK_L, xal LN_L, xal [], HD_L_crop, xcl L_L_crop, 1, 6)
def Ev_L_crop : xR := fun avs w o w1 => ∃ v0 : Int32, o = .inl (some (.int v0)) ∧ xEv M_L_crop (some .int) avs w o w1
theorem hd_L_crop : ∀ pc E j, HD_L_crop pc E = some j → xHk RL cL_crop 3 hh_L_crop pc E j := by
  intro pc E j h
  unfold HD_L_crop at h
  cases hb : Nat.beq pc 3 with
  | false =>
    rw [hb] at h
    cases h
  | true =>
    rw [hb] at h
    obtain rfl := Nat.eq_of_beq_eq_true hb
    dsimp only [cond_true] at h
    split at h
    · rename_i he
      subst he
      cases h
      exact ⟨[], ⟨0, 8, 11, 24⟩, [], _, 2, 1, .astore_n 2, 1, rfl, (fun _ h => absurd h List.not_mem_nil), by decide, by decide, gw_682, xbc_ISE, by decide, Or.inr ⟨2, rfl, rfl, rfl⟩, by decide +kernel, by decide +kernel, rfl, by decide +kernel⟩
    cases h
set_option maxRecDepth 100000 in
theorem snd_L_crop {l : Launch} {D : va_G} {tc : Nat → ClassId} (hl : l.stackTraces = false) {avs : List Value} {w w1 : xw} {o : xO} (h : Ev_L_crop avs w o w1) : w.1 ≤ w1.1 ∧ xCTW l D tc yL_crop (.codeWith yL_crop cL_crop 3 (some .int) hh_L_crop :: gW) rm_L_crop avs w o w1 := by
  obtain ⟨v0, rfl, h⟩ := h
  exact met_soundW (y := yL_crop) (M := M_L_crop) (rm := rm_L_crop) (hh := hh_L_crop) (by decide +kernel) tb_L_crop xK_L xClok_ok xF_L xN_L (fun _ h => nomatch (show (none : Option Value) = some _ from h)) xty_ok rfl rfl (fun _ _ h => nomatch (show (none : Option String) = some _ from h)) hd_L_crop
    (fun p e s m args below meth c N0 ρ0 A0 Q hC hNs hZ => xCall_of (List.forall_mem_cons.mpr ⟨cok_VF (n := 0) (y := yX8_crop) (bytes := cX8_crop) (maxL := 1) (ret := (some .int)) (rm := rm_X8_crop) hC hNs hZ rfl rfl ⟨gw_764, gw_1, gw_761, gw_762, gw_763⟩ (by decide +kernel) ⟨Nat.le_of_ble_eq_true rfl, Nat.le_of_ble_eq_true rfl⟩ (fun _ _ _ _ h => snd_X8_crop hl h), (fun _ h => absurd h List.not_mem_nil)⟩)) h
theorem ev_L_crop {s s1 : xs} {F : Nat → Int64} {v : Int32} (h : Ev_X8_crop [.ref 0] (wd s) (.inl (some (.int v))) (wd s1)) : Ev_L_crop [.ref 0, .ref 151] (wo s F) (.inl (some (.int (nI 0)))) (wo s1 (vp_updL F 0 v.toInt64)) := by
  refine ⟨_, rfl, Nat.le_of_ble_eq_true rfl, Nat.le_refl _, Or.inl rfl, ?_⟩
  refine R1 (g' := (1, _, _, _, _, _)) rfl rfl ?_
  refine R1 (g' := (2, _, .int (nI 0) :: _, _, _, _)) rfl rfl ?_
  refine R1 (g' := (3, _, _, _, _, _)) rfl rfl ?_
  refine R_call (Or.inr (Or.inl ⟨rfl, rfl⟩)) rfl rfl (avs := [.ref 0]) rfl rfl ⟨Nat.le_of_ble_eq_true rfl, Nat.le_of_ble_eq_true rfl⟩ (Nat.le_of_ble_eq_true rfl) ⟨rfl, rfl⟩ ⟨⟨_, _, _, rfl, Nat.le_of_ble_eq_true rfl, rfl⟩, _, _, F, rfl, rfl, h⟩ ?_
  change xRun _ _ (6, _, _, wo s1 F, _, _)
  refine R1 (g' := (7, _, _, _, _, _)) rfl rfl ?_
  refine R_lastO rfl ?_
  refine R1 (g' := (14, _, _, _, _, _)) rfl rfl ?_
  refine R1 (g' := (15, _, .int (nI 0) :: _, _, _, _)) rfl rfl ?_
  refine R_iret rfl ?_
  exact ⟨rfl, rfl⟩
theorem ex_L_crop_0 {s s1 : xs} {F : Nat → Int64} (h : Ev_X8_crop [.ref 0] (wd s) (.inr "java/lang/IllegalStateException") (wd s1)) : Ev_L_crop [.ref 0, .ref 151] (wo s F) (.inl (some (.int (nI 1)))) (wo s1 F) := by
  refine ⟨_, rfl, Nat.le_of_ble_eq_true rfl, Nat.le_refl _, Or.inl rfl, ?_⟩
  refine R1 (g' := (1, _, _, _, _, _)) rfl rfl ?_
  refine R1 (g' := (2, _, .int (nI 0) :: _, _, _, _)) rfl rfl ?_
  refine R1 (g' := (3, _, _, _, _, _)) rfl rfl ?_
  refine R_callH ⟨rfl, rfl⟩ rfl rfl (avs := [.ref 0]) rfl rfl ⟨Nat.le_of_ble_eq_true rfl, Nat.le_of_ble_eq_true rfl⟩ (Nat.le_of_ble_eq_true rfl) ⟨rfl, rfl⟩ ⟨⟨_, _, _, rfl, Nat.le_of_ble_eq_true rfl, rfl⟩, _, _, F, rfl, rfl, h⟩ (by decide +kernel) ⟨rfl, rfl⟩
theorem hp_L_crop {s : xs} {F : Nat → Int64} (hP : Pair Ev_X8_crop Ev_X9_crop [.ref 0] [.ref 142] ["java/lang/IllegalStateException"] s) : HP Ev_L_crop Ev_X9_crop [.ref 0, .ref 151] [.ref 142] s F := by
  obtain ⟨o, s1, v, s2, h1, h2, hR, h3⟩ := hP
  rcases h3 with ⟨rfl, e⟩ | ⟨k, E, hk, rfl, e⟩
  · exact ⟨nI 0, vp_updL F 0 v.toInt64, s1, v, s2, ev_L_crop h1, h2, hR, e, fun _ => by simp [vp_updL]⟩
  · match k, hk with
    | 0, hk =>
      cases hk
      exact ⟨nI 1, F, s1, v, s2, ex_L_crop_0 h1, h2, hR, e, fun h => absurd h (by decide)⟩
    | k + 1, hk => cases hk
def T_L_forge : List (Nat × Instr) := [(0, .aload 5), (2, .iconst 0), (3, .aload_n 0), (4, .iload_n 1), (5, .iload_n 2), (6, .iload_n 3), (7, .iload 4), (9, .invokevirtual 40), (12, .i2l), (13, .lastore), (14, .goto 15), (17, .astore 6), (19, .iconst 1), (20, .ireturn), (21, .astore 6), (23, .iconst 2), (24, .ireturn), (25, .astore 6), (27, .iconst 3), (28, .ireturn), (29, .iconst 0), (30, .ireturn)]
theorem tb_L_forge : ∀ pc i, xlk T_L_forge pc = some i → ∃ n, decode cL_forge pc = .ok (i, xlen i n) := xTb_of (by decide +kernel)
abbrev rm_L_forge : Room := { frames := 10, cells := 5, slots := 30, locals := 180 }
abbrev hh_L_forge : List (Nat × Nat × Nat × Nat) := [(0, 14, 17, 22), (0, 14, 21, 13), (0, 14, 25, 24)]
def L_L_forge : List (Nat × Nat × Nat × Nat × xR) := [(121, 5, 5, 30, xVR 8 (xFr Ev_X8_forge))]
def HD_L_forge : Nat → String → Option Int32 := fun pc E => bif Nat.beq pc 9 then (if E = "java/lang/IndexOutOfBoundsException" then some (nI 1) else if E = "java/lang/IllegalArgumentException" then some (nI 2) else if E = "java/lang/IllegalStateException" then some (nI 3) else none) else none
def M_L_forge : xM := (7, T_L_forge, xal LF_L, xal LK_L, xal LN_L, xal [], HD_L_forge, xcl L_L_forge, 5, 30)
def Ev_L_forge : xR := fun avs w o w1 => ∃ v0 : Int32, o = .inl (some (.int v0)) ∧ xEv M_L_forge (some .int) avs w o w1
theorem hd_L_forge : ∀ pc E j, HD_L_forge pc E = some j → xHk RL cL_forge 7 hh_L_forge pc E j := by
  intro pc E j h
  unfold HD_L_forge at h
  cases hb : Nat.beq pc 9 with
  | false =>
    rw [hb] at h
    cases h
  | true =>
    rw [hb] at h
    obtain rfl := Nat.eq_of_beq_eq_true hb
    dsimp only [cond_true] at h
    split at h
    · rename_i he
      subst he
      cases h
      exact ⟨[], ⟨0, 14, 17, 22⟩, [⟨0, 14, 21, 13⟩, ⟨0, 14, 25, 24⟩], _, 6, 2, .astore 6, 1, rfl, (fun _ h => absurd h List.not_mem_nil), by decide, by decide, gw_681, xbc_IOB, by decide, Or.inl ⟨rfl, rfl⟩, by decide +kernel, by decide +kernel, rfl, by decide +kernel⟩
    split at h
    · rename_i he
      subst he
      cases h
      exact ⟨[⟨0, 14, 17, 22⟩], ⟨0, 14, 21, 13⟩, [⟨0, 14, 25, 24⟩], _, 6, 2, .astore 6, 2, rfl, (List.forall_mem_cons.mpr ⟨⟨by decide, _, gw_681, List.mem_of_getElem? (i := 0) rfl⟩, (fun _ h => absurd h List.not_mem_nil)⟩), by decide, by decide, gw_590, xbc_IAE, by decide, Or.inl ⟨rfl, rfl⟩, by decide +kernel, by decide +kernel, rfl, by decide +kernel⟩
    split at h
    · rename_i he
      subst he
      cases h
      exact ⟨[⟨0, 14, 17, 22⟩, ⟨0, 14, 21, 13⟩], ⟨0, 14, 25, 24⟩, [], _, 6, 2, .astore 6, 3, rfl, (List.forall_mem_cons.mpr ⟨⟨by decide, _, gw_681, List.mem_of_getElem? (i := 1) rfl⟩, (List.forall_mem_cons.mpr ⟨⟨by decide, _, gw_590, List.mem_of_getElem? (i := 2) rfl⟩, (fun _ h => absurd h List.not_mem_nil)⟩)⟩), by decide, by decide, gw_682, xbc_ISE, by decide, Or.inl ⟨rfl, rfl⟩, by decide +kernel, by decide +kernel, rfl, by decide +kernel⟩
    cases h
set_option maxRecDepth 100000 in
theorem snd_L_forge {l : Launch} {D : va_G} {tc : Nat → ClassId} (hl : l.stackTraces = false) {avs : List Value} {w w1 : xw} {o : xO} (h : Ev_L_forge avs w o w1) : w.1 ≤ w1.1 ∧ xCTW l D tc yL_forge (.codeWith yL_forge cL_forge 7 (some .int) hh_L_forge :: gW) rm_L_forge avs w o w1 := by
  obtain ⟨v0, rfl, h⟩ := h
  exact met_soundW (y := yL_forge) (M := M_L_forge) (rm := rm_L_forge) (hh := hh_L_forge) (by decide +kernel) tb_L_forge xK_L xClok_ok xF_L xN_L (fun _ h => nomatch (show (none : Option Value) = some _ from h)) xty_ok rfl rfl (fun _ _ h => nomatch (show (none : Option String) = some _ from h)) hd_L_forge
    (fun p e s m args below meth c N0 ρ0 A0 Q hC hNs hZ => xCall_of (List.forall_mem_cons.mpr ⟨cok_VF (n := 4) (y := yX8_forge) (bytes := cX8_forge) (maxL := 6) (ret := (some .int)) (rm := rm_X8_forge) hC hNs hZ rfl rfl ⟨gw_776, gw_1, gw_773, gw_774, gw_775⟩ (by decide +kernel) ⟨Nat.le_of_ble_eq_true rfl, Nat.le_of_ble_eq_true rfl⟩ (fun _ _ _ _ h => snd_X8_forge hl h), (fun _ h => absurd h List.not_mem_nil)⟩)) h
theorem ev_L_forge {s s1 : xs} {F : Nat → Int64} {p0 p1 p2 p3 : Int32} {v : Int32} (h : Ev_X8_forge [.ref 0, .int p0, .int p1, .int p2, .int p3] (wd s) (.inl (some (.int v))) (wd s1)) : Ev_L_forge [.ref 0, .int p0, .int p1, .int p2, .int p3, .ref 151] (wo s F) (.inl (some (.int (nI 0)))) (wo s1 (vp_updL F 0 v.toInt64)) := by
  refine ⟨_, rfl, Nat.le_of_ble_eq_true rfl, Nat.le_refl _, Or.inl rfl, ?_⟩
  refine R1 (g' := (2, _, _, _, _, _)) rfl rfl ?_
  refine R1 (g' := (3, _, .int (nI 0) :: _, _, _, _)) rfl rfl ?_
  refine R1 (g' := (4, _, _, _, _, _)) rfl rfl ?_
  refine R1 (g' := (5, _, _, _, _, _)) rfl rfl ?_
  refine R1 (g' := (6, _, _, _, _, _)) rfl rfl ?_
  refine R1 (g' := (7, _, _, _, _, _)) rfl rfl ?_
  refine R1 (g' := (9, _, _, _, _, _)) rfl rfl ?_
  refine R_call (Or.inr (Or.inl ⟨rfl, rfl⟩)) rfl rfl (avs := [.ref 0, .int p0, .int p1, .int p2, .int p3]) rfl rfl ⟨Nat.le_of_ble_eq_true rfl, Nat.le_of_ble_eq_true rfl⟩ (Nat.le_of_ble_eq_true rfl) ⟨rfl, rfl⟩ ⟨⟨_, _, _, rfl, Nat.le_of_ble_eq_true rfl, rfl⟩, _, _, F, rfl, rfl, h⟩ ?_
  change xRun _ _ (12, _, _, wo s1 F, _, _)
  refine R1 (g' := (13, _, _, _, _, _)) rfl rfl ?_
  refine R_lastO rfl ?_
  refine R1 (g' := (29, _, _, _, _, _)) rfl rfl ?_
  refine R1 (g' := (30, _, .int (nI 0) :: _, _, _, _)) rfl rfl ?_
  refine R_iret rfl ?_
  exact ⟨rfl, rfl⟩
theorem ex_L_forge_0 {s s1 : xs} {F : Nat → Int64} {p0 p1 p2 p3 : Int32} (h : Ev_X8_forge [.ref 0, .int p0, .int p1, .int p2, .int p3] (wd s) (.inr "java/lang/IndexOutOfBoundsException") (wd s1)) : Ev_L_forge [.ref 0, .int p0, .int p1, .int p2, .int p3, .ref 151] (wo s F) (.inl (some (.int (nI 1)))) (wo s1 F) := by
  refine ⟨_, rfl, Nat.le_of_ble_eq_true rfl, Nat.le_refl _, Or.inl rfl, ?_⟩
  refine R1 (g' := (2, _, _, _, _, _)) rfl rfl ?_
  refine R1 (g' := (3, _, .int (nI 0) :: _, _, _, _)) rfl rfl ?_
  refine R1 (g' := (4, _, _, _, _, _)) rfl rfl ?_
  refine R1 (g' := (5, _, _, _, _, _)) rfl rfl ?_
  refine R1 (g' := (6, _, _, _, _, _)) rfl rfl ?_
  refine R1 (g' := (7, _, _, _, _, _)) rfl rfl ?_
  refine R1 (g' := (9, _, _, _, _, _)) rfl rfl ?_
  refine R_callH ⟨rfl, rfl⟩ rfl rfl (avs := [.ref 0, .int p0, .int p1, .int p2, .int p3]) rfl rfl ⟨Nat.le_of_ble_eq_true rfl, Nat.le_of_ble_eq_true rfl⟩ (Nat.le_of_ble_eq_true rfl) ⟨rfl, rfl⟩ ⟨⟨_, _, _, rfl, Nat.le_of_ble_eq_true rfl, rfl⟩, _, _, F, rfl, rfl, h⟩ (by decide +kernel) ⟨rfl, rfl⟩
theorem ex_L_forge_1 {s s1 : xs} {F : Nat → Int64} {p0 p1 p2 p3 : Int32} (h : Ev_X8_forge [.ref 0, .int p0, .int p1, .int p2, .int p3] (wd s) (.inr "java/lang/IllegalArgumentException") (wd s1)) : Ev_L_forge [.ref 0, .int p0, .int p1, .int p2, .int p3, .ref 151] (wo s F) (.inl (some (.int (nI 2)))) (wo s1 F) := by
  refine ⟨_, rfl, Nat.le_of_ble_eq_true rfl, Nat.le_refl _, Or.inl rfl, ?_⟩
  refine R1 (g' := (2, _, _, _, _, _)) rfl rfl ?_
  refine R1 (g' := (3, _, .int (nI 0) :: _, _, _, _)) rfl rfl ?_
  refine R1 (g' := (4, _, _, _, _, _)) rfl rfl ?_
  refine R1 (g' := (5, _, _, _, _, _)) rfl rfl ?_
  refine R1 (g' := (6, _, _, _, _, _)) rfl rfl ?_
  refine R1 (g' := (7, _, _, _, _, _)) rfl rfl ?_
  refine R1 (g' := (9, _, _, _, _, _)) rfl rfl ?_
  refine R_callH ⟨rfl, rfl⟩ rfl rfl (avs := [.ref 0, .int p0, .int p1, .int p2, .int p3]) rfl rfl ⟨Nat.le_of_ble_eq_true rfl, Nat.le_of_ble_eq_true rfl⟩ (Nat.le_of_ble_eq_true rfl) ⟨rfl, rfl⟩ ⟨⟨_, _, _, rfl, Nat.le_of_ble_eq_true rfl, rfl⟩, _, _, F, rfl, rfl, h⟩ (by decide +kernel) ⟨rfl, rfl⟩
theorem ex_L_forge_2 {s s1 : xs} {F : Nat → Int64} {p0 p1 p2 p3 : Int32} (h : Ev_X8_forge [.ref 0, .int p0, .int p1, .int p2, .int p3] (wd s) (.inr "java/lang/IllegalStateException") (wd s1)) : Ev_L_forge [.ref 0, .int p0, .int p1, .int p2, .int p3, .ref 151] (wo s F) (.inl (some (.int (nI 3)))) (wo s1 F) := by
  refine ⟨_, rfl, Nat.le_of_ble_eq_true rfl, Nat.le_refl _, Or.inl rfl, ?_⟩
  refine R1 (g' := (2, _, _, _, _, _)) rfl rfl ?_
  refine R1 (g' := (3, _, .int (nI 0) :: _, _, _, _)) rfl rfl ?_
  refine R1 (g' := (4, _, _, _, _, _)) rfl rfl ?_
  refine R1 (g' := (5, _, _, _, _, _)) rfl rfl ?_
  refine R1 (g' := (6, _, _, _, _, _)) rfl rfl ?_
  refine R1 (g' := (7, _, _, _, _, _)) rfl rfl ?_
  refine R1 (g' := (9, _, _, _, _, _)) rfl rfl ?_
  refine R_callH ⟨rfl, rfl⟩ rfl rfl (avs := [.ref 0, .int p0, .int p1, .int p2, .int p3]) rfl rfl ⟨Nat.le_of_ble_eq_true rfl, Nat.le_of_ble_eq_true rfl⟩ (Nat.le_of_ble_eq_true rfl) ⟨rfl, rfl⟩ ⟨⟨_, _, _, rfl, Nat.le_of_ble_eq_true rfl, rfl⟩, _, _, F, rfl, rfl, h⟩ (by decide +kernel) ⟨rfl, rfl⟩
theorem hp_L_forge {s : xs} {F : Nat → Int64} {p0 p1 p2 p3 : Int32} (hP : Pair Ev_X8_forge Ev_X9_forge [.ref 0, .int p0, .int p1, .int p2, .int p3] [.ref 142, .int p0, .int p1, .int p2, .int p3] ["java/lang/IndexOutOfBoundsException", "java/lang/IllegalArgumentException", "java/lang/IllegalStateException"] s) : HP Ev_L_forge Ev_X9_forge [.ref 0, .int p0, .int p1, .int p2, .int p3, .ref 151] [.ref 142, .int p0, .int p1, .int p2, .int p3] s F := by
  obtain ⟨o, s1, v, s2, h1, h2, hR, h3⟩ := hP
  rcases h3 with ⟨rfl, e⟩ | ⟨k, E, hk, rfl, e⟩
  · exact ⟨nI 0, vp_updL F 0 v.toInt64, s1, v, s2, ev_L_forge h1, h2, hR, e, fun _ => by simp [vp_updL]⟩
  · match k, hk with
    | 0, hk =>
      cases hk
      exact ⟨nI 1, F, s1, v, s2, ex_L_forge_0 h1, h2, hR, e, fun h => absurd h (by decide)⟩
    | 1, hk =>
      cases hk
      exact ⟨nI 2, F, s1, v, s2, ex_L_forge_1 h1, h2, hR, e, fun h => absurd h (by decide)⟩
    | 2, hk =>
      cases hk
      exact ⟨nI 3, F, s1, v, s2, ex_L_forge_2 h1, h2, hR, e, fun h => absurd h (by decide)⟩
    | k + 3, hk => cases hk
def T_L_part : List (Nat × Instr) := [(0, .aload_n 3), (1, .iconst 0), (2, .aload_n 0), (3, .iload_n 1), (4, .iload_n 2), (5, .invokevirtual 44), (8, .i2l), (9, .lastore), (10, .goto 11), (13, .astore 4), (15, .iconst 1), (16, .ireturn), (17, .astore 4), (19, .iconst 2), (20, .ireturn), (21, .iconst 0), (22, .ireturn)]
theorem tb_L_part : ∀ pc i, xlk T_L_part pc = some i → ∃ n, decode cL_part pc = .ok (i, xlen i n) := xTb_of (by decide +kernel)
abbrev rm_L_part : Room := { frames := 8, cells := 2, slots := 12, locals := 134 }
abbrev hh_L_part : List (Nat × Nat × Nat × Nat) := [(0, 10, 13, 22), (0, 10, 17, 13)]
def L_L_part : List (Nat × Nat × Nat × Nat × xR) := [(133, 3, 2, 12, xVR 8 (xFr Ev_X8_part))]
def HD_L_part : Nat → String → Option Int32 := fun pc E => bif Nat.beq pc 5 then (if E = "java/lang/IndexOutOfBoundsException" then some (nI 1) else if E = "java/lang/IllegalArgumentException" then some (nI 2) else none) else none
def M_L_part : xM := (5, T_L_part, xal LF_L, xal LK_L, xal LN_L, xal [], HD_L_part, xcl L_L_part, 2, 12)
def Ev_L_part : xR := fun avs w o w1 => ∃ v0 : Int32, o = .inl (some (.int v0)) ∧ xEv M_L_part (some .int) avs w o w1
theorem hd_L_part : ∀ pc E j, HD_L_part pc E = some j → xHk RL cL_part 5 hh_L_part pc E j := by
  intro pc E j h
  unfold HD_L_part at h
  cases hb : Nat.beq pc 5 with
  | false =>
    rw [hb] at h
    cases h
  | true =>
    rw [hb] at h
    obtain rfl := Nat.eq_of_beq_eq_true hb
    dsimp only [cond_true] at h
    split at h
    · rename_i he
      subst he
      cases h
      exact ⟨[], ⟨0, 10, 13, 22⟩, [⟨0, 10, 17, 13⟩], _, 4, 2, .astore 4, 1, rfl, (fun _ h => absurd h List.not_mem_nil), by decide, by decide, gw_681, xbc_IOB, by decide, Or.inl ⟨rfl, rfl⟩, by decide +kernel, by decide +kernel, rfl, by decide +kernel⟩
    split at h
    · rename_i he
      subst he
      cases h
      exact ⟨[⟨0, 10, 13, 22⟩], ⟨0, 10, 17, 13⟩, [], _, 4, 2, .astore 4, 2, rfl, (List.forall_mem_cons.mpr ⟨⟨by decide, _, gw_681, List.mem_of_getElem? (i := 0) rfl⟩, (fun _ h => absurd h List.not_mem_nil)⟩), by decide, by decide, gw_590, xbc_IAE, by decide, Or.inl ⟨rfl, rfl⟩, by decide +kernel, by decide +kernel, rfl, by decide +kernel⟩
    cases h
set_option maxRecDepth 100000 in
theorem snd_L_part {l : Launch} {D : va_G} {tc : Nat → ClassId} (hl : l.stackTraces = false) {avs : List Value} {w w1 : xw} {o : xO} (h : Ev_L_part avs w o w1) : w.1 ≤ w1.1 ∧ xCTW l D tc yL_part (.codeWith yL_part cL_part 5 (some .int) hh_L_part :: gW) rm_L_part avs w o w1 := by
  obtain ⟨v0, rfl, h⟩ := h
  exact met_soundW (y := yL_part) (M := M_L_part) (rm := rm_L_part) (hh := hh_L_part) (by decide +kernel) tb_L_part xK_L xClok_ok xF_L xN_L (fun _ h => nomatch (show (none : Option Value) = some _ from h)) xty_ok rfl rfl (fun _ _ h => nomatch (show (none : Option String) = some _ from h)) hd_L_part
    (fun p e s m args below meth c N0 ρ0 A0 Q hC hNs hZ => xCall_of (List.forall_mem_cons.mpr ⟨cok_VF (n := 2) (y := yX8_part) (bytes := cX8_part) (maxL := 3) (ret := (some .int)) (rm := rm_X8_part) hC hNs hZ rfl rfl ⟨gw_787, gw_1, gw_784, gw_785, gw_786⟩ (by decide +kernel) ⟨Nat.le_of_ble_eq_true rfl, Nat.le_of_ble_eq_true rfl⟩ (fun _ _ _ _ h => snd_X8_part hl h), (fun _ h => absurd h List.not_mem_nil)⟩)) h
theorem ev_L_part {s s1 : xs} {F : Nat → Int64} {p0 p1 : Int32} {v : Int32} (h : Ev_X8_part [.ref 0, .int p0, .int p1] (wd s) (.inl (some (.int v))) (wd s1)) : Ev_L_part [.ref 0, .int p0, .int p1, .ref 151] (wo s F) (.inl (some (.int (nI 0)))) (wo s1 (vp_updL F 0 v.toInt64)) := by
  refine ⟨_, rfl, Nat.le_of_ble_eq_true rfl, Nat.le_refl _, Or.inl rfl, ?_⟩
  refine R1 (g' := (1, _, _, _, _, _)) rfl rfl ?_
  refine R1 (g' := (2, _, .int (nI 0) :: _, _, _, _)) rfl rfl ?_
  refine R1 (g' := (3, _, _, _, _, _)) rfl rfl ?_
  refine R1 (g' := (4, _, _, _, _, _)) rfl rfl ?_
  refine R1 (g' := (5, _, _, _, _, _)) rfl rfl ?_
  refine R_call (Or.inr (Or.inl ⟨rfl, rfl⟩)) rfl rfl (avs := [.ref 0, .int p0, .int p1]) rfl rfl ⟨Nat.le_of_ble_eq_true rfl, Nat.le_of_ble_eq_true rfl⟩ (Nat.le_of_ble_eq_true rfl) ⟨rfl, rfl⟩ ⟨⟨_, _, _, rfl, Nat.le_of_ble_eq_true rfl, rfl⟩, _, _, F, rfl, rfl, h⟩ ?_
  change xRun _ _ (8, _, _, wo s1 F, _, _)
  refine R1 (g' := (9, _, _, _, _, _)) rfl rfl ?_
  refine R_lastO rfl ?_
  refine R1 (g' := (21, _, _, _, _, _)) rfl rfl ?_
  refine R1 (g' := (22, _, .int (nI 0) :: _, _, _, _)) rfl rfl ?_
  refine R_iret rfl ?_
  exact ⟨rfl, rfl⟩
theorem ex_L_part_0 {s s1 : xs} {F : Nat → Int64} {p0 p1 : Int32} (h : Ev_X8_part [.ref 0, .int p0, .int p1] (wd s) (.inr "java/lang/IndexOutOfBoundsException") (wd s1)) : Ev_L_part [.ref 0, .int p0, .int p1, .ref 151] (wo s F) (.inl (some (.int (nI 1)))) (wo s1 F) := by
  refine ⟨_, rfl, Nat.le_of_ble_eq_true rfl, Nat.le_refl _, Or.inl rfl, ?_⟩
  refine R1 (g' := (1, _, _, _, _, _)) rfl rfl ?_
  refine R1 (g' := (2, _, .int (nI 0) :: _, _, _, _)) rfl rfl ?_
  refine R1 (g' := (3, _, _, _, _, _)) rfl rfl ?_
  refine R1 (g' := (4, _, _, _, _, _)) rfl rfl ?_
  refine R1 (g' := (5, _, _, _, _, _)) rfl rfl ?_
  refine R_callH ⟨rfl, rfl⟩ rfl rfl (avs := [.ref 0, .int p0, .int p1]) rfl rfl ⟨Nat.le_of_ble_eq_true rfl, Nat.le_of_ble_eq_true rfl⟩ (Nat.le_of_ble_eq_true rfl) ⟨rfl, rfl⟩ ⟨⟨_, _, _, rfl, Nat.le_of_ble_eq_true rfl, rfl⟩, _, _, F, rfl, rfl, h⟩ (by decide +kernel) ⟨rfl, rfl⟩
theorem ex_L_part_1 {s s1 : xs} {F : Nat → Int64} {p0 p1 : Int32} (h : Ev_X8_part [.ref 0, .int p0, .int p1] (wd s) (.inr "java/lang/IllegalArgumentException") (wd s1)) : Ev_L_part [.ref 0, .int p0, .int p1, .ref 151] (wo s F) (.inl (some (.int (nI 2)))) (wo s1 F) := by
  refine ⟨_, rfl, Nat.le_of_ble_eq_true rfl, Nat.le_refl _, Or.inl rfl, ?_⟩
  refine R1 (g' := (1, _, _, _, _, _)) rfl rfl ?_
  refine R1 (g' := (2, _, .int (nI 0) :: _, _, _, _)) rfl rfl ?_
  refine R1 (g' := (3, _, _, _, _, _)) rfl rfl ?_
  refine R1 (g' := (4, _, _, _, _, _)) rfl rfl ?_
  refine R1 (g' := (5, _, _, _, _, _)) rfl rfl ?_
  refine R_callH ⟨rfl, rfl⟩ rfl rfl (avs := [.ref 0, .int p0, .int p1]) rfl rfl ⟨Nat.le_of_ble_eq_true rfl, Nat.le_of_ble_eq_true rfl⟩ (Nat.le_of_ble_eq_true rfl) ⟨rfl, rfl⟩ ⟨⟨_, _, _, rfl, Nat.le_of_ble_eq_true rfl, rfl⟩, _, _, F, rfl, rfl, h⟩ (by decide +kernel) ⟨rfl, rfl⟩
theorem hp_L_part {s : xs} {F : Nat → Int64} {p0 p1 : Int32} (hP : Pair Ev_X8_part Ev_X9_part [.ref 0, .int p0, .int p1] [.ref 142, .int p0, .int p1] ["java/lang/IndexOutOfBoundsException", "java/lang/IllegalArgumentException"] s) : HP Ev_L_part Ev_X9_part [.ref 0, .int p0, .int p1, .ref 151] [.ref 142, .int p0, .int p1] s F := by
  obtain ⟨o, s1, v, s2, h1, h2, hR, h3⟩ := hP
  rcases h3 with ⟨rfl, e⟩ | ⟨k, E, hk, rfl, e⟩
  · exact ⟨nI 0, vp_updL F 0 v.toInt64, s1, v, s2, ev_L_part h1, h2, hR, e, fun _ => by simp [vp_updL]⟩
  · match k, hk with
    | 0, hk =>
      cases hk
      exact ⟨nI 1, F, s1, v, s2, ex_L_part_0 h1, h2, hR, e, fun h => absurd h (by decide)⟩
    | 1, hk =>
      cases hk
      exact ⟨nI 2, F, s1, v, s2, ex_L_part_1 h1, h2, hR, e, fun h => absurd h (by decide)⟩
    | k + 2, hk => cases hk
def T_L_value : List (Nat × Instr) := [(0, .aload_n 2), (1, .iconst 0), (2, .aload_n 0), (3, .iload_n 1), (4, .invokevirtual 47), (7, .i2l), (8, .lastore), (9, .goto 6), (12, .astore_n 3), (13, .iconst 1), (14, .ireturn), (15, .iconst 0), (16, .ireturn)]
theorem tb_L_value : ∀ pc i, xlk T_L_value pc = some i → ∃ n, decode cL_value pc = .ok (i, xlen i n) := xTb_of (by decide +kernel)
abbrev rm_L_value : Room := { frames := 8, cells := 1, slots := 6, locals := 133 }
abbrev hh_L_value : List (Nat × Nat × Nat × Nat) := [(0, 9, 12, 13)]
def L_L_value : List (Nat × Nat × Nat × Nat × xR) := [(142, 2, 1, 6, xVR 8 (xFr Ev_X8_value))]
def HD_L_value : Nat → String → Option Int32 := fun pc E => bif Nat.beq pc 4 then (if E = "java/lang/IllegalArgumentException" then some (nI 1) else none) else none
def M_L_value : xM := (4, T_L_value, xal LF_L, xal LK_L, xal LN_L, xal [], HD_L_value, xcl L_L_value, 1, 6)
def Ev_L_value : xR := fun avs w o w1 => ∃ v0 : Int32, o = .inl (some (.int v0)) ∧ xEv M_L_value (some .int) avs w o w1
theorem hd_L_value : ∀ pc E j, HD_L_value pc E = some j → xHk RL cL_value 4 hh_L_value pc E j := by
  intro pc E j h
  unfold HD_L_value at h
  cases hb : Nat.beq pc 4 with
  | false =>
    rw [hb] at h
    cases h
  | true =>
    rw [hb] at h
    obtain rfl := Nat.eq_of_beq_eq_true hb
    dsimp only [cond_true] at h
    split at h
    · rename_i he
      subst he
      cases h
      exact ⟨[], ⟨0, 9, 12, 13⟩, [], _, 3, 1, .astore_n 3, 1, rfl, (fun _ h => absurd h List.not_mem_nil), by decide, by decide, gw_590, xbc_IAE, by decide, Or.inr ⟨3, rfl, rfl, rfl⟩, by decide +kernel, by decide +kernel, rfl, by decide +kernel⟩
    cases h
set_option maxRecDepth 100000 in
theorem snd_L_value {l : Launch} {D : va_G} {tc : Nat → ClassId} (hl : l.stackTraces = false) {avs : List Value} {w w1 : xw} {o : xO} (h : Ev_L_value avs w o w1) : w.1 ≤ w1.1 ∧ xCTW l D tc yL_value (.codeWith yL_value cL_value 4 (some .int) hh_L_value :: gW) rm_L_value avs w o w1 := by
  obtain ⟨v0, rfl, h⟩ := h
  exact met_soundW (y := yL_value) (M := M_L_value) (rm := rm_L_value) (hh := hh_L_value) (by decide +kernel) tb_L_value xK_L xClok_ok xF_L xN_L (fun _ h => nomatch (show (none : Option Value) = some _ from h)) xty_ok rfl rfl (fun _ _ h => nomatch (show (none : Option String) = some _ from h)) hd_L_value
    (fun p e s m args below meth c N0 ρ0 A0 Q hC hNs hZ => xCall_of (List.forall_mem_cons.mpr ⟨cok_VF (n := 1) (y := yX8_value) (bytes := cX8_value) (maxL := 2) (ret := (some .int)) (rm := rm_X8_value) hC hNs hZ rfl rfl ⟨gw_794, gw_1, gw_791, gw_792, gw_793⟩ (by decide +kernel) ⟨Nat.le_of_ble_eq_true rfl, Nat.le_of_ble_eq_true rfl⟩ (fun _ _ _ _ h => snd_X8_value hl h), (fun _ h => absurd h List.not_mem_nil)⟩)) h
theorem ev_L_value {s s1 : xs} {F : Nat → Int64} {p0 : Int32} {v : Int32} (h : Ev_X8_value [.ref 0, .int p0] (wd s) (.inl (some (.int v))) (wd s1)) : Ev_L_value [.ref 0, .int p0, .ref 151] (wo s F) (.inl (some (.int (nI 0)))) (wo s1 (vp_updL F 0 v.toInt64)) := by
  refine ⟨_, rfl, Nat.le_of_ble_eq_true rfl, Nat.le_refl _, Or.inl rfl, ?_⟩
  refine R1 (g' := (1, _, _, _, _, _)) rfl rfl ?_
  refine R1 (g' := (2, _, .int (nI 0) :: _, _, _, _)) rfl rfl ?_
  refine R1 (g' := (3, _, _, _, _, _)) rfl rfl ?_
  refine R1 (g' := (4, _, _, _, _, _)) rfl rfl ?_
  refine R_call (Or.inr (Or.inl ⟨rfl, rfl⟩)) rfl rfl (avs := [.ref 0, .int p0]) rfl rfl ⟨Nat.le_of_ble_eq_true rfl, Nat.le_of_ble_eq_true rfl⟩ (Nat.le_of_ble_eq_true rfl) ⟨rfl, rfl⟩ ⟨⟨_, _, _, rfl, Nat.le_of_ble_eq_true rfl, rfl⟩, _, _, F, rfl, rfl, h⟩ ?_
  change xRun _ _ (7, _, _, wo s1 F, _, _)
  refine R1 (g' := (8, _, _, _, _, _)) rfl rfl ?_
  refine R_lastO rfl ?_
  refine R1 (g' := (15, _, _, _, _, _)) rfl rfl ?_
  refine R1 (g' := (16, _, .int (nI 0) :: _, _, _, _)) rfl rfl ?_
  refine R_iret rfl ?_
  exact ⟨rfl, rfl⟩
theorem ex_L_value_0 {s s1 : xs} {F : Nat → Int64} {p0 : Int32} (h : Ev_X8_value [.ref 0, .int p0] (wd s) (.inr "java/lang/IllegalArgumentException") (wd s1)) : Ev_L_value [.ref 0, .int p0, .ref 151] (wo s F) (.inl (some (.int (nI 1)))) (wo s1 F) := by
  refine ⟨_, rfl, Nat.le_of_ble_eq_true rfl, Nat.le_refl _, Or.inl rfl, ?_⟩
  refine R1 (g' := (1, _, _, _, _, _)) rfl rfl ?_
  refine R1 (g' := (2, _, .int (nI 0) :: _, _, _, _)) rfl rfl ?_
  refine R1 (g' := (3, _, _, _, _, _)) rfl rfl ?_
  refine R1 (g' := (4, _, _, _, _, _)) rfl rfl ?_
  refine R_callH ⟨rfl, rfl⟩ rfl rfl (avs := [.ref 0, .int p0]) rfl rfl ⟨Nat.le_of_ble_eq_true rfl, Nat.le_of_ble_eq_true rfl⟩ (Nat.le_of_ble_eq_true rfl) ⟨rfl, rfl⟩ ⟨⟨_, _, _, rfl, Nat.le_of_ble_eq_true rfl, rfl⟩, _, _, F, rfl, rfl, h⟩ (by decide +kernel) ⟨rfl, rfl⟩
theorem hp_L_value {s : xs} {F : Nat → Int64} {p0 : Int32} (hP : Pair Ev_X8_value Ev_X9_value [.ref 0, .int p0] [.ref 142, .int p0] ["java/lang/IllegalArgumentException"] s) : HP Ev_L_value Ev_X9_value [.ref 0, .int p0, .ref 151] [.ref 142, .int p0] s F := by
  obtain ⟨o, s1, v, s2, h1, h2, hR, h3⟩ := hP
  rcases h3 with ⟨rfl, e⟩ | ⟨k, E, hk, rfl, e⟩
  · exact ⟨nI 0, vp_updL F 0 v.toInt64, s1, v, s2, ev_L_value h1, h2, hR, e, fun _ => by simp [vp_updL]⟩
  · match k, hk with
    | 0, hk =>
      cases hk
      exact ⟨nI 1, F, s1, v, s2, ex_L_value_0 h1, h2, hR, e, fun h => absurd h (by decide)⟩
    | k + 1, hk => cases hk
def T_L_tellStep : List (Nat × Instr) := [(0, .aload 5), (2, .iconst 0), (3, .aload_n 0), (4, .iload_n 1), (5, .iload_n 2), (6, .iload_n 3), (7, .iload 4), (9, .invokevirtual 50), (12, .i2l), (13, .lastore), (14, .goto 11), (17, .astore 6), (19, .iconst 1), (20, .ireturn), (21, .astore 6), (23, .iconst 2), (24, .ireturn), (25, .iconst 0), (26, .ireturn)]
theorem tb_L_tellStep : ∀ pc i, xlk T_L_tellStep pc = some i → ∃ n, decode cL_tellStep pc = .ok (i, xlen i n) := xTb_of (by decide +kernel)
abbrev rm_L_tellStep : Room := { frames := 10, cells := 5, slots := 30, locals := 179 }
abbrev hh_L_tellStep : List (Nat × Nat × Nat × Nat) := [(0, 14, 17, 13), (0, 14, 21, 24)]
def L_L_tellStep : List (Nat × Nat × Nat × Nat × xR) := [(151, 5, 5, 30, xVR 8 (xFr Ev_X8_tellStep))]
def HD_L_tellStep : Nat → String → Option Int32 := fun pc E => bif Nat.beq pc 9 then (if E = "java/lang/IllegalArgumentException" then some (nI 1) else if E = "java/lang/IllegalStateException" then some (nI 2) else none) else none
def M_L_tellStep : xM := (7, T_L_tellStep, xal LF_L, xal LK_L, xal LN_L, xal [], HD_L_tellStep, xcl L_L_tellStep, 5, 30)
def Ev_L_tellStep : xR := fun avs w o w1 => ∃ v0 : Int32, o = .inl (some (.int v0)) ∧ xEv M_L_tellStep (some .int) avs w o w1
theorem hd_L_tellStep : ∀ pc E j, HD_L_tellStep pc E = some j → xHk RL cL_tellStep 7 hh_L_tellStep pc E j := by
  intro pc E j h
  unfold HD_L_tellStep at h
  cases hb : Nat.beq pc 9 with
  | false =>
    rw [hb] at h
    cases h
  | true =>
    rw [hb] at h
    obtain rfl := Nat.eq_of_beq_eq_true hb
    dsimp only [cond_true] at h
    split at h
    · rename_i he
      subst he
      cases h
      exact ⟨[], ⟨0, 14, 17, 13⟩, [⟨0, 14, 21, 24⟩], _, 6, 2, .astore 6, 1, rfl, (fun _ h => absurd h List.not_mem_nil), by decide, by decide, gw_590, xbc_IAE, by decide, Or.inl ⟨rfl, rfl⟩, by decide +kernel, by decide +kernel, rfl, by decide +kernel⟩
    split at h
    · rename_i he
      subst he
      cases h
      exact ⟨[⟨0, 14, 17, 13⟩], ⟨0, 14, 21, 24⟩, [], _, 6, 2, .astore 6, 2, rfl, (List.forall_mem_cons.mpr ⟨⟨by decide, _, gw_590, List.mem_of_getElem? (i := 2) rfl⟩, (fun _ h => absurd h List.not_mem_nil)⟩), by decide, by decide, gw_682, xbc_ISE, by decide, Or.inl ⟨rfl, rfl⟩, by decide +kernel, by decide +kernel, rfl, by decide +kernel⟩
    cases h
set_option maxRecDepth 100000 in
theorem snd_L_tellStep {l : Launch} {D : va_G} {tc : Nat → ClassId} (hl : l.stackTraces = false) {avs : List Value} {w w1 : xw} {o : xO} (h : Ev_L_tellStep avs w o w1) : w.1 ≤ w1.1 ∧ xCTW l D tc yL_tellStep (.codeWith yL_tellStep cL_tellStep 7 (some .int) hh_L_tellStep :: gW) rm_L_tellStep avs w o w1 := by
  obtain ⟨v0, rfl, h⟩ := h
  exact met_soundW (y := yL_tellStep) (M := M_L_tellStep) (rm := rm_L_tellStep) (hh := hh_L_tellStep) (by decide +kernel) tb_L_tellStep xK_L xClok_ok xF_L xN_L (fun _ h => nomatch (show (none : Option Value) = some _ from h)) xty_ok rfl rfl (fun _ _ h => nomatch (show (none : Option String) = some _ from h)) hd_L_tellStep
    (fun p e s m args below meth c N0 ρ0 A0 Q hC hNs hZ => xCall_of (List.forall_mem_cons.mpr ⟨cok_VF (n := 4) (y := yX8_tellStep) (bytes := cX8_tellStep) (maxL := 5) (ret := (some .int)) (rm := rm_X8_tellStep) hC hNs hZ rfl rfl ⟨gw_801, gw_1, gw_798, gw_799, gw_800⟩ (by decide +kernel) ⟨Nat.le_of_ble_eq_true rfl, Nat.le_of_ble_eq_true rfl⟩ (fun _ _ _ _ h => snd_X8_tellStep hl h), (fun _ h => absurd h List.not_mem_nil)⟩)) h
theorem ev_L_tellStep {s s1 : xs} {F : Nat → Int64} {p0 p1 p2 p3 : Int32} {v : Int32} (h : Ev_X8_tellStep [.ref 0, .int p0, .int p1, .int p2, .int p3] (wd s) (.inl (some (.int v))) (wd s1)) : Ev_L_tellStep [.ref 0, .int p0, .int p1, .int p2, .int p3, .ref 151] (wo s F) (.inl (some (.int (nI 0)))) (wo s1 (vp_updL F 0 v.toInt64)) := by
  refine ⟨_, rfl, Nat.le_of_ble_eq_true rfl, Nat.le_refl _, Or.inl rfl, ?_⟩
  refine R1 (g' := (2, _, _, _, _, _)) rfl rfl ?_
  refine R1 (g' := (3, _, .int (nI 0) :: _, _, _, _)) rfl rfl ?_
  refine R1 (g' := (4, _, _, _, _, _)) rfl rfl ?_
  refine R1 (g' := (5, _, _, _, _, _)) rfl rfl ?_
  refine R1 (g' := (6, _, _, _, _, _)) rfl rfl ?_
  refine R1 (g' := (7, _, _, _, _, _)) rfl rfl ?_
  refine R1 (g' := (9, _, _, _, _, _)) rfl rfl ?_
  refine R_call (Or.inr (Or.inl ⟨rfl, rfl⟩)) rfl rfl (avs := [.ref 0, .int p0, .int p1, .int p2, .int p3]) rfl rfl ⟨Nat.le_of_ble_eq_true rfl, Nat.le_of_ble_eq_true rfl⟩ (Nat.le_of_ble_eq_true rfl) ⟨rfl, rfl⟩ ⟨⟨_, _, _, rfl, Nat.le_of_ble_eq_true rfl, rfl⟩, _, _, F, rfl, rfl, h⟩ ?_
  change xRun _ _ (12, _, _, wo s1 F, _, _)
  refine R1 (g' := (13, _, _, _, _, _)) rfl rfl ?_
  refine R_lastO rfl ?_
  refine R1 (g' := (25, _, _, _, _, _)) rfl rfl ?_
  refine R1 (g' := (26, _, .int (nI 0) :: _, _, _, _)) rfl rfl ?_
  refine R_iret rfl ?_
  exact ⟨rfl, rfl⟩
theorem ex_L_tellStep_0 {s s1 : xs} {F : Nat → Int64} {p0 p1 p2 p3 : Int32} (h : Ev_X8_tellStep [.ref 0, .int p0, .int p1, .int p2, .int p3] (wd s) (.inr "java/lang/IllegalArgumentException") (wd s1)) : Ev_L_tellStep [.ref 0, .int p0, .int p1, .int p2, .int p3, .ref 151] (wo s F) (.inl (some (.int (nI 1)))) (wo s1 F) := by
  refine ⟨_, rfl, Nat.le_of_ble_eq_true rfl, Nat.le_refl _, Or.inl rfl, ?_⟩
  refine R1 (g' := (2, _, _, _, _, _)) rfl rfl ?_
  refine R1 (g' := (3, _, .int (nI 0) :: _, _, _, _)) rfl rfl ?_
  refine R1 (g' := (4, _, _, _, _, _)) rfl rfl ?_
  refine R1 (g' := (5, _, _, _, _, _)) rfl rfl ?_
  refine R1 (g' := (6, _, _, _, _, _)) rfl rfl ?_
  refine R1 (g' := (7, _, _, _, _, _)) rfl rfl ?_
  refine R1 (g' := (9, _, _, _, _, _)) rfl rfl ?_
  refine R_callH ⟨rfl, rfl⟩ rfl rfl (avs := [.ref 0, .int p0, .int p1, .int p2, .int p3]) rfl rfl ⟨Nat.le_of_ble_eq_true rfl, Nat.le_of_ble_eq_true rfl⟩ (Nat.le_of_ble_eq_true rfl) ⟨rfl, rfl⟩ ⟨⟨_, _, _, rfl, Nat.le_of_ble_eq_true rfl, rfl⟩, _, _, F, rfl, rfl, h⟩ (by decide +kernel) ⟨rfl, rfl⟩
theorem ex_L_tellStep_1 {s s1 : xs} {F : Nat → Int64} {p0 p1 p2 p3 : Int32} (h : Ev_X8_tellStep [.ref 0, .int p0, .int p1, .int p2, .int p3] (wd s) (.inr "java/lang/IllegalStateException") (wd s1)) : Ev_L_tellStep [.ref 0, .int p0, .int p1, .int p2, .int p3, .ref 151] (wo s F) (.inl (some (.int (nI 2)))) (wo s1 F) := by
  refine ⟨_, rfl, Nat.le_of_ble_eq_true rfl, Nat.le_refl _, Or.inl rfl, ?_⟩
  refine R1 (g' := (2, _, _, _, _, _)) rfl rfl ?_
  refine R1 (g' := (3, _, .int (nI 0) :: _, _, _, _)) rfl rfl ?_
  refine R1 (g' := (4, _, _, _, _, _)) rfl rfl ?_
  refine R1 (g' := (5, _, _, _, _, _)) rfl rfl ?_
  refine R1 (g' := (6, _, _, _, _, _)) rfl rfl ?_
  refine R1 (g' := (7, _, _, _, _, _)) rfl rfl ?_
  refine R1 (g' := (9, _, _, _, _, _)) rfl rfl ?_
  refine R_callH ⟨rfl, rfl⟩ rfl rfl (avs := [.ref 0, .int p0, .int p1, .int p2, .int p3]) rfl rfl ⟨Nat.le_of_ble_eq_true rfl, Nat.le_of_ble_eq_true rfl⟩ (Nat.le_of_ble_eq_true rfl) ⟨rfl, rfl⟩ ⟨⟨_, _, _, rfl, Nat.le_of_ble_eq_true rfl, rfl⟩, _, _, F, rfl, rfl, h⟩ (by decide +kernel) ⟨rfl, rfl⟩
theorem hp_L_tellStep {s : xs} {F : Nat → Int64} {p0 p1 p2 p3 : Int32} (hP : Pair Ev_X8_tellStep Ev_X9_tellStep [.ref 0, .int p0, .int p1, .int p2, .int p3] [.ref 142, .int p0, .int p1, .int p2, .int p3] ["java/lang/IllegalArgumentException", "java/lang/IllegalStateException"] s) : HP Ev_L_tellStep Ev_X9_tellStep [.ref 0, .int p0, .int p1, .int p2, .int p3, .ref 151] [.ref 142, .int p0, .int p1, .int p2, .int p3] s F := by
  obtain ⟨o, s1, v, s2, h1, h2, hR, h3⟩ := hP
  rcases h3 with ⟨rfl, e⟩ | ⟨k, E, hk, rfl, e⟩
  · exact ⟨nI 0, vp_updL F 0 v.toInt64, s1, v, s2, ev_L_tellStep h1, h2, hR, e, fun _ => by simp [vp_updL]⟩
  · match k, hk with
    | 0, hk =>
      cases hk
      exact ⟨nI 1, F, s1, v, s2, ex_L_tellStep_0 h1, h2, hR, e, fun h => absurd h (by decide)⟩
    | 1, hk =>
      cases hk
      exact ⟨nI 2, F, s1, v, s2, ex_L_tellStep_1 h1, h2, hR, e, fun h => absurd h (by decide)⟩
    | k + 2, hk => cases hk
def T_L_step : List (Nat × Instr) := [(0, .aload_n 3), (1, .iconst 0), (2, .aload_n 0), (3, .iload_n 1), (4, .iload_n 2), (5, .invokevirtual 53), (8, .i2l), (9, .lastore), (10, .goto 11), (13, .astore 4), (15, .iconst 1), (16, .ireturn), (17, .astore 4), (19, .iconst 2), (20, .ireturn), (21, .iconst 0), (22, .ireturn)]
theorem tb_L_step : ∀ pc i, xlk T_L_step pc = some i → ∃ n, decode cL_step pc = .ok (i, xlen i n) := xTb_of (by decide +kernel)
abbrev rm_L_step : Room := { frames := 8, cells := 2, slots := 12, locals := 134 }
abbrev hh_L_step : List (Nat × Nat × Nat × Nat) := [(0, 10, 13, 22), (0, 10, 17, 13)]
def L_L_step : List (Nat × Nat × Nat × Nat × xR) := [(160, 3, 2, 12, xVR 8 (xFr Ev_X8_step))]
def HD_L_step : Nat → String → Option Int32 := fun pc E => bif Nat.beq pc 5 then (if E = "java/lang/IndexOutOfBoundsException" then some (nI 1) else if E = "java/lang/IllegalArgumentException" then some (nI 2) else none) else none
def M_L_step : xM := (5, T_L_step, xal LF_L, xal LK_L, xal LN_L, xal [], HD_L_step, xcl L_L_step, 2, 12)
def Ev_L_step : xR := fun avs w o w1 => ∃ v0 : Int32, o = .inl (some (.int v0)) ∧ xEv M_L_step (some .int) avs w o w1
theorem hd_L_step : ∀ pc E j, HD_L_step pc E = some j → xHk RL cL_step 5 hh_L_step pc E j := by
  intro pc E j h
  unfold HD_L_step at h
  cases hb : Nat.beq pc 5 with
  | false =>
    rw [hb] at h
    cases h
  | true =>
    rw [hb] at h
    obtain rfl := Nat.eq_of_beq_eq_true hb
    dsimp only [cond_true] at h
    split at h
    · rename_i he
      subst he
      cases h
      exact ⟨[], ⟨0, 10, 13, 22⟩, [⟨0, 10, 17, 13⟩], _, 4, 2, .astore 4, 1, rfl, (fun _ h => absurd h List.not_mem_nil), by decide, by decide, gw_681, xbc_IOB, by decide, Or.inl ⟨rfl, rfl⟩, by decide +kernel, by decide +kernel, rfl, by decide +kernel⟩
    split at h
    · rename_i he
      subst he
      cases h
      exact ⟨[⟨0, 10, 13, 22⟩], ⟨0, 10, 17, 13⟩, [], _, 4, 2, .astore 4, 2, rfl, (List.forall_mem_cons.mpr ⟨⟨by decide, _, gw_681, List.mem_of_getElem? (i := 0) rfl⟩, (fun _ h => absurd h List.not_mem_nil)⟩), by decide, by decide, gw_590, xbc_IAE, by decide, Or.inl ⟨rfl, rfl⟩, by decide +kernel, by decide +kernel, rfl, by decide +kernel⟩
    cases h
set_option maxRecDepth 100000 in
theorem snd_L_step {l : Launch} {D : va_G} {tc : Nat → ClassId} (hl : l.stackTraces = false) {avs : List Value} {w w1 : xw} {o : xO} (h : Ev_L_step avs w o w1) : w.1 ≤ w1.1 ∧ xCTW l D tc yL_step (.codeWith yL_step cL_step 5 (some .int) hh_L_step :: gW) rm_L_step avs w o w1 := by
  obtain ⟨v0, rfl, h⟩ := h
  exact met_soundW (y := yL_step) (M := M_L_step) (rm := rm_L_step) (hh := hh_L_step) (by decide +kernel) tb_L_step xK_L xClok_ok xF_L xN_L (fun _ h => nomatch (show (none : Option Value) = some _ from h)) xty_ok rfl rfl (fun _ _ h => nomatch (show (none : Option String) = some _ from h)) hd_L_step
    (fun p e s m args below meth c N0 ρ0 A0 Q hC hNs hZ => xCall_of (List.forall_mem_cons.mpr ⟨cok_VF (n := 2) (y := yX8_step) (bytes := cX8_step) (maxL := 3) (ret := (some .int)) (rm := rm_X8_step) hC hNs hZ rfl rfl ⟨gw_814, gw_1, gw_811, gw_812, gw_813⟩ (by decide +kernel) ⟨Nat.le_of_ble_eq_true rfl, Nat.le_of_ble_eq_true rfl⟩ (fun _ _ _ _ h => snd_X8_step hl h), (fun _ h => absurd h List.not_mem_nil)⟩)) h
theorem ev_L_step {s s1 : xs} {F : Nat → Int64} {p0 p1 : Int32} {v : Int32} (h : Ev_X8_step [.ref 0, .int p0, .int p1] (wd s) (.inl (some (.int v))) (wd s1)) : Ev_L_step [.ref 0, .int p0, .int p1, .ref 151] (wo s F) (.inl (some (.int (nI 0)))) (wo s1 (vp_updL F 0 v.toInt64)) := by
  refine ⟨_, rfl, Nat.le_of_ble_eq_true rfl, Nat.le_refl _, Or.inl rfl, ?_⟩
  refine R1 (g' := (1, _, _, _, _, _)) rfl rfl ?_
  refine R1 (g' := (2, _, .int (nI 0) :: _, _, _, _)) rfl rfl ?_
  refine R1 (g' := (3, _, _, _, _, _)) rfl rfl ?_
  refine R1 (g' := (4, _, _, _, _, _)) rfl rfl ?_
  refine R1 (g' := (5, _, _, _, _, _)) rfl rfl ?_
  refine R_call (Or.inr (Or.inl ⟨rfl, rfl⟩)) rfl rfl (avs := [.ref 0, .int p0, .int p1]) rfl rfl ⟨Nat.le_of_ble_eq_true rfl, Nat.le_of_ble_eq_true rfl⟩ (Nat.le_of_ble_eq_true rfl) ⟨rfl, rfl⟩ ⟨⟨_, _, _, rfl, Nat.le_of_ble_eq_true rfl, rfl⟩, _, _, F, rfl, rfl, h⟩ ?_
  change xRun _ _ (8, _, _, wo s1 F, _, _)
  refine R1 (g' := (9, _, _, _, _, _)) rfl rfl ?_
  refine R_lastO rfl ?_
  refine R1 (g' := (21, _, _, _, _, _)) rfl rfl ?_
  refine R1 (g' := (22, _, .int (nI 0) :: _, _, _, _)) rfl rfl ?_
  refine R_iret rfl ?_
  exact ⟨rfl, rfl⟩
theorem ex_L_step_0 {s s1 : xs} {F : Nat → Int64} {p0 p1 : Int32} (h : Ev_X8_step [.ref 0, .int p0, .int p1] (wd s) (.inr "java/lang/IndexOutOfBoundsException") (wd s1)) : Ev_L_step [.ref 0, .int p0, .int p1, .ref 151] (wo s F) (.inl (some (.int (nI 1)))) (wo s1 F) := by
  refine ⟨_, rfl, Nat.le_of_ble_eq_true rfl, Nat.le_refl _, Or.inl rfl, ?_⟩
  refine R1 (g' := (1, _, _, _, _, _)) rfl rfl ?_
  refine R1 (g' := (2, _, .int (nI 0) :: _, _, _, _)) rfl rfl ?_
  refine R1 (g' := (3, _, _, _, _, _)) rfl rfl ?_
  refine R1 (g' := (4, _, _, _, _, _)) rfl rfl ?_
  refine R1 (g' := (5, _, _, _, _, _)) rfl rfl ?_
  refine R_callH ⟨rfl, rfl⟩ rfl rfl (avs := [.ref 0, .int p0, .int p1]) rfl rfl ⟨Nat.le_of_ble_eq_true rfl, Nat.le_of_ble_eq_true rfl⟩ (Nat.le_of_ble_eq_true rfl) ⟨rfl, rfl⟩ ⟨⟨_, _, _, rfl, Nat.le_of_ble_eq_true rfl, rfl⟩, _, _, F, rfl, rfl, h⟩ (by decide +kernel) ⟨rfl, rfl⟩
theorem ex_L_step_1 {s s1 : xs} {F : Nat → Int64} {p0 p1 : Int32} (h : Ev_X8_step [.ref 0, .int p0, .int p1] (wd s) (.inr "java/lang/IllegalArgumentException") (wd s1)) : Ev_L_step [.ref 0, .int p0, .int p1, .ref 151] (wo s F) (.inl (some (.int (nI 2)))) (wo s1 F) := by
  refine ⟨_, rfl, Nat.le_of_ble_eq_true rfl, Nat.le_refl _, Or.inl rfl, ?_⟩
  refine R1 (g' := (1, _, _, _, _, _)) rfl rfl ?_
  refine R1 (g' := (2, _, .int (nI 0) :: _, _, _, _)) rfl rfl ?_
  refine R1 (g' := (3, _, _, _, _, _)) rfl rfl ?_
  refine R1 (g' := (4, _, _, _, _, _)) rfl rfl ?_
  refine R1 (g' := (5, _, _, _, _, _)) rfl rfl ?_
  refine R_callH ⟨rfl, rfl⟩ rfl rfl (avs := [.ref 0, .int p0, .int p1]) rfl rfl ⟨Nat.le_of_ble_eq_true rfl, Nat.le_of_ble_eq_true rfl⟩ (Nat.le_of_ble_eq_true rfl) ⟨rfl, rfl⟩ ⟨⟨_, _, _, rfl, Nat.le_of_ble_eq_true rfl, rfl⟩, _, _, F, rfl, rfl, h⟩ (by decide +kernel) ⟨rfl, rfl⟩
theorem hp_L_step {s : xs} {F : Nat → Int64} {p0 p1 : Int32} (hP : Pair Ev_X8_step Ev_X9_step [.ref 0, .int p0, .int p1] [.ref 142, .int p0, .int p1] ["java/lang/IndexOutOfBoundsException", "java/lang/IllegalArgumentException"] s) : HP Ev_L_step Ev_X9_step [.ref 0, .int p0, .int p1, .ref 151] [.ref 142, .int p0, .int p1] s F := by
  obtain ⟨o, s1, v, s2, h1, h2, hR, h3⟩ := hP
  rcases h3 with ⟨rfl, e⟩ | ⟨k, E, hk, rfl, e⟩
  · exact ⟨nI 0, vp_updL F 0 v.toInt64, s1, v, s2, ev_L_step h1, h2, hR, e, fun _ => by simp [vp_updL]⟩
  · match k, hk with
    | 0, hk =>
      cases hk
      exact ⟨nI 1, F, s1, v, s2, ex_L_step_0 h1, h2, hR, e, fun h => absurd h (by decide)⟩
    | 1, hk =>
      cases hk
      exact ⟨nI 2, F, s1, v, s2, ex_L_step_1 h1, h2, hR, e, fun h => absurd h (by decide)⟩
    | k + 2, hk => cases hk
def T_L_way : List (Nat × Instr) := [(0, .aload 5), (2, .iconst 0), (3, .aload_n 0), (4, .iload_n 1), (5, .iload_n 2), (6, .iload_n 3), (7, .iload 4), (9, .invokevirtual 56), (12, .i2l), (13, .lastore), (14, .goto 11), (17, .astore 6), (19, .iconst 1), (20, .ireturn), (21, .astore 6), (23, .iconst 2), (24, .ireturn), (25, .iconst 0), (26, .ireturn)]
theorem tb_L_way : ∀ pc i, xlk T_L_way pc = some i → ∃ n, decode cL_way pc = .ok (i, xlen i n) := xTb_of (by decide +kernel)
abbrev rm_L_way : Room := { frames := 10, cells := 4, slots := 24, locals := 179 }
abbrev hh_L_way : List (Nat × Nat × Nat × Nat) := [(0, 14, 17, 22), (0, 14, 21, 13)]
def L_L_way : List (Nat × Nat × Nat × Nat × xR) := [(169, 5, 4, 24, xVR 8 (xFr Ev_X8_way))]
def HD_L_way : Nat → String → Option Int32 := fun pc E => bif Nat.beq pc 9 then (if E = "java/lang/IndexOutOfBoundsException" then some (nI 1) else if E = "java/lang/IllegalArgumentException" then some (nI 2) else none) else none
def M_L_way : xM := (7, T_L_way, xal LF_L, xal LK_L, xal LN_L, xal [], HD_L_way, xcl L_L_way, 4, 24)
def Ev_L_way : xR := fun avs w o w1 => ∃ v0 : Int32, o = .inl (some (.int v0)) ∧ xEv M_L_way (some .int) avs w o w1
theorem hd_L_way : ∀ pc E j, HD_L_way pc E = some j → xHk RL cL_way 7 hh_L_way pc E j := by
  intro pc E j h
  unfold HD_L_way at h
  cases hb : Nat.beq pc 9 with
  | false =>
    rw [hb] at h
    cases h
  | true =>
    rw [hb] at h
    obtain rfl := Nat.eq_of_beq_eq_true hb
    dsimp only [cond_true] at h
    split at h
    · rename_i he
      subst he
      cases h
      exact ⟨[], ⟨0, 14, 17, 22⟩, [⟨0, 14, 21, 13⟩], _, 6, 2, .astore 6, 1, rfl, (fun _ h => absurd h List.not_mem_nil), by decide, by decide, gw_681, xbc_IOB, by decide, Or.inl ⟨rfl, rfl⟩, by decide +kernel, by decide +kernel, rfl, by decide +kernel⟩
    split at h
    · rename_i he
      subst he
      cases h
      exact ⟨[⟨0, 14, 17, 22⟩], ⟨0, 14, 21, 13⟩, [], _, 6, 2, .astore 6, 2, rfl, (List.forall_mem_cons.mpr ⟨⟨by decide, _, gw_681, List.mem_of_getElem? (i := 0) rfl⟩, (fun _ h => absurd h List.not_mem_nil)⟩), by decide, by decide, gw_590, xbc_IAE, by decide, Or.inl ⟨rfl, rfl⟩, by decide +kernel, by decide +kernel, rfl, by decide +kernel⟩
    cases h
set_option maxRecDepth 100000 in
theorem snd_L_way {l : Launch} {D : va_G} {tc : Nat → ClassId} (hl : l.stackTraces = false) {avs : List Value} {w w1 : xw} {o : xO} (h : Ev_L_way avs w o w1) : w.1 ≤ w1.1 ∧ xCTW l D tc yL_way (.codeWith yL_way cL_way 7 (some .int) hh_L_way :: gW) rm_L_way avs w o w1 := by
  obtain ⟨v0, rfl, h⟩ := h
  exact met_soundW (y := yL_way) (M := M_L_way) (rm := rm_L_way) (hh := hh_L_way) (by decide +kernel) tb_L_way xK_L xClok_ok xF_L xN_L (fun _ h => nomatch (show (none : Option Value) = some _ from h)) xty_ok rfl rfl (fun _ _ h => nomatch (show (none : Option String) = some _ from h)) hd_L_way
    (fun p e s m args below meth c N0 ρ0 A0 Q hC hNs hZ => xCall_of (List.forall_mem_cons.mpr ⟨cok_VF (n := 4) (y := yX8_way) (bytes := cX8_way) (maxL := 5) (ret := (some .int)) (rm := rm_X8_way) hC hNs hZ rfl rfl ⟨gw_823, gw_1, gw_820, gw_821, gw_822⟩ (by decide +kernel) ⟨Nat.le_of_ble_eq_true rfl, Nat.le_of_ble_eq_true rfl⟩ (fun _ _ _ _ h => snd_X8_way hl h), (fun _ h => absurd h List.not_mem_nil)⟩)) h
theorem ev_L_way {s s1 : xs} {F : Nat → Int64} {p0 p1 p2 p3 : Int32} {v : Int32} (h : Ev_X8_way [.ref 0, .int p0, .int p1, .int p2, .int p3] (wd s) (.inl (some (.int v))) (wd s1)) : Ev_L_way [.ref 0, .int p0, .int p1, .int p2, .int p3, .ref 151] (wo s F) (.inl (some (.int (nI 0)))) (wo s1 (vp_updL F 0 v.toInt64)) := by
  refine ⟨_, rfl, Nat.le_of_ble_eq_true rfl, Nat.le_refl _, Or.inl rfl, ?_⟩
  refine R1 (g' := (2, _, _, _, _, _)) rfl rfl ?_
  refine R1 (g' := (3, _, .int (nI 0) :: _, _, _, _)) rfl rfl ?_
  refine R1 (g' := (4, _, _, _, _, _)) rfl rfl ?_
  refine R1 (g' := (5, _, _, _, _, _)) rfl rfl ?_
  refine R1 (g' := (6, _, _, _, _, _)) rfl rfl ?_
  refine R1 (g' := (7, _, _, _, _, _)) rfl rfl ?_
  refine R1 (g' := (9, _, _, _, _, _)) rfl rfl ?_
  refine R_call (Or.inr (Or.inl ⟨rfl, rfl⟩)) rfl rfl (avs := [.ref 0, .int p0, .int p1, .int p2, .int p3]) rfl rfl ⟨Nat.le_of_ble_eq_true rfl, Nat.le_of_ble_eq_true rfl⟩ (Nat.le_of_ble_eq_true rfl) ⟨rfl, rfl⟩ ⟨⟨_, _, _, rfl, Nat.le_of_ble_eq_true rfl, rfl⟩, _, _, F, rfl, rfl, h⟩ ?_
  change xRun _ _ (12, _, _, wo s1 F, _, _)
  refine R1 (g' := (13, _, _, _, _, _)) rfl rfl ?_
  refine R_lastO rfl ?_
  refine R1 (g' := (25, _, _, _, _, _)) rfl rfl ?_
  refine R1 (g' := (26, _, .int (nI 0) :: _, _, _, _)) rfl rfl ?_
  refine R_iret rfl ?_
  exact ⟨rfl, rfl⟩
theorem ex_L_way_0 {s s1 : xs} {F : Nat → Int64} {p0 p1 p2 p3 : Int32} (h : Ev_X8_way [.ref 0, .int p0, .int p1, .int p2, .int p3] (wd s) (.inr "java/lang/IndexOutOfBoundsException") (wd s1)) : Ev_L_way [.ref 0, .int p0, .int p1, .int p2, .int p3, .ref 151] (wo s F) (.inl (some (.int (nI 1)))) (wo s1 F) := by
  refine ⟨_, rfl, Nat.le_of_ble_eq_true rfl, Nat.le_refl _, Or.inl rfl, ?_⟩
  refine R1 (g' := (2, _, _, _, _, _)) rfl rfl ?_
  refine R1 (g' := (3, _, .int (nI 0) :: _, _, _, _)) rfl rfl ?_
  refine R1 (g' := (4, _, _, _, _, _)) rfl rfl ?_
  refine R1 (g' := (5, _, _, _, _, _)) rfl rfl ?_
  refine R1 (g' := (6, _, _, _, _, _)) rfl rfl ?_
  refine R1 (g' := (7, _, _, _, _, _)) rfl rfl ?_
  refine R1 (g' := (9, _, _, _, _, _)) rfl rfl ?_
  refine R_callH ⟨rfl, rfl⟩ rfl rfl (avs := [.ref 0, .int p0, .int p1, .int p2, .int p3]) rfl rfl ⟨Nat.le_of_ble_eq_true rfl, Nat.le_of_ble_eq_true rfl⟩ (Nat.le_of_ble_eq_true rfl) ⟨rfl, rfl⟩ ⟨⟨_, _, _, rfl, Nat.le_of_ble_eq_true rfl, rfl⟩, _, _, F, rfl, rfl, h⟩ (by decide +kernel) ⟨rfl, rfl⟩
theorem ex_L_way_1 {s s1 : xs} {F : Nat → Int64} {p0 p1 p2 p3 : Int32} (h : Ev_X8_way [.ref 0, .int p0, .int p1, .int p2, .int p3] (wd s) (.inr "java/lang/IllegalArgumentException") (wd s1)) : Ev_L_way [.ref 0, .int p0, .int p1, .int p2, .int p3, .ref 151] (wo s F) (.inl (some (.int (nI 2)))) (wo s1 F) := by
  refine ⟨_, rfl, Nat.le_of_ble_eq_true rfl, Nat.le_refl _, Or.inl rfl, ?_⟩
  refine R1 (g' := (2, _, _, _, _, _)) rfl rfl ?_
  refine R1 (g' := (3, _, .int (nI 0) :: _, _, _, _)) rfl rfl ?_
  refine R1 (g' := (4, _, _, _, _, _)) rfl rfl ?_
  refine R1 (g' := (5, _, _, _, _, _)) rfl rfl ?_
  refine R1 (g' := (6, _, _, _, _, _)) rfl rfl ?_
  refine R1 (g' := (7, _, _, _, _, _)) rfl rfl ?_
  refine R1 (g' := (9, _, _, _, _, _)) rfl rfl ?_
  refine R_callH ⟨rfl, rfl⟩ rfl rfl (avs := [.ref 0, .int p0, .int p1, .int p2, .int p3]) rfl rfl ⟨Nat.le_of_ble_eq_true rfl, Nat.le_of_ble_eq_true rfl⟩ (Nat.le_of_ble_eq_true rfl) ⟨rfl, rfl⟩ ⟨⟨_, _, _, rfl, Nat.le_of_ble_eq_true rfl, rfl⟩, _, _, F, rfl, rfl, h⟩ (by decide +kernel) ⟨rfl, rfl⟩
theorem hp_L_way {s : xs} {F : Nat → Int64} {p0 p1 p2 p3 : Int32} (hP : Pair Ev_X8_way Ev_X9_way [.ref 0, .int p0, .int p1, .int p2, .int p3] [.ref 142, .int p0, .int p1, .int p2, .int p3] ["java/lang/IndexOutOfBoundsException", "java/lang/IllegalArgumentException"] s) : HP Ev_L_way Ev_X9_way [.ref 0, .int p0, .int p1, .int p2, .int p3, .ref 151] [.ref 142, .int p0, .int p1, .int p2, .int p3] s F := by
  obtain ⟨o, s1, v, s2, h1, h2, hR, h3⟩ := hP
  rcases h3 with ⟨rfl, e⟩ | ⟨k, E, hk, rfl, e⟩
  · exact ⟨nI 0, vp_updL F 0 v.toInt64, s1, v, s2, ev_L_way h1, h2, hR, e, fun _ => by simp [vp_updL]⟩
  · match k, hk with
    | 0, hk =>
      cases hk
      exact ⟨nI 1, F, s1, v, s2, ex_L_way_0 h1, h2, hR, e, fun h => absurd h (by decide)⟩
    | 1, hk =>
      cases hk
      exact ⟨nI 2, F, s1, v, s2, ex_L_way_1 h1, h2, hR, e, fun h => absurd h (by decide)⟩
    | k + 2, hk => cases hk
def T_L_blowOf : List (Nat × Instr) := [(0, .aload 6), (2, .iconst 0), (3, .aload_n 0), (4, .iload_n 1), (5, .iload_n 2), (6, .iload_n 3), (7, .iload 4), (9, .iload 5), (11, .invokevirtual 59), (14, .i2l), (15, .lastore), (16, .goto 11), (19, .astore 7), (21, .iconst 1), (22, .ireturn), (23, .astore 7), (25, .iconst 2), (26, .ireturn), (27, .iconst 0), (28, .ireturn)]
theorem tb_L_blowOf : ∀ pc i, xlk T_L_blowOf pc = some i → ∃ n, decode cL_blowOf pc = .ok (i, xlen i n) := xTb_of (by decide +kernel)
abbrev rm_L_blowOf : Room := { frames := 10, cells := 5, slots := 30, locals := 181 }
abbrev hh_L_blowOf : List (Nat × Nat × Nat × Nat) := [(0, 16, 19, 22), (0, 16, 23, 13)]
def L_L_blowOf : List (Nat × Nat × Nat × Nat × xR) := [(178, 6, 5, 30, xVR 8 (xFr Ev_X8_blowOf))]
def HD_L_blowOf : Nat → String → Option Int32 := fun pc E => bif Nat.beq pc 11 then (if E = "java/lang/IndexOutOfBoundsException" then some (nI 1) else if E = "java/lang/IllegalArgumentException" then some (nI 2) else none) else none
def M_L_blowOf : xM := (8, T_L_blowOf, xal LF_L, xal LK_L, xal LN_L, xal [], HD_L_blowOf, xcl L_L_blowOf, 5, 30)
def Ev_L_blowOf : xR := fun avs w o w1 => ∃ v0 : Int32, o = .inl (some (.int v0)) ∧ xEv M_L_blowOf (some .int) avs w o w1
theorem hd_L_blowOf : ∀ pc E j, HD_L_blowOf pc E = some j → xHk RL cL_blowOf 8 hh_L_blowOf pc E j := by
  intro pc E j h
  unfold HD_L_blowOf at h
  cases hb : Nat.beq pc 11 with
  | false =>
    rw [hb] at h
    cases h
  | true =>
    rw [hb] at h
    obtain rfl := Nat.eq_of_beq_eq_true hb
    dsimp only [cond_true] at h
    split at h
    · rename_i he
      subst he
      cases h
      exact ⟨[], ⟨0, 16, 19, 22⟩, [⟨0, 16, 23, 13⟩], _, 7, 2, .astore 7, 1, rfl, (fun _ h => absurd h List.not_mem_nil), by decide, by decide, gw_681, xbc_IOB, by decide, Or.inl ⟨rfl, rfl⟩, by decide +kernel, by decide +kernel, rfl, by decide +kernel⟩
    split at h
    · rename_i he
      subst he
      cases h
      exact ⟨[⟨0, 16, 19, 22⟩], ⟨0, 16, 23, 13⟩, [], _, 7, 2, .astore 7, 2, rfl, (List.forall_mem_cons.mpr ⟨⟨by decide, _, gw_681, List.mem_of_getElem? (i := 0) rfl⟩, (fun _ h => absurd h List.not_mem_nil)⟩), by decide, by decide, gw_590, xbc_IAE, by decide, Or.inl ⟨rfl, rfl⟩, by decide +kernel, by decide +kernel, rfl, by decide +kernel⟩
    cases h
set_option maxRecDepth 100000 in
theorem snd_L_blowOf {l : Launch} {D : va_G} {tc : Nat → ClassId} (hl : l.stackTraces = false) {avs : List Value} {w w1 : xw} {o : xO} (h : Ev_L_blowOf avs w o w1) : w.1 ≤ w1.1 ∧ xCTW l D tc yL_blowOf (.codeWith yL_blowOf cL_blowOf 8 (some .int) hh_L_blowOf :: gW) rm_L_blowOf avs w o w1 := by
  obtain ⟨v0, rfl, h⟩ := h
  exact met_soundW (y := yL_blowOf) (M := M_L_blowOf) (rm := rm_L_blowOf) (hh := hh_L_blowOf) (by decide +kernel) tb_L_blowOf xK_L xClok_ok xF_L xN_L (fun _ h => nomatch (show (none : Option Value) = some _ from h)) xty_ok rfl rfl (fun _ _ h => nomatch (show (none : Option String) = some _ from h)) hd_L_blowOf
    (fun p e s m args below meth c N0 ρ0 A0 Q hC hNs hZ => xCall_of (List.forall_mem_cons.mpr ⟨cok_VF (n := 5) (y := yX8_blowOf) (bytes := cX8_blowOf) (maxL := 7) (ret := (some .int)) (rm := rm_X8_blowOf) hC hNs hZ rfl rfl ⟨gw_830, gw_1, gw_827, gw_828, gw_829⟩ (by decide +kernel) ⟨Nat.le_of_ble_eq_true rfl, Nat.le_of_ble_eq_true rfl⟩ (fun _ _ _ _ h => snd_X8_blowOf hl h), (fun _ h => absurd h List.not_mem_nil)⟩)) h
theorem ev_L_blowOf {s s1 : xs} {F : Nat → Int64} {p0 p1 p2 p3 p4 : Int32} {v : Int32} (h : Ev_X8_blowOf [.ref 0, .int p0, .int p1, .int p2, .int p3, .int p4] (wd s) (.inl (some (.int v))) (wd s1)) : Ev_L_blowOf [.ref 0, .int p0, .int p1, .int p2, .int p3, .int p4, .ref 151] (wo s F) (.inl (some (.int (nI 0)))) (wo s1 (vp_updL F 0 v.toInt64)) := by
  refine ⟨_, rfl, Nat.le_of_ble_eq_true rfl, Nat.le_refl _, Or.inl rfl, ?_⟩
  refine R1 (g' := (2, _, _, _, _, _)) rfl rfl ?_
  refine R1 (g' := (3, _, .int (nI 0) :: _, _, _, _)) rfl rfl ?_
  refine R1 (g' := (4, _, _, _, _, _)) rfl rfl ?_
  refine R1 (g' := (5, _, _, _, _, _)) rfl rfl ?_
  refine R1 (g' := (6, _, _, _, _, _)) rfl rfl ?_
  refine R1 (g' := (7, _, _, _, _, _)) rfl rfl ?_
  refine R1 (g' := (9, _, _, _, _, _)) rfl rfl ?_
  refine R1 (g' := (11, _, _, _, _, _)) rfl rfl ?_
  refine R_call (Or.inr (Or.inl ⟨rfl, rfl⟩)) rfl rfl (avs := [.ref 0, .int p0, .int p1, .int p2, .int p3, .int p4]) rfl rfl ⟨Nat.le_of_ble_eq_true rfl, Nat.le_of_ble_eq_true rfl⟩ (Nat.le_of_ble_eq_true rfl) ⟨rfl, rfl⟩ ⟨⟨_, _, _, rfl, Nat.le_of_ble_eq_true rfl, rfl⟩, _, _, F, rfl, rfl, h⟩ ?_
  change xRun _ _ (14, _, _, wo s1 F, _, _)
  refine R1 (g' := (15, _, _, _, _, _)) rfl rfl ?_
  refine R_lastO rfl ?_
  refine R1 (g' := (27, _, _, _, _, _)) rfl rfl ?_
  refine R1 (g' := (28, _, .int (nI 0) :: _, _, _, _)) rfl rfl ?_
  refine R_iret rfl ?_
  exact ⟨rfl, rfl⟩
theorem ex_L_blowOf_0 {s s1 : xs} {F : Nat → Int64} {p0 p1 p2 p3 p4 : Int32} (h : Ev_X8_blowOf [.ref 0, .int p0, .int p1, .int p2, .int p3, .int p4] (wd s) (.inr "java/lang/IndexOutOfBoundsException") (wd s1)) : Ev_L_blowOf [.ref 0, .int p0, .int p1, .int p2, .int p3, .int p4, .ref 151] (wo s F) (.inl (some (.int (nI 1)))) (wo s1 F) := by
  refine ⟨_, rfl, Nat.le_of_ble_eq_true rfl, Nat.le_refl _, Or.inl rfl, ?_⟩
  refine R1 (g' := (2, _, _, _, _, _)) rfl rfl ?_
  refine R1 (g' := (3, _, .int (nI 0) :: _, _, _, _)) rfl rfl ?_
  refine R1 (g' := (4, _, _, _, _, _)) rfl rfl ?_
  refine R1 (g' := (5, _, _, _, _, _)) rfl rfl ?_
  refine R1 (g' := (6, _, _, _, _, _)) rfl rfl ?_
  refine R1 (g' := (7, _, _, _, _, _)) rfl rfl ?_
  refine R1 (g' := (9, _, _, _, _, _)) rfl rfl ?_
  refine R1 (g' := (11, _, _, _, _, _)) rfl rfl ?_
  refine R_callH ⟨rfl, rfl⟩ rfl rfl (avs := [.ref 0, .int p0, .int p1, .int p2, .int p3, .int p4]) rfl rfl ⟨Nat.le_of_ble_eq_true rfl, Nat.le_of_ble_eq_true rfl⟩ (Nat.le_of_ble_eq_true rfl) ⟨rfl, rfl⟩ ⟨⟨_, _, _, rfl, Nat.le_of_ble_eq_true rfl, rfl⟩, _, _, F, rfl, rfl, h⟩ (by decide +kernel) ⟨rfl, rfl⟩
theorem ex_L_blowOf_1 {s s1 : xs} {F : Nat → Int64} {p0 p1 p2 p3 p4 : Int32} (h : Ev_X8_blowOf [.ref 0, .int p0, .int p1, .int p2, .int p3, .int p4] (wd s) (.inr "java/lang/IllegalArgumentException") (wd s1)) : Ev_L_blowOf [.ref 0, .int p0, .int p1, .int p2, .int p3, .int p4, .ref 151] (wo s F) (.inl (some (.int (nI 2)))) (wo s1 F) := by
  refine ⟨_, rfl, Nat.le_of_ble_eq_true rfl, Nat.le_refl _, Or.inl rfl, ?_⟩
  refine R1 (g' := (2, _, _, _, _, _)) rfl rfl ?_
  refine R1 (g' := (3, _, .int (nI 0) :: _, _, _, _)) rfl rfl ?_
  refine R1 (g' := (4, _, _, _, _, _)) rfl rfl ?_
  refine R1 (g' := (5, _, _, _, _, _)) rfl rfl ?_
  refine R1 (g' := (6, _, _, _, _, _)) rfl rfl ?_
  refine R1 (g' := (7, _, _, _, _, _)) rfl rfl ?_
  refine R1 (g' := (9, _, _, _, _, _)) rfl rfl ?_
  refine R1 (g' := (11, _, _, _, _, _)) rfl rfl ?_
  refine R_callH ⟨rfl, rfl⟩ rfl rfl (avs := [.ref 0, .int p0, .int p1, .int p2, .int p3, .int p4]) rfl rfl ⟨Nat.le_of_ble_eq_true rfl, Nat.le_of_ble_eq_true rfl⟩ (Nat.le_of_ble_eq_true rfl) ⟨rfl, rfl⟩ ⟨⟨_, _, _, rfl, Nat.le_of_ble_eq_true rfl, rfl⟩, _, _, F, rfl, rfl, h⟩ (by decide +kernel) ⟨rfl, rfl⟩
theorem hp_L_blowOf {s : xs} {F : Nat → Int64} {p0 p1 p2 p3 p4 : Int32} (hP : Pair Ev_X8_blowOf Ev_X9_blowOf [.ref 0, .int p0, .int p1, .int p2, .int p3, .int p4] [.ref 142, .int p0, .int p1, .int p2, .int p3, .int p4] ["java/lang/IndexOutOfBoundsException", "java/lang/IllegalArgumentException"] s) : HP Ev_L_blowOf Ev_X9_blowOf [.ref 0, .int p0, .int p1, .int p2, .int p3, .int p4, .ref 151] [.ref 142, .int p0, .int p1, .int p2, .int p3, .int p4] s F := by
  obtain ⟨o, s1, v, s2, h1, h2, hR, h3⟩ := hP
  rcases h3 with ⟨rfl, e⟩ | ⟨k, E, hk, rfl, e⟩
  · exact ⟨nI 0, vp_updL F 0 v.toInt64, s1, v, s2, ev_L_blowOf h1, h2, hR, e, fun _ => by simp [vp_updL]⟩
  · match k, hk with
    | 0, hk =>
      cases hk
      exact ⟨nI 1, F, s1, v, s2, ex_L_blowOf_0 h1, h2, hR, e, fun h => absurd h (by decide)⟩
    | 1, hk =>
      cases hk
      exact ⟨nI 2, F, s1, v, s2, ex_L_blowOf_1 h1, h2, hR, e, fun h => absurd h (by decide)⟩
    | k + 2, hk => cases hk
def T_L_heatsTo : List (Nat × Instr) := [(0, .aload 5), (2, .iconst 0), (3, .aload_n 0), (4, .iload_n 1), (5, .iload_n 2), (6, .iload_n 3), (7, .iload 4), (9, .invokevirtual 63), (12, .i2l), (13, .lastore), (14, .goto 11), (17, .astore 6), (19, .iconst 1), (20, .ireturn), (21, .astore 6), (23, .iconst 2), (24, .ireturn), (25, .iconst 0), (26, .ireturn)]
theorem tb_L_heatsTo : ∀ pc i, xlk T_L_heatsTo pc = some i → ∃ n, decode cL_heatsTo pc = .ok (i, xlen i n) := xTb_of (by decide +kernel)
abbrev rm_L_heatsTo : Room := { frames := 10, cells := 4, slots := 24, locals := 179 }
abbrev hh_L_heatsTo : List (Nat × Nat × Nat × Nat) := [(0, 14, 17, 22), (0, 14, 21, 13)]
def L_L_heatsTo : List (Nat × Nat × Nat × Nat × xR) := [(190, 5, 4, 24, xVR 8 (xFr Ev_X8_heatsTo))]
def HD_L_heatsTo : Nat → String → Option Int32 := fun pc E => bif Nat.beq pc 9 then (if E = "java/lang/IndexOutOfBoundsException" then some (nI 1) else if E = "java/lang/IllegalArgumentException" then some (nI 2) else none) else none
def M_L_heatsTo : xM := (7, T_L_heatsTo, xal LF_L, xal LK_L, xal LN_L, xal [], HD_L_heatsTo, xcl L_L_heatsTo, 4, 24)
def Ev_L_heatsTo : xR := fun avs w o w1 => ∃ v0 : Int32, o = .inl (some (.int v0)) ∧ xEv M_L_heatsTo (some .int) avs w o w1
theorem hd_L_heatsTo : ∀ pc E j, HD_L_heatsTo pc E = some j → xHk RL cL_heatsTo 7 hh_L_heatsTo pc E j := by
  intro pc E j h
  unfold HD_L_heatsTo at h
  cases hb : Nat.beq pc 9 with
  | false =>
    rw [hb] at h
    cases h
  | true =>
    rw [hb] at h
    obtain rfl := Nat.eq_of_beq_eq_true hb
    dsimp only [cond_true] at h
    split at h
    · rename_i he
      subst he
      cases h
      exact ⟨[], ⟨0, 14, 17, 22⟩, [⟨0, 14, 21, 13⟩], _, 6, 2, .astore 6, 1, rfl, (fun _ h => absurd h List.not_mem_nil), by decide, by decide, gw_681, xbc_IOB, by decide, Or.inl ⟨rfl, rfl⟩, by decide +kernel, by decide +kernel, rfl, by decide +kernel⟩
    split at h
    · rename_i he
      subst he
      cases h
      exact ⟨[⟨0, 14, 17, 22⟩], ⟨0, 14, 21, 13⟩, [], _, 6, 2, .astore 6, 2, rfl, (List.forall_mem_cons.mpr ⟨⟨by decide, _, gw_681, List.mem_of_getElem? (i := 0) rfl⟩, (fun _ h => absurd h List.not_mem_nil)⟩), by decide, by decide, gw_590, xbc_IAE, by decide, Or.inl ⟨rfl, rfl⟩, by decide +kernel, by decide +kernel, rfl, by decide +kernel⟩
    cases h
set_option maxRecDepth 100000 in
theorem snd_L_heatsTo {l : Launch} {D : va_G} {tc : Nat → ClassId} (hl : l.stackTraces = false) {avs : List Value} {w w1 : xw} {o : xO} (h : Ev_L_heatsTo avs w o w1) : w.1 ≤ w1.1 ∧ xCTW l D tc yL_heatsTo (.codeWith yL_heatsTo cL_heatsTo 7 (some .int) hh_L_heatsTo :: gW) rm_L_heatsTo avs w o w1 := by
  obtain ⟨v0, rfl, h⟩ := h
  exact met_soundW (y := yL_heatsTo) (M := M_L_heatsTo) (rm := rm_L_heatsTo) (hh := hh_L_heatsTo) (by decide +kernel) tb_L_heatsTo xK_L xClok_ok xF_L xN_L (fun _ h => nomatch (show (none : Option Value) = some _ from h)) xty_ok rfl rfl (fun _ _ h => nomatch (show (none : Option String) = some _ from h)) hd_L_heatsTo
    (fun p e s m args below meth c N0 ρ0 A0 Q hC hNs hZ => xCall_of (List.forall_mem_cons.mpr ⟨cok_VF (n := 4) (y := yX8_heatsTo) (bytes := cX8_heatsTo) (maxL := 5) (ret := (some .int)) (rm := rm_X8_heatsTo) hC hNs hZ rfl rfl ⟨gw_838, gw_1, gw_835, gw_836, gw_837⟩ (by decide +kernel) ⟨Nat.le_of_ble_eq_true rfl, Nat.le_of_ble_eq_true rfl⟩ (fun _ _ _ _ h => snd_X8_heatsTo hl h), (fun _ h => absurd h List.not_mem_nil)⟩)) h
theorem ev_L_heatsTo {s s1 : xs} {F : Nat → Int64} {p0 p1 p2 p3 : Int32} {v : Int32} (h : Ev_X8_heatsTo [.ref 0, .int p0, .int p1, .int p2, .int p3] (wd s) (.inl (some (.int v))) (wd s1)) : Ev_L_heatsTo [.ref 0, .int p0, .int p1, .int p2, .int p3, .ref 151] (wo s F) (.inl (some (.int (nI 0)))) (wo s1 (vp_updL F 0 v.toInt64)) := by
  refine ⟨_, rfl, Nat.le_of_ble_eq_true rfl, Nat.le_refl _, Or.inl rfl, ?_⟩
  refine R1 (g' := (2, _, _, _, _, _)) rfl rfl ?_
  refine R1 (g' := (3, _, .int (nI 0) :: _, _, _, _)) rfl rfl ?_
  refine R1 (g' := (4, _, _, _, _, _)) rfl rfl ?_
  refine R1 (g' := (5, _, _, _, _, _)) rfl rfl ?_
  refine R1 (g' := (6, _, _, _, _, _)) rfl rfl ?_
  refine R1 (g' := (7, _, _, _, _, _)) rfl rfl ?_
  refine R1 (g' := (9, _, _, _, _, _)) rfl rfl ?_
  refine R_call (Or.inr (Or.inl ⟨rfl, rfl⟩)) rfl rfl (avs := [.ref 0, .int p0, .int p1, .int p2, .int p3]) rfl rfl ⟨Nat.le_of_ble_eq_true rfl, Nat.le_of_ble_eq_true rfl⟩ (Nat.le_of_ble_eq_true rfl) ⟨rfl, rfl⟩ ⟨⟨_, _, _, rfl, Nat.le_of_ble_eq_true rfl, rfl⟩, _, _, F, rfl, rfl, h⟩ ?_
  change xRun _ _ (12, _, _, wo s1 F, _, _)
  refine R1 (g' := (13, _, _, _, _, _)) rfl rfl ?_
  refine R_lastO rfl ?_
  refine R1 (g' := (25, _, _, _, _, _)) rfl rfl ?_
  refine R1 (g' := (26, _, .int (nI 0) :: _, _, _, _)) rfl rfl ?_
  refine R_iret rfl ?_
  exact ⟨rfl, rfl⟩
theorem ex_L_heatsTo_0 {s s1 : xs} {F : Nat → Int64} {p0 p1 p2 p3 : Int32} (h : Ev_X8_heatsTo [.ref 0, .int p0, .int p1, .int p2, .int p3] (wd s) (.inr "java/lang/IndexOutOfBoundsException") (wd s1)) : Ev_L_heatsTo [.ref 0, .int p0, .int p1, .int p2, .int p3, .ref 151] (wo s F) (.inl (some (.int (nI 1)))) (wo s1 F) := by
  refine ⟨_, rfl, Nat.le_of_ble_eq_true rfl, Nat.le_refl _, Or.inl rfl, ?_⟩
  refine R1 (g' := (2, _, _, _, _, _)) rfl rfl ?_
  refine R1 (g' := (3, _, .int (nI 0) :: _, _, _, _)) rfl rfl ?_
  refine R1 (g' := (4, _, _, _, _, _)) rfl rfl ?_
  refine R1 (g' := (5, _, _, _, _, _)) rfl rfl ?_
  refine R1 (g' := (6, _, _, _, _, _)) rfl rfl ?_
  refine R1 (g' := (7, _, _, _, _, _)) rfl rfl ?_
  refine R1 (g' := (9, _, _, _, _, _)) rfl rfl ?_
  refine R_callH ⟨rfl, rfl⟩ rfl rfl (avs := [.ref 0, .int p0, .int p1, .int p2, .int p3]) rfl rfl ⟨Nat.le_of_ble_eq_true rfl, Nat.le_of_ble_eq_true rfl⟩ (Nat.le_of_ble_eq_true rfl) ⟨rfl, rfl⟩ ⟨⟨_, _, _, rfl, Nat.le_of_ble_eq_true rfl, rfl⟩, _, _, F, rfl, rfl, h⟩ (by decide +kernel) ⟨rfl, rfl⟩
theorem ex_L_heatsTo_1 {s s1 : xs} {F : Nat → Int64} {p0 p1 p2 p3 : Int32} (h : Ev_X8_heatsTo [.ref 0, .int p0, .int p1, .int p2, .int p3] (wd s) (.inr "java/lang/IllegalArgumentException") (wd s1)) : Ev_L_heatsTo [.ref 0, .int p0, .int p1, .int p2, .int p3, .ref 151] (wo s F) (.inl (some (.int (nI 2)))) (wo s1 F) := by
  refine ⟨_, rfl, Nat.le_of_ble_eq_true rfl, Nat.le_refl _, Or.inl rfl, ?_⟩
  refine R1 (g' := (2, _, _, _, _, _)) rfl rfl ?_
  refine R1 (g' := (3, _, .int (nI 0) :: _, _, _, _)) rfl rfl ?_
  refine R1 (g' := (4, _, _, _, _, _)) rfl rfl ?_
  refine R1 (g' := (5, _, _, _, _, _)) rfl rfl ?_
  refine R1 (g' := (6, _, _, _, _, _)) rfl rfl ?_
  refine R1 (g' := (7, _, _, _, _, _)) rfl rfl ?_
  refine R1 (g' := (9, _, _, _, _, _)) rfl rfl ?_
  refine R_callH ⟨rfl, rfl⟩ rfl rfl (avs := [.ref 0, .int p0, .int p1, .int p2, .int p3]) rfl rfl ⟨Nat.le_of_ble_eq_true rfl, Nat.le_of_ble_eq_true rfl⟩ (Nat.le_of_ble_eq_true rfl) ⟨rfl, rfl⟩ ⟨⟨_, _, _, rfl, Nat.le_of_ble_eq_true rfl, rfl⟩, _, _, F, rfl, rfl, h⟩ (by decide +kernel) ⟨rfl, rfl⟩
theorem hp_L_heatsTo {s : xs} {F : Nat → Int64} {p0 p1 p2 p3 : Int32} (hP : Pair Ev_X8_heatsTo Ev_X9_heatsTo [.ref 0, .int p0, .int p1, .int p2, .int p3] [.ref 142, .int p0, .int p1, .int p2, .int p3] ["java/lang/IndexOutOfBoundsException", "java/lang/IllegalArgumentException"] s) : HP Ev_L_heatsTo Ev_X9_heatsTo [.ref 0, .int p0, .int p1, .int p2, .int p3, .ref 151] [.ref 142, .int p0, .int p1, .int p2, .int p3] s F := by
  obtain ⟨o, s1, v, s2, h1, h2, hR, h3⟩ := hP
  rcases h3 with ⟨rfl, e⟩ | ⟨k, E, hk, rfl, e⟩
  · exact ⟨nI 0, vp_updL F 0 v.toInt64, s1, v, s2, ev_L_heatsTo h1, h2, hR, e, fun _ => by simp [vp_updL]⟩
  · match k, hk with
    | 0, hk =>
      cases hk
      exact ⟨nI 1, F, s1, v, s2, ex_L_heatsTo_0 h1, h2, hR, e, fun h => absurd h (by decide)⟩
    | 1, hk =>
      cases hk
      exact ⟨nI 2, F, s1, v, s2, ex_L_heatsTo_1 h1, h2, hR, e, fun h => absurd h (by decide)⟩
    | k + 2, hk => cases hk
def T_L_lengthAs : List (Nat × Instr) := [(0, .aload_n 3), (1, .iconst 0), (2, .aload_n 0), (3, .iload_n 1), (4, .iload_n 2), (5, .invokevirtual 66), (8, .i2l), (9, .lastore), (10, .goto 7), (13, .astore 4), (15, .iconst 1), (16, .ireturn), (17, .iconst 0), (18, .ireturn)]
theorem tb_L_lengthAs : ∀ pc i, xlk T_L_lengthAs pc = some i → ∃ n, decode cL_lengthAs pc = .ok (i, xlen i n) := xTb_of (by decide +kernel)
abbrev rm_L_lengthAs : Room := { frames := 9, cells := 2, slots := 12, locals := 155 }
abbrev hh_L_lengthAs : List (Nat × Nat × Nat × Nat) := [(0, 10, 13, 13)]
def L_L_lengthAs : List (Nat × Nat × Nat × Nat × xR) := [(199, 3, 2, 12, xVR 8 (xFr Ev_X8_lengthAs))]
def HD_L_lengthAs : Nat → String → Option Int32 := fun pc E => bif Nat.beq pc 5 then (if E = "java/lang/IllegalArgumentException" then some (nI 1) else none) else none
def M_L_lengthAs : xM := (5, T_L_lengthAs, xal LF_L, xal LK_L, xal LN_L, xal [], HD_L_lengthAs, xcl L_L_lengthAs, 2, 12)
def Ev_L_lengthAs : xR := fun avs w o w1 => ∃ v0 : Int32, o = .inl (some (.int v0)) ∧ xEv M_L_lengthAs (some .int) avs w o w1
theorem hd_L_lengthAs : ∀ pc E j, HD_L_lengthAs pc E = some j → xHk RL cL_lengthAs 5 hh_L_lengthAs pc E j := by
  intro pc E j h
  unfold HD_L_lengthAs at h
  cases hb : Nat.beq pc 5 with
  | false =>
    rw [hb] at h
    cases h
  | true =>
    rw [hb] at h
    obtain rfl := Nat.eq_of_beq_eq_true hb
    dsimp only [cond_true] at h
    split at h
    · rename_i he
      subst he
      cases h
      exact ⟨[], ⟨0, 10, 13, 13⟩, [], _, 4, 2, .astore 4, 1, rfl, (fun _ h => absurd h List.not_mem_nil), by decide, by decide, gw_590, xbc_IAE, by decide, Or.inl ⟨rfl, rfl⟩, by decide +kernel, by decide +kernel, rfl, by decide +kernel⟩
    cases h
set_option maxRecDepth 100000 in
theorem snd_L_lengthAs {l : Launch} {D : va_G} {tc : Nat → ClassId} (hl : l.stackTraces = false) {avs : List Value} {w w1 : xw} {o : xO} (h : Ev_L_lengthAs avs w o w1) : w.1 ≤ w1.1 ∧ xCTW l D tc yL_lengthAs (.codeWith yL_lengthAs cL_lengthAs 5 (some .int) hh_L_lengthAs :: gW) rm_L_lengthAs avs w o w1 := by
  obtain ⟨v0, rfl, h⟩ := h
  exact met_soundW (y := yL_lengthAs) (M := M_L_lengthAs) (rm := rm_L_lengthAs) (hh := hh_L_lengthAs) (by decide +kernel) tb_L_lengthAs xK_L xClok_ok xF_L xN_L (fun _ h => nomatch (show (none : Option Value) = some _ from h)) xty_ok rfl rfl (fun _ _ h => nomatch (show (none : Option String) = some _ from h)) hd_L_lengthAs
    (fun p e s m args below meth c N0 ρ0 A0 Q hC hNs hZ => xCall_of (List.forall_mem_cons.mpr ⟨cok_VF (n := 2) (y := yX8_lengthAs) (bytes := cX8_lengthAs) (maxL := 3) (ret := (some .int)) (rm := rm_X8_lengthAs) hC hNs hZ rfl rfl ⟨gw_845, gw_1, gw_842, gw_843, gw_844⟩ (by decide +kernel) ⟨Nat.le_of_ble_eq_true rfl, Nat.le_of_ble_eq_true rfl⟩ (fun _ _ _ _ h => snd_X8_lengthAs hl h), (fun _ h => absurd h List.not_mem_nil)⟩)) h
theorem ev_L_lengthAs {s s1 : xs} {F : Nat → Int64} {p0 p1 : Int32} {v : Int32} (h : Ev_X8_lengthAs [.ref 0, .int p0, .int p1] (wd s) (.inl (some (.int v))) (wd s1)) : Ev_L_lengthAs [.ref 0, .int p0, .int p1, .ref 151] (wo s F) (.inl (some (.int (nI 0)))) (wo s1 (vp_updL F 0 v.toInt64)) := by
  refine ⟨_, rfl, Nat.le_of_ble_eq_true rfl, Nat.le_refl _, Or.inl rfl, ?_⟩
  refine R1 (g' := (1, _, _, _, _, _)) rfl rfl ?_
  refine R1 (g' := (2, _, .int (nI 0) :: _, _, _, _)) rfl rfl ?_
  refine R1 (g' := (3, _, _, _, _, _)) rfl rfl ?_
  refine R1 (g' := (4, _, _, _, _, _)) rfl rfl ?_
  refine R1 (g' := (5, _, _, _, _, _)) rfl rfl ?_
  refine R_call (Or.inr (Or.inl ⟨rfl, rfl⟩)) rfl rfl (avs := [.ref 0, .int p0, .int p1]) rfl rfl ⟨Nat.le_of_ble_eq_true rfl, Nat.le_of_ble_eq_true rfl⟩ (Nat.le_of_ble_eq_true rfl) ⟨rfl, rfl⟩ ⟨⟨_, _, _, rfl, Nat.le_of_ble_eq_true rfl, rfl⟩, _, _, F, rfl, rfl, h⟩ ?_
  change xRun _ _ (8, _, _, wo s1 F, _, _)
  refine R1 (g' := (9, _, _, _, _, _)) rfl rfl ?_
  refine R_lastO rfl ?_
  refine R1 (g' := (17, _, _, _, _, _)) rfl rfl ?_
  refine R1 (g' := (18, _, .int (nI 0) :: _, _, _, _)) rfl rfl ?_
  refine R_iret rfl ?_
  exact ⟨rfl, rfl⟩
theorem ex_L_lengthAs_0 {s s1 : xs} {F : Nat → Int64} {p0 p1 : Int32} (h : Ev_X8_lengthAs [.ref 0, .int p0, .int p1] (wd s) (.inr "java/lang/IllegalArgumentException") (wd s1)) : Ev_L_lengthAs [.ref 0, .int p0, .int p1, .ref 151] (wo s F) (.inl (some (.int (nI 1)))) (wo s1 F) := by
  refine ⟨_, rfl, Nat.le_of_ble_eq_true rfl, Nat.le_refl _, Or.inl rfl, ?_⟩
  refine R1 (g' := (1, _, _, _, _, _)) rfl rfl ?_
  refine R1 (g' := (2, _, .int (nI 0) :: _, _, _, _)) rfl rfl ?_
  refine R1 (g' := (3, _, _, _, _, _)) rfl rfl ?_
  refine R1 (g' := (4, _, _, _, _, _)) rfl rfl ?_
  refine R1 (g' := (5, _, _, _, _, _)) rfl rfl ?_
  refine R_callH ⟨rfl, rfl⟩ rfl rfl (avs := [.ref 0, .int p0, .int p1]) rfl rfl ⟨Nat.le_of_ble_eq_true rfl, Nat.le_of_ble_eq_true rfl⟩ (Nat.le_of_ble_eq_true rfl) ⟨rfl, rfl⟩ ⟨⟨_, _, _, rfl, Nat.le_of_ble_eq_true rfl, rfl⟩, _, _, F, rfl, rfl, h⟩ (by decide +kernel) ⟨rfl, rfl⟩
theorem hp_L_lengthAs {s : xs} {F : Nat → Int64} {p0 p1 : Int32} (hP : Pair Ev_X8_lengthAs Ev_X9_lengthAs [.ref 0, .int p0, .int p1] [.ref 142, .int p0, .int p1] ["java/lang/IllegalArgumentException"] s) : HP Ev_L_lengthAs Ev_X9_lengthAs [.ref 0, .int p0, .int p1, .ref 151] [.ref 142, .int p0, .int p1] s F := by
  obtain ⟨o, s1, v, s2, h1, h2, hR, h3⟩ := hP
  rcases h3 with ⟨rfl, e⟩ | ⟨k, E, hk, rfl, e⟩
  · exact ⟨nI 0, vp_updL F 0 v.toInt64, s1, v, s2, ev_L_lengthAs h1, h2, hR, e, fun _ => by simp [vp_updL]⟩
  · match k, hk with
    | 0, hk =>
      cases hk
      exact ⟨nI 1, F, s1, v, s2, ex_L_lengthAs_0 h1, h2, hR, e, fun h => absurd h (by decide)⟩
    | k + 1, hk => cases hk
def T_L_append : List (Nat × Instr) := [(0, .aload_n 2), (1, .iconst 0), (2, .aload_n 0), (3, .iload_n 1), (4, .invokevirtual 69), (7, .i2l), (8, .lastore), (9, .goto 9), (12, .astore_n 3), (13, .iconst 1), (14, .ireturn), (15, .astore_n 3), (16, .iconst 2), (17, .ireturn), (18, .iconst 0), (19, .ireturn)]
theorem tb_L_append : ∀ pc i, xlk T_L_append pc = some i → ∃ n, decode cL_append pc = .ok (i, xlen i n) := xTb_of (by decide +kernel)
abbrev rm_L_append : Room := { frames := 8, cells := 2, slots := 12, locals := 133 }
abbrev hh_L_append : List (Nat × Nat × Nat × Nat) := [(0, 9, 12, 13), (0, 9, 15, 24)]
def L_L_append : List (Nat × Nat × Nat × Nat × xR) := [(208, 2, 2, 12, xVR 8 (xFr Ev_X8_append))]
def HD_L_append : Nat → String → Option Int32 := fun pc E => bif Nat.beq pc 4 then (if E = "java/lang/IllegalArgumentException" then some (nI 1) else if E = "java/lang/IllegalStateException" then some (nI 2) else none) else none
def M_L_append : xM := (4, T_L_append, xal LF_L, xal LK_L, xal LN_L, xal [], HD_L_append, xcl L_L_append, 2, 12)
def Ev_L_append : xR := fun avs w o w1 => ∃ v0 : Int32, o = .inl (some (.int v0)) ∧ xEv M_L_append (some .int) avs w o w1
theorem hd_L_append : ∀ pc E j, HD_L_append pc E = some j → xHk RL cL_append 4 hh_L_append pc E j := by
  intro pc E j h
  unfold HD_L_append at h
  cases hb : Nat.beq pc 4 with
  | false =>
    rw [hb] at h
    cases h
  | true =>
    rw [hb] at h
    obtain rfl := Nat.eq_of_beq_eq_true hb
    dsimp only [cond_true] at h
    split at h
    · rename_i he
      subst he
      cases h
      exact ⟨[], ⟨0, 9, 12, 13⟩, [⟨0, 9, 15, 24⟩], _, 3, 1, .astore_n 3, 1, rfl, (fun _ h => absurd h List.not_mem_nil), by decide, by decide, gw_590, xbc_IAE, by decide, Or.inr ⟨3, rfl, rfl, rfl⟩, by decide +kernel, by decide +kernel, rfl, by decide +kernel⟩
    split at h
    · rename_i he
      subst he
      cases h
      exact ⟨[⟨0, 9, 12, 13⟩], ⟨0, 9, 15, 24⟩, [], _, 3, 1, .astore_n 3, 2, rfl, (List.forall_mem_cons.mpr ⟨⟨by decide, _, gw_590, List.mem_of_getElem? (i := 2) rfl⟩, (fun _ h => absurd h List.not_mem_nil)⟩), by decide, by decide, gw_682, xbc_ISE, by decide, Or.inr ⟨3, rfl, rfl, rfl⟩, by decide +kernel, by decide +kernel, rfl, by decide +kernel⟩
    cases h
set_option maxRecDepth 100000 in
theorem snd_L_append {l : Launch} {D : va_G} {tc : Nat → ClassId} (hl : l.stackTraces = false) {avs : List Value} {w w1 : xw} {o : xO} (h : Ev_L_append avs w o w1) : w.1 ≤ w1.1 ∧ xCTW l D tc yL_append (.codeWith yL_append cL_append 4 (some .int) hh_L_append :: gW) rm_L_append avs w o w1 := by
  obtain ⟨v0, rfl, h⟩ := h
  exact met_soundW (y := yL_append) (M := M_L_append) (rm := rm_L_append) (hh := hh_L_append) (by decide +kernel) tb_L_append xK_L xClok_ok xF_L xN_L (fun _ h => nomatch (show (none : Option Value) = some _ from h)) xty_ok rfl rfl (fun _ _ h => nomatch (show (none : Option String) = some _ from h)) hd_L_append
    (fun p e s m args below meth c N0 ρ0 A0 Q hC hNs hZ => xCall_of (List.forall_mem_cons.mpr ⟨cok_VF (n := 1) (y := yX8_append) (bytes := cX8_append) (maxL := 2) (ret := (some .int)) (rm := rm_X8_append) hC hNs hZ rfl rfl ⟨gw_853, gw_1, gw_850, gw_851, gw_852⟩ (by decide +kernel) ⟨Nat.le_of_ble_eq_true rfl, Nat.le_of_ble_eq_true rfl⟩ (fun _ _ _ _ h => snd_X8_append hl h), (fun _ h => absurd h List.not_mem_nil)⟩)) h
theorem ev_L_append {s s1 : xs} {F : Nat → Int64} {p0 : Int32} {v : Int32} (h : Ev_X8_append [.ref 0, .int p0] (wd s) (.inl (some (.int v))) (wd s1)) : Ev_L_append [.ref 0, .int p0, .ref 151] (wo s F) (.inl (some (.int (nI 0)))) (wo s1 (vp_updL F 0 v.toInt64)) := by
  refine ⟨_, rfl, Nat.le_of_ble_eq_true rfl, Nat.le_refl _, Or.inl rfl, ?_⟩
  refine R1 (g' := (1, _, _, _, _, _)) rfl rfl ?_
  refine R1 (g' := (2, _, .int (nI 0) :: _, _, _, _)) rfl rfl ?_
  refine R1 (g' := (3, _, _, _, _, _)) rfl rfl ?_
  refine R1 (g' := (4, _, _, _, _, _)) rfl rfl ?_
  refine R_call (Or.inr (Or.inl ⟨rfl, rfl⟩)) rfl rfl (avs := [.ref 0, .int p0]) rfl rfl ⟨Nat.le_of_ble_eq_true rfl, Nat.le_of_ble_eq_true rfl⟩ (Nat.le_of_ble_eq_true rfl) ⟨rfl, rfl⟩ ⟨⟨_, _, _, rfl, Nat.le_of_ble_eq_true rfl, rfl⟩, _, _, F, rfl, rfl, h⟩ ?_
  change xRun _ _ (7, _, _, wo s1 F, _, _)
  refine R1 (g' := (8, _, _, _, _, _)) rfl rfl ?_
  refine R_lastO rfl ?_
  refine R1 (g' := (18, _, _, _, _, _)) rfl rfl ?_
  refine R1 (g' := (19, _, .int (nI 0) :: _, _, _, _)) rfl rfl ?_
  refine R_iret rfl ?_
  exact ⟨rfl, rfl⟩
theorem ex_L_append_0 {s s1 : xs} {F : Nat → Int64} {p0 : Int32} (h : Ev_X8_append [.ref 0, .int p0] (wd s) (.inr "java/lang/IllegalArgumentException") (wd s1)) : Ev_L_append [.ref 0, .int p0, .ref 151] (wo s F) (.inl (some (.int (nI 1)))) (wo s1 F) := by
  refine ⟨_, rfl, Nat.le_of_ble_eq_true rfl, Nat.le_refl _, Or.inl rfl, ?_⟩
  refine R1 (g' := (1, _, _, _, _, _)) rfl rfl ?_
  refine R1 (g' := (2, _, .int (nI 0) :: _, _, _, _)) rfl rfl ?_
  refine R1 (g' := (3, _, _, _, _, _)) rfl rfl ?_
  refine R1 (g' := (4, _, _, _, _, _)) rfl rfl ?_
  refine R_callH ⟨rfl, rfl⟩ rfl rfl (avs := [.ref 0, .int p0]) rfl rfl ⟨Nat.le_of_ble_eq_true rfl, Nat.le_of_ble_eq_true rfl⟩ (Nat.le_of_ble_eq_true rfl) ⟨rfl, rfl⟩ ⟨⟨_, _, _, rfl, Nat.le_of_ble_eq_true rfl, rfl⟩, _, _, F, rfl, rfl, h⟩ (by decide +kernel) ⟨rfl, rfl⟩
theorem ex_L_append_1 {s s1 : xs} {F : Nat → Int64} {p0 : Int32} (h : Ev_X8_append [.ref 0, .int p0] (wd s) (.inr "java/lang/IllegalStateException") (wd s1)) : Ev_L_append [.ref 0, .int p0, .ref 151] (wo s F) (.inl (some (.int (nI 2)))) (wo s1 F) := by
  refine ⟨_, rfl, Nat.le_of_ble_eq_true rfl, Nat.le_refl _, Or.inl rfl, ?_⟩
  refine R1 (g' := (1, _, _, _, _, _)) rfl rfl ?_
  refine R1 (g' := (2, _, .int (nI 0) :: _, _, _, _)) rfl rfl ?_
  refine R1 (g' := (3, _, _, _, _, _)) rfl rfl ?_
  refine R1 (g' := (4, _, _, _, _, _)) rfl rfl ?_
  refine R_callH ⟨rfl, rfl⟩ rfl rfl (avs := [.ref 0, .int p0]) rfl rfl ⟨Nat.le_of_ble_eq_true rfl, Nat.le_of_ble_eq_true rfl⟩ (Nat.le_of_ble_eq_true rfl) ⟨rfl, rfl⟩ ⟨⟨_, _, _, rfl, Nat.le_of_ble_eq_true rfl, rfl⟩, _, _, F, rfl, rfl, h⟩ (by decide +kernel) ⟨rfl, rfl⟩
theorem hp_L_append {s : xs} {F : Nat → Int64} {p0 : Int32} (hP : Pair Ev_X8_append Ev_X9_append [.ref 0, .int p0] [.ref 142, .int p0] ["java/lang/IllegalArgumentException", "java/lang/IllegalStateException"] s) : HP Ev_L_append Ev_X9_append [.ref 0, .int p0, .ref 151] [.ref 142, .int p0] s F := by
  obtain ⟨o, s1, v, s2, h1, h2, hR, h3⟩ := hP
  rcases h3 with ⟨rfl, e⟩ | ⟨k, E, hk, rfl, e⟩
  · exact ⟨nI 0, vp_updL F 0 v.toInt64, s1, v, s2, ev_L_append h1, h2, hR, e, fun _ => by simp [vp_updL]⟩
  · match k, hk with
    | 0, hk =>
      cases hk
      exact ⟨nI 1, F, s1, v, s2, ex_L_append_0 h1, h2, hR, e, fun h => absurd h (by decide)⟩
    | 1, hk =>
      cases hk
      exact ⟨nI 2, F, s1, v, s2, ex_L_append_1 h1, h2, hR, e, fun h => absurd h (by decide)⟩
    | k + 2, hk => cases hk
def T_L_undo : List (Nat × Instr) := [(0, .aload_n 1), (1, .iconst 0), (2, .aload_n 0), (3, .invokevirtual 72), (6, .i2l), (7, .lastore), (8, .goto 6), (11, .astore_n 2), (12, .iconst 1), (13, .ireturn), (14, .iconst 0), (15, .ireturn)]
theorem tb_L_undo : ∀ pc i, xlk T_L_undo pc = some i → ∃ n, decode cL_undo pc = .ok (i, xlen i n) := xTb_of (by decide +kernel)
abbrev rm_L_undo : Room := { frames := 7, cells := 1, slots := 6, locals := 165 }
abbrev hh_L_undo : List (Nat × Nat × Nat × Nat) := [(0, 8, 11, 24)]
def L_L_undo : List (Nat × Nat × Nat × Nat × xR) := [(217, 1, 1, 6, xVR 8 (xFr Ev_X8_undo))]
def HD_L_undo : Nat → String → Option Int32 := fun pc E => bif Nat.beq pc 3 then (if E = "java/lang/IllegalStateException" then some (nI 1) else none) else none
def M_L_undo : xM := (3, T_L_undo, xal LF_L, xal LK_L, xal LN_L, xal [], HD_L_undo, xcl L_L_undo, 1, 6)
def Ev_L_undo : xR := fun avs w o w1 => ∃ v0 : Int32, o = .inl (some (.int v0)) ∧ xEv M_L_undo (some .int) avs w o w1
theorem hd_L_undo : ∀ pc E j, HD_L_undo pc E = some j → xHk RL cL_undo 3 hh_L_undo pc E j := by
  intro pc E j h
  unfold HD_L_undo at h
  cases hb : Nat.beq pc 3 with
  | false =>
    rw [hb] at h
    cases h
  | true =>
    rw [hb] at h
    obtain rfl := Nat.eq_of_beq_eq_true hb
    dsimp only [cond_true] at h
    split at h
    · rename_i he
      subst he
      cases h
      exact ⟨[], ⟨0, 8, 11, 24⟩, [], _, 2, 1, .astore_n 2, 1, rfl, (fun _ h => absurd h List.not_mem_nil), by decide, by decide, gw_682, xbc_ISE, by decide, Or.inr ⟨2, rfl, rfl, rfl⟩, by decide +kernel, by decide +kernel, rfl, by decide +kernel⟩
    cases h
set_option maxRecDepth 100000 in
theorem snd_L_undo {l : Launch} {D : va_G} {tc : Nat → ClassId} (hl : l.stackTraces = false) {avs : List Value} {w w1 : xw} {o : xO} (h : Ev_L_undo avs w o w1) : w.1 ≤ w1.1 ∧ xCTW l D tc yL_undo (.codeWith yL_undo cL_undo 3 (some .int) hh_L_undo :: gW) rm_L_undo avs w o w1 := by
  obtain ⟨v0, rfl, h⟩ := h
  exact met_soundW (y := yL_undo) (M := M_L_undo) (rm := rm_L_undo) (hh := hh_L_undo) (by decide +kernel) tb_L_undo xK_L xClok_ok xF_L xN_L (fun _ h => nomatch (show (none : Option Value) = some _ from h)) xty_ok rfl rfl (fun _ _ h => nomatch (show (none : Option String) = some _ from h)) hd_L_undo
    (fun p e s m args below meth c N0 ρ0 A0 Q hC hNs hZ => xCall_of (List.forall_mem_cons.mpr ⟨cok_VF (n := 0) (y := yX8_undo) (bytes := cX8_undo) (maxL := 1) (ret := (some .int)) (rm := rm_X8_undo) hC hNs hZ rfl rfl ⟨gw_865, gw_1, gw_862, gw_863, gw_864⟩ (by decide +kernel) ⟨Nat.le_of_ble_eq_true rfl, Nat.le_of_ble_eq_true rfl⟩ (fun _ _ _ _ h => snd_X8_undo hl h), (fun _ h => absurd h List.not_mem_nil)⟩)) h
theorem ev_L_undo {s s1 : xs} {F : Nat → Int64} {v : Int32} (h : Ev_X8_undo [.ref 0] (wd s) (.inl (some (.int v))) (wd s1)) : Ev_L_undo [.ref 0, .ref 151] (wo s F) (.inl (some (.int (nI 0)))) (wo s1 (vp_updL F 0 v.toInt64)) := by
  refine ⟨_, rfl, Nat.le_of_ble_eq_true rfl, Nat.le_refl _, Or.inl rfl, ?_⟩
  refine R1 (g' := (1, _, _, _, _, _)) rfl rfl ?_
  refine R1 (g' := (2, _, .int (nI 0) :: _, _, _, _)) rfl rfl ?_
  refine R1 (g' := (3, _, _, _, _, _)) rfl rfl ?_
  refine R_call (Or.inr (Or.inl ⟨rfl, rfl⟩)) rfl rfl (avs := [.ref 0]) rfl rfl ⟨Nat.le_of_ble_eq_true rfl, Nat.le_of_ble_eq_true rfl⟩ (Nat.le_of_ble_eq_true rfl) ⟨rfl, rfl⟩ ⟨⟨_, _, _, rfl, Nat.le_of_ble_eq_true rfl, rfl⟩, _, _, F, rfl, rfl, h⟩ ?_
  change xRun _ _ (6, _, _, wo s1 F, _, _)
  refine R1 (g' := (7, _, _, _, _, _)) rfl rfl ?_
  refine R_lastO rfl ?_
  refine R1 (g' := (14, _, _, _, _, _)) rfl rfl ?_
  refine R1 (g' := (15, _, .int (nI 0) :: _, _, _, _)) rfl rfl ?_
  refine R_iret rfl ?_
  exact ⟨rfl, rfl⟩
theorem ex_L_undo_0 {s s1 : xs} {F : Nat → Int64} (h : Ev_X8_undo [.ref 0] (wd s) (.inr "java/lang/IllegalStateException") (wd s1)) : Ev_L_undo [.ref 0, .ref 151] (wo s F) (.inl (some (.int (nI 1)))) (wo s1 F) := by
  refine ⟨_, rfl, Nat.le_of_ble_eq_true rfl, Nat.le_refl _, Or.inl rfl, ?_⟩
  refine R1 (g' := (1, _, _, _, _, _)) rfl rfl ?_
  refine R1 (g' := (2, _, .int (nI 0) :: _, _, _, _)) rfl rfl ?_
  refine R1 (g' := (3, _, _, _, _, _)) rfl rfl ?_
  refine R_callH ⟨rfl, rfl⟩ rfl rfl (avs := [.ref 0]) rfl rfl ⟨Nat.le_of_ble_eq_true rfl, Nat.le_of_ble_eq_true rfl⟩ (Nat.le_of_ble_eq_true rfl) ⟨rfl, rfl⟩ ⟨⟨_, _, _, rfl, Nat.le_of_ble_eq_true rfl, rfl⟩, _, _, F, rfl, rfl, h⟩ (by decide +kernel) ⟨rfl, rfl⟩
theorem hp_L_undo {s : xs} {F : Nat → Int64} (hP : Pair Ev_X8_undo Ev_X9_undo [.ref 0] [.ref 142] ["java/lang/IllegalStateException"] s) : HP Ev_L_undo Ev_X9_undo [.ref 0, .ref 151] [.ref 142] s F := by
  obtain ⟨o, s1, v, s2, h1, h2, hR, h3⟩ := hP
  rcases h3 with ⟨rfl, e⟩ | ⟨k, E, hk, rfl, e⟩
  · exact ⟨nI 0, vp_updL F 0 v.toInt64, s1, v, s2, ev_L_undo h1, h2, hR, e, fun _ => by simp [vp_updL]⟩
  · match k, hk with
    | 0, hk =>
      cases hk
      exact ⟨nI 1, F, s1, v, s2, ex_L_undo_0 h1, h2, hR, e, fun h => absurd h (by decide)⟩
    | k + 1, hk => cases hk
