abbrev xs : Type := (Nat → Nat → Int32) × (Nat → Nat → Option Nat) × (Nat → Nat → Int64)
def cellAt (i : Nat) (f : Nat → Int32) (π : Nat → Option Nat) (L : Nat → Int64) : xC := bif Nat.blt i 76 then (bif Nat.blt i 38 then (bif Nat.blt i 19 then (bif Nat.blt i 9 then (bif Nat.blt i 4 then (bif Nat.blt i 2 then (bif Nat.blt i 1 then (.inr (8, [.ref 1, .ref 21, .ref 41, .ref 123, .ref 133])) else (.inr (5, [.ref 2, .ref 12]))) else (bif Nat.blt i 3 then (.inr (0, [.int (f 0), .int (f 1), .int (f 2), .int (f 3), .int (f 4), .int (f 5), .int (f 6), .int (f 7), .ref 3, .ref 5, .ref 7, .ref 9, .ref 11])) else (.inr (3, [.ref 4])))) else (bif Nat.blt i 6 then (bif Nat.blt i 5 then (.inl (0, 8, .inl f)) else (.inr (3, [.ref 6]))) else (bif Nat.blt i 7 then (.inl (0, 8, .inl f)) else (bif Nat.blt i 8 then (.inr (3, [.ref 8])) else (.inl (0, 8, .inl f)))))) else (bif Nat.blt i 14 then (bif Nat.blt i 11 then (bif Nat.blt i 10 then (.inr (3, [.ref 10])) else (.inl (0, 8, .inl f))) else (bif Nat.blt i 12 then (.inr (4, [.int (f 0), .int (f 1)])) else (bif Nat.blt i 13 then (.inr (6, [.int (f 0), .ref 13, .ref 15, .ref 17, .ref 19])) else (.inr (3, [.ref 14]))))) else (bif Nat.blt i 16 then (bif Nat.blt i 15 then (.inl (0, 8, .inl f)) else (.inr (3, [.ref 16]))) else (bif Nat.blt i 17 then (.inl (0, 8, .inl f)) else (bif Nat.blt i 18 then (.inr (3, [.ref 18])) else (.inl (0, 8, .inl f))))))) else (bif Nat.blt i 28 then (bif Nat.blt i 23 then (bif Nat.blt i 21 then (bif Nat.blt i 20 then (.inr (3, [.ref 20])) else (.inl (0, 8, .inl f))) else (bif Nat.blt i 22 then (.inr (5, [.ref 22, .ref 32])) else (.inr (0, [.int (f 0), .int (f 1), .int (f 2), .int (f 3), .int (f 4), .int (f 5), .int (f 6), .int (f 7), .ref 23, .ref 25, .ref 27, .ref 29, .ref 31])))) else (bif Nat.blt i 25 then (bif Nat.blt i 24 then (.inr (3, [.ref 24])) else (.inl (0, 8, .inl f))) else (bif Nat.blt i 26 then (.inr (3, [.ref 26])) else (bif Nat.blt i 27 then (.inl (0, 8, .inl f)) else (.inr (3, [.ref 28])))))) else (bif Nat.blt i 33 then (bif Nat.blt i 30 then (bif Nat.blt i 29 then (.inl (0, 8, .inl f)) else (.inr (3, [.ref 30]))) else (bif Nat.blt i 31 then (.inl (0, 8, .inl f)) else (bif Nat.blt i 32 then (.inr (4, [.int (f 0), .int (f 1)])) else (.inr (6, [.int (f 0), .ref 33, .ref 35, .ref 37, .ref 39]))))) else (bif Nat.blt i 35 then (bif Nat.blt i 34 then (.inr (3, [.ref 34])) else (.inl (0, 8, .inl f))) else (bif Nat.blt i 36 then (.inr (3, [.ref 36])) else (bif Nat.blt i 37 then (.inl (0, 8, .inl f)) else (.inr (3, [.ref 38])))))))) else (bif Nat.blt i 57 then (bif Nat.blt i 47 then (bif Nat.blt i 42 then (bif Nat.blt i 40 then (bif Nat.blt i 39 then (.inl (0, 8, .inl f)) else (.inr (3, [.ref 40]))) else (bif Nat.blt i 41 then (.inl (0, 8, .inl f)) else (.inr (1, [.int (f 0), .ref 42])))) else (bif Nat.blt i 44 then (bif Nat.blt i 43 then (.inl (2, 4, .inr (.inr (.inr (.inr π))))) else (.inr (5, [.ref 44, .ref 54]))) else (bif Nat.blt i 45 then (.inr (0, [.int (f 0), .int (f 1), .int (f 2), .int (f 3), .int (f 4), .int (f 5), .int (f 6), .int (f 7), .ref 45, .ref 47, .ref 49, .ref 51, .ref 53])) else (bif Nat.blt i 46 then (.inr (3, [.ref 46])) else (.inl (0, 8, .inl f)))))) else (bif Nat.blt i 52 then (bif Nat.blt i 49 then (bif Nat.blt i 48 then (.inr (3, [.ref 48])) else (.inl (0, 8, .inl f))) else (bif Nat.blt i 50 then (.inr (3, [.ref 50])) else (bif Nat.blt i 51 then (.inl (0, 8, .inl f)) else (.inr (3, [.ref 52]))))) else (bif Nat.blt i 54 then (bif Nat.blt i 53 then (.inl (0, 8, .inl f)) else (.inr (4, [.int (f 0), .int (f 1)]))) else (bif Nat.blt i 55 then (.inr (6, [.int (f 0), .ref 55, .ref 57, .ref 59, .ref 61])) else (bif Nat.blt i 56 then (.inr (3, [.ref 56])) else (.inl (0, 8, .inl f))))))) else (bif Nat.blt i 66 then (bif Nat.blt i 61 then (bif Nat.blt i 59 then (bif Nat.blt i 58 then (.inr (3, [.ref 58])) else (.inl (0, 8, .inl f))) else (bif Nat.blt i 60 then (.inr (3, [.ref 60])) else (.inl (0, 8, .inl f)))) else (bif Nat.blt i 63 then (bif Nat.blt i 62 then (.inr (3, [.ref 62])) else (.inl (0, 8, .inl f))) else (bif Nat.blt i 64 then (.inr (5, [.ref 64, .ref 74])) else (bif Nat.blt i 65 then (.inr (0, [.int (f 0), .int (f 1), .int (f 2), .int (f 3), .int (f 4), .int (f 5), .int (f 6), .int (f 7), .ref 65, .ref 67, .ref 69, .ref 71, .ref 73])) else (.inr (3, [.ref 66])))))) else (bif Nat.blt i 71 then (bif Nat.blt i 68 then (bif Nat.blt i 67 then (.inl (0, 8, .inl f)) else (.inr (3, [.ref 68]))) else (bif Nat.blt i 69 then (.inl (0, 8, .inl f)) else (bif Nat.blt i 70 then (.inr (3, [.ref 70])) else (.inl (0, 8, .inl f))))) else (bif Nat.blt i 73 then (bif Nat.blt i 72 then (.inr (3, [.ref 72])) else (.inl (0, 8, .inl f))) else (bif Nat.blt i 74 then (.inr (4, [.int (f 0), .int (f 1)])) else (bif Nat.blt i 75 then (.inr (6, [.int (f 0), .ref 75, .ref 77, .ref 79, .ref 81])) else (.inr (3, [.ref 76]))))))))) else (bif Nat.blt i 114 then (bif Nat.blt i 95 then (bif Nat.blt i 85 then (bif Nat.blt i 80 then (bif Nat.blt i 78 then (bif Nat.blt i 77 then (.inl (0, 8, .inl f)) else (.inr (3, [.ref 78]))) else (bif Nat.blt i 79 then (.inl (0, 8, .inl f)) else (.inr (3, [.ref 80])))) else (bif Nat.blt i 82 then (bif Nat.blt i 81 then (.inl (0, 8, .inl f)) else (.inr (3, [.ref 82]))) else (bif Nat.blt i 83 then (.inl (0, 8, .inl f)) else (bif Nat.blt i 84 then (.inr (5, [.ref 84, .ref 94])) else (.inr (0, [.int (f 0), .int (f 1), .int (f 2), .int (f 3), .int (f 4), .int (f 5), .int (f 6), .int (f 7), .ref 85, .ref 87, .ref 89, .ref 91, .ref 93])))))) else (bif Nat.blt i 90 then (bif Nat.blt i 87 then (bif Nat.blt i 86 then (.inr (3, [.ref 86])) else (.inl (0, 8, .inl f))) else (bif Nat.blt i 88 then (.inr (3, [.ref 88])) else (bif Nat.blt i 89 then (.inl (0, 8, .inl f)) else (.inr (3, [.ref 90]))))) else (bif Nat.blt i 92 then (bif Nat.blt i 91 then (.inl (0, 8, .inl f)) else (.inr (3, [.ref 92]))) else (bif Nat.blt i 93 then (.inl (0, 8, .inl f)) else (bif Nat.blt i 94 then (.inr (4, [.int (f 0), .int (f 1)])) else (.inr (6, [.int (f 0), .ref 95, .ref 97, .ref 99, .ref 101]))))))) else (bif Nat.blt i 104 then (bif Nat.blt i 99 then (bif Nat.blt i 97 then (bif Nat.blt i 96 then (.inr (3, [.ref 96])) else (.inl (0, 8, .inl f))) else (bif Nat.blt i 98 then (.inr (3, [.ref 98])) else (.inl (0, 8, .inl f)))) else (bif Nat.blt i 101 then (bif Nat.blt i 100 then (.inr (3, [.ref 100])) else (.inl (0, 8, .inl f))) else (bif Nat.blt i 102 then (.inr (3, [.ref 102])) else (bif Nat.blt i 103 then (.inl (0, 8, .inl f)) else (.inr (5, [.ref 104, .ref 114])))))) else (bif Nat.blt i 109 then (bif Nat.blt i 106 then (bif Nat.blt i 105 then (.inr (0, [.int (f 0), .int (f 1), .int (f 2), .int (f 3), .int (f 4), .int (f 5), .int (f 6), .int (f 7), .ref 105, .ref 107, .ref 109, .ref 111, .ref 113])) else (.inr (3, [.ref 106]))) else (bif Nat.blt i 107 then (.inl (0, 8, .inl f)) else (bif Nat.blt i 108 then (.inr (3, [.ref 108])) else (.inl (0, 8, .inl f))))) else (bif Nat.blt i 111 then (bif Nat.blt i 110 then (.inr (3, [.ref 110])) else (.inl (0, 8, .inl f))) else (bif Nat.blt i 112 then (.inr (3, [.ref 112])) else (bif Nat.blt i 113 then (.inl (0, 8, .inl f)) else (.inr (4, [.int (f 0), .int (f 1)])))))))) else (bif Nat.blt i 133 then (bif Nat.blt i 123 then (bif Nat.blt i 118 then (bif Nat.blt i 116 then (bif Nat.blt i 115 then (.inr (6, [.int (f 0), .ref 115, .ref 117, .ref 119, .ref 121])) else (.inr (3, [.ref 116]))) else (bif Nat.blt i 117 then (.inl (0, 8, .inl f)) else (.inr (3, [.ref 118])))) else (bif Nat.blt i 120 then (bif Nat.blt i 119 then (.inl (0, 8, .inl f)) else (.inr (3, [.ref 120]))) else (bif Nat.blt i 121 then (.inl (0, 8, .inl f)) else (bif Nat.blt i 122 then (.inr (3, [.ref 122])) else (.inl (0, 8, .inl f)))))) else (bif Nat.blt i 128 then (bif Nat.blt i 125 then (bif Nat.blt i 124 then (.inr (7, [.int (f 0), .ref 124, .ref 126, .ref 128, .ref 130, .ref 132, .int (f 6), .int (f 7), .int (f 8), .int (f 9), .int (f 10)])) else (.inr (3, [.ref 125]))) else (bif Nat.blt i 126 then (.inl (0, 60, .inl f)) else (bif Nat.blt i 127 then (.inr (3, [.ref 127])) else (.inl (0, 9216, .inl f))))) else (bif Nat.blt i 130 then (bif Nat.blt i 129 then (.inr (3, [.ref 129])) else (.inl (0, 9216, .inl f))) else (bif Nat.blt i 131 then (.inr (3, [.ref 131])) else (bif Nat.blt i 132 then (.inl (0, 9216, .inl f)) else (.inr (4, [.int (f 0), .int (f 1)]))))))) else (bif Nat.blt i 142 then (bif Nat.blt i 137 then (bif Nat.blt i 135 then (bif Nat.blt i 134 then (.inr (2, [.int (f 0), .int (f 1), .ref 134, .ref 136, .ref 138, .ref 140, .int (f 6), .int (f 7)])) else (.inr (3, [.ref 135]))) else (bif Nat.blt i 136 then (.inl (0, 90, .inl f)) else (.inr (3, [.ref 137])))) else (bif Nat.blt i 139 then (bif Nat.blt i 138 then (.inl (0, 90, .inl f)) else (.inr (3, [.ref 139]))) else (bif Nat.blt i 140 then (.inl (0, 90, .inl f)) else (bif Nat.blt i 141 then (.inr (3, [.ref 141])) else (.inl (0, 90, .inl f)))))) else (bif Nat.blt i 147 then (bif Nat.blt i 144 then (bif Nat.blt i 143 then (.inr (9, [.ref 143, .ref 144, .ref 145, .int (f 3), .ref 146, .int (f 5), .int (f 6), .int (f 7), .int (f 8), .ref 147, .ref 148, .ref 149, .ref 150, .int (f 13), .int (f 14), .int (f 15), .int (f 16), .long (L 0)])) else (.inl (0, 73, .inl f))) else (bif Nat.blt i 145 then (.inl (0, 73, .inl f)) else (bif Nat.blt i 146 then (.inl (0, 292, .inl f)) else (.inl (0, 90, .inl f))))) else (bif Nat.blt i 149 then (bif Nat.blt i 148 then (.inl (0, 9216, .inl f)) else (.inl (0, 9216, .inl f))) else (bif Nat.blt i 150 then (.inl (0, 9216, .inl f)) else (bif Nat.blt i 151 then (.inl (0, 60, .inl f)) else (.inl (1, 1, .inr (.inl L))))))))))
def cells (s : xs) : Nat → xC := fun i => cellAt i (s.1 i) (s.2.1 i) (s.2.2 i)
def wd (s : xs) : xw := (151, cells s)
def setP (s : xs) (i : Nat) (f : Nat → Int32) : xs := (va_up s.1 i f, s.2.1, s.2.2)
def setQ (s : xs) (i : Nat) (f : Nat → Option Nat) : xs := (s.1, va_up s.2.1 i f, s.2.2)
def setL (s : xs) (i : Nat) (f : Nat → Int64) : xs := (s.1, s.2.1, va_up s.2.2 i f)
theorem cells_setP (s : xs) (i : Nat) (f : Nat → Int32) {c : xC} (h : cellAt i f (s.2.1 i) (s.2.2 i) = c) : va_up (cells s) i c = cells (setP s i f) := by
  funext j
  by_cases hj : j = i
  · subst hj
    rw [va_up_self]
    show c = cellAt j (va_up s.1 j f j) (s.2.1 j) (s.2.2 j)
    rw [va_up_self, h]
  · rw [va_up_ne _ _ hj]
    show cellAt j (s.1 j) (s.2.1 j) (s.2.2 j) = cellAt j (va_up s.1 i f j) (s.2.1 j) (s.2.2 j)
    rw [va_up_ne _ _ hj]
theorem cells_setQ (s : xs) (i : Nat) (f : Nat → Option Nat) {c : xC} (h : cellAt i (s.1 i) f (s.2.2 i) = c) : va_up (cells s) i c = cells (setQ s i f) := by
  funext j
  by_cases hj : j = i
  · subst hj
    rw [va_up_self]
    show c = cellAt j (s.1 j) (va_up s.2.1 j f j) (s.2.2 j)
    rw [va_up_self, h]
  · rw [va_up_ne _ _ hj]
    show cellAt j (s.1 j) (s.2.1 j) (s.2.2 j) = cellAt j (s.1 j) (va_up s.2.1 i f j) (s.2.2 j)
    rw [va_up_ne _ _ hj]
theorem cells_setL (s : xs) (i : Nat) (f : Nat → Int64) {c : xC} (h : cellAt i (s.1 i) (s.2.1 i) f = c) : va_up (cells s) i c = cells (setL s i f) := by
  funext j
  by_cases hj : j = i
  · subst hj
    rw [va_up_self]
    show c = cellAt j (s.1 j) (s.2.1 j) (va_up s.2.2 j f j)
    rw [va_up_self, h]
  · rw [va_up_ne _ _ hj]
    show cellAt j (s.1 j) (s.2.1 j) (s.2.2 j) = cellAt j (s.1 j) (s.2.1 j) (va_up s.2.2 i f j)
    rw [va_up_ne _ _ hj]
section XR
variable {M : xM} {Po : xO → xw → Prop} {pc : Nat} {lv : List (Nat × Value)} {r : List Value} {kc ks : Nat} {s : xs} {i : Instr}
/-- one plain step -/
theorem R1 {w : xw} {st : List Value} {g' : xG} (h : xlk M.2.1 pc = some i) (hs : xst M i (pc, lv, st, w, kc, ks) = some g') (k : xRun M Po g') : xRun M Po (pc, lv, st, w, kc, ks) := by
  refine xRun.step ?_
  unfold xstep
  rw [show (pc, lv, st, w, kc, ks).1 = pc from rfl, h]
  dsimp only
  rw [hs]
  exact k
/-- a step that isn't plain -/
theorem R0 {w : xw} {st : List Value} (h : xlk M.2.1 pc = some i) (hs : xst M i (pc, lv, st, w, kc, ks) = none) (k : xnd M.2.2.2.1 M.2.2.1 M.2.2.2.2.1 M.2.2.2.2.2.1 M.2.2.2.2.2.2.1 M.2.2.2.2.2.2.2.1 M.2.2.2.2.2.2.2.2.1 M.2.2.2.2.2.2.2.2.2 Po (xRun M Po) i (pc, lv, st, w, kc, ks)) : xRun M Po (pc, lv, st, w, kc, ks) := by
  refine xRun.step ?_
  unfold xstep
  rw [show (pc, lv, st, w, kc, ks).1 = pc from rfl, h]
  dsimp only
  rw [hs]
  exact k
theorem R_eq {w : xw} {x : Int32} {off : Int} {st : List Value} (t : Nat) (h : xlk M.2.1 pc = some (.ifCond .eq off)) (ht : xtg pc off = some t) (ka : x = 0 → xRun M Po (t, lv, st, w, kc, ks)) (kb : ¬ x = 0 → xRun M Po (pc + 3, lv, st, w, kc, ks)) : xRun M Po (pc, lv, .int x :: st, w, kc, ks) := R0 h rfl ⟨t, ht, ka, kb⟩
theorem R_ne {w : xw} {x : Int32} {off : Int} {st : List Value} (t : Nat) (h : xlk M.2.1 pc = some (.ifCond .ne off)) (ht : xtg pc off = some t) (ka : ¬ x = 0 → xRun M Po (t, lv, st, w, kc, ks)) (kb : x = 0 → xRun M Po (pc + 3, lv, st, w, kc, ks)) : xRun M Po (pc, lv, .int x :: st, w, kc, ks) := R0 h rfl ⟨t, ht, ka, kb⟩
theorem R_lt {w : xw} {x : Int32} {off : Int} {st : List Value} (t : Nat) (h : xlk M.2.1 pc = some (.ifCond .lt off)) (ht : xtg pc off = some t) (ka : x < 0 → xRun M Po (t, lv, st, w, kc, ks)) (kb : ¬ x < 0 → xRun M Po (pc + 3, lv, st, w, kc, ks)) : xRun M Po (pc, lv, .int x :: st, w, kc, ks) := R0 h rfl ⟨t, ht, ka, kb⟩
theorem R_ge {w : xw} {x : Int32} {off : Int} {st : List Value} (t : Nat) (h : xlk M.2.1 pc = some (.ifCond .ge off)) (ht : xtg pc off = some t) (ka : 0 ≤ x → xRun M Po (t, lv, st, w, kc, ks)) (kb : ¬ 0 ≤ x → xRun M Po (pc + 3, lv, st, w, kc, ks)) : xRun M Po (pc, lv, .int x :: st, w, kc, ks) := R0 h rfl ⟨t, ht, ka, kb⟩
theorem R_gt {w : xw} {x : Int32} {off : Int} {st : List Value} (t : Nat) (h : xlk M.2.1 pc = some (.ifCond .gt off)) (ht : xtg pc off = some t) (ka : 0 < x → xRun M Po (t, lv, st, w, kc, ks)) (kb : ¬ 0 < x → xRun M Po (pc + 3, lv, st, w, kc, ks)) : xRun M Po (pc, lv, .int x :: st, w, kc, ks) := R0 h rfl ⟨t, ht, ka, kb⟩
theorem R_le {w : xw} {x : Int32} {off : Int} {st : List Value} (t : Nat) (h : xlk M.2.1 pc = some (.ifCond .le off)) (ht : xtg pc off = some t) (ka : x ≤ 0 → xRun M Po (t, lv, st, w, kc, ks)) (kb : ¬ x ≤ 0 → xRun M Po (pc + 3, lv, st, w, kc, ks)) : xRun M Po (pc, lv, .int x :: st, w, kc, ks) := R0 h rfl ⟨t, ht, ka, kb⟩
theorem R_ceq {w : xw} {x y : Int32} {off : Int} {st : List Value} (t : Nat) (h : xlk M.2.1 pc = some (.if_icmp .eq off)) (ht : xtg pc off = some t) (ka : x = y → xRun M Po (t, lv, st, w, kc, ks)) (kb : ¬ x = y → xRun M Po (pc + 3, lv, st, w, kc, ks)) : xRun M Po (pc, lv, .int y :: .int x :: st, w, kc, ks) := R0 h rfl ⟨t, ht, ka, kb⟩
theorem R_cne {w : xw} {x y : Int32} {off : Int} {st : List Value} (t : Nat) (h : xlk M.2.1 pc = some (.if_icmp .ne off)) (ht : xtg pc off = some t) (ka : ¬ x = y → xRun M Po (t, lv, st, w, kc, ks)) (kb : x = y → xRun M Po (pc + 3, lv, st, w, kc, ks)) : xRun M Po (pc, lv, .int y :: .int x :: st, w, kc, ks) := R0 h rfl ⟨t, ht, ka, kb⟩
theorem R_clt {w : xw} {x y : Int32} {off : Int} {st : List Value} (t : Nat) (h : xlk M.2.1 pc = some (.if_icmp .lt off)) (ht : xtg pc off = some t) (ka : x < y → xRun M Po (t, lv, st, w, kc, ks)) (kb : ¬ x < y → xRun M Po (pc + 3, lv, st, w, kc, ks)) : xRun M Po (pc, lv, .int y :: .int x :: st, w, kc, ks) := R0 h rfl ⟨t, ht, ka, kb⟩
theorem R_cge {w : xw} {x y : Int32} {off : Int} {st : List Value} (t : Nat) (h : xlk M.2.1 pc = some (.if_icmp .ge off)) (ht : xtg pc off = some t) (ka : y ≤ x → xRun M Po (t, lv, st, w, kc, ks)) (kb : ¬ y ≤ x → xRun M Po (pc + 3, lv, st, w, kc, ks)) : xRun M Po (pc, lv, .int y :: .int x :: st, w, kc, ks) := R0 h rfl ⟨t, ht, ka, kb⟩
theorem R_cgt {w : xw} {x y : Int32} {off : Int} {st : List Value} (t : Nat) (h : xlk M.2.1 pc = some (.if_icmp .gt off)) (ht : xtg pc off = some t) (ka : y < x → xRun M Po (t, lv, st, w, kc, ks)) (kb : ¬ y < x → xRun M Po (pc + 3, lv, st, w, kc, ks)) : xRun M Po (pc, lv, .int y :: .int x :: st, w, kc, ks) := R0 h rfl ⟨t, ht, ka, kb⟩
theorem R_cle {w : xw} {x y : Int32} {off : Int} {st : List Value} (t : Nat) (h : xlk M.2.1 pc = some (.if_icmp .le off)) (ht : xtg pc off = some t) (ka : x ≤ y → xRun M Po (t, lv, st, w, kc, ks)) (kb : ¬ x ≤ y → xRun M Po (pc + 3, lv, st, w, kc, ks)) : xRun M Po (pc, lv, .int y :: .int x :: st, w, kc, ks) := R0 h rfl ⟨t, ht, ka, kb⟩
theorem R_idiv {w : xw} {x y : Int32} {st : List Value} (h : xlk M.2.1 pc = some .idiv) (hy : ¬ y = 0) (k : xRun M Po (pc + 1, lv, .int (x / y) :: st, w, kc, ks)) : xRun M Po (pc, lv, .int y :: .int x :: st, w, kc, ks) := R0 h rfl ⟨hy, k⟩
theorem R_irem {w : xw} {x y : Int32} {st : List Value} (h : xlk M.2.1 pc = some .irem) (hy : ¬ y = 0) (k : xRun M Po (pc + 1, lv, .int (x - x / y * y) :: st, w, kc, ks)) : xRun M Po (pc, lv, .int y :: .int x :: st, w, kc, ks) := R0 h rfl ⟨hy, k⟩
theorem R_ddiv {w : xw} {x y : UInt64} {st : List Value} (h : xlk M.2.1 pc = some .ddiv) (hy : vf_n64 (FP.ddiv x y)) (k : xRun M Po (pc + 1, lv, .double (FP.ddiv x y) :: st, w, kc, ks)) : xRun M Po (pc, lv, .double y :: .double x :: st, w, kc, ks) := R0 h rfl ⟨hy, k⟩
/-- reads of arrays; k: the index as a number -/
theorem R_iald {a n : Nat} {x : Int32} {st : List Value} (k : Nat) (h : xlk M.2.1 pc = some .iaload) (ha : a < 151) (hc : cellAt a (s.1 a) (s.2.1 a) (s.2.2 a) = .inl (0, n, .inl (s.1 a))) (hk : k < n) (hn : n < 2 ^ 31) (hx : x = nI k) (kk : xRun M Po (pc + 1, lv, .int (s.1 a k) :: st, wd s, kc, ks)) : xRun M Po (pc, lv, .int x :: .ref a :: st, wd s, kc, ks) := by
  subst hx
  refine R0 h rfl ⟨n, s.1 a, ⟨ha, hc⟩, vp_in_nI hk hn, ?_⟩
  rw [nI_clamp (by omega)]
  exact kk
theorem R_iast {a n : Nat} {x v : Int32} {st : List Value} (k : Nat) (h : xlk M.2.1 pc = some .iastore) (ha : a < 151) (hc : ∀ f, cellAt a f (s.2.1 a) (s.2.2 a) = .inl (0, n, .inl f)) (hk : k < n) (hn : n < 2 ^ 31) (hx : x = nI k) (kk : xRun M Po (pc + 1, lv, st, wd (setP s a (upd (s.1 a) k v)), kc, ks)) : xRun M Po (pc, lv, .int v :: .int x :: .ref a :: st, wd s, kc, ks) := by
  subst hx
  refine R0 h rfl ⟨n, s.1 a, ⟨ha, hc _⟩, vp_in_nI hk hn, ?_⟩
  rw [nI_clamp (by omega)]
  show xRun M Po (pc + 1, lv, st, (151, va_up (cells s) a (.inl (0, n, .inl (upd (s.1 a) k v)))), kc, ks)
  rw [cells_setP s a (upd (s.1 a) k v) (hc _)]
  exact kk
/-- a field of a number -/
theorem R_put {a ci fk j : Nat} {v : Int32} {st : List Value} {fs : List Value} (h : xlk M.2.1 pc = some (.putfield j)) (hF : M.2.2.1 j = some (ci, fk)) (ha : a < 151) (hc : cellAt a (s.1 a) (s.2.1 a) (s.2.2 a) = .inr (ci, fs)) (hl : fk < fs.length)
    (hq : ∃ q, vwCl[ci]? = some q ∧ ((q.2.1 fk).2.2.2 = false ∨ M.2.2.2.1 1000000 = some (.retAddr ci)) ∧ ∃ ty, parseFieldDescriptor (q.2.1 fk).2.2.1 = some ty ∧ xfits ty (.int v) = true)
    (hd : cellAt a (upd (s.1 a) fk v) (s.2.1 a) (s.2.2 a) = .inr (ci, fs.set fk (.int v))) (kk : xRun M Po (pc + 3, lv, st, wd (setP s a (upd (s.1 a) fk v)), kc, ks)) : xRun M Po (pc, lv, .int v :: .ref a :: st, wd s, kc, ks) := by
  refine R0 h rfl ⟨ci, fk, fs, hF, ha, hc, hl, hq, ?_⟩
  show xRun M Po (pc + 3, lv, st, (151, va_up (cells s) a (.inr (ci, fs.set fk (.int v)))), kc, ks)
  rw [cells_setP s a (upd (s.1 a) fk v) hd]
  exact kk
theorem R_putL {a ci fk j : Nat} {v : Int64} {st : List Value} {fs : List Value} (h : xlk M.2.1 pc = some (.putfield j)) (hF : M.2.2.1 j = some (ci, fk)) (ha : a < 151) (hc : cellAt a (s.1 a) (s.2.1 a) (s.2.2 a) = .inr (ci, fs)) (hl : fk < fs.length)
    (hq : ∃ q, vwCl[ci]? = some q ∧ ((q.2.1 fk).2.2.2 = false ∨ M.2.2.2.1 1000000 = some (.retAddr ci)) ∧ ∃ ty, parseFieldDescriptor (q.2.1 fk).2.2.1 = some ty ∧ xfits ty (.long v) = true)
    (hd : cellAt a (s.1 a) (s.2.1 a) (fun _ => v) = .inr (ci, fs.set fk (.long v))) (kk : xRun M Po (pc + 3, lv, st, wd (setL s a (fun _ => v)), kc, ks)) : xRun M Po (pc, lv, .long v :: .ref a :: st, wd s, kc, ks) := by
  refine R0 h rfl ⟨ci, fk, fs, hF, ha, hc, hl, hq, ?_⟩
  show xRun M Po (pc + 3, lv, st, (151, va_up (cells s) a (.inr (ci, fs.set fk (.long v)))), kc, ks)
  rw [cells_setL s a (fun _ => v) hd]
  exact kk
theorem R_call {w w1 : xw} {avs : List Value} {st : List Value} {j key argc mc ms : Nat} {rel : xR} {v : Option Value} (hi : (i = .invokestatic j ∧ key = 3 * j) ∨ (i = .invokevirtual j ∧ key = 3 * j + 1) ∨ (i = .invokespecial j ∧ key = 3 * j + 2)) (h : xlk M.2.1 pc = some i) (hC : M.2.2.2.2.2.2.2.1 key = some (argc, mc, ms, rel)) (hs : st = avs.reverse ++ r) (hlen : avs.length = argc)
    (hc : kc + mc ≤ M.2.2.2.2.2.2.2.2.1 ∧ ks + ms ≤ M.2.2.2.2.2.2.2.2.2) (hcat : (r.map (fun v => v.category)).sum ≤ 8) (hok : okL w.1 lv = true ∧ okS w.1 r = true) (hr : rel avs w (.inl v) w1) (kk : xRun M Po (pc + 3, lv, v.toList ++ r, w1, kc + mc, ks + ms)) : xRun M Po (pc, lv, st, w, kc, ks) := by
  rcases hi with ⟨rfl, rfl⟩ | ⟨rfl, rfl⟩ | ⟨rfl, rfl⟩
  · exact R0 h rfl ⟨argc, mc, ms, rel, avs, r, .inl v, w1, hC, hs, hlen, hr, hc.1, hc.2, hcat, hok.1, hok.2, kk⟩
  · exact R0 h rfl ⟨argc, mc, ms, rel, avs, r, .inl v, w1, hC, hs, hlen, hr, hc.1, hc.2, hcat, hok.1, hok.2, kk⟩
  · exact R0 h rfl ⟨argc, mc, ms, rel, avs, r, .inl v, w1, hC, hs, hlen, hr, hc.1, hc.2, hcat, hok.1, hok.2, kk⟩
/-- a call that throws, in a method without handlers -/
theorem R_callX {w w1 : xw} {avs : List Value} {st : List Value} {j key argc mc ms : Nat} {rel : xR} {E : String} (hi : (i = .invokestatic j ∧ key = 3 * j) ∨ (i = .invokevirtual j ∧ key = 3 * j + 1) ∨ (i = .invokespecial j ∧ key = 3 * j + 2)) (h : xlk M.2.1 pc = some i) (hC : M.2.2.2.2.2.2.2.1 key = some (argc, mc, ms, rel)) (hs : st = avs.reverse ++ r) (hlen : avs.length = argc)
    (hc : kc + mc ≤ M.2.2.2.2.2.2.2.2.1 ∧ ks + ms ≤ M.2.2.2.2.2.2.2.2.2) (hcat : (r.map (fun v => v.category)).sum ≤ 8) (hok : okL w.1 lv = true ∧ okS w.1 r = true) (hr : rel avs w (.inr E) w1) (hH : M.2.2.2.2.2.2.1 pc E = none) (kk : Po (.inr E) w1) : xRun M Po (pc, lv, st, w, kc, ks) := by
  rcases hi with ⟨rfl, rfl⟩ | ⟨rfl, rfl⟩ | ⟨rfl, rfl⟩
  · exact R0 h rfl ⟨argc, mc, ms, rel, avs, r, .inr E, w1, hC, hs, hlen, hr, hc.1, hc.2, hcat, hok.1, hok.2, by dsimp only; rw [hH]; exact kk⟩
  · exact R0 h rfl ⟨argc, mc, ms, rel, avs, r, .inr E, w1, hC, hs, hlen, hr, hc.1, hc.2, hcat, hok.1, hok.2, by dsimp only; rw [hH]; exact kk⟩
  · exact R0 h rfl ⟨argc, mc, ms, rel, avs, r, .inr E, w1, hC, hs, hlen, hr, hc.1, hc.2, hcat, hok.1, hok.2, by dsimp only; rw [hH]; exact kk⟩
theorem R_throw {w : xw} {st : List Value} {j : Nat} {E : String} (h : xlk M.2.1 pc = some (.new j)) (hT : M.2.2.2.2.2.1 pc = some E) (hc : kc + 1 ≤ M.2.2.2.2.2.2.2.2.1 ∧ ks + 6 ≤ M.2.2.2.2.2.2.2.2.2) (hcat : (st.map (fun v => v.category)).sum ≤ 8) (k : Po (.inr E) w) : xRun M Po (pc, lv, st, w, kc, ks) := by
  refine R0 h rfl ?_
  simp only [xnd]
  rw [hT]
  exact ⟨hc.1, hc.2, hcat, k⟩
theorem R_iret {w : xw} {x : Int32} (h : xlk M.2.1 pc = some .ireturn) (k : Po (.inl (some (.int x))) w) : xRun M Po (pc, lv, [.int x], w, kc, ks) := R0 h rfl k
theorem R_vret {w : xw} (h : xlk M.2.1 pc = some .return_) (k : Po (.inl none) w) : xRun M Po (pc, lv, [], w, kc, ks) := R0 h rfl k
theorem R_lret {w : xw} {x : Int64} (h : xlk M.2.1 pc = some .lreturn) (k : Po (.inl (some (.long x))) w) : xRun M Po (pc, lv, [.long x], w, kc, ks) := R0 h rfl k
theorem R_dret {w : xw} {x : UInt64} (h : xlk M.2.1 pc = some .dreturn) (k : Po (.inl (some (.double x))) w) : xRun M Po (pc, lv, [.double x], w, kc, ks) := R0 h rfl k
theorem R_aret {w : xw} {x : Nat} (h : xlk M.2.1 pc = some .areturn) (k : Po (.inl (some (.ref x))) w) : xRun M Po (pc, lv, [.ref x], w, kc, ks) := R0 h rfl k
theorem R_nret {w : xw} (h : xlk M.2.1 pc = some .areturn) (k : Po (.inl (some .null)) w) : xRun M Po (pc, lv, [.null], w, kc, ks) := R0 h rfl k
theorem R_ceqN {w : xw} {x y : Int32} {off : Int} {st : List Value} (t a b : Nat) (h : xlk M.2.1 pc = some (.if_icmp .eq off)) (ht : xtg pc off = some t) (hx : x = nI a) (hy : y = nI b) (ha : a < 2 ^ 31) (hb : b < 2 ^ 31) (ka : a = b → xRun M Po (t, lv, st, w, kc, ks)) (kb : ¬ a = b → xRun M Po (pc + 3, lv, st, w, kc, ks)) : xRun M Po (pc, lv, .int y :: .int x :: st, w, kc, ks) := by
  subst hx; subst hy
  exact R_ceq t h ht (fun z => ka ((nI_eq ha hb).mp z)) (fun z => kb (fun e => z ((nI_eq ha hb).mpr e)))
theorem R_cneN {w : xw} {x y : Int32} {off : Int} {st : List Value} (t a b : Nat) (h : xlk M.2.1 pc = some (.if_icmp .ne off)) (ht : xtg pc off = some t) (hx : x = nI a) (hy : y = nI b) (ha : a < 2 ^ 31) (hb : b < 2 ^ 31) (ka : ¬ a = b → xRun M Po (t, lv, st, w, kc, ks)) (kb : a = b → xRun M Po (pc + 3, lv, st, w, kc, ks)) : xRun M Po (pc, lv, .int y :: .int x :: st, w, kc, ks) := by
  subst hx; subst hy
  exact R_cne t h ht (fun z => ka (fun e => z ((nI_eq ha hb).mpr e))) (fun z => kb ((nI_eq ha hb).mp z))
theorem R_cltN {w : xw} {x y : Int32} {off : Int} {st : List Value} (t a b : Nat) (h : xlk M.2.1 pc = some (.if_icmp .lt off)) (ht : xtg pc off = some t) (hx : x = nI a) (hy : y = nI b) (ha : a < 2 ^ 31) (hb : b < 2 ^ 31) (ka : a < b → xRun M Po (t, lv, st, w, kc, ks)) (kb : ¬ a < b → xRun M Po (pc + 3, lv, st, w, kc, ks)) : xRun M Po (pc, lv, .int y :: .int x :: st, w, kc, ks) := by
  subst hx; subst hy
  exact R_clt t h ht (fun z => ka ((nI_ltI ha hb).mp z)) (fun z => kb (fun e => z ((nI_ltI ha hb).mpr e)))
theorem R_cgeN {w : xw} {x y : Int32} {off : Int} {st : List Value} (t a b : Nat) (h : xlk M.2.1 pc = some (.if_icmp .ge off)) (ht : xtg pc off = some t) (hx : x = nI a) (hy : y = nI b) (ha : a < 2 ^ 31) (hb : b < 2 ^ 31) (ka : b ≤ a → xRun M Po (t, lv, st, w, kc, ks)) (kb : ¬ b ≤ a → xRun M Po (pc + 3, lv, st, w, kc, ks)) : xRun M Po (pc, lv, .int y :: .int x :: st, w, kc, ks) := by
  subst hx; subst hy
  exact R_cge t h ht (fun z => ka ((nI_leI hb ha).mp z)) (fun z => kb (fun e => z ((nI_leI hb ha).mpr e)))
theorem R_cgtN {w : xw} {x y : Int32} {off : Int} {st : List Value} (t a b : Nat) (h : xlk M.2.1 pc = some (.if_icmp .gt off)) (ht : xtg pc off = some t) (hx : x = nI a) (hy : y = nI b) (ha : a < 2 ^ 31) (hb : b < 2 ^ 31) (ka : b < a → xRun M Po (t, lv, st, w, kc, ks)) (kb : ¬ b < a → xRun M Po (pc + 3, lv, st, w, kc, ks)) : xRun M Po (pc, lv, .int y :: .int x :: st, w, kc, ks) := by
  subst hx; subst hy
  exact R_cgt t h ht (fun z => ka ((nI_ltI hb ha).mp z)) (fun z => kb (fun e => z ((nI_ltI hb ha).mpr e)))
theorem R_cleN {w : xw} {x y : Int32} {off : Int} {st : List Value} (t a b : Nat) (h : xlk M.2.1 pc = some (.if_icmp .le off)) (ht : xtg pc off = some t) (hx : x = nI a) (hy : y = nI b) (ha : a < 2 ^ 31) (hb : b < 2 ^ 31) (ka : a ≤ b → xRun M Po (t, lv, st, w, kc, ks)) (kb : ¬ a ≤ b → xRun M Po (pc + 3, lv, st, w, kc, ks)) : xRun M Po (pc, lv, .int y :: .int x :: st, w, kc, ks) := by
  subst hx; subst hy
  exact R_cle t h ht (fun z => ka ((nI_leI ha hb).mp z)) (fun z => kb (fun e => z ((nI_leI ha hb).mpr e)))
theorem R_eqN {w : xw} {x : Int32} {off : Int} {st : List Value} (t a : Nat) (h : xlk M.2.1 pc = some (.ifCond .eq off)) (ht : xtg pc off = some t) (hx : x = nI a) (ha : a < 2 ^ 31) (ka : a = 0 → xRun M Po (t, lv, st, w, kc, ks)) (kb : ¬ a = 0 → xRun M Po (pc + 3, lv, st, w, kc, ks)) : xRun M Po (pc, lv, .int x :: st, w, kc, ks) := by
  subst hx
  exact R_eq t h ht (fun z => ka ((nI_eq ha (Nat.le_of_ble_eq_true rfl)).mp z)) (fun z => kb (fun e => z ((nI_eq ha (Nat.le_of_ble_eq_true rfl)).mpr e)))
theorem R_neN {w : xw} {x : Int32} {off : Int} {st : List Value} (t a : Nat) (h : xlk M.2.1 pc = some (.ifCond .ne off)) (ht : xtg pc off = some t) (hx : x = nI a) (ha : a < 2 ^ 31) (ka : ¬ a = 0 → xRun M Po (t, lv, st, w, kc, ks)) (kb : a = 0 → xRun M Po (pc + 3, lv, st, w, kc, ks)) : xRun M Po (pc, lv, .int x :: st, w, kc, ks) := by
  subst hx
  exact R_ne t h ht (fun z => ka (fun e => z ((nI_eq ha (Nat.le_of_ble_eq_true rfl)).mpr e))) (fun z => kb ((nI_eq ha (Nat.le_of_ble_eq_true rfl)).mp z))
theorem R_leN {w : xw} {x : Int32} {off : Int} {st : List Value} (t a : Nat) (h : xlk M.2.1 pc = some (.ifCond .le off)) (ht : xtg pc off = some t) (hx : x = nI a) (ha : a < 2 ^ 31) (ka : a ≤ 0 → xRun M Po (t, lv, st, w, kc, ks)) (kb : ¬ a ≤ 0 → xRun M Po (pc + 3, lv, st, w, kc, ks)) : xRun M Po (pc, lv, .int x :: st, w, kc, ks) := by
  subst hx
  exact R_le t h ht (fun z => ka ((nI_leI ha (Nat.le_of_ble_eq_true rfl)).mp z)) (fun z => kb (fun e => z ((nI_leI ha (Nat.le_of_ble_eq_true rfl)).mpr e)))
theorem R_gtN {w : xw} {x : Int32} {off : Int} {st : List Value} (t a : Nat) (h : xlk M.2.1 pc = some (.ifCond .gt off)) (ht : xtg pc off = some t) (hx : x = nI a) (ha : a < 2 ^ 31) (ka : 0 < a → xRun M Po (t, lv, st, w, kc, ks)) (kb : ¬ 0 < a → xRun M Po (pc + 3, lv, st, w, kc, ks)) : xRun M Po (pc, lv, .int x :: st, w, kc, ks) := by
  subst hx
  exact R_gt t h ht (fun z => ka ((nI_ltI (Nat.le_of_ble_eq_true rfl) ha).mp z)) (fun z => kb (fun e => z ((nI_ltI (Nat.le_of_ble_eq_true rfl) ha).mpr e)))
theorem R_tsw {w : xw} {x : Int32} {d lo hi : Int} {offs : Array Int} {st : List Value} (off : Int) (t : Nat) (h : xlk M.2.1 pc = some (.tableswitch d lo hi offs)) (h1 : ¬ x.toInt < lo) (h2 : ¬ hi < x.toInt) (ho : offs[(x.toInt - lo).toNat]? = some off) (ht : xtg pc off = some t) (k : xRun M Po (t, lv, st, w, kc, ks)) : xRun M Po (pc, lv, .int x :: st, w, kc, ks) := by
  refine R0 h rfl ⟨fun z => ?_, fun _ _ => ⟨off, t, ho, ht, k⟩⟩
  rcases z with z | z
  · exact absurd z h1
  · exact absurd z h2
theorem R_tswO {w : xw} {x : Int32} {d lo hi : Int} {offs : Array Int} {st : List Value} (t : Nat) (h : xlk M.2.1 pc = some (.tableswitch d lo hi offs)) (h1 : x.toInt < lo ∨ hi < x.toInt) (ht : xtg pc d = some t) (k : xRun M Po (t, lv, st, w, kc, ks)) : xRun M Po (pc, lv, .int x :: st, w, kc, ks) := by
  refine R0 h rfl ⟨fun _ => ⟨t, ht, k⟩, fun z1 z2 => ?_⟩
  rcases h1 with z | z
  · exact absurd z z1
  · exact absurd z z2
theorem R_lsw {w : xw} {x : Int32} {d : Int} {ps : Array (Int × Int)} {st : List Value} (t : Nat) (h : xlk M.2.1 pc = some (.lookupswitch d ps)) (hp : (ps.toList.zip (ps.toList.drop 1)).all (fun (a, b) => a.1 < b.1) = true) (ht : xtg pc (Op.lookupswitch.offset ps.toList d x.toInt) = some t) (k : xRun M Po (t, lv, st, w, kc, ks)) : xRun M Po (pc, lv, .int x :: st, w, kc, ks) := R0 h rfl ⟨hp, t, ht, k⟩
theorem R_getf {a ci fk j : Nat} {v : Value} {st : List Value} {fs : List Value} (h : xlk M.2.1 pc = some (.getfield j)) (hF : M.2.2.1 j = some (ci, fk)) (ha : a < 151) (hc : cellAt a (s.1 a) (s.2.1 a) (s.2.2 a) = .inr (ci, fs)) (hv : fs[fk]? = some v) (kk : xRun M Po (pc + 3, lv, v :: st, wd s, kc, ks)) : xRun M Po (pc, lv, .ref a :: st, wd s, kc, ks) := by
  refine R1 (g' := (pc + 3, lv, v :: st, wd s, kc, ks)) h ?_ kk
  have h1 : (wd s).2 a = .inr (ci, fs) := hc
  have h2 : Nat.blt a (wd s).1 = true := Nat.blt_eq.mpr ha
  have h3 : Nat.beq ci ci = true := Nat.beq_refl ci
  show xpick none (fun _ => xpick (xsd M.2.2.1 (.getfield j) (pc, lv, .ref a :: st, wd s, kc, ks)) _) = _
  simp only [xpick, xsd, hF, h1, h2, h3, hv, Bool.and_self, cond_true]
theorem R_alen {a n : Nat} {z} {st : List Value} (h : xlk M.2.1 pc = some .arraylength) (ha : a < 151) (hc : cellAt a (s.1 a) (s.2.1 a) (s.2.2 a) = .inl (0, n, z)) (kk : xRun M Po (pc + 1, lv, .int (nI n) :: st, wd s, kc, ks)) : xRun M Po (pc, lv, .ref a :: st, wd s, kc, ks) := by
  refine R1 (g' := (pc + 1, lv, .int (nI n) :: st, wd s, kc, ks)) h ?_ kk
  have h1 : (wd s).2 a = .inl (0, n, z) := hc
  have h2 : Nat.blt a (wd s).1 = true := Nat.blt_eq.mpr ha
  have h3 : Nat.blt 0 3 = true := rfl
  show xpick none (fun _ => xpick (xsd M.2.2.1 .arraylength (pc, lv, .ref a :: st, wd s, kc, ks)) _) = _
  simp only [xpick, xsd, h1, h2, h3, Bool.and_self, cond_true]
  rfl
theorem R_call0 {w w1 : xw} {st : List Value} {j key mc ms : Nat} {rel : xR} {v : Option Value} (hi : (i = .invokestatic j ∧ key = 3 * j) ∨ (i = .invokevirtual j ∧ key = 3 * j + 1) ∨ (i = .invokespecial j ∧ key = 3 * j + 2)) (h : xlk M.2.1 pc = some i) (hC : M.2.2.2.2.2.2.2.1 key = some (0, mc, ms, rel))
    (hc : kc + mc ≤ M.2.2.2.2.2.2.2.2.1 ∧ ks + ms ≤ M.2.2.2.2.2.2.2.2.2) (hcat : (st.map (fun v => v.category)).sum ≤ 8) (hok : okL w.1 lv = true ∧ okS w.1 st = true) (hr : rel [] w (.inl v) w1) (kk : xRun M Po (pc + 3, lv, v.toList ++ st, w1, kc + mc, ks + ms)) : xRun M Po (pc, lv, st, w, kc, ks) :=
  R_call hi h hC (avs := []) rfl rfl hc hcat hok hr kk
theorem R_call0X {w w1 : xw} {st : List Value} {j key mc ms : Nat} {rel : xR} {E : String} (hi : (i = .invokestatic j ∧ key = 3 * j) ∨ (i = .invokevirtual j ∧ key = 3 * j + 1) ∨ (i = .invokespecial j ∧ key = 3 * j + 2)) (h : xlk M.2.1 pc = some i) (hC : M.2.2.2.2.2.2.2.1 key = some (0, mc, ms, rel))
    (hc : kc + mc ≤ M.2.2.2.2.2.2.2.2.1 ∧ ks + ms ≤ M.2.2.2.2.2.2.2.2.2) (hcat : (st.map (fun v => v.category)).sum ≤ 8) (hok : okL w.1 lv = true ∧ okS w.1 st = true) (hr : rel [] w (.inr E) w1) (hH : M.2.2.2.2.2.2.1 pc E = none) (kk : Po (.inr E) w1) : xRun M Po (pc, lv, st, w, kc, ks) :=
  R_callX hi h hC (avs := []) rfl rfl hc hcat hok hr hH kk
theorem R_call1 {w w1 : xw} {v0 : Value} {st : List Value} {j key mc ms : Nat} {rel : xR} {v : Option Value} (hi : (i = .invokestatic j ∧ key = 3 * j) ∨ (i = .invokevirtual j ∧ key = 3 * j + 1) ∨ (i = .invokespecial j ∧ key = 3 * j + 2)) (h : xlk M.2.1 pc = some i) (hC : M.2.2.2.2.2.2.2.1 key = some (1, mc, ms, rel))
    (hc : kc + mc ≤ M.2.2.2.2.2.2.2.2.1 ∧ ks + ms ≤ M.2.2.2.2.2.2.2.2.2) (hcat : (st.map (fun v => v.category)).sum ≤ 8) (hok : okL w.1 lv = true ∧ okS w.1 st = true) (hr : rel [v0] w (.inl v) w1) (kk : xRun M Po (pc + 3, lv, v.toList ++ st, w1, kc + mc, ks + ms)) : xRun M Po (pc, lv, v0 :: st, w, kc, ks) :=
  R_call hi h hC (avs := [v0]) rfl rfl hc hcat hok hr kk
theorem R_call1X {w w1 : xw} {v0 : Value} {st : List Value} {j key mc ms : Nat} {rel : xR} {E : String} (hi : (i = .invokestatic j ∧ key = 3 * j) ∨ (i = .invokevirtual j ∧ key = 3 * j + 1) ∨ (i = .invokespecial j ∧ key = 3 * j + 2)) (h : xlk M.2.1 pc = some i) (hC : M.2.2.2.2.2.2.2.1 key = some (1, mc, ms, rel))
    (hc : kc + mc ≤ M.2.2.2.2.2.2.2.2.1 ∧ ks + ms ≤ M.2.2.2.2.2.2.2.2.2) (hcat : (st.map (fun v => v.category)).sum ≤ 8) (hok : okL w.1 lv = true ∧ okS w.1 st = true) (hr : rel [v0] w (.inr E) w1) (hH : M.2.2.2.2.2.2.1 pc E = none) (kk : Po (.inr E) w1) : xRun M Po (pc, lv, v0 :: st, w, kc, ks) :=
  R_callX hi h hC (avs := [v0]) rfl rfl hc hcat hok hr hH kk
theorem R_call2 {w w1 : xw} {v0 : Value} {v1 : Value} {st : List Value} {j key mc ms : Nat} {rel : xR} {v : Option Value} (hi : (i = .invokestatic j ∧ key = 3 * j) ∨ (i = .invokevirtual j ∧ key = 3 * j + 1) ∨ (i = .invokespecial j ∧ key = 3 * j + 2)) (h : xlk M.2.1 pc = some i) (hC : M.2.2.2.2.2.2.2.1 key = some (2, mc, ms, rel))
    (hc : kc + mc ≤ M.2.2.2.2.2.2.2.2.1 ∧ ks + ms ≤ M.2.2.2.2.2.2.2.2.2) (hcat : (st.map (fun v => v.category)).sum ≤ 8) (hok : okL w.1 lv = true ∧ okS w.1 st = true) (hr : rel [v0, v1] w (.inl v) w1) (kk : xRun M Po (pc + 3, lv, v.toList ++ st, w1, kc + mc, ks + ms)) : xRun M Po (pc, lv, v1 :: v0 :: st, w, kc, ks) :=
  R_call hi h hC (avs := [v0, v1]) rfl rfl hc hcat hok hr kk
theorem R_call2X {w w1 : xw} {v0 : Value} {v1 : Value} {st : List Value} {j key mc ms : Nat} {rel : xR} {E : String} (hi : (i = .invokestatic j ∧ key = 3 * j) ∨ (i = .invokevirtual j ∧ key = 3 * j + 1) ∨ (i = .invokespecial j ∧ key = 3 * j + 2)) (h : xlk M.2.1 pc = some i) (hC : M.2.2.2.2.2.2.2.1 key = some (2, mc, ms, rel))
    (hc : kc + mc ≤ M.2.2.2.2.2.2.2.2.1 ∧ ks + ms ≤ M.2.2.2.2.2.2.2.2.2) (hcat : (st.map (fun v => v.category)).sum ≤ 8) (hok : okL w.1 lv = true ∧ okS w.1 st = true) (hr : rel [v0, v1] w (.inr E) w1) (hH : M.2.2.2.2.2.2.1 pc E = none) (kk : Po (.inr E) w1) : xRun M Po (pc, lv, v1 :: v0 :: st, w, kc, ks) :=
  R_callX hi h hC (avs := [v0, v1]) rfl rfl hc hcat hok hr hH kk
theorem R_call3 {w w1 : xw} {v0 : Value} {v1 : Value} {v2 : Value} {st : List Value} {j key mc ms : Nat} {rel : xR} {v : Option Value} (hi : (i = .invokestatic j ∧ key = 3 * j) ∨ (i = .invokevirtual j ∧ key = 3 * j + 1) ∨ (i = .invokespecial j ∧ key = 3 * j + 2)) (h : xlk M.2.1 pc = some i) (hC : M.2.2.2.2.2.2.2.1 key = some (3, mc, ms, rel))
    (hc : kc + mc ≤ M.2.2.2.2.2.2.2.2.1 ∧ ks + ms ≤ M.2.2.2.2.2.2.2.2.2) (hcat : (st.map (fun v => v.category)).sum ≤ 8) (hok : okL w.1 lv = true ∧ okS w.1 st = true) (hr : rel [v0, v1, v2] w (.inl v) w1) (kk : xRun M Po (pc + 3, lv, v.toList ++ st, w1, kc + mc, ks + ms)) : xRun M Po (pc, lv, v2 :: v1 :: v0 :: st, w, kc, ks) :=
  R_call hi h hC (avs := [v0, v1, v2]) rfl rfl hc hcat hok hr kk
theorem R_call3X {w w1 : xw} {v0 : Value} {v1 : Value} {v2 : Value} {st : List Value} {j key mc ms : Nat} {rel : xR} {E : String} (hi : (i = .invokestatic j ∧ key = 3 * j) ∨ (i = .invokevirtual j ∧ key = 3 * j + 1) ∨ (i = .invokespecial j ∧ key = 3 * j + 2)) (h : xlk M.2.1 pc = some i) (hC : M.2.2.2.2.2.2.2.1 key = some (3, mc, ms, rel))
    (hc : kc + mc ≤ M.2.2.2.2.2.2.2.2.1 ∧ ks + ms ≤ M.2.2.2.2.2.2.2.2.2) (hcat : (st.map (fun v => v.category)).sum ≤ 8) (hok : okL w.1 lv = true ∧ okS w.1 st = true) (hr : rel [v0, v1, v2] w (.inr E) w1) (hH : M.2.2.2.2.2.2.1 pc E = none) (kk : Po (.inr E) w1) : xRun M Po (pc, lv, v2 :: v1 :: v0 :: st, w, kc, ks) :=
  R_callX hi h hC (avs := [v0, v1, v2]) rfl rfl hc hcat hok hr hH kk
theorem R_call4 {w w1 : xw} {v0 : Value} {v1 : Value} {v2 : Value} {v3 : Value} {st : List Value} {j key mc ms : Nat} {rel : xR} {v : Option Value} (hi : (i = .invokestatic j ∧ key = 3 * j) ∨ (i = .invokevirtual j ∧ key = 3 * j + 1) ∨ (i = .invokespecial j ∧ key = 3 * j + 2)) (h : xlk M.2.1 pc = some i) (hC : M.2.2.2.2.2.2.2.1 key = some (4, mc, ms, rel))
    (hc : kc + mc ≤ M.2.2.2.2.2.2.2.2.1 ∧ ks + ms ≤ M.2.2.2.2.2.2.2.2.2) (hcat : (st.map (fun v => v.category)).sum ≤ 8) (hok : okL w.1 lv = true ∧ okS w.1 st = true) (hr : rel [v0, v1, v2, v3] w (.inl v) w1) (kk : xRun M Po (pc + 3, lv, v.toList ++ st, w1, kc + mc, ks + ms)) : xRun M Po (pc, lv, v3 :: v2 :: v1 :: v0 :: st, w, kc, ks) :=
  R_call hi h hC (avs := [v0, v1, v2, v3]) rfl rfl hc hcat hok hr kk
theorem R_call4X {w w1 : xw} {v0 : Value} {v1 : Value} {v2 : Value} {v3 : Value} {st : List Value} {j key mc ms : Nat} {rel : xR} {E : String} (hi : (i = .invokestatic j ∧ key = 3 * j) ∨ (i = .invokevirtual j ∧ key = 3 * j + 1) ∨ (i = .invokespecial j ∧ key = 3 * j + 2)) (h : xlk M.2.1 pc = some i) (hC : M.2.2.2.2.2.2.2.1 key = some (4, mc, ms, rel))
    (hc : kc + mc ≤ M.2.2.2.2.2.2.2.2.1 ∧ ks + ms ≤ M.2.2.2.2.2.2.2.2.2) (hcat : (st.map (fun v => v.category)).sum ≤ 8) (hok : okL w.1 lv = true ∧ okS w.1 st = true) (hr : rel [v0, v1, v2, v3] w (.inr E) w1) (hH : M.2.2.2.2.2.2.1 pc E = none) (kk : Po (.inr E) w1) : xRun M Po (pc, lv, v3 :: v2 :: v1 :: v0 :: st, w, kc, ks) :=
  R_callX hi h hC (avs := [v0, v1, v2, v3]) rfl rfl hc hcat hok hr hH kk
theorem R_call5 {w w1 : xw} {v0 : Value} {v1 : Value} {v2 : Value} {v3 : Value} {v4 : Value} {st : List Value} {j key mc ms : Nat} {rel : xR} {v : Option Value} (hi : (i = .invokestatic j ∧ key = 3 * j) ∨ (i = .invokevirtual j ∧ key = 3 * j + 1) ∨ (i = .invokespecial j ∧ key = 3 * j + 2)) (h : xlk M.2.1 pc = some i) (hC : M.2.2.2.2.2.2.2.1 key = some (5, mc, ms, rel))
    (hc : kc + mc ≤ M.2.2.2.2.2.2.2.2.1 ∧ ks + ms ≤ M.2.2.2.2.2.2.2.2.2) (hcat : (st.map (fun v => v.category)).sum ≤ 8) (hok : okL w.1 lv = true ∧ okS w.1 st = true) (hr : rel [v0, v1, v2, v3, v4] w (.inl v) w1) (kk : xRun M Po (pc + 3, lv, v.toList ++ st, w1, kc + mc, ks + ms)) : xRun M Po (pc, lv, v4 :: v3 :: v2 :: v1 :: v0 :: st, w, kc, ks) :=
  R_call hi h hC (avs := [v0, v1, v2, v3, v4]) rfl rfl hc hcat hok hr kk
theorem R_call5X {w w1 : xw} {v0 : Value} {v1 : Value} {v2 : Value} {v3 : Value} {v4 : Value} {st : List Value} {j key mc ms : Nat} {rel : xR} {E : String} (hi : (i = .invokestatic j ∧ key = 3 * j) ∨ (i = .invokevirtual j ∧ key = 3 * j + 1) ∨ (i = .invokespecial j ∧ key = 3 * j + 2)) (h : xlk M.2.1 pc = some i) (hC : M.2.2.2.2.2.2.2.1 key = some (5, mc, ms, rel))
    (hc : kc + mc ≤ M.2.2.2.2.2.2.2.2.1 ∧ ks + ms ≤ M.2.2.2.2.2.2.2.2.2) (hcat : (st.map (fun v => v.category)).sum ≤ 8) (hok : okL w.1 lv = true ∧ okS w.1 st = true) (hr : rel [v0, v1, v2, v3, v4] w (.inr E) w1) (hH : M.2.2.2.2.2.2.1 pc E = none) (kk : Po (.inr E) w1) : xRun M Po (pc, lv, v4 :: v3 :: v2 :: v1 :: v0 :: st, w, kc, ks) :=
  R_callX hi h hC (avs := [v0, v1, v2, v3, v4]) rfl rfl hc hcat hok hr hH kk
theorem R_call6 {w w1 : xw} {v0 : Value} {v1 : Value} {v2 : Value} {v3 : Value} {v4 : Value} {v5 : Value} {st : List Value} {j key mc ms : Nat} {rel : xR} {v : Option Value} (hi : (i = .invokestatic j ∧ key = 3 * j) ∨ (i = .invokevirtual j ∧ key = 3 * j + 1) ∨ (i = .invokespecial j ∧ key = 3 * j + 2)) (h : xlk M.2.1 pc = some i) (hC : M.2.2.2.2.2.2.2.1 key = some (6, mc, ms, rel))
    (hc : kc + mc ≤ M.2.2.2.2.2.2.2.2.1 ∧ ks + ms ≤ M.2.2.2.2.2.2.2.2.2) (hcat : (st.map (fun v => v.category)).sum ≤ 8) (hok : okL w.1 lv = true ∧ okS w.1 st = true) (hr : rel [v0, v1, v2, v3, v4, v5] w (.inl v) w1) (kk : xRun M Po (pc + 3, lv, v.toList ++ st, w1, kc + mc, ks + ms)) : xRun M Po (pc, lv, v5 :: v4 :: v3 :: v2 :: v1 :: v0 :: st, w, kc, ks) :=
  R_call hi h hC (avs := [v0, v1, v2, v3, v4, v5]) rfl rfl hc hcat hok hr kk
theorem R_call6X {w w1 : xw} {v0 : Value} {v1 : Value} {v2 : Value} {v3 : Value} {v4 : Value} {v5 : Value} {st : List Value} {j key mc ms : Nat} {rel : xR} {E : String} (hi : (i = .invokestatic j ∧ key = 3 * j) ∨ (i = .invokevirtual j ∧ key = 3 * j + 1) ∨ (i = .invokespecial j ∧ key = 3 * j + 2)) (h : xlk M.2.1 pc = some i) (hC : M.2.2.2.2.2.2.2.1 key = some (6, mc, ms, rel))
    (hc : kc + mc ≤ M.2.2.2.2.2.2.2.2.1 ∧ ks + ms ≤ M.2.2.2.2.2.2.2.2.2) (hcat : (st.map (fun v => v.category)).sum ≤ 8) (hok : okL w.1 lv = true ∧ okS w.1 st = true) (hr : rel [v0, v1, v2, v3, v4, v5] w (.inr E) w1) (hH : M.2.2.2.2.2.2.1 pc E = none) (kk : Po (.inr E) w1) : xRun M Po (pc, lv, v5 :: v4 :: v3 :: v2 :: v1 :: v0 :: st, w, kc, ks) :=
  R_callX hi h hC (avs := [v0, v1, v2, v3, v4, v5]) rfl rfl hc hcat hok hr hH kk
end XR
def xrw (i n : Nat) : Prop := i + 1 < 151 ∧ (∀ f q g, cellAt i f q g = .inr (3, [.ref (i + 1)])) ∧ ∀ f q g, cellAt (i + 1) f q g = .inl (0, n, .inl f)
