/-! the search, apart from all code -/
abbrev bSt : Type := Nat × (Nat → Nat) × (Nat → Nat) × (Nat → Nat) × (Nat → Nat)
def cw (c : Nat) : Nat := c / 96 + 5
def ch (c : Nat) : Nat := c % 96 + 5
def cl (a b : Nat) : Nat := 96 * (a - 5) + (b - 5)
theorem cl_lt {a b : Nat} (ha : nRg a = true) (hb : nRg b = true) : cl a b < 9216 := by
  rw [nRg_iff] at ha hb
  unfold cl
  omega
theorem cw_cl {a b : Nat} (ha : nRg a = true) (hb : nRg b = true) : cw (cl a b) = a ∧ ch (cl a b) = b := by
  rw [nRg_iff] at ha hb
  unfold cl cw ch
  omega
theorem cw_rg {c : Nat} (h : c < 9216) : nRg (cw c) = true ∧ nRg (ch c) = true := by
  rw [nRg_iff, nRg_iff]
  unfold cw ch
  omega
theorem cl_cw {c : Nat} : cl (cw c) (ch c) = c := by
  unfold cl cw ch
  omega
def cN (c q : Nat) : Nat := cl (nNW (cw c) (ch c) q) (nNH (cw c) (ch c) q)
def bP (B : bSt) (i q v : Nat) : Bool := decide (i < B.1) && (decide (B.2.2.2.2 (B.2.1 i) < 60) && (nCan (cw (B.2.1 i)) (ch (B.2.1 i)) q v && Nat.beq (B.2.2.1 (cN (B.2.1 i) q)) 0))
def bG (B : bSt) (i q : Nat) : bSt := (B.1 + 1, va_up B.2.1 B.1 (cN (B.2.1 i) q), va_up B.2.2.1 (cN (B.2.1 i) q) (q + 1), va_up B.2.2.2.1 (cN (B.2.1 i) q) (B.2.1 i), va_up B.2.2.2.2 (cN (B.2.1 i) q) (B.2.2.2.2 (B.2.1 i) + 1))
def bS (v : Nat) (B : bSt) (i q : Nat) : bSt := bif bP B i q v then bG B i q else B
def b0 (c : Nat) : bSt := (1, fun _ => c, va_up (fun _ => 0) c 9, fun _ => c, fun _ => 0)
def bR (v c : Nat) : Nat → bSt
  | 0 => b0 c
  | t + 1 => bS v (bR v c t) (t / 3) (t % 3)
def nz (m : Nat → Nat) : Nat → Nat
  | 0 => 0
  | n + 1 => nz m n + (if m n = 0 then 1 else 0)
theorem nz_out {m : Nat → Nat} {c x : Nat} : ∀ {n : Nat}, n ≤ c → nz (va_up m c x) n = nz m n
  | 0, _ => rfl
  | n + 1, h => by rw [nz, nz, nz_out (by omega), va_up_ne _ _ (by omega)]
theorem nz_up {m : Nat → Nat} {c x : Nat} (hm : m c = 0) (hx : x ≠ 0) : ∀ {n : Nat}, c < n → nz (va_up m c x) n + 1 = nz m n
  | 0, h => absurd h (Nat.not_lt_zero _)
  | n + 1, h => by
    rw [nz, nz]
    rcases Nat.lt_or_ge c n with h1 | h1
    · rw [← nz_up hm hx h1, va_up_ne _ _ (by omega)]
      omega
    · have e : c = n := by omega
      subst e
      rw [nz_out (Nat.le_refl _), va_up_self, if_neg hx, if_pos hm]
def bOK (c0 : Nat) (B : bSt) : Prop := (∀ j, j < B.1 → B.2.1 j < 9216 ∧ B.2.2.1 (B.2.1 j) ≠ 0) ∧ B.1 + nz B.2.2.1 9216 = 9216 ∧ B.2.2.1 c0 = 9 ∧ B.2.2.2.2 c0 = 0 ∧
  ∀ c, B.2.2.1 c ≠ 0 → B.2.2.2.2 c ≤ 60 ∧ c < 9216 ∧ (c = c0 ∨ (c ≠ c0 ∧ ∃ q, q ≤ 2 ∧ B.2.2.1 c = q + 1 ∧ B.2.2.1 (B.2.2.2.1 c) ≠ 0 ∧ B.2.2.2.2 c = B.2.2.2.2 (B.2.2.2.1 c) + 1 ∧ cw c = nNW (cw (B.2.2.2.1 c)) (ch (B.2.2.2.1 c)) q ∧ ch c = nNH (cw (B.2.2.2.1 c)) (ch (B.2.2.2.1 c)) q))
theorem nz_all (m : Nat → Nat) : ∀ n, (∀ c, c < n → m c = 0) → nz m n = n
  | 0, _ => rfl
  | n + 1, h => by rw [nz, nz_all m n (fun c hc => h c (by omega)), if_pos (h n (by omega))]
theorem bOK_0 {c : Nat} (hc : c < 9216) : bOK c (b0 c) := by
  refine ⟨fun j _ => ⟨hc, ?_⟩, ?_, show va_up (fun _ => 0) c 9 c = 9 from va_up_self _ _ _, rfl, fun x hx => ?_⟩
  · show va_up (fun _ => 0) c 9 c ≠ 0
    rw [va_up_self]
    decide
  · show 1 + nz (va_up (fun _ => 0) c 9) 9216 = 9216
    have h := nz_up (m := fun _ => 0) (c := c) (x := 9) rfl (by decide) hc
    rw [nz_all _ _ (fun _ _ => rfl)] at h
    omega
  · by_cases e : x = c
    · subst e
      exact ⟨Nat.zero_le _, hc, Or.inl rfl⟩
    · exact absurd (show va_up (fun _ => 0) c 9 x = 0 from va_up_ne _ _ e) hx
theorem bP_iff {B : bSt} {i q v : Nat} (h : bP B i q v = true) : i < B.1 ∧ B.2.2.2.2 (B.2.1 i) < 60 ∧ nCan (cw (B.2.1 i)) (ch (B.2.1 i)) q v = true ∧ B.2.2.1 (cN (B.2.1 i) q) = 0 := by
  unfold bP at h
  rw [Bool.and_eq_true, Bool.and_eq_true, Bool.and_eq_true] at h
  exact ⟨of_decide_eq_true h.1, of_decide_eq_true h.2.1, h.2.2.1, Nat.eq_of_beq_eq_true h.2.2.2⟩
theorem cN_ok {c q v : Nat} (h : nCan (cw c) (ch c) q v = true) : cN c q < 9216 ∧ cw (cN c q) = nNW (cw c) (ch c) q ∧ ch (cN c q) = nNH (cw c) (ch c) q := by
  have hr := nCan_rg h
  have e := cw_cl hr.1 hr.2
  exact ⟨cl_lt hr.1 hr.2, e.1, e.2⟩
theorem bOK_G {c0 v i q : Nat} {B : bSt} (h : bOK c0 B) (hq : q ≤ 2) (hp : bP B i q v = true) : bOK c0 (bG B i q) := by
  obtain ⟨h1, h2, h3, h4, h5⟩ := h
  obtain ⟨p1, p2, p3, p4⟩ := bP_iff hp
  obtain ⟨n1, n2, n3⟩ := cN_ok p3
  have hne : ∀ x, B.2.2.1 x ≠ 0 → x ≠ cN (B.2.1 i) q := fun x hx e => hx (e ▸ p4)
  have hc0 : c0 ≠ cN (B.2.1 i) q := hne c0 (by rw [h3]; decide)
  refine ⟨fun j hj => ?_, ?_, ?_, ?_, fun x hx => ?_⟩
  · show va_up B.2.1 B.1 (cN (B.2.1 i) q) j < 9216 ∧ va_up B.2.2.1 (cN (B.2.1 i) q) (q + 1) (va_up B.2.1 B.1 (cN (B.2.1 i) q) j) ≠ 0
    by_cases e : j = B.1
    · subst e
      rw [va_up_self, va_up_self]
      exact ⟨n1, Nat.succ_ne_zero q⟩
    · have hj2 : j < B.1 := by
        have : j < B.1 + 1 := hj
        omega
      rw [va_up_ne _ _ e, va_up_ne _ _ (hne _ (h1 j hj2).2)]
      exact h1 j hj2
  · show B.1 + 1 + nz (va_up B.2.2.1 (cN (B.2.1 i) q) (q + 1)) 9216 = 9216
    have := nz_up (x := q + 1) p4 (Nat.succ_ne_zero q) n1
    omega
  · show va_up B.2.2.1 (cN (B.2.1 i) q) (q + 1) c0 = 9
    rw [va_up_ne _ _ hc0]
    exact h3
  · show va_up B.2.2.2.2 (cN (B.2.1 i) q) _ c0 = 0
    rw [va_up_ne _ _ hc0]
    exact h4
  · have hoi := h1 i p1
    by_cases e : x = cN (B.2.1 i) q
    · subst e
      refine ⟨?_, n1, Or.inr ⟨fun z => hc0 z.symm, q, hq, va_up_self _ _ _, ?_, ?_, ?_, ?_⟩⟩
      · show va_up B.2.2.2.2 (cN (B.2.1 i) q) (B.2.2.2.2 (B.2.1 i) + 1) (cN (B.2.1 i) q) ≤ 60
        rw [va_up_self]
        omega
      · show va_up B.2.2.1 (cN (B.2.1 i) q) (q + 1) (va_up B.2.2.2.1 (cN (B.2.1 i) q) (B.2.1 i) (cN (B.2.1 i) q)) ≠ 0
        rw [va_up_self, va_up_ne _ _ (hne _ hoi.2)]
        exact hoi.2
      · show va_up B.2.2.2.2 (cN (B.2.1 i) q) (B.2.2.2.2 (B.2.1 i) + 1) (cN (B.2.1 i) q) = va_up B.2.2.2.2 (cN (B.2.1 i) q) (B.2.2.2.2 (B.2.1 i) + 1) (va_up B.2.2.2.1 (cN (B.2.1 i) q) (B.2.1 i) (cN (B.2.1 i) q)) + 1
        rw [va_up_self, va_up_self, va_up_ne _ _ (hne _ hoi.2)]
      · show cw (cN (B.2.1 i) q) = nNW (cw (va_up B.2.2.2.1 (cN (B.2.1 i) q) (B.2.1 i) (cN (B.2.1 i) q))) (ch (va_up B.2.2.2.1 (cN (B.2.1 i) q) (B.2.1 i) (cN (B.2.1 i) q))) q
        rw [va_up_self]
        exact n2
      · show ch (cN (B.2.1 i) q) = nNH (cw (va_up B.2.2.2.1 (cN (B.2.1 i) q) (B.2.1 i) (cN (B.2.1 i) q))) (ch (va_up B.2.2.2.1 (cN (B.2.1 i) q) (B.2.1 i) (cN (B.2.1 i) q))) q
        rw [va_up_self]
        exact n3
    · have hx2 : B.2.2.1 x ≠ 0 := by
        have : va_up B.2.2.1 (cN (B.2.1 i) q) (q + 1) x ≠ 0 := hx
        rw [va_up_ne _ _ e] at this
        exact this
      obtain ⟨g1, g2, g3⟩ := h5 x hx2
      show va_up B.2.2.2.2 (cN (B.2.1 i) q) (B.2.2.2.2 (B.2.1 i) + 1) x ≤ 60 ∧ x < 9216 ∧ (x = c0 ∨ (x ≠ c0 ∧ ∃ z, z ≤ 2 ∧ va_up B.2.2.1 (cN (B.2.1 i) q) (q + 1) x = z + 1 ∧ va_up B.2.2.1 (cN (B.2.1 i) q) (q + 1) (va_up B.2.2.2.1 (cN (B.2.1 i) q) (B.2.1 i) x) ≠ 0 ∧ va_up B.2.2.2.2 (cN (B.2.1 i) q) (B.2.2.2.2 (B.2.1 i) + 1) x = va_up B.2.2.2.2 (cN (B.2.1 i) q) (B.2.2.2.2 (B.2.1 i) + 1) (va_up B.2.2.2.1 (cN (B.2.1 i) q) (B.2.1 i) x) + 1 ∧ cw x = nNW (cw (va_up B.2.2.2.1 (cN (B.2.1 i) q) (B.2.1 i) x)) (ch (va_up B.2.2.2.1 (cN (B.2.1 i) q) (B.2.1 i) x)) z ∧ ch x = nNH (cw (va_up B.2.2.2.1 (cN (B.2.1 i) q) (B.2.1 i) x)) (ch (va_up B.2.2.2.1 (cN (B.2.1 i) q) (B.2.1 i) x)) z))
      rw [va_up_ne _ _ e, va_up_ne _ _ e, va_up_ne _ _ e]
      refine ⟨g1, g2, g3.imp id (fun ⟨k0, z, k1, k2, k3, k4, k5, k6⟩ => ⟨k0, z, k1, k2, ?_, ?_, k5, k6⟩)⟩
      · rw [va_up_ne _ _ (hne _ k3)]
        exact k3
      · rw [va_up_ne _ _ (hne _ k3)]
        exact k4
theorem bOK_S {c0 v i q : Nat} {B : bSt} (h : bOK c0 B) (hq : q ≤ 2) : bOK c0 (bS v B i q) := by
  unfold bS
  cases e : bP B i q v
  · exact h
  · exact bOK_G h hq e
theorem bR_ok {v c : Nat} (hc : c < 9216) : ∀ t, bOK c (bR v c t)
  | 0 => bOK_0 hc
  | t + 1 => bOK_S (bR_ok hc t) (by omega)
/-! later states keep what earlier ones have -/
def bLe (B B2 : bSt) : Prop := B.1 ≤ B2.1 ∧ (∀ j, j < B.1 → B2.2.1 j = B.2.1 j) ∧ ∀ c, B.2.2.1 c ≠ 0 → B2.2.2.1 c = B.2.2.1 c ∧ B2.2.2.2.1 c = B.2.2.2.1 c ∧ B2.2.2.2.2 c = B.2.2.2.2 c
theorem bLe_rf (B : bSt) : bLe B B := ⟨Nat.le_refl _, fun _ _ => rfl, fun _ _ => ⟨rfl, rfl, rfl⟩⟩
theorem bLe_tr {A B C : bSt} (h : bLe A B) (g : bLe B C) : bLe A C := by
  refine ⟨Nat.le_trans h.1 g.1, fun j hj => (g.2.1 j (Nat.lt_of_lt_of_le hj h.1)).trans (h.2.1 j hj), fun c hc => ?_⟩
  obtain ⟨a1, a2, a3⟩ := h.2.2 c hc
  obtain ⟨b1, b2, b3⟩ := g.2.2 c (by rw [a1]; exact hc)
  exact ⟨b1.trans a1, b2.trans a2, b3.trans a3⟩
theorem bLe_S {B : bSt} {i q v : Nat} : bLe B (bS v B i q) := by
  unfold bS
  cases e : bP B i q v
  · exact bLe_rf B
  · obtain ⟨p1, p2, p3, p4⟩ := bP_iff e
    refine ⟨Nat.le_succ _, fun j hj => va_up_ne _ _ (Nat.ne_of_lt hj), fun c hc => ?_⟩
    have hne : c ≠ cN (B.2.1 i) q := fun z => hc (z ▸ p4)
    exact ⟨va_up_ne _ _ hne, va_up_ne _ _ hne, va_up_ne _ _ hne⟩
theorem bR_le {v c t : Nat} : ∀ d, bLe (bR v c t) (bR v c (t + d))
  | 0 => bLe_rf _
  | d + 1 => bLe_tr (bR_le d) bLe_S
theorem bR_le2 {v c t t2 : Nat} (h : t ≤ t2) : bLe (bR v c t) (bR v c t2) := by
  obtain ⟨d, rfl⟩ := Nat.exists_eq_add_of_le h
  exact bR_le d
/-! the first that fits -/
def bFnd (v c : Nat) (fit : Nat → Bool) (t : Nat) (o : Option Nat) : Prop := match o with
  | some j => j < (bR v c t).1 ∧ fit ((bR v c t).2.1 j) = true ∧ ∀ i, i < j → fit ((bR v c t).2.1 i) = false
  | none => (∀ t2, t ≤ t2 → bR v c t2 = bR v c t) ∧ ∀ i, i < (bR v c t).1 → fit ((bR v c t).2.1 i) = false
theorem bFnd_mono {v c : Nat} {fit : Nat → Bool} {t t2 : Nat} {o : Option Nat} (h : t ≤ t2) (hf : bFnd v c fit t o) : bFnd v c fit t2 o := by
  have hl := bR_le2 (v := v) (c := c) h
  cases o with
  | some j =>
    obtain ⟨h1, h2, h3⟩ := hf
    exact ⟨Nat.lt_of_lt_of_le h1 hl.1, by rw [hl.2.1 j h1]; exact h2, fun i hi => by rw [hl.2.1 i (by omega)]; exact h3 i hi⟩
  | none =>
    obtain ⟨h1, h2⟩ := hf
    have e := h1 t2 h
    show (∀ t3, t2 ≤ t3 → bR v c t3 = bR v c t2) ∧ _
    rw [e]
    exact ⟨fun t3 h3 => h1 t3 (by omega), h2⟩
theorem bFnd_at {v c : Nat} {fit : Nat → Bool} {t : Nat} {o o2 : Option Nat} (h : bFnd v c fit t o) (h2 : bFnd v c fit t o2) : o = o2 := by
  cases o with
  | none =>
    cases o2 with
    | none => rfl
    | some j =>
      have := h.2 j h2.1
      rw [h2.2.1] at this
      cases this
  | some i =>
    cases o2 with
    | none =>
      have := h2.2 i h.1
      rw [h.2.1] at this
      cases this
    | some j =>
      congr 1
      rcases Nat.lt_trichotomy i j with z | z | z
      · have := h2.2.2 i z
        rw [h.2.1] at this
        cases this
      · exact z
      · have := h.2.2 j z
        rw [h2.2.1] at this
        cases this
/-! the way back -/
def bBk (B : bSt) (c : Nat) : Nat → Nat
  | 0 => c
  | i + 1 => B.2.2.2.1 (bBk B c i)
theorem bBk_ok {c0 : Nat} {B : bSt} (h : bOK c0 B) {c : Nat} (hc : B.2.2.1 c ≠ 0) : ∀ i, i ≤ B.2.2.2.2 c → B.2.2.1 (bBk B c i) ≠ 0 ∧ B.2.2.2.2 (bBk B c i) + i = B.2.2.2.2 c
  | 0, _ => ⟨hc, rfl⟩
  | i + 1, hi => by
    obtain ⟨h1, h2⟩ := bBk_ok h hc i (by omega)
    obtain ⟨_, _, g⟩ := h.2.2.2.2 _ h1
    rcases g with e | ⟨_, q, k1, k2, k3, k4, k5, k6⟩
    · have := h.2.2.2.1
      rw [e, this] at h2
      omega
    · exact ⟨k3, by show B.2.2.2.2 (B.2.2.2.1 (bBk B c i)) + (i + 1) = _; omega⟩
theorem bBk_le {c0 : Nat} {B B2 : bSt} (h : bOK c0 B) (hl : bLe B B2) {c : Nat} (hc : B.2.2.1 c ≠ 0) : ∀ i, i ≤ B.2.2.2.2 c → bBk B2 c i = bBk B c i
  | 0, _ => rfl
  | i + 1, hi => by
    rw [bBk, bBk, bBk_le h hl hc i (by omega)]
    exact (hl.2.2 _ (bBk_ok h hc i (by omega)).1).2.1
/-- the kind of the blow k of the way to c -/
def bWy (B : bSt) (c k : Nat) : Nat := B.2.2.1 (bBk B c (B.2.2.2.2 c - 1 - k)) - 1
theorem bWy_le {c0 : Nat} {B B2 : bSt} (h : bOK c0 B) (hl : bLe B B2) {c k : Nat} (hc : B.2.2.1 c ≠ 0) (hk : k < B.2.2.2.2 c) : bWy B2 c k = bWy B c k := by
  unfold bWy
  rw [(hl.2.2 c hc).2.2, bBk_le h hl hc _ (by omega), (hl.2.2 _ (bBk_ok h hc _ (by omega)).1).1]
/-- the section behind k blows of a way -/
def wSec (a b : Nat) (p : Nat → Nat) : Nat → Nat × Nat
  | 0 => (a, b)
  | k + 1 => (nNW (wSec a b p k).1 (wSec a b p k).2 (p k), nNH (wSec a b p k).1 (wSec a b p k).2 (p k))
theorem bWy_sec {c0 : Nat} {B : bSt} (h : bOK c0 B) {c : Nat} (hc : B.2.2.1 c ≠ 0) : ∀ k, k ≤ B.2.2.2.2 c → wSec (cw c0) (ch c0) (bWy B c) k = (cw (bBk B c (B.2.2.2.2 c - k)), ch (bBk B c (B.2.2.2.2 c - k)))
  | 0, _ => by
    obtain ⟨h1, h2⟩ := bBk_ok h hc (B.2.2.2.2 c) (Nat.le_refl _)
    have h3 : B.2.2.2.2 (bBk B c (B.2.2.2.2 c)) = 0 := by omega
    obtain ⟨_, _, g⟩ := h.2.2.2.2 _ h1
    rcases g with e | ⟨_, q, k1, k2, k3, k4, k5, k6⟩
    · rw [Nat.sub_zero, e]
      rfl
    · omega
  | k + 1, hk => by
    rw [wSec, bWy_sec h hc k (by omega)]
    obtain ⟨h1, h2⟩ := bBk_ok h hc (B.2.2.2.2 c - (k + 1)) (by omega)
    have e0 : bBk B c (B.2.2.2.2 c - k) = B.2.2.2.1 (bBk B c (B.2.2.2.2 c - (k + 1))) := by
      rw [show B.2.2.2.2 c - k = (B.2.2.2.2 c - (k + 1)) + 1 by omega]
      rfl
    obtain ⟨_, _, g⟩ := h.2.2.2.2 _ h1
    rcases g with e | ⟨_, q, k1, k2, k3, k4, k5, k6⟩
    · have := h.2.2.2.1
      rw [e, this] at h2
      omega
    · have eq : bWy B c k = q := by
        unfold bWy
        rw [show B.2.2.2.2 c - 1 - k = B.2.2.2.2 c - (k + 1) by omega, k2]
        rfl
      rw [eq, e0, k5, k6]
theorem bWy_2 {c0 : Nat} {B : bSt} (h : bOK c0 B) {c k : Nat} (hc : B.2.2.1 c ≠ 0) (hk : k < B.2.2.2.2 c) : bWy B c k ≤ 2 := by
  obtain ⟨h1, h2⟩ := bBk_ok h hc (B.2.2.2.2 c - 1 - k) (by omega)
  obtain ⟨_, _, g⟩ := h.2.2.2.2 _ h1
  unfold bWy
  rcases g with e | ⟨_, q, k1, k2, k3, k4, k5, k6⟩
  · have := h.2.2.2.1
    rw [e, this] at h2
    omega
  · omega
/-- what a search answers: a way of n blows, or none -/
def wFit (x y o : Nat) (c : Nat) : Bool := nNear (cw c) x o && nNear (ch c) y o
def wRes (v c x y o n : Nat) (p : Nat → Nat) : Prop := ∃ t j, bFnd v c (wFit x y o) t (some j) ∧ n = (bR v c t).2.2.2.2 ((bR v c t).2.1 j) ∧ ∀ k, k < n → p k = bWy (bR v c t) ((bR v c t).2.1 j) k
def wNo (v c x y o : Nat) : Prop := ∃ t, bFnd v c (wFit x y o) t none
theorem wRes_no {v c x y o n : Nat} {p : Nat → Nat} (h : wRes v c x y o n p) (h2 : wNo v c x y o) : False := by
  obtain ⟨t, j, h, _, _⟩ := h
  obtain ⟨t2, h2⟩ := h2
  have e := bFnd_at (bFnd_mono (Nat.le_max_left t t2) h) (bFnd_mono (Nat.le_max_right t t2) h2)
  cases e
theorem wRes_to {v c x y o n t j : Nat} {p : Nat → Nat} (hc : c < 9216) {t2 : Nat} (ht : t ≤ t2) (h : bFnd v c (wFit x y o) t (some j)) (hn : n = (bR v c t).2.2.2.2 ((bR v c t).2.1 j)) (hp : ∀ k, k < n → p k = bWy (bR v c t) ((bR v c t).2.1 j) k) : n = (bR v c t2).2.2.2.2 ((bR v c t2).2.1 j) ∧ ∀ k, k < n → p k = bWy (bR v c t2) ((bR v c t2).2.1 j) k := by
  have hl := bR_le2 (v := v) (c := c) ht
  have hm := ((bR_ok (v := v) hc t).1 j h.1).2
  rw [hl.2.1 j h.1, (hl.2.2 _ hm).2.2]
  refine ⟨hn, fun k hk => ?_⟩
  rw [hp k hk, bWy_le (bR_ok hc t) hl hm (by omega)]
theorem wRes_eq {v c x y o n n2 : Nat} {p p2 : Nat → Nat} (hc : c < 9216) (h : wRes v c x y o n p) (h2 : wRes v c x y o n2 p2) : n = n2 ∧ ∀ k, k < n → p k = p2 k := by
  obtain ⟨t, j, h, hn, hp⟩ := h
  obtain ⟨t2, j2, h2, hn2, hp2⟩ := h2
  have e := bFnd_at (bFnd_mono (Nat.le_max_left t t2) h) (bFnd_mono (Nat.le_max_right t t2) h2)
  cases e
  obtain ⟨a1, a2⟩ := wRes_to hc (Nat.le_max_left t t2) h hn hp
  obtain ⟨b1, b2⟩ := wRes_to hc (Nat.le_max_right t t2) h2 hn2 hp2
  have en : n = n2 := a1.trans b1.symm
  exact ⟨en, fun k hk => (a2 k hk).trans (b2 k (en ▸ hk)).symm⟩
theorem wRes_ok {v c x y o n : Nat} {p : Nat → Nat} (hc : c < 9216) (h : wRes v c x y o n p) : n ≤ 60 ∧ (∀ k, k < n → p k ≤ 2) ∧ ∀ k, k ≤ n → nRg (wSec (cw c) (ch c) p k).1 = true ∧ nRg (wSec (cw c) (ch c) p k).2 = true := by
  obtain ⟨t, j, h, hn, hp⟩ := h
  have hb := bR_ok (v := v) hc t
  have hm := (hb.1 j h.1).2
  have hw : ∀ k, k ≤ n → wSec (cw c) (ch c) p k = wSec (cw c) (ch c) (bWy (bR v c t) ((bR v c t).2.1 j)) k := by
    intro k
    induction k with
    | zero => intro _; rfl
    | succ k ih =>
      intro hk
      rw [wSec, wSec, ih (by omega), hp k (by omega)]
  refine ⟨by rw [hn]; exact (hb.2.2.2.2 _ hm).1, fun k hk => by rw [hp k hk]; exact bWy_2 hb hm (by omega), fun k hk => ?_⟩
  rw [hw k hk, bWy_sec hb hm k (by omega)]
  have := (hb.2.2.2.2 _ (bBk_ok hb hm ((bR v c t).2.2.2.2 ((bR v c t).2.1 j) - k) (by omega)).1).2.1
  exact cw_rg this
