/-! BM: tokens -/
theorem bd7_s {α A0 A1 A2 A3 A4 A5 A6 : Type} (x0 : A0) (x1 : A1) (x2 : A2) (x3 : A3) (x4 : A4) (x5 : A5) (x6 : A6) (k : A0 → A1 → A2 → A3 → A4 → A5 → A6 → Option α) : bd7 (some (x0, x1, x2, x3, x4, x5, x6)) k = k x0 x1 x2 x3 x4 x5 x6 := rfl
theorem bd10_s {α A0 A1 A2 A3 A4 A5 A6 A7 A8 A9 : Type} (x0 : A0) (x1 : A1) (x2 : A2) (x3 : A3) (x4 : A4) (x5 : A5) (x6 : A6) (x7 : A7) (x8 : A8) (x9 : A9) (k : A0 → A1 → A2 → A3 → A4 → A5 → A6 → A7 → A8 → A9 → Option α) : bd10 (some (x0, x1, x2, x3, x4, x5, x6, x7, x8, x9)) k = k x0 x1 x2 x3 x4 x5 x6 x7 x8 x9 := rfl
theorem bd11_s {α A0 A1 A2 A3 A4 A5 A6 A7 A8 A9 A10 : Type} (x0 : A0) (x1 : A1) (x2 : A2) (x3 : A3) (x4 : A4) (x5 : A5) (x6 : A6) (x7 : A7) (x8 : A8) (x9 : A9) (x10 : A10) (k : A0 → A1 → A2 → A3 → A4 → A5 → A6 → A7 → A8 → A9 → A10 → Option α) : bd11 (some (x0, x1, x2, x3, x4, x5, x6, x7, x8, x9, x10)) k = k x0 x1 x2 x3 x4 x5 x6 x7 x8 x9 x10 := rfl
theorem bd12_s {α A0 A1 A2 A3 A4 A5 A6 A7 A8 A9 A10 A11 : Type} (x0 : A0) (x1 : A1) (x2 : A2) (x3 : A3) (x4 : A4) (x5 : A5) (x6 : A6) (x7 : A7) (x8 : A8) (x9 : A9) (x10 : A10) (x11 : A11) (k : A0 → A1 → A2 → A3 → A4 → A5 → A6 → A7 → A8 → A9 → A10 → A11 → Option α) : bd12 (some (x0, x1, x2, x3, x4, x5, x6, x7, x8, x9, x10, x11)) k = k x0 x1 x2 x3 x4 x5 x6 x7 x8 x9 x10 x11 := rfl
theorem bd13_s {α A0 A1 A2 A3 A4 A5 A6 A7 A8 A9 A10 A11 A12 : Type} (x0 : A0) (x1 : A1) (x2 : A2) (x3 : A3) (x4 : A4) (x5 : A5) (x6 : A6) (x7 : A7) (x8 : A8) (x9 : A9) (x10 : A10) (x11 : A11) (x12 : A12) (k : A0 → A1 → A2 → A3 → A4 → A5 → A6 → A7 → A8 → A9 → A10 → A11 → A12 → Option α) : bd13 (some (x0, x1, x2, x3, x4, x5, x6, x7, x8, x9, x10, x11, x12)) k = k x0 x1 x2 x3 x4 x5 x6 x7 x8 x9 x10 x11 x12 := rfl
theorem bd16_s {α A0 A1 A2 A3 A4 A5 A6 A7 A8 A9 A10 A11 A12 A13 A14 A15 : Type} (x0 : A0) (x1 : A1) (x2 : A2) (x3 : A3) (x4 : A4) (x5 : A5) (x6 : A6) (x7 : A7) (x8 : A8) (x9 : A9) (x10 : A10) (x11 : A11) (x12 : A12) (x13 : A13) (x14 : A14) (x15 : A15) (k : A0 → A1 → A2 → A3 → A4 → A5 → A6 → A7 → A8 → A9 → A10 → A11 → A12 → A13 → A14 → A15 → Option α) : bd16 (some (x0, x1, x2, x3, x4, x5, x6, x7, x8, x9, x10, x11, x12, x13, x14, x15)) k = k x0 x1 x2 x3 x4 x5 x6 x7 x8 x9 x10 x11 x12 x13 x14 x15 := rfl
theorem bd23_s {α A0 A1 A2 A3 A4 A5 A6 A7 A8 A9 A10 A11 A12 A13 A14 A15 A16 A17 A18 A19 A20 A21 A22 : Type} (x0 : A0) (x1 : A1) (x2 : A2) (x3 : A3) (x4 : A4) (x5 : A5) (x6 : A6) (x7 : A7) (x8 : A8) (x9 : A9) (x10 : A10) (x11 : A11) (x12 : A12) (x13 : A13) (x14 : A14) (x15 : A15) (x16 : A16) (x17 : A17) (x18 : A18) (x19 : A19) (x20 : A20) (x21 : A21) (x22 : A22) (k : A0 → A1 → A2 → A3 → A4 → A5 → A6 → A7 → A8 → A9 → A10 → A11 → A12 → A13 → A14 → A15 → A16 → A17 → A18 → A19 → A20 → A21 → A22 → Option α) : bd23 (some (x0, x1, x2, x3, x4, x5, x6, x7, x8, x9, x10, x11, x12, x13, x14, x15, x16, x17, x18, x19, x20, x21, x22)) k = k x0 x1 x2 x3 x4 x5 x6 x7 x8 x9 x10 x11 x12 x13 x14 x15 x16 x17 x18 x19 x20 x21 x22 := rfl
theorem bd26_s {α A0 A1 A2 A3 A4 A5 A6 A7 A8 A9 A10 A11 A12 A13 A14 A15 A16 A17 A18 A19 A20 A21 A22 A23 A24 A25 : Type} (x0 : A0) (x1 : A1) (x2 : A2) (x3 : A3) (x4 : A4) (x5 : A5) (x6 : A6) (x7 : A7) (x8 : A8) (x9 : A9) (x10 : A10) (x11 : A11) (x12 : A12) (x13 : A13) (x14 : A14) (x15 : A15) (x16 : A16) (x17 : A17) (x18 : A18) (x19 : A19) (x20 : A20) (x21 : A21) (x22 : A22) (x23 : A23) (x24 : A24) (x25 : A25) (k : A0 → A1 → A2 → A3 → A4 → A5 → A6 → A7 → A8 → A9 → A10 → A11 → A12 → A13 → A14 → A15 → A16 → A17 → A18 → A19 → A20 → A21 → A22 → A23 → A24 → A25 → Option α) : bd26 (some (x0, x1, x2, x3, x4, x5, x6, x7, x8, x9, x10, x11, x12, x13, x14, x15, x16, x17, x18, x19, x20, x21, x22, x23, x24, x25)) k = k x0 x1 x2 x3 x4 x5 x6 x7 x8 x9 x10 x11 x12 x13 x14 x15 x16 x17 x18 x19 x20 x21 x22 x23 x24 x25 := rfl
/-- a Java byte -/
def byt (x : Int32) : Prop := ∃ z : Nat, z < 256 ∧ x = nI z - 128
def inR (lo hi x : Int32) : Bool := decide (lo ≤ x) && decide (x ≤ hi)
def isSp (x : Int32) : Bool := decide (x = 32)
abbrev isLt : Int32 → Bool := inR 97 122
abbrev isDg : Int32 → Bool := inR 48 57
def ltv (x : Int32) : Nat := x.toNatClampNeg - 96
def dgv (x : Int32) : Nat := x.toNatClampNeg - 48
theorem byF1 : ∀ z, z < 256 → ((nI z - 128) &&& 255 = 32 ↔ isSp (nI z - 128) = true) ∧ ((nI z - 128) &&& 255 = 59 ↔ nI z - 128 = 59) ∧ ¬ ((nI z - 128) &&& 255 = -1) := by decide +kernel
theorem byF2 : ∀ z, z < 256 → f_X13_isLetter ((nI z - 128) &&& 255) = some (if isLt (nI z - 128) = true then 1 else 0) ∧ f_X13_isDigit ((nI z - 128) &&& 255) = some (if isDg (nI z - 128) = true then 1 else 0) := by decide +kernel
theorem byF3 : ∀ z, z < 256 → isLt (nI z - 128) = true → (((nI z - 128) &&& 255) - 97 + 1).toInt64 = lN (ltv (nI z - 128)) ∧ 1 ≤ ltv (nI z - 128) ∧ ltv (nI z - 128) ≤ 26 ∧ nI z - 128 = nI (ltv (nI z - 128) + 96) ∧ ¬ (nI z - 128 = 59) ∧ isDg (nI z - 128) = false := by decide +kernel
theorem byF4 : ∀ z, z < 256 → isDg (nI z - 128) = true → (nI z - 128) &&& 255 = nI z - 128 ∧ dgv (nI z - 128) ≤ 9 ∧ nI z - 128 = nI (dgv (nI z - 128) + 48) ∧ ¬ (nI z - 128 = 59) := by decide +kernel
theorem byI8 (y : Int8) : byt y.toInt32 := by
  have h1 := Int8.le_toInt y
  have h2 := Int8.toInt_lt y
  refine ⟨(y.toInt + 128).toNat, by omega, ?_⟩
  apply Int32.toInt_inj.mp
  have e := pk_sub_toInt (a := (y.toInt + 128).toNat) (b := 128) (by omega) (by decide)
  rw [Int8.toInt_toInt32, show (128 : Int32) = nI 128 from rfl, e]
  omega
theorem fb_byt (x s : Int32) : byt (fbyte x s) := by
  unfold fbyte
  rw [pk_vb]
  exact byI8 _
theorem byt_0 : byt 0 := ⟨128, by decide, by decide⟩
/-- the end of a run from s on, at most k further -/
def runE (T : Nat → Int32) (p : Int32 → Bool) : Nat → Nat → Nat
  | 0, s => s
  | k + 1, s => if p (T s) = true then runE T p k (s + 1) else s
theorem run_b (T : Nat → Int32) (p : Int32 → Bool) : ∀ k s, s ≤ runE T p k s ∧ runE T p k s ≤ s + k := by
  intro k
  induction k with
  | zero => intro s; exact ⟨Nat.le_refl _, Nat.le_refl _⟩
  | succ k ih =>
    intro s
    have := ih (s + 1)
    unfold runE
    split <;> omega
theorem run_in (T : Nat → Int32) (p : Int32 → Bool) : ∀ k s j, s ≤ j → j < runE T p k s → p (T j) = true := by
  intro k
  induction k with
  | zero => intro s j h1 h2; have : j < s := h2; omega
  | succ k ih =>
    intro s j h1 h2
    unfold runE at h2
    by_cases q : p (T s) = true
    · rw [if_pos q] at h2
      by_cases e : j = s
      · rw [e]; exact q
      · exact ih (s + 1) j (by omega) h2
    · rw [if_neg q] at h2; omega
theorem run_gt {T : Nat → Int32} {p : Int32 → Bool} {k s : Nat} (h : p (T s) = true) (hk : 0 < k) : s < runE T p k s := by
  obtain ⟨k, rfl⟩ : ∃ j, k = j + 1 := ⟨k - 1, by omega⟩
  unfold runE
  rw [if_pos h]
  exact (run_b T p k (s + 1)).1
theorem run_no {T : Nat → Int32} {p : Int32 → Bool} {k s : Nat} (h : p (T s) = false) : runE T p k s = s := by
  cases k with
  | zero => rfl
  | succ k => unfold runE; rw [h]; rfl
/-- start, end and sort of the token behind e: 0 at the end, 1 a word, 2 a whole, 3 a semicolon, 4 none -/
def tkS (T : Nat → Int32) (n e : Nat) : Nat := runE T isSp (n - e) e
def tkW (T : Nat → Int32) (n s : Nat) : Nat := if n ≤ s then s else if T s = 59 then s + 1 else if isLt (T s) = true then runE T isLt (n - s) s else runE T isDg (n - s) s
def tkQ (T : Nat → Int32) (n s : Nat) : Nat := if n ≤ s then 0 else if T s = 59 then 3 else if isLt (T s) = true then (if tkW T n s - s ≤ 8 then 1 else 4) else if isDg (T s) = true then (if tkW T n s - s ≤ 3 then 2 else 4) else 4
def tkE (T : Nat → Int32) (n e : Nat) : Nat := tkW T n (tkS T n e)
def tkK (T : Nat → Int32) (n e : Nat) : Nat := tkQ T n (tkS T n e)
theorem tkS_b {T : Nat → Int32} {n e : Nat} (he : e ≤ n) : e ≤ tkS T n e ∧ tkS T n e ≤ n := by
  have := run_b T isSp (n - e) e
  unfold tkS
  omega
theorem tkW_b {T : Nat → Int32} {n s : Nat} (hs : s ≤ n) : s ≤ tkW T n s ∧ tkW T n s ≤ n := by
  have h1 := run_b T isLt (n - s) s
  have h2 := run_b T isDg (n - s) s
  unfold tkW
  split
  · omega
  · split
    · omega
    · split <;> omega
theorem tkE_b {T : Nat → Int32} {n e : Nat} (he : e ≤ n) : e ≤ tkS T n e ∧ tkS T n e ≤ tkE T n e ∧ tkE T n e ≤ n := by
  have h1 := tkS_b (T := T) he
  have h2 := tkW_b (T := T) h1.2
  exact ⟨h1.1, h2.1, h2.2⟩
theorem tkQ_le (T : Nat → Int32) (n s : Nat) : tkQ T n s ≤ 4 := by
  unfold tkQ
  split
  · decide
  · split
    · decide
    · split
      · split <;> decide
      · split
        · split <;> decide
        · decide
theorem tkK_le (T : Nat → Int32) (n e : Nat) : tkK T n e ≤ 4 := tkQ_le T n _
/-- a word -/
theorem tk1 {T : Nat → Int32} {n e : Nat} (h : tkK T n e = 1) : tkS T n e < n ∧ tkS T n e < tkE T n e ∧ tkE T n e - tkS T n e ≤ 8 ∧ isLt (T (tkS T n e)) = true ∧ ¬ T (tkS T n e) = 59 ∧ tkE T n e = runE T isLt (n - tkS T n e) (tkS T n e) ∧ ∀ j, tkS T n e ≤ j → j < tkE T n e → isLt (T j) = true := by
  unfold tkK at h
  unfold tkE
  generalize tkS T n e = s at h ⊢
  have hW : ¬ n ≤ s → ¬ T s = 59 → isLt (T s) = true → tkW T n s = runE T isLt (n - s) s := fun a b c => by unfold tkW; rw [if_neg a, if_neg b, if_pos c]
  unfold tkQ at h
  by_cases q1 : n ≤ s
  · rw [if_pos q1] at h; omega
  · rw [if_neg q1] at h
    by_cases q2 : T s = 59
    · rw [if_pos q2] at h; omega
    · rw [if_neg q2] at h
      by_cases q3 : isLt (T s) = true
      · rw [if_pos q3] at h
        by_cases q4 : tkW T n s - s ≤ 8
        · have e := hW q1 q2 q3
          refine ⟨by omega, ?_, q4, q3, q2, e, ?_⟩
          · rw [e]; exact run_gt q3 (by omega)
          · intro j h1 h2; rw [e] at h2; exact run_in T isLt _ _ j h1 h2
        · rw [if_neg q4] at h; omega
      · rw [if_neg q3] at h
        by_cases q5 : isDg (T s) = true
        · rw [if_pos q5] at h
          split at h <;> omega
        · rw [if_neg q5] at h; omega
/-- a whole -/
theorem tk2 {T : Nat → Int32} {n e : Nat} (h : tkK T n e = 2) : tkS T n e < n ∧ tkE T n e - tkS T n e ≤ 3 ∧ isDg (T (tkS T n e)) = true ∧ isLt (T (tkS T n e)) = false ∧ ¬ T (tkS T n e) = 59 ∧ tkE T n e = runE T isDg (n - tkS T n e) (tkS T n e) ∧ ∀ j, tkS T n e ≤ j → j < tkE T n e → isDg (T j) = true := by
  unfold tkK at h
  unfold tkE
  generalize tkS T n e = s at h ⊢
  have hW : ¬ n ≤ s → ¬ T s = 59 → ¬ isLt (T s) = true → tkW T n s = runE T isDg (n - s) s := fun a b c => by unfold tkW; rw [if_neg a, if_neg b, if_neg c]
  unfold tkQ at h
  by_cases q1 : n ≤ s
  · rw [if_pos q1] at h; omega
  · rw [if_neg q1] at h
    by_cases q2 : T s = 59
    · rw [if_pos q2] at h; omega
    · rw [if_neg q2] at h
      by_cases q3 : isLt (T s) = true
      · rw [if_pos q3] at h
        split at h <;> omega
      · rw [if_neg q3] at h
        by_cases q5 : isDg (T s) = true
        · rw [if_pos q5] at h
          by_cases q4 : tkW T n s - s ≤ 3
          · have e := hW q1 q2 q3
            refine ⟨by omega, q4, q5, Bool.eq_false_iff.mpr q3, q2, e, ?_⟩
            intro j h1 h2; rw [e] at h2; exact run_in T isDg _ _ j h1 h2
          · rw [if_neg q4] at h; omega
        · rw [if_neg q5] at h; omega
section BM
variable {T : Nat → Int32} {n : Nat}
theorem runC (hn : n ≤ 900) (s : Nat) (lo hi : Int32) : ∀ k i f, i + k = n → k < f → f_X9_runOn_L0 T (nI n) (nI s) lo hi f (nI i) = f_X9_runOn_B50 T (nI n) (nI s) (nI (runE T (inR lo hi) k i)) := by
  intro k
  induction k with
  | zero =>
    intro i f hi' hf
    obtain ⟨f, rfl⟩ : ∃ g, f = g + 1 := ⟨f - 1, by omega⟩
    show f_X9_runOn_b0 T (nI n) (nI s) lo hi _ (nI i) = _
    unfold f_X9_runOn_b0
    rw [if_pos (nI_le (by omega) (by omega))]
    rfl
  | succ k ih =>
    intro i f hi' hf
    obtain ⟨f, rfl⟩ : ∃ g, f = g + 1 := ⟨f - 1, by omega⟩
    have g9 : ∀ {α : Type} (x : Option α), gIn (nI i) 900 x = x := fun x => gI (by omega) (by decide)
    show f_X9_runOn_b0 T (nI n) (nI s) lo hi _ (nI i) = _
    unfold f_X9_runOn_b0
    simp only [g9]
    rw [if_neg (nI_ge (show i < n by omega) (by omega)), nI_clamp (by omega), nI_1, ih (i + 1) f (by omega) (by omega)]
    show _ = f_X9_runOn_B50 T (nI n) (nI s) (nI (if inR lo hi (T i) = true then runE T (inR lo hi) k (i + 1) else i))
    rw [show inR lo hi (T i) = (decide (lo ≤ T i) && decide (T i ≤ hi)) from rfl]
    by_cases q1 : T i < lo
    · rw [if_pos q1, decide_eq_false (Int32.not_le.mpr q1)]; rfl
    · rw [if_neg q1, decide_eq_true (Int32.not_lt.mp q1)]
      by_cases q2 : hi < T i
      · rw [if_pos q2, decide_eq_false (Int32.not_le.mpr q2)]; rfl
      · rw [if_neg q2, decide_eq_true (Int32.not_lt.mp q2)]; rfl
theorem spC (hn : n ≤ 900) (x y : Int32) : ∀ k s f, s + k = n → k < f → f_X9_step_L8 T (nI n) x y f (nI s) = f_X9_step_B46 T (nI n) (nI (runE T isSp k s)) x y := by
  intro k
  induction k with
  | zero =>
    intro s f hs hf
    obtain ⟨f, rfl⟩ : ∃ g, f = g + 1 := ⟨f - 1, by omega⟩
    show f_X9_step_b8 T (nI n) x y _ (nI s) = _
    unfold f_X9_step_b8
    rw [if_pos (nI_le (by omega) (by omega))]
    rfl
  | succ k ih =>
    intro s f hs hf
    obtain ⟨f, rfl⟩ : ∃ g, f = g + 1 := ⟨f - 1, by omega⟩
    show f_X9_step_b8 T (nI n) x y _ (nI s) = _
    unfold f_X9_step_b8
    rw [if_neg (nI_ge (show s < n by omega) (by omega)), gI (show s < 900 by omega) (by decide), nI_clamp (by omega), nI_1, ih (s + 1) f (by omega) (by omega)]
    show _ = f_X9_step_B46 T (nI n) (nI (if isSp (T s) = true then runE T isSp k (s + 1) else s)) x y
    unfold isSp
    by_cases q : T s = 32
    · rw [if_pos q, decide_eq_true q]; rfl
    · rw [if_neg q, decide_eq_false q]; rfl
theorem stB46 (hn : n ≤ 900) (hT : ∀ j, j < 900 → byt (T j)) {s : Nat} (hs : s ≤ n) (x y : Int32) : f_X9_step_B46 T (nI n) (nI s) x y = some (nI s, nI (tkW T n s), nI (tkQ T n s)) := by
  unfold f_X9_step_B46
  by_cases q : n ≤ s
  · rw [if_neg (nI_nlt q (by omega)), show tkW T n s = s from if_pos q, show tkQ T n s = 0 from if_pos q]
    rfl
  · have W : tkW T n s = if T s = 59 then s + 1 else if isLt (T s) = true then runE T isLt (n - s) s else runE T isDg (n - s) s := if_neg q
    have Q : tkQ T n s = if T s = 59 then 3 else if isLt (T s) = true then (if tkW T n s - s ≤ 8 then 1 else 4) else if isDg (T s) = true then (if tkW T n s - s ≤ 3 then 2 else 4) else 4 := if_neg q
    rw [if_pos (nI_lt (show s < n by omega) (by omega)), gI (show s < 900 by omega) (by decide), nI_clamp (by omega)]
    by_cases q59 : T s = 59
    · rw [if_pos q59] at W Q
      rw [if_pos q59, W, Q, nI_1]
      rfl
    · rw [if_neg q59] at W Q
      rw [if_neg q59]
      unfold f_X9_runOn
      rw [runC hn s 97 122 (n - s) s fuelN (by omega) (fuel_gt (by omega))]
      have b1 := run_b T isLt (n - s) s
      have b2 := run_b T isDg (n - s) s
      by_cases ql : isLt (T s) = true
      · rw [if_pos ql] at W Q
        have hr := run_gt (T := T) (p := isLt) (k := n - s) (s := s) ql (by omega)
        rw [show runE T (inR 97 122) (n - s) s = runE T isLt (n - s) s from rfl, ← W] at *
        unfold f_X9_runOn_B50
        rw [if_neg (nI_ge hr (by omega)), bd2_s, if10, pk_sub (by omega)]
        have e8 : (8 : Int32) < nI (tkW T n s - s) ↔ 8 < tkW T n s - s := nI_ltI (a := 8) (by decide) (by omega)
        by_cases q8 : tkW T n s - s ≤ 8
        · rw [if_neg (fun h => by have := e8.mp h; omega), Q, if_pos q8]
          rfl
        · rw [if_pos (e8.mpr (by omega)), Q, if_neg q8]
          rfl
      · rw [if_neg ql] at W Q
        rw [show runE T (inR 97 122) (n - s) s = s from run_no (Bool.eq_false_iff.mpr ql)]
        unfold f_X9_runOn_B50
        rw [if_pos (nI_le (Nat.le_refl _) (by omega)), bd2_s, if00, runC hn s 48 57 (n - s) s fuelN (by omega) (fuel_gt (by omega))]
        by_cases qd : isDg (T s) = true
        · rw [if_pos qd] at Q
          have hr := run_gt (T := T) (p := isDg) (k := n - s) (s := s) qd (by omega)
          rw [show runE T (inR 48 57) (n - s) s = runE T isDg (n - s) s from rfl, ← W] at *
          unfold f_X9_runOn_B50
          rw [if_neg (nI_ge hr (by omega)), bd2_s, if10, pk_sub (by omega)]
          have e3 : (3 : Int32) < nI (tkW T n s - s) ↔ 3 < tkW T n s - s := nI_ltI (a := 3) (by decide) (by omega)
          by_cases q3 : tkW T n s - s ≤ 3
          · rw [if_neg (fun h => by have := e3.mp h; omega), Q, if_pos q3]
            rfl
          · rw [if_pos (e3.mpr (by omega)), Q, if_neg q3]
            rfl
        · rw [if_neg qd] at Q
          have e0 : runE T isDg (n - s) s = s := run_no (Bool.eq_false_iff.mpr qd)
          rw [e0] at W
          rw [show runE T (inR 48 57) (n - s) s = s from e0]
          unfold f_X9_runOn_B50
          rw [if_pos (nI_le (Nat.le_refl _) (by omega)), bd2_s, if00, W, Q]
          rfl
/-- the class's step -/
theorem stepC (hn : n ≤ 900) (hT : ∀ j, j < 900 → byt (T j)) {e : Nat} (he : e ≤ n) (x y : Int32) : f_X9_step T (nI n) x (nI e) y = some (nI (tkS T n e), nI (tkE T n e), nI (tkK T n e)) := by
  unfold f_X9_step
  rw [spC hn (nI e) y (n - e) e fuelN (by omega) (fuel_gt (by omega))]
  exact stB46 hn hT (tkS_b he).2 _ _
/-- packed letters, and the value of digits -/
def pkN (g : Nat → Nat) : Nat → Nat
  | 0 => 0
  | c + 1 => 32 * pkN g c + g c
def nuN (g : Nat → Nat) : Nat → Nat
  | 0 => 0
  | c + 1 => 10 * nuN g c + g c
theorem pkN_lt {g : Nat → Nat} : ∀ c, (∀ j, j < c → g j ≤ 26) → pkN g c < 32 ^ c := by
  intro c
  induction c with
  | zero => intro _; show (0:Nat) < 1; decide
  | succ c ih =>
    intro h
    have h1 := ih (fun j hj => h j (by omega))
    have h2 := h c (by omega)
    show 32 * pkN g c + g c < 32 ^ (c + 1)
    rw [Nat.pow_succ]
    omega
theorem pkN_inj {g g' : Nat → Nat} : ∀ c c', (∀ j, j < c → 1 ≤ g j ∧ g j ≤ 26) → (∀ j, j < c' → 1 ≤ g' j ∧ g' j ≤ 26) → pkN g c = pkN g' c' → c = c' ∧ ∀ j, j < c → g j = g' j := by
  intro c
  induction c with
  | zero =>
    intro c' _ h2 e
    cases c' with
    | zero => exact ⟨rfl, fun j hj => by omega⟩
    | succ c' =>
      have := (h2 c' (by omega)).1
      have e : 0 = 32 * pkN g' c' + g' c' := e
      omega
  | succ c ih =>
    intro c' h1 h2 e
    cases c' with
    | zero =>
      have := (h1 c (by omega)).1
      have e : 32 * pkN g c + g c = 0 := e
      omega
    | succ c' =>
      have a1 := h1 c (by omega)
      have a2 := h2 c' (by omega)
      have e : 32 * pkN g c + g c = 32 * pkN g' c' + g' c' := e
      obtain ⟨e1, e2⟩ := ih c' (fun j hj => h1 j (by omega)) (fun j hj => h2 j (by omega)) (by omega)
      subst e1
      refine ⟨rfl, fun j hj => ?_⟩
      by_cases q : j = c
      · subst q; omega
      · exact e2 j (by omega)
theorem pkN_cong {g g' : Nat → Nat} : ∀ c, (∀ j, j < c → g j = g' j) → pkN g c = pkN g' c := by
  intro c
  induction c with
  | zero => intro _; rfl
  | succ c ih =>
    intro h
    show 32 * pkN g c + g c = 32 * pkN g' c + g' c
    rw [ih (fun j hj => h j (by omega)), h c (by omega)]
theorem nuN_lt {g : Nat → Nat} : ∀ c, (∀ j, j < c → g j ≤ 9) → nuN g c < 10 ^ c := by
  intro c
  induction c with
  | zero => intro _; show (0:Nat) < 1; decide
  | succ c ih =>
    intro h
    have h1 := ih (fun j hj => h j (by omega))
    have h2 := h c (by omega)
    show 10 * nuN g c + g c < 10 ^ (c + 1)
    rw [Nat.pow_succ]
    omega
/-- the first eight letters, the first three digits -/
def pk8 (g : Nat → Nat) : Nat → Nat
  | 0 => 0
  | c + 1 => if c < 8 then 32 * pk8 g c + g c else pk8 g c
def nu3 (g : Nat → Nat) : Nat → Nat
  | 0 => 0
  | c + 1 => if c < 3 then 10 * nu3 g c + g c else nu3 g c
theorem pk8_eq {g : Nat → Nat} : ∀ c, c ≤ 8 → pk8 g c = pkN g c := by
  intro c
  induction c with
  | zero => intro _; rfl
  | succ c ih =>
    intro h
    show (if c < 8 then 32 * pk8 g c + g c else pk8 g c) = 32 * pkN g c + g c
    rw [if_pos (by omega), ih (by omega)]
theorem nu3_eq {g : Nat → Nat} : ∀ c, c ≤ 3 → nu3 g c = nuN g c := by
  intro c
  induction c with
  | zero => intro _; rfl
  | succ c ih =>
    intro h
    show (if c < 3 then 10 * nu3 g c + g c else nu3 g c) = 10 * nuN g c + g c
    rw [if_pos (by omega), ih (by omega)]
/-- letters and digits from s on -/
def lts (T : Nat → Int32) (s j : Nat) : Nat := ltv (T (s + j))
def dgs (T : Nat → Int32) (s j : Nat) : Nat := dgv (T (s + j))
theorem byteM (hn : n ≤ 900) {i : Nat} (hi : i ≤ n) : f_X13_byteAt (nI n) T (nI i) = some (if n ≤ i then -1 else T i &&& 255) := by
  unfold f_X13_byteAt
  by_cases q : n ≤ i
  · rw [if_pos (nI_le q (by omega)), if_pos q]
  · rw [if_neg (nI_ge (by omega) (by omega)), gI (show i < 900 by omega) (by decide), nI_clamp (by omega), if_neg q]
theorem isLM1 : f_X13_isLetter (-1) = some 0 ∧ f_X13_isDigit (-1) = some 0 := ⟨rfl, rfl⟩
theorem ltM (hn : n ≤ 900) (hT : ∀ j, j < 900 → byt (T j)) (so pl nu : Int32) (s : Nat) : ∀ k i c f, i = s + c → i + k = n → k < f → f_X13_goesOn_L84 (nI n) T so pl nu f (nI c) (nI i) (lN (pk8 (lts T s) c)) = f_X13_goesOn_B147 (nI n) T (nI (runE T isLt k i - s)) (nI (runE T isLt k i)) so pl nu (lN (pk8 (lts T s) (runE T isLt k i - s))) := by
  intro k
  induction k with
  | zero =>
    intro i c f h1 h2 hf
    obtain ⟨f, rfl⟩ : ∃ g, f = g + 1 := ⟨f - 1, by omega⟩
    show f_X13_goesOn_b84 (nI n) T so pl nu _ (nI c) (nI i) _ = _
    unfold f_X13_goesOn_b84
    rw [byteM hn (by omega), if_pos (show n ≤ i by omega), bd1_s, isLM1.1, bd1_s, if00]
    rw [show runE T isLt 0 i = i from rfl, show i - s = c by omega]
  | succ k ih =>
    intro i c f h1 h2 hf
    obtain ⟨f, rfl⟩ : ∃ g, f = g + 1 := ⟨f - 1, by omega⟩
    obtain ⟨z, hz, ez⟩ := hT i (by omega)
    have b2 := byF2 z hz
    have b3 := byF3 z hz
    rw [← ez] at b2 b3
    show f_X13_goesOn_b84 (nI n) T so pl nu _ (nI c) (nI i) _ = _
    unfold f_X13_goesOn_b84 f_X13_goesOn_B131
    rw [byteM hn (by omega), if_neg (show ¬ n ≤ i by omega), bd1_s, b2.1, bd1_s]
    by_cases q : isLt (T i) = true
    · rw [if_pos q, if10, bd1_s, nI_1, nI_1]
      rw [show runE T isLt (k + 1) i = runE T isLt k (i + 1) from if_pos q]
      have hi := ih (i + 1) (c + 1) f (by omega) (by omega) (by omega)
      have e8 : (8 : Int32) ≤ nI c ↔ 8 ≤ c := nI_leI (a := 8) (by decide) (by omega)
      have ep : pk8 (lts T s) (c + 1) = if c < 8 then 32 * pk8 (lts T s) c + lts T s c else pk8 (lts T s) c := rfl
      by_cases q8 : 8 ≤ c
      · rw [if_pos (e8.mpr q8)]
        rw [ep, if_neg (by omega)] at hi
        exact hi
      · rw [if_neg (fun h => q8 (e8.mp h)), (b3 q).1, show (32 : Int64) = lN 32 from rfl, lN_mul, lN_add]
        rw [ep, if_pos (by omega)] at hi
        rw [show ltv (T i) = lts T s c by unfold lts; rw [h1]]
        exact hi
    · rw [if_neg q, if00]
      rw [show runE T isLt (k + 1) i = i from if_neg q, show i - s = c by omega]
theorem dgM (hn : n ≤ 900) (hT : ∀ j, j < 900 → byt (T j)) (so pl : Int32) (wo : Int64) (s : Nat) : ∀ k i c f, i = s + c → i + k = n → k < f → f_X13_goesOn_L173 (nI n) T so pl wo f (nI c) (nI i) (nI (nu3 (dgs T s) c)) = f_X13_goesOn_B231 (nI n) T (nI (runE T isDg k i - s)) (nI (runE T isDg k i)) so pl (nI (nu3 (dgs T s) (runE T isDg k i - s))) wo := by
  intro k
  induction k with
  | zero =>
    intro i c f h1 h2 hf
    obtain ⟨f, rfl⟩ : ∃ g, f = g + 1 := ⟨f - 1, by omega⟩
    show f_X13_goesOn_b173 (nI n) T so pl wo _ (nI c) (nI i) _ = _
    unfold f_X13_goesOn_b173
    rw [byteM hn (by omega), if_pos (show n ≤ i by omega), bd1_s, isLM1.2, bd1_s, if00]
    rw [show runE T isDg 0 i = i from rfl, show i - s = c by omega]
  | succ k ih =>
    intro i c f h1 h2 hf
    obtain ⟨f, rfl⟩ : ∃ g, f = g + 1 := ⟨f - 1, by omega⟩
    obtain ⟨z, hz, ez⟩ := hT i (by omega)
    have b2 := byF2 z hz
    have b4 := byF4 z hz
    rw [← ez] at b2 b4
    show f_X13_goesOn_b173 (nI n) T so pl wo _ (nI c) (nI i) _ = _
    unfold f_X13_goesOn_b173 f_X13_goesOn_B215
    rw [byteM hn (by omega), if_neg (show ¬ n ≤ i by omega), bd1_s, b2.2, bd1_s]
    by_cases q : isDg (T i) = true
    · rw [if_pos q, if10, bd1_s, nI_1, nI_1]
      rw [show runE T isDg (k + 1) i = runE T isDg k (i + 1) from if_pos q]
      have hi := ih (i + 1) (c + 1) f (by omega) (by omega) (by omega)
      have e3 : (3 : Int32) ≤ nI c ↔ 3 ≤ c := nI_leI (a := 3) (by decide) (by omega)
      have ep : nu3 (dgs T s) (c + 1) = if c < 3 then 10 * nu3 (dgs T s) c + dgs T s c else nu3 (dgs T s) c := rfl
      by_cases q3 : 3 ≤ c
      · rw [if_pos (e3.mpr q3)]
        rw [ep, if_neg (by omega)] at hi
        exact hi
      · rw [if_neg (fun h => q3 (e3.mp h)), (b4 q).1]
        rw [ep, if_pos (by omega)] at hi
        have et : (10 : Int32) * nI (nu3 (dgs T s) c) + T i - 48 = nI (10 * nu3 (dgs T s) c + dgs T s c) := by
          have e1 : T i = nI (dgs T s c + 48) := by unfold dgs; rw [← h1]; exact (b4 q).2.2.1
          rw [e1, show (10 : Int32) = nI 10 from rfl, pk_mul, nI_add, show (48 : Int32) = nI 48 from rfl, pk_sub (by omega)]
          congr 1
        rw [et]
        exact hi
    · rw [if_neg q, if00]
      rw [show runE T isDg (k + 1) i = i from if_neg q, show i - s = c by omega]
/-- what the reference holds of the token behind e -/
def mso (k : Nat) : Nat := if k = 4 then 0 else k + 1
def MT (T : Nat → Int32) (n e : Nat) (sp so pl nu : Int32) (wo : Int64) : Prop := sp = nI (tkE T n e) ∧ so = nI (mso (tkK T n e)) ∧ pl = nI (tkS T n e) ∧ (tkK T n e = 1 → wo = lN (pkN (lts T (tkS T n e)) (tkE T n e - tkS T n e))) ∧ (tkK T n e = 2 → nu = nI (nuN (dgs T (tkS T n e)) (tkE T n e - tkS T n e)))
theorem mso_5 {k : Nat} (h : k ≤ 4) : ¬ nI (mso k) = 5 := by
  rcases (show k = 0 ∨ k = 1 ∨ k = 2 ∨ k = 3 ∨ k = 4 by omega) with rfl | rfl | rfl | rfl | rfl <;> decide
theorem MT.n5 {e : Nat} {sp so pl nu : Int32} {wo : Int64} (h : MT T n e sp so pl nu wo) : ¬ so = 5 := by
  rw [h.2.1]; exact mso_5 (tkK_le T n e)
theorem spM (hn : n ≤ 900) (hT : ∀ j, j < 900 → byt (T j)) (so pl nu : Int32) (wo : Int64) : ∀ k i f, i + k = n → k < f → f_X13_goesOn_L9 (nI n) T so pl nu wo f (nI i) = f_X13_goesOn_B35 (nI n) T (nI (runE T isSp k i)) so pl nu wo := by
  intro k
  induction k with
  | zero =>
    intro i f h2 hf
    obtain ⟨f, rfl⟩ : ∃ g, f = g + 1 := ⟨f - 1, by omega⟩
    show f_X13_goesOn_b9 (nI n) T so pl nu wo _ (nI i) = _
    unfold f_X13_goesOn_b9
    rw [byteM hn (by omega), if_pos (show n ≤ i by omega), bd1_s, if_neg (show ¬ (-1 : Int32) = 32 by decide)]
    rfl
  | succ k ih =>
    intro i f h2 hf
    obtain ⟨f, rfl⟩ : ∃ g, f = g + 1 := ⟨f - 1, by omega⟩
    obtain ⟨z, hz, ez⟩ := hT i (by omega)
    have b1 := byF1 z hz
    rw [← ez] at b1
    show f_X13_goesOn_b9 (nI n) T so pl nu wo _ (nI i) = _
    unfold f_X13_goesOn_b9
    rw [byteM hn (by omega), if_neg (show ¬ n ≤ i by omega), bd1_s]
    by_cases q : isSp (T i) = true
    · rw [if_pos (b1.1.mpr q), nI_1, show runE T isSp (k + 1) i = runE T isSp k (i + 1) from if_pos q]
      exact ih (i + 1) f (by omega) (by omega)
    · rw [if_neg (fun h => q (b1.1.mp h)), show runE T isSp (k + 1) i = i from if_neg q]
/-- the reference's step -/
theorem goM (hn : n ≤ 900) (hT : ∀ j, j < 900 → byt (T j)) {e : Nat} (he : e ≤ n) (so pl nu : Int32) (wo : Int64) (h5 : ¬ so = 5) : ∃ sp' so' pl' nu' wo', f_X13_goesOn (nI n) (nI e) so pl nu wo T = some (sp', so', pl', nu', wo') ∧ MT T n e sp' so' pl' nu' wo' := by
  unfold f_X13_goesOn
  rw [if_neg h5, spM hn hT so pl nu wo (n - e) e fuelN (by omega) (fuel_gt (by omega))]
  have hs : tkS T n e ≤ n := (tkS_b he).2
  show ∃ sp' so' pl' nu' wo', f_X13_goesOn_B35 (nI n) T (nI (tkS T n e)) so pl nu wo = some (sp', so', pl', nu', wo') ∧ (sp' = nI (tkW T n (tkS T n e)) ∧ so' = nI (mso (tkQ T n (tkS T n e))) ∧ pl' = nI (tkS T n e) ∧ (tkQ T n (tkS T n e) = 1 → wo' = lN (pkN (lts T (tkS T n e)) (tkW T n (tkS T n e) - tkS T n e))) ∧ (tkQ T n (tkS T n e) = 2 → nu' = nI (nuN (dgs T (tkS T n e)) (tkW T n (tkS T n e) - tkS T n e))))
  generalize tkS T n e = s at hs ⊢
  unfold f_X13_goesOn_B35
  rw [byteM hn hs]
  by_cases q : n ≤ s
  · rw [if_pos q, bd1_s, if_pos rfl, show tkW T n s = s from if_pos q, show tkQ T n s = 0 from if_pos q]
    exact ⟨nI s, 1, nI s, nu, wo, rfl, rfl, rfl, rfl, fun h => by omega, fun h => by omega⟩
  · have W : tkW T n s = if T s = 59 then s + 1 else if isLt (T s) = true then runE T isLt (n - s) s else runE T isDg (n - s) s := if_neg q
    have Q : tkQ T n s = if T s = 59 then 3 else if isLt (T s) = true then (if tkW T n s - s ≤ 8 then 1 else 4) else if isDg (T s) = true then (if tkW T n s - s ≤ 3 then 2 else 4) else 4 := if_neg q
    obtain ⟨z, hz, ez⟩ := hT s (by omega)
    have b1 := byF1 z hz
    have b2 := byF2 z hz
    have b3 := byF3 z hz
    have b4 := byF4 z hz
    rw [← ez] at b1 b2 b3 b4
    have r1 := run_b T isLt (n - s) s
    have r2 := run_b T isDg (n - s) s
    rw [if_neg q, bd1_s, if_neg b1.2.2, b2.1, bd1_s]
    by_cases ql : isLt (T s) = true
    · have q59 := (b3 ql).2.2.2.2.1
      rw [if_neg q59, if_pos ql] at W Q
      rw [if_pos ql, if10]
      have := ltM hn hT 0 (nI s) nu s (n - s) s 0 fuelN (by omega) (by omega) (fuel_gt (by omega))
      rw [← W] at this
      refine (show f_X13_goesOn_L84 (nI n) T 0 (nI s) nu fuelN 0 (nI s) 0 = _ from this) ▸ ?_
      unfold f_X13_goesOn_B147
      rw [← W] at r1
      have e8 : (8 : Int32) < nI (tkW T n s - s) ↔ 8 < tkW T n s - s := nI_ltI (a := 8) (by decide) (by omega)
      by_cases q8 : tkW T n s - s ≤ 8
      · rw [if_pos q8] at Q
        rw [if_neg (fun h => by have := e8.mp h; omega), pk8_eq _ q8]
        exact ⟨_, _, _, _, _, rfl, rfl, by rw [Q]; rfl, rfl, fun _ => rfl, fun h => by omega⟩
      · rw [if_neg q8] at Q
        rw [if_pos (e8.mpr (by omega))]
        exact ⟨_, _, _, _, _, rfl, rfl, by rw [Q]; rfl, rfl, fun h => by omega, fun h => by omega⟩
    · rw [if_neg ql, if00, b2.2, bd1_s]
      by_cases qd : isDg (T s) = true
      · have q59 := (b4 qd).2.2.2
        rw [if_neg q59, if_neg ql] at W Q
        rw [if_pos qd] at Q
        rw [if_pos qd, if10]
        have := dgM hn hT 0 (nI s) wo s (n - s) s 0 fuelN (by omega) (by omega) (fuel_gt (by omega))
        rw [← W] at this
        refine (show f_X13_goesOn_L173 (nI n) T 0 (nI s) wo fuelN 0 (nI s) 0 = _ from this) ▸ ?_
        unfold f_X13_goesOn_B231
        rw [← W] at r2
        have e3 : (3 : Int32) < nI (tkW T n s - s) ↔ 3 < tkW T n s - s := nI_ltI (a := 3) (by decide) (by omega)
        by_cases q3 : tkW T n s - s ≤ 3
        · rw [if_pos q3] at Q
          rw [if_neg (fun h => by have := e3.mp h; omega), nu3_eq _ q3]
          exact ⟨_, _, _, _, _, rfl, rfl, by rw [Q]; rfl, rfl, fun h => by omega, fun _ => rfl⟩
        · rw [if_neg q3] at Q
          rw [if_pos (e3.mpr (by omega))]
          exact ⟨_, _, _, _, _, rfl, rfl, by rw [Q]; rfl, rfl, fun h => by omega, fun h => by omega⟩
      · rw [if_neg qd, if00]
        by_cases q59 : T s = 59
        · rw [if_pos q59] at W Q
          rw [if_pos (b1.2.1.mpr q59), W, Q, nI_1]
          exact ⟨_, _, _, _, _, rfl, rfl, rfl, rfl, fun h => by omega, fun h => by omega⟩
        · rw [if_neg q59, if_neg ql] at W Q
          rw [if_neg qd] at Q
          rw [run_no (Bool.eq_false_iff.mpr qd)] at W
          rw [if_neg (fun h => q59 (b1.2.1.mp h)), W, Q]
          exact ⟨_, _, _, _, _, rfl, rfl, rfl, rfl, fun h => by omega, fun h => by omega⟩
end BM
