/-! B4: lowest terms -/
theorem lN0 {b : Nat} (hb : b < 2 ^ 63) : lN b = 0 ↔ b = 0 := pk_lEQ (b := 0) hb (by decide)
theorem modHalf {b c k : Nat} (hb : b < 2 ^ (k + 1)) (hc : c < b) (h0 : 0 < c) : b % c < 2 ^ k := by
  have h1 := Nat.mod_lt b h0
  have h2 : b % c + c ≤ b := by
    have h3 := Nat.div_add_mod b c
    have h4 : 1 ≤ b / c := (Nat.one_le_div_iff h0).mpr (Nat.le_of_lt hc)
    have h5 : c * 1 ≤ c * (b / c) := Nat.mul_le_mul_left c h4
    omega
  rw [Nat.pow_succ] at hb
  omega
theorem gcdStep (a b : Nat) : Nat.gcd b (a % b) = Nat.gcd a b := by rw [Nat.gcd_comm b, ← Nat.gcd_rec, Nat.gcd_comm]
theorem gcdC : ∀ (k a b r f : Nat), a < 2 ^ 63 → b < 2 ^ k → k ≤ 60 → r + 2 * k ≤ 128 → 2 * k < f → f_X4_commonDivisor_L9 f (lN a) (lN b) (nI r) = some (lN (Nat.gcd a b)) := by
  have z : ∀ (a r f : Nat), a < 2 ^ 63 → 0 < f → f_X4_commonDivisor_L9 f (lN a) (lN 0) (nI r) = some (lN (Nat.gcd a 0)) := by
    intro a r f ha hf
    obtain ⟨f, rfl⟩ : ∃ g, f = g + 1 := ⟨f - 1, by omega⟩
    show f_X4_commonDivisor_b9 (f_X4_commonDivisor_L9 f) (lN a) (lN 0) (nI r) = _
    unfold f_X4_commonDivisor_b9
    rw [Nat.gcd_zero_right]
    by_cases q : 128 ≤ nI r
    · rw [if_pos q]
    · rw [if_neg q, if_pos (show lN 0 = 0 from rfl)]
  have st : ∀ (a b r f : Nat), a < 2 ^ 63 → 0 < b → b < 2 ^ 63 → r < 128 → 0 < f → f_X4_commonDivisor_L9 f (lN a) (lN b) (nI r) = f_X4_commonDivisor_L9 (f - 1) (lN b) (lN (a % b)) (nI (r + 1)) := by
    intro a b r f ha h0 hb hr hf
    obtain ⟨f, rfl⟩ : ∃ g, f = g + 1 := ⟨f - 1, by omega⟩
    show f_X4_commonDivisor_b9 (f_X4_commonDivisor_L9 f) (lN a) (lN b) (nI r) = _
    unfold f_X4_commonDivisor_b9
    have hne : ¬ lN b = 0 := fun e => by have := (lN0 hb).mp e; omega
    rw [if_neg (show ¬ (128 : Int32) ≤ nI r from nI_ge (b := 128) hr (by decide)), if_neg hne, if_neg hne, pk_lRem ha h0 hb, nI_1]
    rfl
  intro k
  induction k with
  | zero =>
    intro a b r f ha hb _ hr hf
    have : b = 0 := by simpa using hb
    subst this
    exact z a r f ha (by omega)
  | succ k ih =>
    intro a b r f ha hb hk hr hf
    have hb63 : b < 2 ^ 63 := Nat.lt_of_lt_of_le hb (Nat.pow_le_pow_right (by decide) (by omega))
    rcases Nat.eq_zero_or_pos b with h | h
    · subst h; exact z a r f ha (by omega)
    · rw [st a b r f ha h hb63 (by omega) (by omega), ← gcdStep a b]
      have hm := Nat.mod_lt a h
      rcases Nat.eq_zero_or_pos (a % b) with h2 | h2
      · rw [h2]; exact z b (r + 1) (f - 1) hb63 (by omega)
      · rw [st b (a % b) (r + 1) (f - 1) hb63 h2 (by omega) (by omega) (by omega), ← gcdStep b (a % b)]
        exact ih (a % b) (b % (a % b)) (r + 1 + 1) (f - 1 - 1) (by omega) (modHalf hb hm h2) (by omega) (by omega) (by omega)
theorem gcdM : ∀ (k a b f : Nat), a < 2 ^ 63 → b < 2 ^ k → k ≤ 60 → 2 * k < f → f_X13_common_L17 f (lN a) (lN b) = some (lN (Nat.gcd a b)) := by
  have z : ∀ (a f : Nat), a < 2 ^ 63 → 0 < f → f_X13_common_L17 f (lN a) (lN 0) = some (lN (Nat.gcd a 0)) := by
    intro a f ha hf
    obtain ⟨f, rfl⟩ : ∃ g, f = g + 1 := ⟨f - 1, by omega⟩
    show f_X13_common_b17 (f_X13_common_L17 f) (lN a) (lN 0) = _
    unfold f_X13_common_b17
    rw [Nat.gcd_zero_right, if_pos (show lN 0 = 0 from rfl)]
  have st : ∀ (a b f : Nat), a < 2 ^ 63 → 0 < b → b < 2 ^ 63 → 0 < f → f_X13_common_L17 f (lN a) (lN b) = f_X13_common_L17 (f - 1) (lN b) (lN (a % b)) := by
    intro a b f ha h0 hb hf
    obtain ⟨f, rfl⟩ : ∃ g, f = g + 1 := ⟨f - 1, by omega⟩
    show f_X13_common_b17 (f_X13_common_L17 f) (lN a) (lN b) = _
    unfold f_X13_common_b17
    have hne : ¬ lN b = 0 := fun e => by have := (lN0 hb).mp e; omega
    rw [if_neg hne, if_neg hne, pk_lRem ha h0 hb]
    rfl
  intro k
  induction k with
  | zero =>
    intro a b f ha hb _ hf
    have : b = 0 := by simpa using hb
    subst this
    exact z a f ha (by omega)
  | succ k ih =>
    intro a b f ha hb hk hf
    have hb63 : b < 2 ^ 63 := Nat.lt_of_lt_of_le hb (Nat.pow_le_pow_right (by decide) (by omega))
    rcases Nat.eq_zero_or_pos b with h | h
    · subst h; exact z a f ha (by omega)
    · rw [st a b f ha h hb63 (by omega), ← gcdStep a b]
      have hm := Nat.mod_lt a h
      rcases Nat.eq_zero_or_pos (a % b) with h2 | h2
      · rw [h2]; exact z b (f - 1) hb63 (by omega)
      · rw [st b (a % b) (f - 1) hb63 h2 (by omega) (by omega), ← gcdStep b (a % b)]
        exact ih (a % b) (b % (a % b)) (f - 1 - 1) (by omega) (modHalf hb hm h2) (by omega) (by omega)
theorem iL_neg (z : Int) : -iL z = iL (-z) := (Int64.ofInt_neg z).symm
theorem absC {z : Int} (h1 : -(2 ^ 62) < z) (h2 : z < 2 ^ 62) : (if 0 < iL z then iL z else -iL z) = lN z.natAbs := by
  have e := iL_lt (a := 0) (b := z) (by omega) (by omega) (by omega) (by omega)
  rw [show iL 0 = 0 from rfl] at e
  rw [lN_iL]
  by_cases q : 0 < z
  · rw [if_pos (e.mpr q)]; congr 1; omega
  · rw [if_neg (fun h => q (e.mp h)), iL_neg]; congr 1; omega
theorem full_lt {dp : Nat} (h : dp ≤ 5) : 0 < 100 ^ dp ∧ 100 ^ dp < 2 ^ 34 := by
  rcases (show dp = 0 ∨ dp = 1 ∨ dp = 2 ∨ dp = 3 ∨ dp = 4 ∨ dp = 5 by omega) with rfl | rfl | rfl | rfl | rfl | rfl <;> decide
/-- the part that is asked for, in lowest terms -/
def toldZ (dp : Nat) (z : Int) (lower : Bool) : Int64 := iL (if lower then ((100 ^ dp : Nat) : Int) else z) / lN (Nat.gcd z.natAbs (100 ^ dp))
theorem toldC {dp : Nat} {z : Int} (hd : dp ≤ 5) (h1 : -(2 ^ 62) < z) (h2 : z < 2 ^ 62) (lower : Bool) : f_X4_told (nI dp) (iL z) (if lower then 1 else 0) = some (toldZ dp z lower) := by
  have hf := full_lt hd
  have hg : 0 < Nat.gcd z.natAbs (100 ^ dp) := Nat.gcd_pos_of_pos_right _ hf.1
  have hg2 : Nat.gcd z.natAbs (100 ^ dp) < 2 ^ 34 := Nat.lt_of_le_of_lt (Nat.gcd_le_right _ hf.1) hf.2
  have key : ∀ p : Int64, f_X4_told_B27 (nI dp) (lN (Nat.gcd z.natAbs (100 ^ dp))) p = some (p / lN (Nat.gcd z.natAbs (100 ^ dp))) := by
    intro p
    generalize Nat.gcd z.natAbs (100 ^ dp) = g at hg hg2
    unfold f_X4_told_B27
    by_cases q : g ≤ 1
    · have : g = 1 := by omega
      subst this
      rw [if_pos (by decide)]
      congr 1
      apply Int64.toInt_inj.mp
      rw [show lN 1 = 1 from rfl]
      simp
    · rw [if_neg (show ¬ lN g ≤ 1 from fun e => q ((pk_lLE (b := 1) (by omega) (by decide)).mp e)), if_neg (fun e => by have := (lN0 (by omega)).mp e; omega)]
  unfold f_X4_told f_X4_commonDivisor toldZ
  rw [fullC (by omega), bd1_s, absC h1 h2, ← lN_iL, show (0 : Int32) = nI 0 from rfl, gcdC 34 _ _ 0 fuelN (by omega) hf.2 (by omega) (by omega) (by have := fuelN_ge; omega), bd1_s]
  cases lower
  · rw [show nI 0 = (0 : Int32) from rfl, selF]; exact key _
  · rw [show nI 0 = (0 : Int32) from rfl, selT, lN_iL]; exact key _
theorem absM {z : Int} (h1 : -(2 ^ 62) < z) (h2 : z < 2 ^ 62) : (if 0 ≤ iL z then iL z else -iL z) = lN z.natAbs := by
  have e := iL_le (a := 0) (b := z) (by omega) (by omega) (by omega) (by omega)
  rw [show iL 0 = 0 from rfl] at e
  rw [lN_iL]
  by_cases q : 0 ≤ z
  · rw [if_pos (e.mpr q)]; congr 1; omega
  · rw [if_neg (fun h => q (e.mp h)), iL_neg]; congr 1; omega
theorem bd3_s {α A B C : Type} (x : A) (y : B) (z : C) (k : A → B → C → Option α) : bd3 (some (x, y, z)) k = k x y z := rfl
theorem bd2_s {α A B : Type} (x : A) (y : B) (k : A → B → Option α) : bd2 (some (x, y)) k = k x y := rfl
theorem fracM {dp : Nat} {z : Int} (hd : dp ≤ 5) (h1 : -(2 ^ 62) < z) (h2 : z < 2 ^ 62) (lower : Bool) (t w : Int32) : f_X13_fraction t w (iL z) (iL ((100 ^ dp : Nat))) (if lower then 1 else 0) = some (toldZ dp z lower, 0, -1) := by
  have hf := full_lt hd
  have hg : 0 < Nat.gcd z.natAbs (100 ^ dp) := Nat.gcd_pos_of_pos_right _ hf.1
  have hg2 : Nat.gcd z.natAbs (100 ^ dp) < 2 ^ 34 := Nat.lt_of_le_of_lt (Nat.gcd_le_right _ hf.1) hf.2
  have hc : f_X13_common (iL z) (iL ((100 ^ dp : Nat))) = some (lN (Nat.gcd z.natAbs (100 ^ dp))) := by
    have ha := absM h1 h2
    unfold f_X13_common f_X13_common_B12
    rw [← lN_iL]
    have hg := gcdM 34 z.natAbs (100 ^ dp) fuelN (by omega) hf.2 (by omega) (by have := fuelN_ge; omega)
    by_cases q : 0 ≤ iL z
    · rw [if_pos q] at ha ⊢; rw [ha]; exact hg
    · rw [if_neg q] at ha ⊢; rw [ha]; exact hg
  have key : ∀ p : Int64, f_X13_fraction_B16 (iL z) (iL ((100 ^ dp : Nat))) p 0 (-1) = some (p / lN (Nat.gcd z.natAbs (100 ^ dp)), 0, -1) := by
    intro p
    unfold f_X13_fraction_B16
    rw [hc, bd1_s, if_neg (fun e => by have := (lN0 (by omega)).mp e; omega)]
  unfold f_X13_fraction f_X13_good toldZ
  rw [bd3_s]
  cases lower
  · rw [selF]; exact key _
  · rw [selT]; exact key _
