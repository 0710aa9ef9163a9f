/-! B1: numbers, bits, guards -/
theorem bd1_s {α A : Type} (x : A) (k : A → Option α) : bd1 (some x) k = k x := rfl
theorem gI {α : Type} {j n : Nat} {x : Option α} (h : j < n) (hn : n < 2 ^ 31) : gIn (nI j) n x = x := gIn_ok (vp_in_nI h hn)
theorem n5 (j : Nat) : (5 : Int32) + nI j = nI (5 + j) := nI_add 5 j
theorem n11 (j : Nat) : (11 : Int32) + nI j = nI (11 + j) := nI_add 11 j
theorem n0 (j : Nat) : (0 : Int32) + nI j = nI j := by rw [show (0 : Int32) = nI 0 from rfl, nI_add, Nat.zero_add]
theorem c10 : (10 : Int32).toNatClampNeg = 10 := rfl
theorem c17 : (17 : Int32).toNatClampNeg = 17 := rfl
theorem c18 : (18 : Int32).toNatClampNeg = 18 := rfl
theorem nI_or (a b : Nat) : nI a ||| nI b = nI (a ||| b) := by
  apply Int32.toBitVec_inj.mp
  simp [nI]
theorem nI_and (a b : Nat) : nI a &&& nI b = nI (a &&& b) := by
  apply Int32.toBitVec_inj.mp
  simp [nI]
theorem sh31 : ∀ j, j < 32 → ((nI j &&& 31).toBitVec.smod 32).toNat = j := by decide +kernel
theorem bitN {d j : Nat} (hd : d < 2 ^ 31) (hj : j < 32) : ((nI d >>> (nI j &&& 31)) &&& 1) = nI (d / 2 ^ j % 2) := by
  rw [pk_shrN hd _ j (sh31 j hj)]
  exact pk_andN (by have := Nat.div_le_self d (2 ^ j); omega) 1 (by decide)
theorem shlN {j : Nat} (hj : j < 31) : (1 : Int32) <<< (nI j &&& 31) = nI (2 ^ j) := by
  have h := pk_shlN (n := 1) (nI j &&& 31) j (sh31 j (by omega)) (by have : 2 ^ j < 2 ^ 31 := Nat.pow_lt_pow_right (by decide) hj; omega)
  rw [Nat.one_mul] at h
  exact h
theorem nI_small (a : Nat) (h : a % 2 = 1) : nI (a % 2) = 1 := by rw [h]; rfl
/-- the bit j of d -/
def bit (d j : Nat) : Bool := d / 2 ^ j % 2 == 1
theorem isDeadN {d j : Nat} (hd : d < 2 ^ 31) (hj : j < 32) : f_X8_isDead (nI d) (nI j) = some (if bit d j then 1 else 0) := by
  unfold f_X8_isDead bit
  rw [bitN hd hj]
  rcases Nat.mod_two_eq_zero_or_one (d / 2 ^ j) with h | h <;> rw [h] <;> rfl
theorem bitM {d j : Nat} (hd : d < 2 ^ 31) (hj : j < 32) : f_X13_bit (nI d) (nI j) = some (if bit d j then 1 else 0) := by
  unfold f_X13_bit bit
  rw [bitN hd hj]
  rcases Nat.mod_two_eq_zero_or_one (d / 2 ^ j) with h | h <;> rw [h] <;> rfl
/-- a - b, not below 0 -/
theorem subMax {a b : Nat} (ha : a < 2 ^ 30) (hb : b < 2 ^ 30) : (if (0 : Int32) < nI a - nI b then nI a - nI b else 0) = nI (a - b) := by
  rcases Nat.lt_or_ge b a with h | h
  · rw [pk_sub (by omega), if_pos]
    rw [show (0 : Int32) = nI 0 from rfl]
    exact nI_lt (by omega) (by omega)
  · rw [if_neg, Nat.sub_eq_zero_of_le h]
    · rfl
    · intro q
      have e := pk_sub_toInt ha hb
      have q2 := Int32.lt_iff_toInt_lt.mp q
      rw [e] at q2
      have : (0 : Int32).toInt = 0 := rfl
      omega
theorem subMax2 {a b : Nat} (ha : a < 2 ^ 30) (hb : b < 2 ^ 30) : (if nI a - nI b ≤ 0 then (0 : Int32) else nI a - nI b) = nI (a - b) := by
  rw [← subMax ha hb]
  by_cases q : (0 : Int32) < nI a - nI b
  · rw [if_pos q, if_neg (Int32.not_le.mpr q)]
  · rw [if_neg q, if_pos (Int32.not_lt.mp q)]
/-- powers -/
theorem powL {d : Nat} (hd : d < 2 ^ 31) (x : Int32) : ∀ (f i : Nat) (a : Nat) (h : Nat), x.toInt64 = lN h → i ≤ d → d - i < f → f_X4_power_L5 (nI d) x f (lN a) (nI i) = some (lN (a * h ^ (d - i))) := by
  intro f
  induction f with
  | zero => intro i a h _ _ q; omega
  | succ f ih =>
    intro i a h hx hi hf
    show f_X4_power_b5 (nI d) x (f_X4_power_L5 (nI d) x f) (lN a) (nI i) = _
    unfold f_X4_power_b5
    rcases Nat.lt_or_ge i d with q | q
    · rw [if_neg (nI_ge q hd), nI_1, hx, lN_mul, ih (i + 1) (a * h) h hx q (by omega)]
      rw [show d - i = (d - (i + 1)) + 1 by omega, Nat.pow_succ, Nat.mul_assoc, Nat.mul_comm h]
    · rw [if_pos (nI_le q (by omega)), show d - i = 0 by omega, Nat.pow_zero, Nat.mul_one]
theorem powC {d h : Nat} (hd : d < 100) (hh : h < 2 ^ 31) : f_X4_power (nI d) (nI h) = some (lN (h ^ d)) := by
  unfold f_X4_power
  have := powL (d := d) (by omega) (nI h) fuelN 0 1 h (nI_l hh) (Nat.zero_le _) (by have := fuelN_ge; omega)
  rw [Nat.one_mul, Nat.sub_zero] at this
  exact this
theorem powLM {d : Nat} (hd : d < 2 ^ 31) : ∀ (f i : Nat) (a h : Nat), i ≤ d → d - i < f → f_X13_power_L5 (lN h) (nI d) f (lN a) (nI i) = some (lN (a * h ^ (d - i))) := by
  intro f
  induction f with
  | zero => intro i a h _ q; omega
  | succ f ih =>
    intro i a h hi hf
    show f_X13_power_b5 (lN h) (nI d) (f_X13_power_L5 (lN h) (nI d) f) (lN a) (nI i) = _
    unfold f_X13_power_b5
    rcases Nat.lt_or_ge i d with q | q
    · rw [if_neg (nI_ge q hd), nI_1, lN_mul, ih (i + 1) (a * h) h q (by omega)]
      rw [show d - i = (d - (i + 1)) + 1 by omega, Nat.pow_succ, Nat.mul_assoc, Nat.mul_comm h]
    · rw [if_pos (nI_le q (by omega)), show d - i = 0 by omega, Nat.pow_zero, Nat.mul_one]
theorem powM {d h : Nat} (hd : d < 100) : f_X13_power (lN h) (nI d) = some (lN (h ^ d)) := by
  unfold f_X13_power
  have := powLM (d := d) (by omega) fuelN 0 1 h (Nat.zero_le _) (by have := fuelN_ge; omega)
  rw [Nat.one_mul, Nat.sub_zero] at this
  exact this
