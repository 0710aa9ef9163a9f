/-! BX: led: the p-th dead beast -/
def ledS (d p : Int32) : Nat → Nat → Int32 → Option Nat
  | 0, _, _ => none
  | k + 1, i, c => if ((d >>> (nI i &&& 31)) &&& 1) = 1 then (if c = p then some i else ledS d p k (i + 1) (c + 1)) else ledS d p k (i + 1) c
theorem ledS_lt {d p : Int32} : ∀ {k i : Nat} {c : Int32} {j : Nat}, ledS d p k i c = some j → j < i + k := by
  intro k
  induction k with
  | zero => intro i c j h; cases h
  | succ k ih =>
    intro i c j h
    unfold ledS at h
    split at h
    · split at h
      · cases h; omega
      · have := ih h; omega
    · have := ih h; omega
def ledR (o : Option Nat) : Int32 × Int32 := match o with
  | some j => (nI j, 0)
  | none => (0, 1)
theorem q_led {n : Nat} (hn : n ≤ 5) {v : Nat → Int32} {d : Int32} (hv : v 10 = d) (p th : Int32) : f_X13_led th v (nI n) p = some (ledR (ledS d p n 0 0)) := by
  unfold f_X13_led
  have key : ∀ k i f (c : Int32), i + k = n → k < f → f_X13_led_L9 v (nI n) p 0 f c (nI i) = some (ledR (ledS d p k i c)) := by
    intro k
    induction k with
    | zero =>
      intro i f c hi hf
      obtain ⟨f, rfl⟩ : ∃ g, f = g + 1 := ⟨f - 1, by omega⟩
      show f_X13_led_b9 _ _ _ _ _ _ _ = _
      unfold f_X13_led_b9 f_X13_led_B54
      rw [if_pos (show nI n ≤ nI i from (nI_leI (by omega) (by omega)).mpr (by omega))]
      rfl
    | succ k ih =>
      intro i f c hi hf
      obtain ⟨f, rfl⟩ : ∃ g, f = g + 1 := ⟨f - 1, by omega⟩
      show f_X13_led_b9 _ _ _ _ _ _ _ = _
      unfold f_X13_led_b9 f_X13_led_B48 f_X13_isDead
      have e : f_X13_bit (v (10 : Int32).toNatClampNeg) (nI i) = some (if ((d >>> (nI i &&& 31)) &&& 1) = 1 then 1 else 0) := by
        show f_X13_bit (v 10) (nI i) = _
        rw [hv]
        unfold f_X13_bit
        by_cases q : ((d >>> (nI i &&& 31)) &&& 1) = 1
        · rw [if_pos q, if_pos q]
        · rw [if_neg q, if_neg q]
      rw [if_neg (show ¬ nI n ≤ nI i from nI_ge (by omega) (by omega)), e, bd1_s, bd1_s]
      unfold ledS
      by_cases q : ((d >>> (nI i &&& 31)) &&& 1) = 1
      · rw [if_pos q, if10, if_pos q]
        by_cases q2 : c = p
        · rw [if_pos q2, if_pos q2]; rfl
        · rw [if_neg q2, if_neg q2, nI_1]
          exact ih (i + 1) f (c + 1) (by omega) (by omega)
      · rw [if_neg q, if_pos rfl, if_neg q, nI_1]
        exact ih (i + 1) f c (by omega) (by omega)
  exact key n 0 fuelN 0 (by omega) (fuel_gt (by omega))
