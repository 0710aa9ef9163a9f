/-! BG: placing by trying all -/
/-- lanes taken by the first j of P; none: two in one -/
def pfT (L : Nat) (P : Nat → Nat) : Nat → Option Nat
  | 0 => some 0
  | j + 1 => match pfT L P j with
    | none => none
    | some T => if P j = L then some T else if bit T (P j) then none else some (T ||| 2 ^ P j)
def pfV (a : AS) (P : Nat → Nat) (j : Nat) : Int := if P j = a 0 0 then 0 else aW a j (P j)
def pfS (a : AS) (P : Nat → Nat) : Nat → Int
  | 0 => 0
  | j + 1 => pfS a P j + pfV a P j
theorem pfS_it (a : AS) (P : Nat → Nat) : ∀ j, pfS a P j = itN (addS (pfV a P)) j 0 0 := by
  intro j
  induction j with
  | zero => rfl
  | succ j ih =>
    rw [it_snoc, Nat.zero_add, ← ih]
    rfl
theorem pfT_n {L : Nat} {P : Nat → Nat} : ∀ d j, pfT L P j = none → pfT L P (j + d) = none := by
  intro d
  induction d with
  | zero => intro j h; exact h
  | succ d ih =>
    intro j h
    have := ih j h
    show (match pfT L P (j + d) with | none => none | some T => _) = none
    rw [this]
theorem pfT_lt {L : Nat} {P : Nat → Nat} : ∀ j T, (∀ i, i < j → P i ≤ L) → pfT L P j = some T → T < 2 ^ L := by
  intro j
  induction j with
  | zero => intro T _ h; cases h; exact Nat.two_pow_pos _
  | succ j ih =>
    intro T hP h
    have h : (match pfT L P j with | none => none | some T => if P j = L then some T else if bit T (P j) then none else some (T ||| 2 ^ P j)) = some T := h
    cases hq : pfT L P j with
    | none => rw [hq] at h; cases h
    | some T0 =>
      rw [hq] at h
      have h0 := ih T0 (fun i hi => hP i (by omega)) hq
      have h : (if P j = L then some T0 else if bit T0 (P j) then none else some (T0 ||| 2 ^ P j)) = some T := h
      by_cases q : P j = L
      · rw [if_pos q] at h; cases h; exact h0
      · rw [if_neg q] at h
        cases hb : bit T0 (P j) with
        | true => rw [hb, if_pos rfl] at h; cases h
        | false =>
          rw [hb, if_neg (by decide)] at h
          cases h
          exact Nat.or_lt_two_pow h0 (Nat.pow_lt_pow_right (by decide) (by have := hP j (by omega); omega))
theorem pf_cong {L : Nat} {P P' : Nat → Nat} : ∀ j, (∀ i, i < j → P' i = P i) → pfT L P' j = pfT L P j := by
  intro j
  induction j with
  | zero => intro _; rfl
  | succ j ih =>
    intro h
    have e := ih (fun i hi => h i (by omega))
    show (match pfT L P' j with | none => none | some T => if P' j = L then some T else if bit T (P' j) then none else some (T ||| 2 ^ P' j)) = (match pfT L P j with | none => none | some T => if P j = L then some T else if bit T (P j) then none else some (T ||| 2 ^ P j))
    rw [e, h j (by omega)]
theorem pfS_cong {a : AS} {P P' : Nat → Nat} : ∀ j, (∀ i, i < j → P' i = P i) → pfS a P' j = pfS a P j := by
  intro j
  induction j with
  | zero => intro _; rfl
  | succ j ih =>
    intro h
    show pfS a P' j + pfV a P' j = pfS a P j + pfV a P j
    rw [ih (fun i hi => h i (by omega))]
    unfold pfV
    rw [h j (by omega)]
def updN (P : Nat → Nat) (b x : Nat) : Nat → Nat := fun j => if j = b then x else P j
/-- what trying all for the k beasts from b on leaves: the sum, who is where -/
def rB (n : Nat) (f g : Nat → Int32) : Prop := ∀ j, j < n → f j = g j
def plR (a : AS) (k b : Nat) (P : Nat → Nat) (z : Int) (B : Nat → Int32) : Int × (Nat → Int32) := match pfT (a 0 0) P b with
  | none => (z, B)
  | some T => if z < pfS a P b + plM a k b T then (pfS a P b + plM a k b T, fun j => nI (if j < b then P j else plG a k b T j)) else (z, B)
section BG
variable {a : AS} {wh' kd' md' v : Nat → Int32}
theorem pfV_b (ok : okA a) {P : Nat → Nat} {j : Nat} (hj : j < a 0 2) (hP : P j ≤ a 0 0) : -(2 ^ 40) ≤ pfV a P j ∧ pfV a P j ≤ 2 ^ 40 := by
  unfold pfV
  split
  · omega
  · next q => have := aW_b ok hj (show P j < a 0 0 by omega); omega
theorem pfS_b (ok : okA a) {P : Nat → Nat} (hP : ∀ j, j < a 0 2 → P j ≤ a 0 0) {j : Nat} (hj : j ≤ a 0 2) : -(2 ^ 50) < pfS a P j ∧ pfS a P j < 2 ^ 50 := by
  have h1 := ok.1
  have := add_b (t := pfV a P) (B := 2 ^ 40) j 0 0 (fun i _ hi => pfV_b ok (by omega) (hP i (by omega)))
  rw [pfS_it]
  have e : (j : Int) * 2 ^ 40 ≤ 5 * 2 ^ 40 := Int.mul_le_mul_of_nonneg_right (by omega) (by decide)
  omega
theorem unlikeM (ok : okA a) {P : Nat → Nat} {put : Nat → Int32} (hr : rI 5 put P) (hP : ∀ j, j < 5 → P j ≤ a 0 0) : f_X13_areUnlike put (nI (a 0 0)) (nI (a 0 2)) = some (if (pfT (a 0 0) P (a 0 2)).isSome then 1 else 0) := by
  have h1 := ok.1
  have hp := p64 ok
  have key : ∀ k i T f, i + k = a 0 2 → pfT (a 0 0) P i = some T → k < f → f_X13_areUnlike_L4 put (nI (a 0 0)) (nI (a 0 2)) f (nI T) (nI i) = some (if (pfT (a 0 0) P (a 0 2)).isSome then 1 else 0) := by
    intro k
    induction k with
    | zero =>
      intro i T f hi hT hf
      obtain ⟨f, rfl⟩ : ∃ g, f = g + 1 := ⟨f - 1, by omega⟩
      have : i = a 0 2 := by omega
      subst this
      show f_X13_areUnlike_b4 _ _ _ _ _ _ = _
      unfold f_X13_areUnlike_b4
      rw [if_pos (nI_le (Nat.le_refl _) (by omega)), hT]
      rfl
    | succ k ih =>
      intro i T f hi hT hf
      obtain ⟨f, rfl⟩ : ∃ g, f = g + 1 := ⟨f - 1, by omega⟩
      have hT2 := pfT_lt i T (fun j hj => hP j (by omega)) hT
      have hPi := hP i (by omega)
      have e : nI (P i) = nI (a 0 0) ↔ P i = a 0 0 := nI_eq (by omega) (by omega)
      have nx : pfT (a 0 0) P (i + 1) = if P i = a 0 0 then some T else if bit T (P i) then none else some (T ||| 2 ^ P i) := by
        show (match pfT (a 0 0) P i with | none => none | some T => if P i = a 0 0 then some T else if bit T (P i) then none else some (T ||| 2 ^ P i)) = _
        rw [hT]
      show f_X13_areUnlike_b4 _ _ _ _ _ _ = _
      unfold f_X13_areUnlike_b4 f_X13_areUnlike_B60
      rw [if_neg (nI_ge (show i < a 0 2 by omega) (by omega)), gI (by omega) (by decide), gI (by omega) (by decide), gI (by omega) (by decide), nI_clamp (by omega), hr i (by omega), nI_1]
      by_cases q : P i = a 0 0
      · rw [if_pos (e.mpr q)]
        exact ih (i + 1) T f (by omega) (by rw [nx, if_pos q]) (by omega)
      · rw [if_neg (fun h => q (e.mp h)), bitM (by omega) (by omega), bd1_s]
        rw [if_neg q] at nx
        cases hb : bit T (P i) with
        | true =>
          rw [hb, if_pos rfl] at nx
          rw [selT]
          have := pfT_n k (i + 1) nx
          rw [show i + 1 + k = a 0 2 by omega] at this
          rw [this]
          rfl
        | false =>
          rw [hb, if_neg (by decide)] at nx
          rw [selF, shlN (by omega), nI_or]
          exact ih (i + 1) _ f (by omega) nx (by omega)
  unfold f_X13_areUnlike
  exact key (a 0 2) 0 0 fuelN (by omega) rfl (fuel_gt (by omega))
theorem takeM (ok : okA a) (rm : rMo a wh' kd' md' v) {P : Nat → Nat} {B put bp : Nat → Int32} {z : Int} (hr : rI 5 put P) (hP : ∀ j, j < 5 → P j ≤ a 0 0) (hb : rB (a 0 2) bp B) (hz : -(2 ^ 63) ≤ z ∧ z < 2 ^ 60) : ∃ bp2, f_X13_takesPut (iL z) v put bp (nI (a 0 0)) (nI (a 0 1)) (nI (a 0 2)) wh' kd' md' = some (iL (if z < pfS a P (a 0 2) then pfS a P (a 0 2) else z), bp2) ∧ rB (a 0 2) bp2 (if z < pfS a P (a 0 2) then (fun j => nI (P j)) else B) := by
  have h1 := ok.1
  have sb := pfS_b ok (fun j hj => hP j (by omega)) (Nat.le_refl (a 0 2))
  unfold f_X13_takesPut
  have := (loopN (fun f i s => f_X13_takesPut_L4 v put (nI (a 0 0)) (nI (a 0 1)) (nI (a 0 2)) wh' kd' md' (iL z) bp f (iL s) (nI i)) (a 0 2) (addS (pfV a P)) (fun _ _ => True) (fun s => f_X13_takesPut_B55 v put (nI (a 0 0)) (nI (a 0 1)) (nI (a 0 2)) wh' kd' md' (iL s) (iL z) bp) ?_ ?_ (a 0 2) 0 0 fuelN (by omega) trivial (fuel_gt (by omega))).1
  · rw [← pfS_it] at this
    rw [show f_X13_takesPut_L4 v put (nI (a 0 0)) (nI (a 0 1)) (nI (a 0 2)) wh' kd' md' (iL z) bp fuelN 0 0 = _ from this]
    unfold f_X13_takesPut_B55
    have e := iL_lt (a := z) (b := pfS a P (a 0 2)) (by omega) (by omega) (by omega) (by omega)
    by_cases q : z < pfS a P (a 0 2)
    · rw [if_pos (e.mpr q), if_pos q, if_pos q]
      refine loopR (fun f i s => f_X13_takesPut_L72 v put (nI (a 0 0)) (nI (a 0 1)) (nI (a 0 2)) wh' kd' md' (iL (pfS a P (a 0 2))) f (nI i) s) 5 (fun i s => ∀ j, j < i → s j = nI (P j)) (fun o => ∃ bp2, o = some (iL (pfS a P (a 0 2)), bp2) ∧ rB (a 0 2) bp2 (fun j => nI (P j))) ?_ ?_ 5 0 bp fuelN (by omega) (by intro j hj; omega) (fuel_gt (by omega))
      · intro f i s hi hs
        refine ⟨upd s i (put i), ?_, ?_⟩
        · intro j hj
          by_cases q : j = i
          · subst q; rw [pk_us]; exact hr j hi
          · rw [pk_un q]; exact hs j (by omega)
        · show f_X13_takesPut_b72 _ _ _ _ _ _ _ _ _ _ _ _ = _
          unfold f_X13_takesPut_b72
          rw [if_neg (show ¬ (5 : Int32) ≤ nI i from nI_ge (b := 5) hi (by decide)), gI hi (by decide), gI hi (by decide), nI_1, nI_clamp (by omega)]
      · intro f s hs
        refine ⟨s, ?_, fun j hj => hs j (by omega)⟩
        show f_X13_takesPut_b72 _ _ _ _ _ _ _ _ _ _ _ _ = _
        unfold f_X13_takesPut_b72
        rw [if_pos (by decide)]
    · rw [if_neg (fun h => q (e.mp h)), if_neg q, if_neg q]
      exact ⟨bp, rfl, hb⟩
  · intro f i s hi _
    refine ⟨trivial, ?_⟩
    have hPi := hP i (by omega)
    have e : nI (P i) = nI (a 0 0) ↔ P i = a 0 0 := nI_eq (by omega) (by omega)
    show f_X13_takesPut_b4 _ _ _ _ _ _ _ _ _ _ _ _ _ = _
    unfold f_X13_takesPut_b4 f_X13_takesPut_B47 addS pfV
    rw [if_neg (nI_ge hi (by omega)), gI (by omega) (by decide), gI (by omega) (by decide), nI_clamp (by omega), hr i (by omega), nI_1]
    by_cases q : P i = a 0 0
    · rw [if_pos (e.mpr q), if_pos q, show (0 : Int64) = iL 0 from rfl, iL_add]
    · rw [if_neg (fun h => q (e.mp h)), if_neg q, wIM ok rm hi (by omega), bd1_s, iL_add]
  · intro f s _
    show f_X13_takesPut_b4 _ _ _ _ _ _ _ _ _ _ _ _ _ = _
    unfold f_X13_takesPut_b4
    rw [if_pos (nI_le (Nat.le_refl _) (by omega))]
/-- the carry into beast b - 1 -/
theorem carM (ok : okA a) (rv : rV a v) {b g : Nat} (hb : b < a 0 2) {P : Nat → Nat} {put : Nat → Int32} (hr : rI 5 put P) (hP : ∀ j, j < 5 → P j ≤ a 0 0) : f_X13_nextPut_L10 v (nI (a 0 0)) (nI (a 0 2)) (g + 1) (nI (b + 1) + (-1)) put = if aD a b then f_X13_nextPut_L10 v (nI (a 0 0)) (nI (a 0 2)) g (nI b + (-1)) put else if P b < a 0 0 then some (1, upd put b (nI (P b + 1))) else f_X13_nextPut_L10 v (nI (a 0 0)) (nI (a 0 2)) g (nI b + (-1)) (upd (upd put b (nI (P b + 1))) b 0) := by
  have h1 := ok.1
  have hPb := hP b (by omega)
  have e : nI (a 0 0) < nI (P b + 1) ↔ a 0 0 < P b + 1 := nI_ltI (by omega) (by omega)
  rw [pk_m1]
  show f_X13_nextPut_b10 _ _ _ _ _ _ = _
  unfold f_X13_nextPut_b10 f_X13_nextPut_B60
  rw [if_neg (nI_pos (by omega)), isDeadM rv.1 ok.d (by omega), bd1_s, gI (by omega) (by decide), gI (by omega) (by decide), gI (by omega) (by decide), gI (by omega) (by decide), nI_clamp (by omega), hr b (by omega), nI_1, pk_us]
  show (if (if aD a b = true then (1 : Int32) else 0) = 0 then _ else _) = _
  cases aD a b
  · rw [selF, if_neg (show ¬ false = true by decide)]
    by_cases q : P b < a 0 0
    · rw [if_neg (fun h => by have := e.mp h; omega), if_pos q]
    · rw [if_pos (e.mpr (by omega)), if_neg q]
  · rw [selT, if_pos rfl]
end BG
