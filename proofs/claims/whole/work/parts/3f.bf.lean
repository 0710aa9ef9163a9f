/-! BF: placing -/
theorem it_inv {S : Type} {step : Nat → S → S} {P : S → Prop} {n : Nat} (h : ∀ j s, j < n → P s → P (step j s)) : ∀ k i s, i + k ≤ n → P s → P (itN step k i s) := by
  intro k
  induction k with
  | zero => intro i s _ hs; exact hs
  | succ k ih =>
    intro i s hi hs
    show P (itN step k (i + 1) (step i s))
    exact ih (i + 1) _ (by omega) (h i s (by omega) hs)
theorem find_s {p : Nat → Bool} : ∀ k i j, findN p k i = some j → i ≤ j ∧ j < i + k ∧ p j = true ∧ ∀ m, i ≤ m → m < j → p m = false := by
  intro k
  induction k with
  | zero => intro i j h; cases h
  | succ k ih =>
    intro i j h
    unfold findN at h
    cases hp : p i with
    | true =>
      rw [hp, if_pos rfl] at h
      cases h
      exact ⟨Nat.le_refl _, by omega, hp, fun m h1 h2 => by omega⟩
    | false =>
      rw [hp, if_neg (by decide)] at h
      obtain ⟨h1, h2, h3, h4⟩ := ih (i + 1) j h
      refine ⟨by omega, by omega, h3, fun m h5 h6 => ?_⟩
      by_cases q : m = i
      · rw [q]; exact hp
      · exact h4 m (by omega) h6
theorem find_n {p : Nat → Bool} : ∀ k i, findN p k i = none → ∀ m, i ≤ m → m < i + k → p m = false := by
  intro k
  induction k with
  | zero => intro i _ m h1 h2; omega
  | succ k ih =>
    intro i h m h1 h2
    unfold findN at h
    cases hp : p i with
    | true => rw [hp, if_pos rfl] at h; cases h
    | false =>
      rw [hp, if_neg (by decide)] at h
      by_cases q : m = i
      · rw [q]; exact hp
      · exact ih (i + 1) h m (by omega) (by omega)
theorem find_is {p : Nat → Bool} {k i j : Nat} (h1 : i ≤ j) (h2 : j < i + k) (h3 : p j = true) (h4 : ∀ m, i ≤ m → m < j → p m = false) : findN p k i = some j := by
  cases hf : findN p k i with
  | none =>
    have := find_n k i hf j h1 h2
    rw [this] at h3
    cases h3
  | some j' =>
    obtain ⟨g1, g2, g3, g4⟩ := find_s k i j' hf
    rcases Nat.lt_trichotomy j' j with q | q | q
    · rw [h4 j' g1 q] at g3; cases g3
    · rw [q]
    · rw [g4 j h1 q] at h3; cases h3
theorem find_no {p : Nat → Bool} {k i : Nat} (h : ∀ m, i ≤ m → m < i + k → p m = false) : findN p k i = none := by
  cases hf : findN p k i with
  | none => rfl
  | some j =>
    obtain ⟨g1, g2, g3, g4⟩ := find_s k i j hf
    rw [h j g1 g2] at g3
    cases g3
/-- may beast b take lane l when the lanes T are taken -/
def freeB (a : AS) (b l T : Nat) : Bool := !aD a b && !bit T l
def mxL (f : Nat → Bool) (c : Nat → Int) (l : Nat) (s : Int) : Int := if f l then (if c l < s then s else c l) else s
theorem mx_spec (f : Nat → Bool) (c : Nat → Int) : ∀ k i s, s ≤ itN (mxL f c) k i s ∧ (∀ l, i ≤ l → l < i + k → f l = true → c l ≤ itN (mxL f c) k i s) ∧ (itN (mxL f c) k i s = s ∨ ∃ l, i ≤ l ∧ l < i + k ∧ f l = true ∧ itN (mxL f c) k i s = c l) := by
  intro k
  induction k with
  | zero => intro i s; exact ⟨Int.le_refl _, fun l h1 h2 => by omega, Or.inl rfl⟩
  | succ k ih =>
    intro i s
    show s ≤ itN (mxL f c) k (i + 1) (mxL f c i s) ∧ (∀ l, i ≤ l → l < i + (k + 1) → f l = true → c l ≤ itN (mxL f c) k (i + 1) (mxL f c i s)) ∧ (itN (mxL f c) k (i + 1) (mxL f c i s) = s ∨ ∃ l, i ≤ l ∧ l < i + (k + 1) ∧ f l = true ∧ itN (mxL f c) k (i + 1) (mxL f c i s) = c l)
    obtain ⟨h1, h2, h3⟩ := ih (i + 1) (mxL f c i s)
    have hs : s ≤ mxL f c i s ∧ (f i = true → c i ≤ mxL f c i s) ∧ (mxL f c i s = s ∨ (f i = true ∧ mxL f c i s = c i)) := by
      unfold mxL
      cases hf : f i with
      | false => rw [if_neg (by decide)]; exact ⟨Int.le_refl _, fun h => absurd h (by decide), Or.inl rfl⟩
      | true =>
        rw [if_pos rfl]
        by_cases q : c i < s
        · rw [if_pos q]; exact ⟨Int.le_refl _, fun _ => by omega, Or.inl rfl⟩
        · rw [if_neg q]; exact ⟨by omega, fun _ => Int.le_refl _, Or.inr ⟨rfl, rfl⟩⟩
    refine ⟨by omega, ?_, ?_⟩
    · intro l g1 g2 g3
      by_cases q : l = i
      · subst q; have := hs.2.1 g3; omega
      · exact h2 l (by omega) (by omega) g3
    · rcases h3 with h3 | ⟨l, g1, g2, g3, g4⟩
      · rcases hs.2.2 with h | ⟨hf, h⟩
        · exact Or.inl (by rw [h3, h])
        · exact Or.inr ⟨i, Nat.le_refl _, by omega, hf, by rw [h3, h]⟩
      · exact Or.inr ⟨l, by omega, by omega, g3, g4⟩
/-- the most that the k beasts from b on bring, the lanes T taken -/
def plM (a : AS) : Nat → Nat → Nat → Int
  | 0, _, _ => 0
  | k + 1, b, T => itN (mxL (fun l => freeB a b l T) (fun l => aW a b l + plM a k (b + 1) (T ||| 2 ^ l))) (a 0 0) 0 (plM a k (b + 1) T)
/-- the first lane by which it is reached; lanes: out -/
def plP (a : AS) (k b T l : Nat) : Bool := freeB a b l T && decide (aW a b l + plM a k (b + 1) (T ||| 2 ^ l) = plM a (k + 1) b T)
def plF (a : AS) (k b T : Nat) : Nat := (findN (plP a k b T) (a 0 0) 0).getD (a 0 0)
def plT (L T l : Nat) : Nat := if l = L then T else T ||| 2 ^ l
def plG (a : AS) : Nat → Nat → Nat → Nat → Nat
  | 0, _, _, _ => a 0 0
  | k + 1, b, T, j => if j = b then plF a k b T else plG a k (b + 1) (plT (a 0 0) T (plF a k b T)) j
/-- lanes taken ahead of beast b -/
def plQ (a : AS) : Nat → Nat
  | 0 => 0
  | b + 1 => plT (a 0 0) (plQ a b) (plF a (a 0 2 - (b + 1)) b (plQ a b))
theorem plF_le (a : AS) (k b T : Nat) : plF a k b T ≤ a 0 0 := by
  unfold plF
  cases h : findN (plP a k b T) (a 0 0) 0 with
  | none => exact Nat.le_refl _
  | some j => have := find_s _ _ _ h; show j ≤ a 0 0; omega
theorem plG_le (a : AS) : ∀ k b T j, plG a k b T j ≤ a 0 0 := by
  intro k
  induction k with
  | zero => intro b T j; exact Nat.le_refl _
  | succ k ih =>
    intro b T j
    show (if j = b then plF a k b T else plG a k (b + 1) (plT (a 0 0) T (plF a k b T)) j) ≤ a 0 0
    split
    · exact plF_le a k b T
    · exact ih _ _ _
theorem plG_eq (a : AS) : ∀ k b j, b + k = a 0 2 → b ≤ j → j < a 0 2 → plG a k b (plQ a b) j = plF a (a 0 2 - (j + 1)) j (plQ a j) := by
  intro k
  induction k with
  | zero => intro b j h1 h2 h3; omega
  | succ k ih =>
    intro b j h1 h2 h3
    show (if j = b then plF a k b (plQ a b) else plG a k (b + 1) (plT (a 0 0) (plQ a b) (plF a k b (plQ a b))) j) = _
    have hk : k = a 0 2 - (b + 1) := by omega
    by_cases q : j = b
    · rw [if_pos q, q, ← hk]
    · rw [if_neg q]
      have := ih (b + 1) j (by omega) (by omega) h3
      rw [← this]
      show _ = plG a k (b + 1) (plT (a 0 0) (plQ a b) (plF a (a 0 2 - (b + 1)) b (plQ a b))) j
      rw [← hk]
theorem plQ_lt (a : AS) : ∀ b, plQ a b < 2 ^ a 0 0 := by
  intro b
  induction b with
  | zero => exact Nat.two_pow_pos _
  | succ b ih =>
    show plT (a 0 0) (plQ a b) (plF a (a 0 2 - (b + 1)) b (plQ a b)) < _
    have := plF_le a (a 0 2 - (b + 1)) b (plQ a b)
    unfold plT
    split
    · exact ih
    · exact Nat.or_lt_two_pow ih (Nat.pow_lt_pow_right (by decide) (by omega))
section BF
variable {a : AS} {wh kd md st wd wh' kd' md' v : Nat → Int32}
theorem plM_b (ok : okA a) : ∀ k b T, b + k ≤ a 0 2 → 0 ≤ plM a k b T ∧ plM a k b T ≤ k * 2 ^ 40 := by
  intro k
  induction k with
  | zero => intro b T _; exact ⟨Int.le_refl _, by show (0 : Int) ≤ _; omega⟩
  | succ k ih =>
    intro b T hb
    have e : ((k + 1 : Nat) : Int) * 2 ^ 40 = (k : Int) * 2 ^ 40 + 2 ^ 40 := by rw [Int.natCast_add, Int.add_mul]; rfl
    have h0 := ih (b + 1) T (by omega)
    show 0 ≤ itN (mxL (fun l => freeB a b l T) (fun l => aW a b l + plM a k (b + 1) (T ||| 2 ^ l))) (a 0 0) 0 (plM a k (b + 1) T) ∧ itN (mxL (fun l => freeB a b l T) (fun l => aW a b l + plM a k (b + 1) (T ||| 2 ^ l))) (a 0 0) 0 (plM a k (b + 1) T) ≤ _
    refine it_inv (P := fun s => 0 ≤ s ∧ s ≤ ((k + 1 : Nat) : Int) * 2 ^ 40) (n := a 0 0) ?_ (a 0 0) 0 _ (by omega) ⟨h0.1, by omega⟩
    intro l s hl hs
    have h1 := ih (b + 1) (T ||| 2 ^ l) (by omega)
    have h2 := aW_b ok (show b < a 0 2 by omega) hl
    unfold mxL
    split
    · split
      · exact hs
      · next q =>
        have q : ¬ (aW a b l + plM a k (b + 1) (T ||| 2 ^ l)) < s := q
        exact ⟨show 0 ≤ aW a b l + plM a k (b + 1) (T ||| 2 ^ l) by omega, show aW a b l + plM a k (b + 1) (T ||| 2 ^ l) ≤ ((k + 1 : Nat) : Int) * 2 ^ 40 by omega⟩
    · exact hs
theorem plM_s (ok : okA a) {k b T : Nat} (h : b + k ≤ a 0 2) : 0 ≤ plM a k b T ∧ plM a k b T < 2 ^ 50 := by
  have h1 := plM_b ok k b T h
  have h2 := ok.1
  have e : (k : Int) * 2 ^ 40 ≤ 5 * 2 ^ 40 := Int.mul_le_mul_of_nonneg_right (by omega) (by decide)
  omega
def rowM (a : AS) (most : Nat → Int64) (b : Nat) : Prop := ∀ T, T < 2 ^ a 0 0 → most (b * 64 + T) = iL (plM a (a 0 2 - b) b T)
theorem p64 (ok : okA a) : 2 ^ a 0 0 ≤ 64 := Nat.pow_le_pow_right (n := 2) (by decide) (show a 0 0 ≤ 6 from ok.1.2.1)
theorem orL {T l : Nat} (hT : T < 2 ^ a 0 0) (hl : l < a 0 0) : T ||| 2 ^ l < 2 ^ a 0 0 := Nat.or_lt_two_pow hT (Nat.pow_lt_pow_right (by decide) hl)
theorem fwC (ok : okA a) (rc : rCl a wh kd md st wd) {j : Nat} (hj : j < a 0 2) (ws : Nat → Int64) : ∃ ws', f_X6_findWorths (nI (a 0 0)) (nI (a 0 1)) wh kd md (nI (a 0 3)) (nI (a 0 4)) st wd ws (nI j) = some ws' ∧ rWs a j ws' := by
  have h1 := ok.1
  unfold f_X6_findWorths
  have := loopN (fun f i s => f_X6_findWorths_L2 (nI (a 0 0)) (nI (a 0 1)) wh kd md (nI (a 0 3)) (nI (a 0 4)) st wd (nI j) f (nI i) s) (a 0 0) (fun i s => vp_updL s i (iL (aW a j i))) (fun i s => ∀ l, l < i → s l = iL (aW a j l)) (fun s => some s) ?_ ?_ (a 0 0) 0 ws fuelN (by omega) (by intro l hl; omega) (fuel_gt (by omega))
  · exact ⟨_, this.1, this.2⟩
  · intro f i s hi hs
    refine ⟨?_, ?_⟩
    · intro l hl
      by_cases q : l = i
      · subst q; exact pk_uLs
      · rw [pk_uLn q]; exact hs l (by omega)
    · show f_X6_findWorths_b2 _ _ _ _ _ _ _ _ _ _ _ _ _ = _
      unfold f_X6_findWorths_b2
      rw [if_neg (nI_ge hi (by omega)), wIC ok rc hj hi, bd1_s, gI (by omega) (by decide), nI_1, nI_clamp (by omega)]
  · intro f s _
    show f_X6_findWorths_b2 _ _ _ _ _ _ _ _ _ _ _ _ _ = _
    unfold f_X6_findWorths_b2
    rw [if_pos (nI_le (Nat.le_refl _) (by omega))]
theorem freeC (ok : okA a) {b l T : Nat} (hb : b < 32) (hl : l < 32) (hT : T < 2 ^ 31) : f_X6_isFree (nI (a 0 3)) (nI b) (nI l) (nI T) = some (if freeB a b l T then 1 else 0) := by
  unfold f_X6_isFree freeB
  rw [isDeadN ok.d hb, bd1_s, bitN hT hl, bit_mod]
  show (if (if aD a b = true then (1 : Int32) else 0) = 0 then _ else _) = _
  cases aD a b
  · rw [selF]
    cases bit T l <;> rfl
  · rw [selT]; rfl
theorem withC (ok : okA a) {b l T : Nat} {ws most : Nat → Int64} (hb : b < a 0 2) (hl : l < a 0 0) (hT : T < 2 ^ a 0 0) (hw : rWs a b ws) (hm : rowM a most (b + 1)) : f_X6_withLane ws most (nI b) (nI l) (nI T) = some (iL (aW a b l + plM a (a 0 2 - (b + 1)) (b + 1) (T ||| 2 ^ l))) := by
  have h1 := ok.1
  have hp := p64 ok
  have ho := orL hT hl
  unfold f_X6_withLane
  rw [gI (by omega) (by decide), nI_1, show (64 : Int32) = nI 64 from rfl, pk_mul, shlN (by omega), nI_or, nI_add, gI (by omega) (by decide), nI_clamp (by omega), nI_clamp (by omega), hw l hl, hm _ ho, iL_add]
theorem mostC (ok : okA a) {b T : Nat} {ws most : Nat → Int64} (hb : b < a 0 2) (hT : T < 2 ^ a 0 0) (hw : rWs a b ws) (hm : rowM a most (b + 1)) : f_X6_mostFrom (nI (a 0 0)) (nI (a 0 3)) ws most (nI b) (nI T) = some (iL (plM a (a 0 2 - b) b T)) := by
  have h1 := ok.1
  have hp := p64 ok
  obtain ⟨k, hk⟩ : ∃ k, a 0 2 - b = k + 1 := ⟨a 0 2 - b - 1, by omega⟩
  have hk1 : a 0 2 - (b + 1) = k := by omega
  have s0 := plM_s (k := k) (b := b + 1) (T := T) ok (by omega)
  unfold f_X6_mostFrom
  rw [nI_1, show (64 : Int32) = nI 64 from rfl, pk_mul, nI_add, gI (by omega) (by decide), nI_clamp (by omega), hm T hT, hk1, hk]
  refine (loopN (fun f l s => f_X6_mostFrom_L17 (nI (a 0 0)) (nI (a 0 3)) ws most (nI b) (nI T) f (iL s) (nI l)) (a 0 0) (mxL (fun l => freeB a b l T) (fun l => aW a b l + plM a k (b + 1) (T ||| 2 ^ l))) (fun _ s => 0 ≤ s ∧ s < 2 ^ 60) (fun s => some (iL s)) ?_ ?_ (a 0 0) 0 (plM a k (b + 1) T) fuelN (by omega) (by omega) (fuel_gt (by omega))).1
  · intro f l s hl hs
    have h2 := aW_b ok hb hl
    have h3 := plM_s (k := k) (b := b + 1) (T := T ||| 2 ^ l) ok (by omega)
    have wc := withC ok hb hl hT hw hm
    rw [hk1] at wc
    refine ⟨?_, ?_⟩
    · unfold mxL
      split
      · split
        · exact hs
        · next q =>
          have q : ¬ (aW a b l + plM a k (b + 1) (T ||| 2 ^ l)) < s := q
          exact ⟨show 0 ≤ aW a b l + plM a k (b + 1) (T ||| 2 ^ l) by omega, show aW a b l + plM a k (b + 1) (T ||| 2 ^ l) < 2 ^ 60 by omega⟩
      · exact hs
    · show f_X6_mostFrom_b17 _ _ _ _ _ _ _ _ _ = _
      unfold f_X6_mostFrom_b17 f_X6_mostFrom_B53
      rw [if_neg (nI_ge hl (by omega)), freeC ok (by omega) (by omega) (by omega), bd1_s, wc, bd1_s, nI_1]
      unfold mxL
      show _ = f_X6_mostFrom_L17 (nI (a 0 0)) (nI (a 0 3)) ws most (nI b) (nI T) f (iL (if freeB a b l T = true then _ else _)) (nI (l + 1))
      cases freeB a b l T
      · rw [selF, if_neg (by decide)]
      · rw [selT, if_pos rfl]
        have e := (iLB (x := aW a b l + plM a k (b + 1) (T ||| 2 ^ l)) (y := s) (by omega) (by omega)).2
        by_cases q : aW a b l + plM a k (b + 1) (T ||| 2 ^ l) < s
        · rw [if_pos (e.mpr q), if_pos q]
        · rw [if_neg (fun h => q (e.mp h)), if_neg q]
  · intro f s _
    show f_X6_mostFrom_b17 _ _ _ _ _ _ _ _ _ = _
    unfold f_X6_mostFrom_b17
    rw [if_pos (nI_le (Nat.le_refl _) (by omega))]
def laneV (L x : Nat) : Int32 := if x = L then -2 else nI x
theorem firstC (ok : okA a) {b T : Nat} {ws most : Nat → Int64} (hb : b < a 0 2) (hT : T < 2 ^ a 0 0) (hw : rWs a b ws) (hm : rowM a most (b + 1)) (hm0 : rowM a most b) : f_X6_firstLaneFor (nI (a 0 0)) (nI (a 0 3)) ws most (nI b) (nI T) = some (laneV (a 0 0) (plF a (a 0 2 - (b + 1)) b T)) := by
  have h1 := ok.1
  have hp := p64 ok
  have hk : a 0 2 - b = a 0 2 - (b + 1) + 1 := by omega
  have m0 := plM_s (k := a 0 2 - b) (b := b) (T := T) ok (by omega)
  unfold f_X6_firstLaneFor plF
  refine (searchN (fun f l => f_X6_firstLaneFor_L2 (nI (a 0 0)) (nI (a 0 3)) ws most (nI b) (nI T) f (nI l)) (a 0 0) (plP a (a 0 2 - (b + 1)) b T) (fun l => some (nI l)) (some (-2)) ?_ ?_ (a 0 0) 0 fuelN (by omega) (fuel_gt (by omega))).trans ?_
  · intro f l hl
    have h2 := aW_b ok hb hl
    have h3 := plM_s (k := a 0 2 - (b + 1)) (b := b + 1) (T := T ||| 2 ^ l) ok (by omega)
    show f_X6_firstLaneFor_b2 _ _ _ _ _ _ _ _ = _
    unfold f_X6_firstLaneFor_b2 f_X6_firstLaneFor_B47 plP
    rw [if_neg (nI_ge hl (by omega)), freeC ok (by omega) (by omega) (by omega), bd1_s, withC ok hb hl hT hw hm, bd1_s, show (64 : Int32) = nI 64 from rfl, pk_mul, nI_add, gI (by omega) (by decide), nI_clamp (by omega), hm0 T hT, nI_1, hk]
    cases freeB a b l T
    · rw [selF]; rfl
    · rw [selT]
      rw [hk] at m0
      have e := iL_eq (a := aW a b l + plM a (a 0 2 - (b + 1)) (b + 1) (T ||| 2 ^ l)) (b := plM a (a 0 2 - (b + 1) + 1) b T) (by omega) (by omega) (by omega) (by omega)
      by_cases q : aW a b l + plM a (a 0 2 - (b + 1)) (b + 1) (T ||| 2 ^ l) = plM a (a 0 2 - (b + 1) + 1) b T
      · rw [if_pos (e.mpr q), decide_eq_true q]; rfl
      · rw [if_neg (fun h => q (e.mp h)), decide_eq_false q]; rfl
  · intro f
    show f_X6_firstLaneFor_b2 _ _ _ _ _ _ _ _ = _
    unfold f_X6_firstLaneFor_b2
    rw [if_pos (nI_le (Nat.le_refl _) (by omega))]
  · cases hf : findN (plP a (a 0 2 - (b + 1)) b T) (a 0 0) 0 with
    | none => show _ = some (laneV (a 0 0) (a 0 0)); unfold laneV; rw [if_pos rfl]
    | some j =>
      have := find_s _ _ _ hf
      show _ = some (laneV (a 0 0) j)
      unfold laneV
      rw [if_neg (by omega)]
theorem laneV_n {L x : Nat} (hx : x < 2 ^ 31) : laneV L x = -2 ↔ x = L := by
  unfold laneV
  by_cases q : x = L
  · rw [if_pos q]; exact ⟨fun _ => q, fun _ => rfl⟩
  · rw [if_neg q]
    refine ⟨fun e => ?_, fun e => absurd e q⟩
    have := nI_pos hx
    rw [e] at this
    exact absurd (show (-2 : Int32) < 0 by decide) this
theorem set100 (ok : okA a) (rc : rCl a wh kd md st wd) {most : Nat → Int64} (hm : ∀ b, b ≤ a 0 2 → rowM a most b) (ws : Nat → Int64) (ln : Nat → Int32) : ∃ ws2 ln2, f_X6_settle_L100 (nI (a 0 0)) (nI (a 0 1)) (nI (a 0 2)) wh kd md (nI (a 0 3)) (nI (a 0 4)) st wd most fuelN 0 0 ws ln = some (ws2, most, ln2) ∧ ∀ j, j < a 0 2 → ln2 j = laneV (a 0 0) (plF a (a 0 2 - (j + 1)) j (plQ a j)) := by
  have h1 := ok.1
  have hp := p64 ok
  refine loopR (fun f b (s : Int32 × (Nat → Int64) × (Nat → Int32)) => f_X6_settle_L100 (nI (a 0 0)) (nI (a 0 1)) (nI (a 0 2)) wh kd md (nI (a 0 3)) (nI (a 0 4)) st wd most f s.1 (nI b) s.2.1 s.2.2) (a 0 2) (fun b s => s.1 = nI (plQ a b) ∧ ∀ j, j < b → s.2.2 j = laneV (a 0 0) (plF a (a 0 2 - (j + 1)) j (plQ a j))) (fun o => ∃ ws2 ln2, o = some (ws2, most, ln2) ∧ ∀ j, j < a 0 2 → ln2 j = laneV (a 0 0) (plF a (a 0 2 - (j + 1)) j (plQ a j))) ?_ ?_ (a 0 2) 0 (0, ws, ln) fuelN (by omega) ⟨rfl, by intro j hj; omega⟩ (fuel_gt (by omega))
  · intro f b s hb hs
    obtain ⟨x, ws, ln⟩ := s
    obtain ⟨hx, hln⟩ := hs
    have hx : x = nI (plQ a b) := hx
    have hln : ∀ j, j < b → ln j = laneV (a 0 0) (plF a (a 0 2 - (j + 1)) j (plQ a j)) := hln
    subst hx
    obtain ⟨ws', ew, hw⟩ := fwC ok rc hb ws
    have hq := plQ_lt a b
    have hfl := plF_le a (a 0 2 - (b + 1)) b (plQ a b)
    have fc := firstC ok hb hq hw (hm (b + 1) (by omega)) (hm b (by omega))
    have en := laneV_n (L := a 0 0) (x := plF a (a 0 2 - (b + 1)) b (plQ a b)) (by omega)
    have up : ∀ j, j < b + 1 → upd ln b (laneV (a 0 0) (plF a (a 0 2 - (b + 1)) b (plQ a b))) j = laneV (a 0 0) (plF a (a 0 2 - (j + 1)) j (plQ a j)) := by
      intro j hj
      by_cases q : j = b
      · subst q; exact pk_us
      · rw [pk_un q]; exact hln j (by omega)
    show ∃ s' : Int32 × (Nat → Int64) × (Nat → Int32), _ ∧ f_X6_settle_b100 (nI (a 0 0)) (nI (a 0 1)) (nI (a 0 2)) wh kd md (nI (a 0 3)) (nI (a 0 4)) st wd most (f_X6_settle_L100 (nI (a 0 0)) (nI (a 0 1)) (nI (a 0 2)) wh kd md (nI (a 0 3)) (nI (a 0 4)) st wd most f) (nI (plQ a b)) (nI b) ws ln = _
    unfold f_X6_settle_b100 f_X6_settle_B152
    rw [if_neg (nI_ge hb (by omega)), ew, bd1_s, fc, bd1_s, gI (by omega) (by decide), gI (by omega) (by decide), gI (by omega) (by decide), nI_clamp (by omega), pk_us, nI_1]
    refine ⟨(nI (plQ a (b + 1)), ws', upd ln b (laneV (a 0 0) (plF a (a 0 2 - (b + 1)) b (plQ a b)))), ⟨rfl, up⟩, ?_⟩
    show _ = f_X6_settle_L100 (nI (a 0 0)) (nI (a 0 1)) (nI (a 0 2)) wh kd md (nI (a 0 3)) (nI (a 0 4)) st wd most f (nI (plT (a 0 0) (plQ a b) (plF a (a 0 2 - (b + 1)) b (plQ a b)))) (nI (b + 1)) ws' (upd ln b (laneV (a 0 0) (plF a (a 0 2 - (b + 1)) b (plQ a b))))
    unfold plT
    by_cases q : plF a (a 0 2 - (b + 1)) b (plQ a b) = a 0 0
    · rw [if_pos (en.mpr q), if_pos q, show (0 : Int32) = nI 0 from rfl, nI_or, Nat.or_zero]
    · rw [if_neg (fun e => q (en.mp e)), if_neg q]
      have e2 : laneV (a 0 0) (plF a (a 0 2 - (b + 1)) b (plQ a b)) = nI (plF a (a 0 2 - (b + 1)) b (plQ a b)) := by unfold laneV; rw [if_neg q]
      rw [show (1 : Int32) <<< (laneV (a 0 0) (plF a (a 0 2 - (b + 1)) b (plQ a b)) &&& 31) = nI (2 ^ plF a (a 0 2 - (b + 1)) b (plQ a b)) by rw [e2]; exact shlN (by omega), nI_or]
  · intro f s hs
    obtain ⟨x, ws, ln⟩ := s
    refine ⟨ws, ln, ?_, hs.2⟩
    show f_X6_settle_b100 _ _ _ _ _ _ _ _ _ _ _ _ _ _ _ _ = _
    unfold f_X6_settle_b100
    rw [if_pos (nI_le (Nat.le_refl _) (by omega))]
theorem set51 (ok : okA a) (rc : rCl a wh kd md st wd) (ln : Nat → Int32) : ∀ b f ws most, b ≤ a 0 2 → (∀ b', b ≤ b' → b' ≤ a 0 2 → rowM a most b') → b < f → ∃ ws2 most2, (∀ b', b' ≤ a 0 2 → rowM a most2 b') ∧ f_X6_settle_L51 (nI (a 0 0)) (nI (a 0 1)) (nI (a 0 2)) wh kd md (nI (a 0 3)) (nI (a 0 4)) st wd (nI (2 ^ a 0 0)) ln f (nI b + (-1)) ws most = f_X6_settle_B96 (nI (a 0 0)) (nI (a 0 1)) (nI (a 0 2)) wh kd md (nI (a 0 3)) (nI (a 0 4)) st wd ws2 most2 ln := by
  have h1 := ok.1
  have hp := p64 ok
  intro b
  induction b with
  | zero =>
    intro f ws most _ hm hf
    obtain ⟨f, rfl⟩ : ∃ g, f = g + 1 := ⟨f - 1, by omega⟩
    refine ⟨ws, most, fun b' h => hm b' (Nat.zero_le _) h, ?_⟩
    show f_X6_settle_b51 _ _ _ _ _ _ _ _ _ _ _ _ _ _ _ _ = _
    unfold f_X6_settle_b51
    rw [if_pos (show nI 0 + (-1) < 0 by decide)]
  | succ b ih =>
    intro f ws most hb hm hf
    obtain ⟨f, rfl⟩ : ∃ g, f = g + 1 := ⟨f - 1, by omega⟩
    obtain ⟨ws', ew, hw⟩ := fwC ok rc (show b < a 0 2 by omega) ws
    rw [pk_m1]
    show ∃ ws2 most2, _ ∧ f_X6_settle_b51 (nI (a 0 0)) (nI (a 0 1)) (nI (a 0 2)) wh kd md (nI (a 0 3)) (nI (a 0 4)) st wd (nI (2 ^ a 0 0)) ln (f_X6_settle_L51 (nI (a 0 0)) (nI (a 0 1)) (nI (a 0 2)) wh kd md (nI (a 0 3)) (nI (a 0 4)) st wd (nI (2 ^ a 0 0)) ln f) (nI b) ws most = _
    unfold f_X6_settle_b51
    rw [if_neg (nI_pos (by omega)), ew, bd1_s]
    refine loopR (fun f' T s => f_X6_settle_L62 (f_X6_settle_L51 (nI (a 0 0)) (nI (a 0 1)) (nI (a 0 2)) wh kd md (nI (a 0 3)) (nI (a 0 4)) st wd (nI (2 ^ a 0 0)) ln f) (nI (a 0 0)) (nI (a 0 1)) (nI (a 0 2)) wh kd md (nI (a 0 3)) (nI (a 0 4)) st wd (nI (2 ^ a 0 0)) (nI b) ws' ln f' (nI T) s) (2 ^ a 0 0) (fun T s => (∀ b', b + 1 ≤ b' → b' ≤ a 0 2 → rowM a s b') ∧ ∀ T', T' < T → s (b * 64 + T') = iL (plM a (a 0 2 - b) b T')) (fun o => ∃ ws2 most2, (∀ b', b' ≤ a 0 2 → rowM a most2 b') ∧ o = f_X6_settle_B96 (nI (a 0 0)) (nI (a 0 1)) (nI (a 0 2)) wh kd md (nI (a 0 3)) (nI (a 0 4)) st wd ws2 most2 ln) ?_ ?_ (2 ^ a 0 0) 0 most fuelN (by omega) ⟨fun b' h1 h2 => hm b' h1 h2, by intro j hj; omega⟩ (fuel_gt (by omega))
    · intro f' T s hT hs
      refine ⟨vp_updL s (b * 64 + T) (iL (plM a (a 0 2 - b) b T)), ⟨?_, ?_⟩, ?_⟩
      · intro b' g1 g2 T' hT'
        rw [pk_uLn (by omega)]
        exact hs.1 b' g1 g2 T' hT'
      · intro T' hT'
        by_cases q : T' = T
        · subst q; exact pk_uLs
        · rw [pk_uLn (by omega)]; exact hs.2 T' (by omega)
      · show f_X6_settle_b62 _ _ _ _ _ _ _ _ _ _ _ _ _ _ _ _ _ _ = _
        unfold f_X6_settle_b62
        rw [if_neg (nI_ge hT (by omega)), mostC ok (by omega) hT hw (hs.1 (b + 1) (Nat.le_refl _) (by omega)), bd1_s, show (64 : Int32) = nI 64 from rfl, pk_mul, nI_add, gI (by omega) (by decide), nI_clamp (by omega), nI_1]
    · intro f' s hs
      obtain ⟨ws2, most2, hm2, e⟩ := ih f ws' s (by omega) (by
        intro b' g1 g2
        by_cases q : b' = b
        · subst q; exact hs.2
        · exact hs.1 b' (by omega) g2) (by omega)
      refine ⟨ws2, most2, hm2, ?_⟩
      rw [← e]
      show f_X6_settle_b62 _ _ _ _ _ _ _ _ _ _ _ _ _ _ _ _ _ _ = _
      unfold f_X6_settle_b62 f_X6_settle_B90
      rw [if_pos (nI_le (Nat.le_refl _) (by omega))]
theorem settleC (ok : okA a) (rc : rCl a wh kd md st wd) (ws most : Nat → Int64) (ln : Nat → Int32) : ∃ ws2 most2 ln2, f_X6_settle (nI (a 0 0)) (nI (a 0 1)) (nI (a 0 2)) wh kd md (nI (a 0 3)) (nI (a 0 4)) st wd ws most ln = some (ws2, most2, ln2) ∧ most2 0 = iL (plM a (a 0 2) 0 0) ∧ ∀ j, j < a 0 2 → ln2 j = laneV (a 0 0) (plF a (a 0 2 - (j + 1)) j (plQ a j)) := by
  have h1 := ok.1
  have hp := p64 ok
  unfold f_X6_settle
  rw [shlN (by omega)]
  refine loopR (fun f T s => f_X6_settle_L12 (nI (a 0 0)) (nI (a 0 1)) (nI (a 0 2)) wh kd md (nI (a 0 3)) (nI (a 0 4)) st wd (nI (2 ^ a 0 0)) ws ln f (nI T) s) (2 ^ a 0 0) (fun T s => ∀ T', T' < T → s (a 0 2 * 64 + T') = iL 0) (fun o => ∃ ws2 most2 ln2, o = some (ws2, most2, ln2) ∧ most2 0 = iL (plM a (a 0 2) 0 0) ∧ ∀ j, j < a 0 2 → ln2 j = laneV (a 0 0) (plF a (a 0 2 - (j + 1)) j (plQ a j))) ?_ ?_ (2 ^ a 0 0) 0 most fuelN (by omega) (by intro j hj; omega) (fuel_gt (by omega))
  · intro f T s hT hs
    refine ⟨vp_updL s (a 0 2 * 64 + T) 0, ?_, ?_⟩
    · intro T' hT'
      by_cases q : T' = T
      · subst q; exact pk_uLs
      · rw [pk_uLn (by omega)]; exact hs T' (by omega)
    · show f_X6_settle_b12 _ _ _ _ _ _ _ _ _ _ _ _ _ _ _ _ = _
      unfold f_X6_settle_b12
      rw [if_neg (nI_ge hT (by omega)), show (64 : Int32) = nI 64 from rfl, pk_mul, nI_add, gI (by omega) (by decide), nI_clamp (by omega), nI_1]
  · intro f s hs
    obtain ⟨n, hn⟩ : ∃ n, a 0 2 = n + 1 := ⟨a 0 2 - 1, by omega⟩
    have em : nI (a 0 2) - 1 = nI (a 0 2) + (-1) := by rw [hn, nI_pred, pk_m1]
    obtain ⟨ws2, most2, hm2, e⟩ := set51 ok rc ln (a 0 2) fuelN ws s (Nat.le_refl _) (by
      intro b' g1 g2
      have : b' = a 0 2 := by omega
      subst this
      intro T' hT'
      rw [hs T' hT', Nat.sub_self]
      rfl) (fuel_gt (by omega))
    obtain ⟨ws3, ln3, e3, h3⟩ := set100 ok rc hm2 ws2 ln
    refine ⟨ws3, most2, ln3, ?_, ?_, h3⟩
    · rw [← e3]
      show f_X6_settle_b12 _ _ _ _ _ _ _ _ _ _ _ _ _ _ _ _ = _
      unfold f_X6_settle_b12 f_X6_settle_B41
      rw [if_pos (nI_le (Nat.le_refl _) (by omega)), em, e]
      unfold f_X6_settle_B96
      rfl
    · have := hm2 0 (Nat.zero_le _) 0 (Nat.two_pow_pos _)
      rw [Nat.zero_mul, Nat.zero_add, Nat.sub_zero] at this
      exact this
end BF
