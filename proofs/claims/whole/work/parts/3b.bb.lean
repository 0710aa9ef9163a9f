/-! BB: trumpets: fits, could, surely, ask -/
theorem loopR {S T : Type} (L : Nat → Nat → S → Option T) (n : Nat) (I : Nat → S → Prop) (P : Option T → Prop) (hs : ∀ f i s, i < n → I i s → ∃ s', I (i + 1) s' ∧ L (f + 1) i s = L f (i + 1) s') (he : ∀ f s, I n s → P (L (f + 1) n s)) : ∀ k i s f, i + k = n → I i s → k < f → P (L f i s) := by
  intro k
  induction k with
  | zero =>
    intro i s f hi hI hf
    obtain ⟨f, rfl⟩ : ∃ g, f = g + 1 := ⟨f - 1, by omega⟩
    have : i = n := by omega
    subst this
    exact he f s hI
  | succ k ih =>
    intro i s f hi hI hf
    obtain ⟨f, rfl⟩ : ∃ g, f = g + 1 := ⟨f - 1, by omega⟩
    obtain ⟨s', h1, h2⟩ := hs f i s (by omega) hI
    rw [h2]
    exact ih (i + 1) s' f (by omega) h1 (by omega)
theorem it_snoc {S : Type} (step : Nat → S → S) : ∀ k i s, itN step (k + 1) i s = step (i + k) (itN step k i s) := by
  intro k
  induction k with
  | zero => intro i s; rfl
  | succ k ih =>
    intro i s
    show itN step (k + 1) (i + 1) (step i s) = _
    rw [ih (i + 1) (step i s)]
    show _ = step (i + (k + 1)) (itN step k (i + 1) (step i s))
    rw [show i + 1 + k = i + (k + 1) by omega]
theorem bd4_s {α A B C D : Type} (x : A) (y : B) (z : C) (w : D) (k : A → B → C → D → Option α) : bd4 (some (x, y, z, w)) k = k x y z w := rfl
theorem bd5_s {α A B C D E : Type} (x : A) (y : B) (z : C) (w : D) (u : E) (k : A → B → C → D → E → Option α) : bd5 (some (x, y, z, w, u)) k = k x y z w u := rfl
theorem bit_tb (d j : Nat) : bit d j = d.testBit j := by
  unfold bit
  rw [Nat.testBit_eq_decide_div_mod_eq]
  by_cases q : d / 2 ^ j % 2 = 1
  · rw [q]; rfl
  · rw [decide_eq_false q]
    exact beq_eq_false_iff_ne.mpr q
theorem bit_or (x y j : Nat) : bit (x ||| y) j = (bit x j || bit y j) := by rw [bit_tb, bit_tb, bit_tb, Nat.testBit_or]
theorem bit_and (x y j : Nat) : bit (x &&& y) j = (bit x j && bit y j) := by rw [bit_tb, bit_tb, bit_tb, Nat.testBit_and]
theorem bit_hi {x n j : Nat} (h : x < 2 ^ n) (hj : n ≤ j) : bit x j = false := by
  rw [bit_tb]
  exact Nat.testBit_lt_two_pow (Nat.lt_of_lt_of_le h (Nat.pow_le_pow_right (by decide) hj))
theorem bit_ext {x y : Nat} (h : ∀ j, bit x j = bit y j) : x = y := by
  apply Nat.eq_of_testBit_eq
  intro j
  rw [← bit_tb, ← bit_tb]
  exact h j
theorem bit_pow (n j : Nat) : bit (2 ^ n) j = decide (n = j) := by rw [bit_tb, Nat.testBit_two_pow]
theorem bit_0 (j : Nat) : bit 0 j = false := by rw [bit_tb, Nat.zero_testBit]
theorem bit_full {n j : Nat} (h : j < n) : bit (2 ^ n - 1) j = true := by rw [bit_tb, Nat.testBit_two_pow_sub_one, decide_eq_true h]
theorem bit_mod (x j : Nat) : x / 2 ^ j % 2 = if bit x j then 1 else 0 := by
  unfold bit
  rcases Nat.mod_two_eq_zero_or_one (x / 2 ^ j) with h | h <;> rw [h] <;> rfl
def orS (p : Nat → Bool) (b s : Nat) : Nat := s ||| (if p b then 2 ^ b else 0)
theorem or_bits (p : Nat → Bool) : ∀ k j, bit (itN (orS p) k 0 0) j = (decide (j < k) && p j) := by
  intro k
  induction k with
  | zero => intro j; unfold itN; rw [bit_0]; rfl
  | succ k ih =>
    intro j
    rw [it_snoc, Nat.zero_add]
    unfold orS
    rw [bit_or]
    unfold orS at ih
    rw [ih j]
    by_cases q : j = k
    · subst q
      rw [decide_eq_false (Nat.lt_irrefl j), decide_eq_true (Nat.lt_succ_self j)]
      cases p j
      · simp [bit_0]
      · simp [bit_pow]
    · have e : decide (j < k + 1) = decide (j < k) := by
        by_cases h : j < k
        · rw [decide_eq_true h, decide_eq_true (by omega)]
        · rw [decide_eq_false h, decide_eq_false (by omega)]
      rw [e]
      cases p k
      · simp [bit_0]
      · simp [bit_pow, Ne.symm q]
theorem or_eq {p : Nat → Bool} {n N : Nat} (hN : N < 2 ^ n) (h : ∀ b, b < n → bit N b = p b) : itN (orS p) n 0 0 = N := by
  apply bit_ext
  intro j
  rw [or_bits]
  by_cases q : j < n
  · rw [decide_eq_true q, h j q]; rfl
  · rw [decide_eq_false q, bit_hi hN (by omega)]; rfl
section BB
variable {a : AS} {wh kd md st wd at' wh' kd' md' v : Nat → Int32}
def tsS (a : AS) (x j : Nat) (s : Int32) : Int32 := s ||| (if bit x j then turnN a j else 0)
def tsN (a : AS) (x : Nat) : Int32 := itN (tsS a x) (a 0 2) 0 0
def fitB (a : AS) (tu : Int32) (x : Nat) : Bool := decide (x &&& a 0 3 = 0) && decide (tsN a x = tu)
def trS (a : AS) (tu : Int32) (x : Nat) (s : Nat × (Nat → Nat)) : Nat × (Nat → Nat) := if fitB a tu x then (s.1 + 1, fun b => s.2 b + x / 2 ^ b % 2) else s
def trN (a : AS) (tu : Int32) (i : Nat) : Nat × (Nat → Nat) := itN (trS a tu) (i - 1) 1 (0, fun _ => 0)
theorem trN_s (a : AS) (tu : Int32) {i : Nat} (hi : 1 ≤ i) : trN a tu (i + 1) = trS a tu i (trN a tu i) := by
  unfold trN
  rw [show i + 1 - 1 = (i - 1) + 1 by omega, it_snoc, show 1 + (i - 1) = i by omega]
theorem trN_b (a : AS) (tu : Int32) : ∀ i, 1 ≤ i → (trN a tu i).1 < i ∧ ∀ b, (trN a tu i).2 b ≤ (trN a tu i).1 := by
  intro i hi
  induction i with
  | zero => omega
  | succ i ih =>
    by_cases q : i = 0
    · subst q; exact ⟨by show (0 : Nat) < 1; omega, fun b => Nat.le_refl 0⟩
    · have := ih (by omega)
      rw [trN_s a tu (by omega)]
      unfold trS
      split
      · refine ⟨by show (trN a tu i).1 + 1 < i + 1; omega, fun b => ?_⟩
        have h := this.2 b
        have : i / 2 ^ b % 2 < 2 := Nat.mod_lt _ (by decide)
        show (trN a tu i).2 b + i / 2 ^ b % 2 ≤ (trN a tu i).1 + 1
        omega
      · exact ⟨by omega, this.2⟩
/-- all sets are tried -/
abbrev trF (a : AS) (tu : Int32) : Nat × (Nat → Nat) := trN a tu (2 ^ a 0 2)
theorem tsC (ok : okA a) {tt : Nat → Int32} (ht : ∀ b, b < a 0 2 → tt b = turnN a b) {x : Nat} (hx : x < 2 ^ 31) : f_X10_turnBySet (nI (a 0 2)) tt (nI x) = some (tsN a x) := by
  have h1 := ok.1
  unfold f_X10_turnBySet
  refine (loopN (fun f i s => f_X10_turnBySet_L4 (nI (a 0 2)) tt (nI x) f s (nI i)) (a 0 2) (tsS a x) (fun _ _ => True) (fun s => some s) ?_ ?_ (a 0 2) 0 0 fuelN (by omega) trivial (fuel_gt (by omega))).1
  · intro f i s hi _
    refine ⟨trivial, ?_⟩
    show f_X10_turnBySet_b4 _ _ _ _ _ _ = _
    unfold f_X10_turnBySet_b4 f_X10_turnBySet_B35 tsS
    rw [if_neg (nI_ge hi (by omega)), bitN hx (by omega), bit_mod, gI (by omega) (by decide), nI_1, nI_clamp (by omega), ht i hi]
    cases bit x i <;> rfl
  · intro f s _
    show f_X10_turnBySet_b4 _ _ _ _ _ _ = _
    unfold f_X10_turnBySet_b4
    rw [if_pos (nI_le (Nat.le_refl _) (by omega))]
theorem countC (ok : okA a) {c : Nat → Nat} {w : Nat → Int32} (hw : ∀ b, b < a 0 2 → w b = nI (c b)) {x : Nat} (hx : x < 2 ^ 31) (n N A : Int32) : ∃ w', f_X10_count (nI (a 0 2)) n N A w (nI x) = some (n + 1, N ||| nI x, A &&& nI x, w') ∧ ∀ b, b < a 0 2 → w' b = nI (c b + x / 2 ^ b % 2) := by
  have h1 := ok.1
  unfold f_X10_count
  refine loopR (fun f i s => f_X10_count_L32 (nI (a 0 2)) (nI x) (n + 1) (N ||| nI x) (A &&& nI x) f (nI i) s) (a 0 2) (fun i s => (∀ b, b < i → s b = nI (c b + x / 2 ^ b % 2)) ∧ ∀ b, i ≤ b → b < a 0 2 → s b = nI (c b)) (fun o => ∃ w', o = some (n + 1, N ||| nI x, A &&& nI x, w') ∧ ∀ b, b < a 0 2 → w' b = nI (c b + x / 2 ^ b % 2)) ?_ ?_ (a 0 2) 0 w fuelN (by omega) ⟨by intro b hb; omega, fun b _ hb => hw b hb⟩ (fuel_gt (by omega))
  · intro f i s hi hs
    refine ⟨upd s i (nI (c i + x / 2 ^ i % 2)), ⟨?_, ?_⟩, ?_⟩
    · intro b hb
      by_cases q : b = i
      · subst q; exact pk_us
      · rw [pk_un q]; exact hs.1 b (by omega)
    · intro b hb hb2
      rw [pk_un (by omega)]; exact hs.2 b (by omega) hb2
    · show f_X10_count_b32 _ _ _ _ _ _ _ _ = _
      unfold f_X10_count_b32
      rw [if_neg (nI_ge hi (by omega)), gI (by omega) (by decide), gI (by omega) (by decide), nI_1, nI_clamp (by omega), hs.2 i (Nat.le_refl _) hi, bitN hx (by omega), nI_add]
  · intro f s hs
    refine ⟨s, ?_, hs.1⟩
    show f_X10_count_b32 _ _ _ _ _ _ _ _ = _
    unfold f_X10_count_b32
    rw [if_pos (nI_le (Nat.le_refl _) (by omega))]
/-- what the search for sets leaves -/
def trI (a : AS) (tu : Int32) (i : Nat) (n N A : Int32) (w : Nat → Int32) : Prop := n = nI (trN a tu i).1 ∧ (∀ b, b < a 0 2 → w b = nI ((trN a tu i).2 b)) ∧ (∃ x, x < 2 ^ a 0 2 ∧ N = nI x ∧ ∀ b, b < a 0 2 → bit x b = decide (0 < (trN a tu i).2 b)) ∧ ∃ x, x < 2 ^ a 0 2 ∧ A = nI x ∧ ∀ b, b < a 0 2 → bit x b = decide ((trN a tu i).2 b = (trN a tu i).1)
theorem findC (ok : okA a) (rk : rI (a 0 2) kd (a 1)) (rmo : rI (a 0 2) md (a 2)) (ra : rI (a 0 2) at' (a 5)) (tu s1 s2 s3 : Int32) (t0 w0 : Nat → Int32) : ∃ N A tt w, f_X10_findSets (nI (a 0 2)) tu kd md (nI (a 0 3)) (nI (a 0 4)) at' s1 s2 s3 t0 w0 = some (nI (trF a tu).1, N, (if nI (trF a tu).1 = 0 then 0 else A), tt, w) ∧ trI a tu (2 ^ a 0 2) (nI (trF a tu).1) N A w := by
  have h1 := ok.1
  have hp := pow32 ok
  have hp1 : 1 ≤ 2 ^ a 0 2 := Nat.one_le_two_pow
  have step2 : ∀ (tt : Nat → Int32), (∀ b, b < a 0 2 → tt b = turnN a b) → ∀ w, (∀ b, b < a 0 2 → w b = nI 0) → ∃ N A w', f_X10_findSets_L64 (nI (a 0 2)) tu kd md (nI (a 0 3)) (nI (a 0 4)) at' tt fuelN 1 0 0 (((1 : Int32) <<< (nI (a 0 2) &&& 31)) - 1) w = some (nI (trF a tu).1, N, (if nI (trF a tu).1 = 0 then 0 else A), tt, w') ∧ trI a tu (2 ^ a 0 2) (nI (trF a tu).1) N A w' := by
    intro tt ht w hw
    refine loopR (fun f i (s : Int32 × Int32 × Int32 × (Nat → Int32)) => f_X10_findSets_L64 (nI (a 0 2)) tu kd md (nI (a 0 3)) (nI (a 0 4)) at' tt f (nI i) s.1 s.2.1 s.2.2.1 s.2.2.2) (2 ^ a 0 2) (fun i s => 1 ≤ i ∧ trI a tu i s.1 s.2.1 s.2.2.1 s.2.2.2) (fun o => ∃ N A w', o = some (nI (trF a tu).1, N, (if nI (trF a tu).1 = 0 then 0 else A), tt, w') ∧ trI a tu (2 ^ a 0 2) (nI (trF a tu).1) N A w') ?_ ?_ (2 ^ a 0 2 - 1) 1 (0, 0, (((1 : Int32) <<< (nI (a 0 2) &&& 31)) - 1), w) fuelN (by omega) ?_ (fuel_gt (by omega))
    · intro f i s hi hs
      obtain ⟨n, N, A, w⟩ := s
      obtain ⟨hi1, en, ew, ⟨x, hx, eN, bN⟩, ⟨y, hy, eA, bA⟩⟩ := hs
      have tb := trN_b a tu i hi1
      show ∃ s' : Int32 × Int32 × Int32 × (Nat → Int32), _ ∧ f_X10_findSets_b64 (nI (a 0 2)) tu kd md (nI (a 0 3)) (nI (a 0 4)) at' tt (f_X10_findSets_L64 (nI (a 0 2)) tu kd md (nI (a 0 3)) (nI (a 0 4)) at' tt f) (nI i) n N A w = _
      unfold f_X10_findSets_b64 f_X10_findSets_B109
      rw [shlN (by omega), if_neg (nI_ge hi (by omega)), tsC ok ht (by omega), bd1_s, nI_1]
      have ha : nI i &&& nI (a 0 3) = 0 ↔ i &&& a 0 3 = 0 := andI (by omega)
      have same : fitB a tu i = false → trN a tu (i + 1) = trN a tu i := by
        intro h
        rw [trN_s a tu hi1]; unfold trS; rw [h]; rfl
      have stay : fitB a tu i = false → trI a tu (i + 1) n N A w := by
        intro h
        unfold trI
        rw [same h]
        exact ⟨en, ew, ⟨x, hx, eN, bN⟩, ⟨y, hy, eA, bA⟩⟩
      by_cases q : i &&& a 0 3 = 0
      · rw [if_pos (ha.mpr q)]
        by_cases q2 : tsN a i = tu
        · obtain ⟨w', ec, hw'⟩ := countC ok (c := (trN a tu i).2) ew (x := i) (by omega) n N A
          rw [if_pos q2, ec, bd4_s]
          have hf : fitB a tu i = true := by unfold fitB; rw [decide_eq_true q, decide_eq_true q2]; rfl
          have e1 : trN a tu (i + 1) = ((trN a tu i).1 + 1, fun b => (trN a tu i).2 b + i / 2 ^ b % 2) := by
            rw [trN_s a tu hi1]; unfold trS; rw [hf]; rfl
          refine ⟨(n + 1, N ||| nI i, A &&& nI i, w'), ⟨by omega, ?_⟩, rfl⟩
          unfold trI
          rw [e1]
          refine ⟨by show n + 1 = _; rw [show n = nI (trN a tu i).1 from en, nI_1], hw', ⟨x ||| i, Nat.or_lt_two_pow hx hi, by show N ||| nI i = _; rw [show N = nI x from eN, nI_or], ?_⟩, ⟨y &&& i, Nat.lt_of_le_of_lt Nat.and_le_left hy, by show A &&& nI i = _; rw [show A = nI y from eA, nI_and], ?_⟩⟩
          · intro b hb
            rw [bit_or, bN b hb]
            show _ = decide (0 < (trN a tu i).2 b + i / 2 ^ b % 2)
            rw [bit_mod]
            cases bit i b
            · simp
            · simp
          · intro b hb
            rw [bit_and, bA b hb]
            show _ = decide ((trN a tu i).2 b + i / 2 ^ b % 2 = (trN a tu i).1 + 1)
            have h3 := tb.2 b
            rw [bit_mod]
            cases bit i b
            · rw [Bool.and_false]
              symm
              apply decide_eq_false
              simp only [Bool.false_eq_true, if_false]
              omega
            · rw [Bool.and_true]
              simp
        · rw [if_neg q2]
          have hf : fitB a tu i = false := by unfold fitB; rw [decide_eq_false q2, Bool.and_false]
          exact ⟨(n, N, A, w), ⟨by omega, stay hf⟩, rfl⟩
      · rw [if_neg (fun e => q (ha.mp e))]
        have hf : fitB a tu i = false := by unfold fitB; rw [decide_eq_false q, Bool.false_and]
        exact ⟨(n, N, A, w), ⟨by omega, stay hf⟩, rfl⟩
    · intro f s hs
      obtain ⟨n, N, A, w⟩ := s
      obtain ⟨_, hI⟩ := hs
      have en : n = nI (trF a tu).1 := hI.1
      subst en
      refine ⟨N, A, w, ?_, hI⟩
      show f_X10_findSets_b64 (nI (a 0 2)) tu kd md (nI (a 0 3)) (nI (a 0 4)) at' tt (f_X10_findSets_L64 (nI (a 0 2)) tu kd md (nI (a 0 3)) (nI (a 0 4)) at' tt f) (nI (2 ^ a 0 2)) (nI (trF a tu).1) N A w = _
      unfold f_X10_findSets_b64 f_X10_findSets_B115 f_X10_findSets_B131
      rw [shlN (by omega), if_pos (nI_le (Nat.le_refl _) (by omega))]
      by_cases q : nI (trF a tu).1 = 0
      · rw [if_pos q, if_pos q]
      · rw [if_neg q, if_neg q]
    · refine ⟨Nat.le_refl _, rfl, hw, ⟨0, by omega, rfl, fun b _ => by rw [bit_0]; rfl⟩, ⟨2 ^ a 0 2 - 1, by omega, ?_, fun b hb => by rw [bit_full hb]; rfl⟩⟩
      show ((1 : Int32) <<< (nI (a 0 2) &&& 31)) - 1 = _
      rw [shlN (by omega), show (1 : Int32) = nI 1 from rfl, pk_sub hp1]
  unfold f_X10_findSets
  refine loopR (fun f i (s : (Nat → Int32) × (Nat → Int32)) => f_X10_findSets_L27 (nI (a 0 2)) tu kd md (nI (a 0 3)) (nI (a 0 4)) at' 0 0 (((1 : Int32) <<< (nI (a 0 2) &&& 31)) - 1) f (nI i) s.1 s.2) (a 0 2) (fun i s => (∀ b, b < i → s.1 b = turnN a b) ∧ ∀ b, b < i → s.2 b = nI 0) (fun o => ∃ N A tt w, o = some (nI (trF a tu).1, N, (if nI (trF a tu).1 = 0 then 0 else A), tt, w) ∧ trI a tu (2 ^ a 0 2) (nI (trF a tu).1) N A w) ?_ ?_ (a 0 2) 0 (t0, w0) fuelN (by omega) ⟨by intro b hb; omega, by intro b hb; omega⟩ (fuel_gt (by omega))
  · intro f i s hi hs
    refine ⟨(upd s.1 i (turnN a i), upd s.2 i 0), ⟨?_, ?_⟩, ?_⟩
    · intro b hb
      by_cases q : b = i
      · subst q; exact pk_us
      · show upd s.1 i (turnN a i) b = _
        rw [pk_un q]; exact hs.1 b (by omega)
    · intro b hb
      by_cases q : b = i
      · subst q; exact pk_us
      · show upd s.2 i 0 b = _
        rw [pk_un q]; exact hs.2 b (by omega)
    · show f_X10_findSets_b27 _ _ _ _ _ _ _ _ _ _ _ _ _ _ = _
      unfold f_X10_findSets_b27
      rw [if_neg (nI_ge hi (by omega)), turnByC ok rk rmo ra hi, bd1_s, gI (by omega) (by decide), gI (by omega) (by decide), nI_1, nI_clamp (by omega)]
  · intro f s hs
    obtain ⟨N, A, w, e, hI⟩ := step2 s.1 hs.1 s.2 hs.2
    refine ⟨N, A, s.1, w, ?_, hI⟩
    show f_X10_findSets_b27 _ _ _ _ _ _ _ _ _ _ _ _ _ _ = _
    unfold f_X10_findSets_b27 f_X10_findSets_B62
    rw [if_pos (nI_le (Nat.le_refl _) (by omega))]
    exact e
theorem trumM (ok : okA a) (rm : rMo a wh' kd' md' v) (tu s0 : Int32) (g0 : Nat → Int32) : ∃ g, f_X13_trumpets s0 v g0 (nI (a 0 2)) tu kd' md' = some (nI (trF a tu).1, g) ∧ ∀ b, b < a 0 2 → g b = nI ((trF a tu).2 b) := by
  have h1 := ok.1
  have hp := pow32 ok
  have hp1 : 1 ≤ 2 ^ a 0 2 := Nat.one_le_two_pow
  have step2 : ∀ g, (∀ b, b < a 0 2 → g b = nI 0) → ∃ g', f_X13_trumpets_L27 v (nI (a 0 2)) tu kd' md' fuelN 1 0 g = some (nI (trF a tu).1, g') ∧ ∀ b, b < a 0 2 → g' b = nI ((trF a tu).2 b) := by
    intro g hg
    refine loopR (fun f i (s : Int32 × (Nat → Int32)) => f_X13_trumpets_L27 v (nI (a 0 2)) tu kd' md' f (nI i) s.1 s.2) (2 ^ a 0 2) (fun i s => 1 ≤ i ∧ s.1 = nI (trN a tu i).1 ∧ ∀ b, b < a 0 2 → s.2 b = nI ((trN a tu i).2 b)) (fun o => ∃ g', o = some (nI (trF a tu).1, g') ∧ ∀ b, b < a 0 2 → g' b = nI ((trF a tu).2 b)) ?_ ?_ (2 ^ a 0 2 - 1) 1 (0, g) fuelN (by omega) ⟨Nat.le_refl _, rfl, hg⟩ (fuel_gt (by omega))
    · intro f i s hi hs
      obtain ⟨n, w⟩ := s
      obtain ⟨hi1, en, ew⟩ := hs
      show ∃ s' : Int32 × (Nat → Int32), _ ∧ f_X13_trumpets_b27 v (nI (a 0 2)) tu kd' md' (f_X13_trumpets_L27 v (nI (a 0 2)) tu kd' md' f) (nI i) n w = _
      unfold f_X13_trumpets_b27
      rw [shlN (by omega), if_neg (nI_ge hi (by omega))]
      have hts := (loopN (fun f' j s => f_X13_trumpets_L44 (f_X13_trumpets_L27 v (nI (a 0 2)) tu kd' md' f) v (nI (a 0 2)) tu kd' md' (nI i) n w f' s (nI j)) (a 0 2) (tsS a i) (fun _ _ => True) (fun s => f_X13_trumpets_B81 (f_X13_trumpets_L27 v (nI (a 0 2)) tu kd' md' f) v (nI (a 0 2)) tu kd' md' (nI i) s n w) (by
        intro f' j s hj _
        refine ⟨trivial, ?_⟩
        show f_X13_trumpets_b44 _ _ _ _ _ _ _ _ _ _ _ _ = _
        unfold f_X13_trumpets_b44 f_X13_trumpets_B73 tsS
        rw [if_neg (nI_ge hj (by omega)), bitM (by omega) (by omega), bd1_s, turnOfM ok rm hj, bd1_s, nI_1]
        cases bit i j <;> rfl) (by
        intro f' s _
        show f_X13_trumpets_b44 _ _ _ _ _ _ _ _ _ _ _ _ = _
        unfold f_X13_trumpets_b44
        rw [if_pos (nI_le (Nat.le_refl _) (by omega))]) (a 0 2) 0 0 fuelN (by omega) trivial (fuel_gt (by omega))).1
      rw [show f_X13_trumpets_L44 (f_X13_trumpets_L27 v (nI (a 0 2)) tu kd' md' f) v (nI (a 0 2)) tu kd' md' (nI i) n w fuelN 0 0 = _ from hts]
      show ∃ s' : Int32 × (Nat → Int32), _ ∧ f_X13_trumpets_B81 (f_X13_trumpets_L27 v (nI (a 0 2)) tu kd' md' f) v (nI (a 0 2)) tu kd' md' (nI i) (tsN a i) n w = _
      unfold f_X13_trumpets_B81 f_X13_trumpets_B158
      rw [c10, rm.2.2.2.1, nI_1]
      have ha : nI i &&& nI (a 0 3) = 0 ↔ i &&& a 0 3 = 0 := andI (by omega)
      have stay : fitB a tu i = false → 1 ≤ i + 1 ∧ n = nI (trN a tu (i + 1)).1 ∧ ∀ b, b < a 0 2 → w b = nI ((trN a tu (i + 1)).2 b) := by
        intro h
        have : trN a tu (i + 1) = trN a tu i := by rw [trN_s a tu hi1]; unfold trS; rw [h]; rfl
        rw [this]
        exact ⟨by omega, en, ew⟩
      by_cases q : i &&& a 0 3 = 0
      · rw [if_pos (ha.mpr q)]
        by_cases q2 : tsN a i = tu
        · rw [if_pos q2]
          have hf : fitB a tu i = true := by unfold fitB; rw [decide_eq_true q, decide_eq_true q2]; rfl
          have e1 : trN a tu (i + 1) = ((trN a tu i).1 + 1, fun b => (trN a tu i).2 b + i / 2 ^ b % 2) := by
            rw [trN_s a tu hi1]; unfold trS; rw [hf]; rfl
          rw [e1]
          refine loopR (fun f' j s => f_X13_trumpets_L119 (f_X13_trumpets_L27 v (nI (a 0 2)) tu kd' md' f) v (nI (a 0 2)) tu kd' md' (nI i) (n + 1) f' (nI j) s) (a 0 2) (fun j s => (∀ b, b < j → s b = nI ((trN a tu i).2 b + i / 2 ^ b % 2)) ∧ ∀ b, j ≤ b → b < a 0 2 → s b = nI ((trN a tu i).2 b)) (fun o => ∃ s' : Int32 × (Nat → Int32), (1 ≤ i + 1 ∧ s'.1 = nI ((trN a tu i).1 + 1) ∧ ∀ b, b < a 0 2 → s'.2 b = nI ((trN a tu i).2 b + i / 2 ^ b % 2)) ∧ o = f_X13_trumpets_L27 v (nI (a 0 2)) tu kd' md' f (nI (i + 1)) s'.1 s'.2) ?_ ?_ (a 0 2) 0 w fuelN (by omega) ⟨by intro b hb; omega, fun b _ hb => ew b hb⟩ (fuel_gt (by omega))
          · intro f' j s hj hs
            refine ⟨upd s j (nI ((trN a tu i).2 j + i / 2 ^ j % 2)), ⟨?_, ?_⟩, ?_⟩
            · intro b hb
              by_cases q : b = j
              · subst q; exact pk_us
              · rw [pk_un q]; exact hs.1 b (by omega)
            · intro b hb hb2
              rw [pk_un (by omega)]; exact hs.2 b (by omega) hb2
            · show f_X13_trumpets_b119 _ _ _ _ _ _ _ _ _ _ _ = _
              unfold f_X13_trumpets_b119 f_X13_trumpets_B150
              rw [if_neg (nI_ge hj (by omega)), gI (by omega) (by decide), bitM (by omega) (by omega), bd1_s, gI (by omega) (by decide), nI_1, nI_clamp (by omega), hs.2 j (Nat.le_refl _) hj, bit_mod]
              cases bit i j
              · rw [selF]; exact congrArg _ (congrArg _ (nI_add _ 0))
              · rw [selT, gI (by omega) (by decide)]; exact congrArg _ (congrArg _ (nI_add _ 1))
          · intro f' s hs
            refine ⟨(n + 1, s), ⟨by omega, by show n + 1 = _; rw [show n = nI (trN a tu i).1 from en, nI_1], hs.1⟩, ?_⟩
            show f_X13_trumpets_b119 _ _ _ _ _ _ _ _ _ _ _ = _
            unfold f_X13_trumpets_b119 f_X13_trumpets_B158
            rw [if_pos (nI_le (Nat.le_refl _) (by omega)), nI_1]
        · rw [if_neg q2]
          have hf : fitB a tu i = false := by unfold fitB; rw [decide_eq_false q2, Bool.and_false]
          exact ⟨(n, w), stay hf, rfl⟩
      · rw [if_neg (fun e => q (ha.mp e))]
        have hf : fitB a tu i = false := by unfold fitB; rw [decide_eq_false q, Bool.false_and]
        exact ⟨(n, w), stay hf, rfl⟩
    · intro f s hs
      obtain ⟨n, w⟩ := s
      obtain ⟨_, en, ew⟩ := hs
      have en : n = nI (trF a tu).1 := en
      subst en
      refine ⟨w, ?_, ew⟩
      show f_X13_trumpets_b27 _ _ _ _ _ _ _ _ _ = _
      unfold f_X13_trumpets_b27
      rw [shlN (by omega), if_pos (nI_le (Nat.le_refl _) (by omega))]
  unfold f_X13_trumpets
  refine loopR (fun f i s => f_X13_trumpets_L7 v (nI (a 0 2)) tu kd' md' 0 f (nI i) s) 5 (fun i s => ∀ b, b < i → s b = nI 0) (fun o => ∃ g, o = some (nI (trF a tu).1, g) ∧ ∀ b, b < a 0 2 → g b = nI ((trF a tu).2 b)) ?_ ?_ 5 0 g0 fuelN (by omega) (by intro b hb; omega) (fuel_gt (by omega))
  · intro f i s hi hs
    refine ⟨upd s i 0, ?_, ?_⟩
    · intro b hb
      by_cases q : b = i
      · subst q; exact pk_us
      · rw [pk_un q]; exact hs b (by omega)
    · show f_X13_trumpets_b7 _ _ _ _ _ _ _ _ _ = _
      unfold f_X13_trumpets_b7
      rw [if_neg (show ¬ (5 : Int32) ≤ nI i from nI_ge (b := 5) hi (by decide)), gI hi (by decide), nI_1, nI_clamp (by omega)]
  · intro f s hs
    obtain ⟨g, e, hg⟩ := step2 s (fun b hb => hs b (by omega))
    refine ⟨g, ?_, hg⟩
    show f_X13_trumpets_b7 _ _ _ _ _ _ _ _ _ = _
    unfold f_X13_trumpets_b7 f_X13_trumpets_B25
    rw [if_pos (by decide)]
    exact e
theorem q_fits (ok : okA a) (rc : rCl a wh kd md st wd) (ra : rI (a 0 2) at' (a 5)) (rm : rMo a wh' kd' md' v) (tu rf th tr wr s1 s2 s3 n0 : Int32) (t0 w0 g0 : Nat → Int32) : ∃ r t x1 x2 x3 x4 x5 y1 y2, f_X11_fits rf (nI (a 0 0)) (nI (a 0 2)) tu kd md (nI (a 0 3)) (nI (a 0 4)) at' s1 s2 s3 t0 w0 = some (r, t, x1, x2, x3, x4, x5) ∧ f_X13_fits th tr wr n0 v g0 (nI (a 0 2)) tu kd' md' = some (r, 0, t, -1, y1, y2) ∧ ¬ t = 4 := by
  have h1 := ok.1
  obtain ⟨N, A, tt, w, e, hI⟩ := findC ok rc.2.1 rc.2.2.1 ra tu s1 s2 s3 t0 w0
  obtain ⟨g, e2, hg⟩ := trumM ok rm tu n0 g0
  refine ⟨nI (trF a tu).1, 0, nI (trF a tu).1, N, (if nI (trF a tu).1 = 0 then 0 else A), tt, w, nI (trF a tu).1, g, ?_, ?_, by decide⟩
  · unfold f_X11_fits
    rw [(warT (n := a 0 0) (by omega) (by omega)).1, bd1_s, refF, bd2_s, if_pos rfl, e, bd5_s]
  · unfold f_X13_fits
    rw [e2, bd2_s]; rfl
theorem q_could (ok : okA a) (rc : rCl a wh kd md st wd) (ra : rI (a 0 2) at' (a 5)) (rm : rMo a wh' kd' md' v) (tu rf th tr wr s1 s2 s3 n0 : Int32) (t0 w0 g0 : Nat → Int32) : ∃ r t x1 x2 x3 x4 x5 y1 y2, f_X11_could rf (nI (a 0 0)) (nI (a 0 2)) tu kd md (nI (a 0 3)) (nI (a 0 4)) at' s1 s2 s3 t0 w0 = some (r, t, x1, x2, x3, x4, x5) ∧ f_X13_could th tr wr n0 v g0 (nI (a 0 2)) tu kd' md' = some (r, 0, t, -1, y1, y2) ∧ ¬ t = 4 := by
  have h1 := ok.1
  have hp := pow32 ok
  obtain ⟨N, A, tt, w, e, hI⟩ := findC ok rc.2.1 rc.2.2.1 ra tu s1 s2 s3 t0 w0
  obtain ⟨g, e2, hg⟩ := trumM ok rm tu n0 g0
  obtain ⟨-, -, ⟨x, hx, eN, bN⟩, -⟩ := hI
  have tb := trN_b a tu (2 ^ a 0 2) Nat.one_le_two_pow
  refine ⟨N, 0, nI (trF a tu).1, N, (if nI (trF a tu).1 = 0 then 0 else A), tt, w, nI (trF a tu).1, g, ?_, ?_, by decide⟩
  · unfold f_X11_could
    rw [(warT (n := a 0 0) (by omega) (by omega)).1, bd1_s, refF, bd2_s, if_pos rfl, e, bd5_s]
  · unfold f_X13_could
    rw [e2, bd2_s]
    have := (loopN (fun f i s => f_X13_could_L26 v (nI (a 0 2)) tu kd' md' 0 tr wr (nI (trF a tu).1) g f (nI s) (nI i)) (a 0 2) (orS (fun b => decide (0 < (trF a tu).2 b))) (fun _ _ => True) (fun s => some (nI s, 0, 0, -1, nI (trF a tu).1, g)) ?_ ?_ (a 0 2) 0 0 fuelN (by omega) trivial (fuel_gt (by omega))).1
    · rw [or_eq hx bN] at this
      rw [eN]
      exact this
    · intro f i s hi _
      refine ⟨trivial, ?_⟩
      have hb := tb.2 i
      have hz : nI ((trF a tu).2 i) ≤ 0 ↔ (trF a tu).2 i ≤ 0 := nI_leI (b := 0) (by show (trN a tu (2 ^ a 0 2)).2 i < _; omega) (by decide)
      show f_X13_could_b26 _ _ _ _ _ _ _ _ _ _ _ _ _ = _
      unfold f_X13_could_b26 f_X13_could_B54 orS
      rw [if_neg (nI_ge hi (by omega)), gI (by omega) (by decide), nI_clamp (by omega), hg i hi, shlN (by omega), nI_or, show (0 : Int32) = nI 0 from rfl, nI_or, nI_1]
      by_cases q : 0 < (trF a tu).2 i
      · rw [if_neg (fun h => by have := hz.mp h; omega), if_pos (show (fun b => decide (0 < (trF a tu).2 b)) i = true from decide_eq_true q)]
      · rw [if_pos (show nI ((trF a tu).2 i) ≤ nI 0 from hz.mpr (by omega)), if_neg (show ¬ (fun b => decide (0 < (trF a tu).2 b)) i = true from fun h => q (of_decide_eq_true h))]
    · intro f s _
      show f_X13_could_b26 _ _ _ _ _ _ _ _ _ _ _ _ _ = _
      unfold f_X13_could_b26 f_X13_could_B62 f_X13_good
      rw [if_pos (nI_le (Nat.le_refl _) (by omega)), bd3_s]
theorem q_surely (ok : okA a) (rc : rCl a wh kd md st wd) (ra : rI (a 0 2) at' (a 5)) (rm : rMo a wh' kd' md' v) (tu rf th tr wr s1 s2 s3 n0 : Int32) (t0 w0 g0 : Nat → Int32) : ∃ r t x1 x2 x3 x4 x5 y1 y2, f_X11_surely rf (nI (a 0 0)) (nI (a 0 2)) tu kd md (nI (a 0 3)) (nI (a 0 4)) at' s1 s2 s3 t0 w0 = some (r, t, x1, x2, x3, x4, x5) ∧ f_X13_surely th tr wr n0 v g0 (nI (a 0 2)) tu kd' md' = some (r, 0, t, -1, y1, y2) ∧ ¬ t = 4 := by
  have h1 := ok.1
  have hp := pow32 ok
  obtain ⟨N, A, tt, w, e, hI⟩ := findC ok rc.2.1 rc.2.2.1 ra tu s1 s2 s3 t0 w0
  obtain ⟨g, e2, hg⟩ := trumM ok rm tu n0 g0
  obtain ⟨-, -, -, ⟨x, hx, eA, bA⟩⟩ := hI
  have tb := trN_b a tu (2 ^ a 0 2) Nat.one_le_two_pow
  have hn : nI (trF a tu).1 = 0 ↔ (trF a tu).1 = 0 := nI_eq (b := 0) (by show (trN a tu (2 ^ a 0 2)).1 < _; omega) (by decide)
  refine ⟨(if nI (trF a tu).1 = 0 then 0 else A), 0, nI (trF a tu).1, N, (if nI (trF a tu).1 = 0 then 0 else A), tt, w, nI (trF a tu).1, g, ?_, ?_, by decide⟩
  · unfold f_X11_surely
    rw [(warT (n := a 0 0) (by omega) (by omega)).1, bd1_s, refF, bd2_s, if_pos rfl, e, bd5_s]
  · unfold f_X13_surely
    rw [e2, bd2_s]
    have := (loopN (fun f i s => f_X13_surely_L26 v (nI (a 0 2)) tu kd' md' 0 tr wr (nI (trF a tu).1) g f (nI s) (nI i)) (a 0 2) (orS (fun b => decide (0 < (trF a tu).1) && decide ((trF a tu).2 b = (trF a tu).1))) (fun _ _ => True) (fun s => some (nI s, 0, 0, -1, nI (trF a tu).1, g)) ?_ ?_ (a 0 2) 0 0 fuelN (by omega) trivial (fuel_gt (by omega))).1
    · have ex : itN (orS (fun b => decide (0 < (trF a tu).1) && decide ((trF a tu).2 b = (trF a tu).1))) (a 0 2) 0 0 = if (trF a tu).1 = 0 then 0 else x := by
        by_cases q : (trF a tu).1 = 0
        · rw [if_pos q]
          apply or_eq (Nat.two_pow_pos _)
          intro b _
          rw [bit_0, decide_eq_false (show ¬ 0 < (trF a tu).1 by omega), Bool.false_and]
        · rw [if_neg q]
          apply or_eq hx
          intro b hb
          rw [bA b hb, decide_eq_true (show 0 < (trF a tu).1 by omega), Bool.true_and]
      rw [ex] at this
      refine this.trans ?_
      by_cases q : (trF a tu).1 = 0
      · rw [if_pos q, if_pos (hn.mpr q)]; rfl
      · rw [if_neg q, if_neg (fun h => q (hn.mp h)), eA]
    · intro f i s hi _
      refine ⟨trivial, ?_⟩
      have hb := tb.2 i
      have hz : nI (trF a tu).1 ≤ 0 ↔ (trF a tu).1 ≤ 0 := nI_leI (b := 0) (by show (trN a tu (2 ^ a 0 2)).1 < _; omega) (by decide)
      have hc : nI ((trF a tu).2 i) = nI (trF a tu).1 ↔ (trF a tu).2 i = (trF a tu).1 := nI_eq (by show (trN a tu (2 ^ a 0 2)).2 i < _; omega) (by show (trN a tu (2 ^ a 0 2)).1 < _; omega)
      show f_X13_surely_b26 _ _ _ _ _ _ _ _ _ _ _ _ _ = _
      unfold f_X13_surely_b26 f_X13_surely_B64 f_X13_surely_B65 orS
      rw [if_neg (nI_ge hi (by omega)), gI (by omega) (by decide), nI_clamp (by omega), hg i hi, shlN (by omega), nI_or, show (0 : Int32) = nI 0 from rfl, nI_or, nI_1]
      show _ = f_X13_surely_L26 v (nI (a 0 2)) tu kd' md' 0 tr wr (nI (trF a tu).1) g f (nI (s ||| (if (decide (0 < (trF a tu).1) && decide ((trF a tu).2 i = (trF a tu).1)) = true then 2 ^ i else 0))) (nI (i + 1))
      by_cases q : 0 < (trF a tu).1
      · rw [if_neg (show ¬ nI (trF a tu).1 ≤ nI 0 from fun h => by have := hz.mp h; omega), decide_eq_true q]
        by_cases q2 : (trF a tu).2 i = (trF a tu).1
        · rw [if_pos (hc.mpr q2), decide_eq_true q2]; rfl
        · rw [if_neg (fun h => q2 (hc.mp h)), decide_eq_false q2]; rfl
      · rw [if_pos (show nI (trF a tu).1 ≤ nI 0 from hz.mpr (by omega)), decide_eq_false q]; rfl
    · intro f s _
      show f_X13_surely_b26 _ _ _ _ _ _ _ _ _ _ _ _ _ = _
      unfold f_X13_surely_b26 f_X13_surely_B73 f_X13_good
      rw [if_pos (nI_le (Nat.le_refl _) (by omega)), bd3_s]
/-- how many sets are left at most behind an answer -/
def lvN (n c : Nat) : Nat := if c ≤ n - c then n - c else c
def askS (n : Nat) (c : Nat → Nat) (b s : Nat) : Nat := if lvN n (c s) ≤ lvN n (c b) then s else b
theorem lvM {n b : Nat} {c : Nat → Nat} {g : Nat → Int32} (hb : b < 5) (hc : c b ≤ n) (hn : n < 2 ^ 30) (hg : g b = nI (c b)) : f_X13_leaves (nI n) g (nI b) = some (nI (lvN n (c b))) := by
  unfold f_X13_leaves lvN
  rw [gI hb (by decide), gI hb (by decide), gI hb (by decide), gI hb (by decide), nI_clamp (by omega), hg, pk_sub hc]
  by_cases q : c b ≤ n - c b
  · rw [if_pos (nI_le q (by omega)), if_pos q]
  · rw [if_neg (nI_ge (by omega) (by omega)), if_neg q]
theorem lvC {n x : Nat} (hc : x ≤ n) (hn : n < 2 ^ 30) : (if nI x < nI n - nI x then nI n - nI x else nI x) = nI (lvN n x) := by
  unfold lvN
  rw [pk_sub hc]
  rcases Nat.lt_trichotomy x (n - x) with q | q | q
  · rw [if_pos (nI_lt q (by omega)), if_pos (by omega)]
  · rw [if_neg (nI_nlt (by omega) (by omega)), if_pos (by omega), ← q]
  · rw [if_neg (nI_nlt (by omega) (by omega)), if_neg (by omega)]
theorem lv_b {n x : Nat} (hc : x ≤ n) : lvN n x ≤ n := by unfold lvN; split <;> omega
theorem q_ask (ok : okA a) (rc : rCl a wh kd md st wd) (ra : rI (a 0 2) at' (a 5)) (rm : rMo a wh' kd' md' v) (tu rf th tr wr s1 s2 s3 n0 : Int32) (t0 w0 g0 : Nat → Int32) : ∃ r t x1 x2 x3 x4 x5 y1 y2, f_X11_ask rf (nI (a 0 0)) (nI (a 0 2)) tu kd md (nI (a 0 3)) (nI (a 0 4)) at' s1 s2 s3 t0 w0 = some (r, t, x1, x2, x3, x4, x5) ∧ f_X13_ask th tr wr n0 v g0 (nI (a 0 2)) tu kd' md' = some (r, 0, t, -1, y1, y2) ∧ ¬ t = 4 := by
  have h1 := ok.1
  have hp := pow32 ok
  obtain ⟨N, A, tt, w, e, hI⟩ := findC ok rc.2.1 rc.2.2.1 ra tu s1 s2 s3 t0 w0
  obtain ⟨g, e2, hg⟩ := trumM ok rm tu n0 g0
  have hw : ∀ b, b < a 0 2 → w b = nI ((trF a tu).2 b) := hI.2.1
  clear hI
  have tb := trN_b a tu (2 ^ a 0 2) Nat.one_le_two_pow
  have nb : (trF a tu).1 < 32 := by show (trN a tu (2 ^ a 0 2)).1 < 32; omega
  have cb : ∀ b, (trF a tu).2 b ≤ (trF a tu).1 := tb.2
  have hn : nI (trF a tu).1 = 0 ↔ (trF a tu).1 = 0 := nI_eq (b := 0) (by omega) (by decide)
  have hz : nI (trF a tu).1 ≤ 0 ↔ (trF a tu).1 ≤ 0 := nI_leI (b := 0) (by omega) (by decide)
  generalize (if nI (trF a tu).1 = 0 then 0 else A) = AA at e
  generalize (trF a tu).1 = n at *
  generalize (trF a tu).2 = c at *
  have hasC : f_X11_ask rf (nI (a 0 0)) (nI (a 0 2)) tu kd md (nI (a 0 3)) (nI (a 0 4)) at' s1 s2 s3 t0 w0 = bd1 (f_X10_bestToAsk (nI (a 0 2)) (nI n) w) fun r => some (r, 0, nI n, N, AA, tt, w) := by
    unfold f_X11_ask
    rw [(warT (n := a 0 0) (by omega) (by omega)).1, bd1_s, refF, bd2_s, if_pos rfl, e, bd5_s]
  rw [hasC]
  unfold f_X13_ask
  rw [e2, bd2_s]
  by_cases q : n = 0
  · refine ⟨-2, 0, nI n, N, AA, tt, w, nI n, g, ?_, ?_, by decide⟩
    · have : f_X10_bestToAsk (nI (a 0 2)) (nI n) w = some (-2) := by
        unfold f_X10_bestToAsk
        obtain ⟨f, hf⟩ : ∃ f, fuelN = f + 1 := ⟨fuelN - 1, by have := fuelN_ge; omega⟩
        rw [hf]
        show f_X10_bestToAsk_b10 _ _ _ _ _ _ _ = _
        unfold f_X10_bestToAsk_b10
        rw [if_pos (hz.mpr (by omega))]
        by_cases q2 : nI (a 0 2) ≤ 0
        · rw [if_pos q2]
        · rw [if_neg q2]
      rw [this, bd1_s]
    · rw [if_pos (hn.mpr q)]; rfl
  · refine ⟨nI (itN (askS n c) (a 0 2 - 1) 1 0), 0, nI n, N, AA, tt, w, nI n, g, ?_, ?_, by decide⟩
    · have : f_X10_bestToAsk (nI (a 0 2)) (nI n) w = some (nI (itN (askS n c) (a 0 2 - 1) 1 0)) := by
        unfold f_X10_bestToAsk
        obtain ⟨f, hf⟩ : ∃ f, fuelN = f + 1 := ⟨fuelN - 1, by have := fuelN_ge; omega⟩
        have hfg := fuelN_ge
        rw [hf] at hfg ⊢
        have st1 : f_X10_bestToAsk_L10 (nI (a 0 2)) (nI n) w (f + 1) (-2) (nI n) 0 = f_X10_bestToAsk_L10 (nI (a 0 2)) (nI n) w f (nI 0) (nI (lvN n (c 0))) (nI 1) := by
          show f_X10_bestToAsk_b10 _ _ _ _ _ _ _ = _
          unfold f_X10_bestToAsk_b10 f_X10_bestToAsk_B62 f_X10_bestToAsk_B67
          rw [show (0 : Int32) = nI 0 from rfl, if_neg (nI_ge (show 0 < a 0 2 by omega) (by omega)), show nI 0 = (0 : Int32) from rfl, if_neg (fun h => q (by have := hz.mp h; omega)), show (0 : Int32) = nI 0 from rfl, gI (by decide) (by decide), gI (by decide) (by decide), if_pos rfl, nI_clamp (by decide), hw 0 (by omega), lvC (cb 0) (by omega), nI_1]
        rw [st1]
        refine (loopN (fun f i b => f_X10_bestToAsk_L10 (nI (a 0 2)) (nI n) w f (nI b) (nI (lvN n (c b))) (nI i)) (a 0 2) (askS n c) (fun _ b => b < a 0 2) (fun b => some (nI b)) ?_ ?_ (a 0 2 - 1) 1 0 f (by omega) (by omega) (by omega)).1
        · intro f i b hi hb
          refine ⟨by unfold askS; split <;> omega, ?_⟩
          have l1 := lv_b (cb b)
          have l2 := lv_b (cb i)
          have el : nI (lvN n (c b)) ≤ nI (lvN n (c i)) ↔ lvN n (c b) ≤ lvN n (c i) := nI_leI (by omega) (by omega)
          show f_X10_bestToAsk_b10 _ _ _ _ _ _ _ = _
          unfold f_X10_bestToAsk_b10 f_X10_bestToAsk_B62 f_X10_bestToAsk_B67 askS
          rw [if_neg (nI_ge hi (by omega)), if_neg (fun h => q (by have := hz.mp h; omega)), gI (by omega) (by decide), gI (by omega) (by decide), nI_clamp (by omega), hw i hi, lvC (cb i) (by omega), nI_1, if_neg (fun e => absurd (show (-2 : Int32) < 0 by decide) (by rw [← e]; exact nI_pos (by omega)))]
          by_cases q2 : lvN n (c b) ≤ lvN n (c i)
          · rw [if_pos (el.mpr q2), if_pos q2]
          · rw [if_neg (fun h => q2 (el.mp h)), if_neg q2]
        · intro f b _
          show f_X10_bestToAsk_b10 _ _ _ _ _ _ _ = _
          unfold f_X10_bestToAsk_b10
          rw [if_pos (nI_le (Nat.le_refl _) (by omega))]
      rw [this, bd1_s]
    · rw [if_neg (fun h => q (hn.mp h))]
      refine (loopN (fun f i b => f_X13_ask_L40 v (nI (a 0 2)) tu kd' md' 0 tr wr (nI n) g f (nI b) (nI i)) (a 0 2) (askS n c) (fun _ b => b < a 0 2) (fun b => some (nI b, 0, 0, -1, nI n, g)) ?_ ?_ (a 0 2 - 1) 1 0 fuelN (by omega) (by omega) (fuel_gt (by omega))).1
      · intro f i b hi hb
        refine ⟨by unfold askS; split <;> omega, ?_⟩
        have l1 := lv_b (cb b)
        have l2 := lv_b (cb i)
        have el : nI (lvN n (c b)) ≤ nI (lvN n (c i)) ↔ lvN n (c b) ≤ lvN n (c i) := nI_leI (by omega) (by omega)
        show f_X13_ask_b40 _ _ _ _ _ _ _ _ _ _ _ _ _ = _
        unfold f_X13_ask_b40 f_X13_ask_B66 askS
        rw [if_neg (nI_ge hi (by omega)), lvM (by omega) (cb i) (by omega) (hg i hi), bd1_s, lvM (by omega) (cb b) (by omega) (hg b hb), bd1_s, nI_1]
        by_cases q2 : lvN n (c b) ≤ lvN n (c i)
        · rw [if_pos (el.mpr q2), if_pos q2]
        · rw [if_neg (fun h => q2 (el.mp h)), if_neg q2]
      · intro f b _
        show f_X13_ask_b40 _ _ _ _ _ _ _ _ _ _ _ _ _ = _
        unfold f_X13_ask_b40 f_X13_ask_B72 f_X13_good
        rw [if_pos (nI_le (Nat.le_refl _) (by omega)), bd3_s]
end BB
