/-! B7: loops over lanes and beasts -/
def itN {S : Type} (step : Nat → S → S) : Nat → Nat → S → S
  | 0, _, s => s
  | k + 1, i, s => itN step k (i + 1) (step i s)
theorem loopN {S T : Type} (L : Nat → Nat → S → Option T) (n : Nat) (step : Nat → S → S) (I : Nat → S → Prop) (fin : S → Option T) (hs : ∀ f i s, i < n → I i s → I (i + 1) (step i s) ∧ L (f + 1) i s = L f (i + 1) (step i s)) (he : ∀ f s, I n s → L (f + 1) n s = fin s) : ∀ k i s f, i + k = n → I i s → k < f → L f i s = fin (itN step k i s) ∧ I n (itN step k i s) := by
  intro k
  induction k with
  | zero =>
    intro i s f hi hI hf
    obtain ⟨f, rfl⟩ : ∃ g, f = g + 1 := ⟨f - 1, by omega⟩
    have : i = n := by omega
    subst this
    exact ⟨he f s hI, hI⟩
  | succ k ih =>
    intro i s f hi hI hf
    obtain ⟨f, rfl⟩ : ∃ g, f = g + 1 := ⟨f - 1, by omega⟩
    obtain ⟨h1, h2⟩ := hs f i s (by omega) hI
    rw [h2]
    exact ih (i + 1) (step i s) f (by omega) h1 (by omega)
def findN (p : Nat → Bool) : Nat → Nat → Option Nat
  | 0, _ => none
  | k + 1, i => if p i then some i else findN p k (i + 1)
theorem searchN {T : Type} (L : Nat → Nat → Option T) (n : Nat) (p : Nat → Bool) (hit : Nat → Option T) (miss : Option T) (hs : ∀ f i, i < n → L (f + 1) i = if p i then hit i else L f (i + 1)) (he : ∀ f, L (f + 1) n = miss) : ∀ k i f, i + k = n → k < f → L f i = match findN p k i with | some j => hit j | none => miss := by
  intro k
  induction k with
  | zero =>
    intro i f hi hf
    obtain ⟨f, rfl⟩ : ∃ g, f = g + 1 := ⟨f - 1, by omega⟩
    have : i = n := by omega
    subst this
    exact he f
  | succ k ih =>
    intro i f hi hf
    obtain ⟨f, rfl⟩ : ∃ g, f = g + 1 := ⟨f - 1, by omega⟩
    rw [hs f i (by omega)]
    unfold findN
    cases p i
    · simp only [Bool.false_eq_true, if_false]
      exact ih (i + 1) f (by omega) (by omega)
    · simp only [if_true]
theorem fuel_gt {k : Nat} (h : k < 100000) : k < fuelN := by have := fuelN_ge; omega
section B7
variable {a : AS} {wh kd md st wd at' wh' kd' md' v : Nat → Int32}
def bestS (a : AS) (j l b : Nat) : Nat := if aW a j l ≤ aW a j b then b else l
def bestN (a : AS) (j : Nat) : Nat := itN (bestS a j) (a 0 0 - 1) 1 0
theorem iLb {x y : Int} (hx : -(2 ^ 40) < x ∧ x < 2 ^ 40) (hy : -(2 ^ 40) < y ∧ y < 2 ^ 40) : (iL x ≤ iL y ↔ x ≤ y) ∧ (iL x < iL y ↔ x < y) := ⟨iL_le (by omega) (by omega) (by omega) (by omega), iL_lt (by omega) (by omega) (by omega) (by omega)⟩
theorem bestC (ok : okA a) (rc : rCl a wh kd md st wd) {j : Nat} (hj : j < a 0 2) : f_X4_laneOfMostWorth (nI (a 0 0)) (nI (a 0 1)) wh kd md (nI (a 0 3)) (nI (a 0 4)) st wd (nI j) = some (nI (bestN a j)) := by
  have h1 := ok.1
  unfold f_X4_laneOfMostWorth
  rw [show (0 : Int32) = nI 0 from rfl, wIC ok rc hj (by omega), bd1_s]
  have := (loopN (fun f i b => f_X4_laneOfMostWorth_L12 (nI (a 0 0)) (nI (a 0 1)) wh kd md (nI (a 0 3)) (nI (a 0 4)) st wd (nI j) f (nI b) (iL (aW a j b)) (nI i)) (a 0 0) (bestS a j) (fun _ b => b < a 0 0) (fun b => some (nI b)) ?_ ?_ (a 0 0 - 1) 1 0 fuelN (by omega) (by omega) (fuel_gt (by omega))).1
  · exact this
  · intro f i b hi hb
    have wb := aW_b ok hj hb
    have wi := aW_b ok hj hi
    refine ⟨by unfold bestS; split <;> omega, ?_⟩
    show f_X4_laneOfMostWorth_b12 _ _ _ _ _ _ _ _ _ _ _ _ _ _ = _
    unfold f_X4_laneOfMostWorth_b12 f_X4_laneOfMostWorth_B46 bestS
    rw [if_neg (nI_ge hi (by omega)), wIC ok rc hj hi, bd1_s, nI_1]
    by_cases q : aW a j i ≤ aW a j b
    · rw [if_pos ((iLb wi wb).1.mpr q), if_pos q]
    · rw [if_neg (fun e => q ((iLb wi wb).1.mp e)), if_neg q]
  · intro f b hb
    show f_X4_laneOfMostWorth_b12 _ _ _ _ _ _ _ _ _ _ _ _ _ _ = _
    unfold f_X4_laneOfMostWorth_b12
    rw [if_pos (nI_le (Nat.le_refl _) (by omega))]
theorem bestM (ok : okA a) (rm : rMo a wh' kd' md' v) {j : Nat} (hj : j < a 0 2) (tr wr : Int32) : f_X13_bestLane_L23 v (nI (a 0 0)) (nI (a 0 1)) (nI (a 0 2)) wh' kd' md' (nI j) 0 tr wr fuelN 0 1 = some (nI (bestN a j), 0, 0, -1) := by
  have h1 := ok.1
  have := (loopN (fun f i b => f_X13_bestLane_L23 v (nI (a 0 0)) (nI (a 0 1)) (nI (a 0 2)) wh' kd' md' (nI j) 0 tr wr f (nI b) (nI i)) (a 0 0) (bestS a j) (fun _ b => b < a 0 0) (fun b => some (nI b, 0, 0, -1)) ?_ ?_ (a 0 0 - 1) 1 0 fuelN (by omega) (by omega) (fuel_gt (by omega))).1
  · exact this
  · intro f i b hi hb
    have wb := aW_b ok hj hb
    have wi := aW_b ok hj hi
    refine ⟨by unfold bestS; split <;> omega, ?_⟩
    show f_X13_bestLane_b23 _ _ _ _ _ _ _ _ _ _ _ _ _ _ = _
    unfold f_X13_bestLane_b23 f_X13_bestLane_B52 bestS
    rw [if_neg (nI_ge hi (by omega)), wIM ok rm hj hi, bd1_s, wIM ok rm hj hb, bd1_s, nI_1]
    by_cases q : aW a j i ≤ aW a j b
    · rw [if_pos ((iLb wi wb).1.mpr q), if_pos q]
    · rw [if_neg (fun e => q ((iLb wi wb).1.mp e)), if_neg q]
  · intro f b hb
    show f_X13_bestLane_b23 _ _ _ _ _ _ _ _ _ _ _ _ _ _ = _
    unfold f_X13_bestLane_b23 f_X13_bestLane_B58 f_X13_good
    rw [if_pos (nI_le (Nat.le_refl _) (by omega)), bd3_s]
theorem q_bestLane (ok : okA a) (rc : rCl a wh kd md st wd) (rm : rMo a wh' kd' md' v) (p1 rf th tr wr : Int32) : ∃ r t, f_X11_bestLane rf (nI (a 0 0)) (nI (a 0 1)) (nI (a 0 2)) wh kd md (nI (a 0 3)) (nI (a 0 4)) st wd p1 = some (r, t) ∧ f_X13_bestLane th tr wr v (nI (a 0 0)) (nI (a 0 1)) (nI (a 0 2)) wh' kd' md' p1 = some (r, 0, t, -1) ∧ ¬ t = 4 := by
  have h1 := ok.1
  unfold f_X11_bestLane f_X13_bestLane
  rcases beastT (n := a 0 2) (by omega) p1 with ⟨-, e1, e2⟩ | ⟨j, hj, rfl, e1, e2⟩
  · refine ⟨-1, 1, ?_, ?_, by decide⟩
    · rw [e1, bd1_s, ref1, bd2_s]; rfl
    · rw [e2, bd1_s]; rfl
  · refine ⟨nI (bestN a j), 0, ?_, ?_, by decide⟩
    · rw [e1, bd1_s, refF, bd2_s, if_pos rfl, bestC ok rc hj, bd1_s]
    · rw [e2, bd1_s, if_neg (by decide)]; exact bestM ok rm hj tr wr
/-- the sum of means of all beasts where they stand -/
def sumS (a : AS) (own : Bool) (j : Nat) (s : Int) : Int := s + aM a j (a 5 j) own
def sumN (a : AS) (own : Bool) : Int := itN (sumS a own) (a 0 2) 0 0
theorem sum_b (ok : okA a) (own : Bool) : ∀ k i (s : Int), i + k = a 0 2 → 0 ≤ s → s ≤ i * 2 ^ 40 → 0 ≤ itN (sumS a own) k i s ∧ itN (sumS a own) k i s ≤ a 0 2 * 2 ^ 40 := by
  intro k
  induction k with
  | zero => intro i s hi h0 h1; unfold itN; rw [← hi]; simp only [Nat.add_zero]; exact ⟨h0, h1⟩
  | succ k ih =>
    intro i s hi h0 h1
    have hj : i < a 0 2 := by omega
    have b := aM_b ok hj (ok.2.1 i hj).2.2.2.2.1 own
    unfold itN
    refine ih (i + 1) _ (by omega) (by unfold sumS; omega) ?_
    unfold sumS
    have : ((i + 1 : Nat) : Int) * 2 ^ 40 = (i : Int) * 2 ^ 40 + 2 ^ 40 := by rw [Int.natCast_add, Int.add_mul]; rfl
    omega
theorem sumC (ok : okA a) (rc : rCl a wh kd md st wd) (ra : rI (a 0 2) at' (a 5)) (own : Bool) : f_X4_sumOfMeans (nI (a 0 1)) (nI (a 0 2)) wh kd md (nI (a 0 3)) (nI (a 0 4)) st at' wd (if own then 1 else 0) = some (iL (sumN a own)) := by
  have h1 := ok.1
  unfold f_X4_sumOfMeans
  have := (loopN (fun f i s => f_X4_sumOfMeans_L5 (nI (a 0 1)) (nI (a 0 2)) wh kd md (nI (a 0 3)) (nI (a 0 4)) st at' wd (if own then 1 else 0) f (iL s) (nI i)) (a 0 2) (sumS a own) (fun _ _ => True) (fun s => some (iL s)) ?_ ?_ (a 0 2) 0 0 fuelN (by omega) trivial (fuel_gt (by omega))).1
  · exact this
  · intro f i s hi _
    refine ⟨trivial, ?_⟩
    show f_X4_sumOfMeans_b5 _ _ _ _ _ _ _ _ _ _ _ _ _ _ = _
    unfold f_X4_sumOfMeans_b5
    rw [if_neg (nI_ge hi (by omega)), gI (by omega) (by decide), nI_clamp (by omega), ra i hi, mIC ok rc hi (ok.2.1 i hi).2.2.2.2.1 own, bd1_s, iL_add, nI_1]
    rfl
  · intro f s _
    show f_X4_sumOfMeans_b5 _ _ _ _ _ _ _ _ _ _ _ _ _ _ = _
    unfold f_X4_sumOfMeans_b5
    rw [if_pos (nI_le (Nat.le_refl _) (by omega))]
theorem nowM (ok : okA a) (rm : rMo a wh' kd' md' v) {j : Nat} (hj : j < a 0 2) (own : Bool) : f_X13_meanNow v (nI (a 0 1)) wh' kd' md' (nI j) (if own then 1 else 0) = some (iL (aM a j (a 5 j) own)) := by
  have h1 := ok.1
  have hl := (ok.2.1 j hj).2.2.2.2.1
  unfold f_X13_meanNow
  rw [n0, gI (by omega) (by decide), nI_clamp (by omega), rm.2.2.2.2.2.2.1 j hj, hIM ok rm hj hl own, bd1_s, mBM ok rm hj hl own, bd1_s]
theorem warT {n : Nat} (h : 0 < n) (hn : n < 2 ^ 31) : f_X11_warTrouble (nI n) = some 0 ∧ f_X2_isTold (nI n) = some 1 := by
  unfold f_X11_warTrouble f_X2_isTold
  rw [if_neg (nI_nle h hn), bd1_s]
  exact ⟨rfl, rfl⟩
theorem q_all (ok : okA a) (rc : rCl a wh kd md st wd) (ra : rI (a 0 2) at' (a 5)) (rm : rMo a wh' kd' md' v) (own lo : Bool) (rf th tr wr : Int32) : ∃ r t, f_X11_all rf (nI (a 0 0)) (nI (a 0 1)) (nI (a 0 2)) wh kd md (nI (a 0 3)) (nI (a 0 4)) st at' wd (if own then 1 else 0) (if lo then 1 else 0) = some (r, t) ∧ f_X13_all th tr wr v (nI (a 0 1)) (nI (a 0 2)) wh' kd' md' (if own then 1 else 0) (if lo then 1 else 0) = some (r, 0, t, -1) ∧ ¬ t = 4 := by
  have h1 := ok.1
  have b := sum_b ok own (a 0 2) 0 0 (by omega) (by omega) (by omega)
  have b2 : (a 0 2 : Int) * 2 ^ 40 ≤ 5 * 2 ^ 40 := Int.mul_le_mul_of_nonneg_right (by omega) (by decide)
  refine ⟨toldZ (a 0 1) (sumN a own) lo, 0, ?_, ?_, by decide⟩
  · unfold f_X11_all
    rw [(warT (n := a 0 0) (by omega) (by omega)).1, bd1_s, refF, bd2_s, if_pos rfl, sumC ok rc ra own, bd1_s, toldC h1.2.2.2.1 (by unfold sumN; omega) (by unfold sumN; omega), bd1_s]
  · unfold f_X13_all
    have := (loopN (fun f i s => f_X13_all_L24 v (nI (a 0 1)) (nI (a 0 2)) wh' kd' md' (if own then 1 else 0) (if lo then 1 else 0) 0 tr wr f (iL s) (nI i)) (a 0 2) (sumS a own) (fun _ _ => True) (fun s => f_X13_all_B52 v (nI (a 0 1)) (nI (a 0 2)) wh' kd' md' (if lo then 1 else 0) (iL s) 0 tr wr) ?_ ?_ (a 0 2) 0 0 fuelN (by omega) trivial (fuel_gt (by omega))).1
    · refine this.trans ?_
      show f_X13_all_B52 v (nI (a 0 1)) (nI (a 0 2)) wh' kd' md' (if lo then 1 else 0) (iL (sumN a own)) 0 tr wr = _
      unfold f_X13_all_B52
      rw [wholeM (by omega), bd1_s, fracM h1.2.2.2.1 (by unfold sumN; omega) (by unfold sumN; omega), bd3_s]
    · intro f i s hi _
      refine ⟨trivial, ?_⟩
      show f_X13_all_b24 _ _ _ _ _ _ _ _ _ _ _ _ _ _ = _
      unfold f_X13_all_b24
      rw [if_neg (nI_ge hi (by omega)), nowM ok rm hi own, bd1_s, iL_add, nI_1]
      rfl
    · intro f s _
      show f_X13_all_b24 _ _ _ _ _ _ _ _ _ _ _ _ _ _ = _
      unfold f_X13_all_b24
      rw [if_pos (nI_le (Nat.le_refl _) (by omega))]
end B7
