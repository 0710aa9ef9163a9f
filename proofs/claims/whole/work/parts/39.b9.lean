/-! B9: toOpen, rests, rest, weeks -/
def addS (t : Nat → Int) (j : Nat) (s : Int) : Int := s + t j
theorem add_b {t : Nat → Int} {B : Int} : ∀ k i (s : Int), (∀ j, i ≤ j → j < i + k → -B ≤ t j ∧ t j ≤ B) → s - k * B ≤ itN (addS t) k i s ∧ itN (addS t) k i s ≤ s + k * B := by
  intro k
  induction k with
  | zero => intro i s _; unfold itN; simp
  | succ k ih =>
    intro i s h
    have h0 := h i (Nat.le_refl _) (by omega)
    have := ih (i + 1) (s + t i) (fun j h1 h2 => h j (by omega) (by omega))
    unfold itN addS
    unfold addS at this
    have e : ((k + 1 : Nat) : Int) * B = (k : Int) * B + B := by rw [Int.natCast_add, Int.add_mul]; simp
    omega
theorem add_sum {t u w : Nat → Int} : ∀ k i (s s' : Int), (∀ j, i ≤ j → j < i + k → w j = t j + u j) → itN (addS w) k i (s + s') = itN (addS t) k i s + itN (addS u) k i s' := by
  intro k
  induction k with
  | zero => intro i s s' _; rfl
  | succ k ih =>
    intro i s s' h
    unfold itN
    rw [← ih (i + 1) _ _ (fun j h1 h2 => h j (by omega) (by omega))]
    unfold addS
    rw [h i (Nat.le_refl _) (by omega)]
    congr 1
    omega
theorem mn_shift {val : Nat → Int} (c : Int) : ∀ k i (x : Int32) (s : Int), itN (mnS (fun j => c + val j)) k i (x, c + s) = ((itN (mnS val) k i (x, s)).1, c + (itN (mnS val) k i (x, s)).2) := by
  intro k
  induction k with
  | zero => intro i x s; rfl
  | succ k ih =>
    intro i x s
    unfold itN
    unfold mnS
    by_cases q : val i < s
    · rw [if_pos (show c + val i < (x, c + s).2 by show c + val i < c + s; omega), if_pos (show val i < (x, s).2 from q)]
      exact ih (i + 1) (nI i) (val i)
    · rw [if_neg (show ¬ c + val i < (x, c + s).2 by show ¬ c + val i < c + s; omega), if_neg (show ¬ val i < (x, s).2 from q)]
      exact ih (i + 1) x s
theorem mn_cong {val val' : Nat → Int} : ∀ k i s, (∀ j, i ≤ j → j < i + k → val j = val' j) → itN (mnS val) k i s = itN (mnS val') k i s := by
  intro k
  induction k with
  | zero => intro i s _; rfl
  | succ k ih =>
    intro i s h
    unfold itN
    rw [show mnS val i s = mnS val' i s by unfold mnS; rw [h i (Nat.le_refl _) (by omega)]]
    exact ih (i + 1) _ (fun j h1 h2 => h j (by omega) (by omega))
section B9
variable {a : AS} {wh kd md st wd at' wh' kd' md' v : Nat → Int32}
/-- what the foe gains by opening lane o; the sum with lane o open -/
def gainT (a : AS) (o j : Nat) : Int := if a 5 j = o then aWO a j - aW a j (a 5 j) else 0
def gainN (a : AS) (o : Nat) : Int := itN (addS (gainT a o)) (a 0 2) 0 0
def openT (a : AS) (o j : Nat) : Int := if a 5 j = o then aWO a j else aW a j (a 5 j)
def openN (a : AS) (o : Nat) : Int := itN (addS (openT a o)) (a 0 2) 0 0
theorem gain_b (ok : okA a) (o : Nat) : -(2 ^ 60) < gainN a o ∧ gainN a o < 2 ^ 60 := by
  have := add_b (t := gainT a o) (B := 2 ^ 41) (a 0 2) 0 0 (by
    intro j _ hj
    have hj : j < a 0 2 := by omega
    have b := aW_b ok hj (ok.2.1 j hj).2.2.2.2.1
    have c := aWO_b ok hj
    unfold gainT
    split <;> omega)
  unfold gainN
  have h1 := ok.1
  have e : (a 0 2 : Int) * 2 ^ 41 ≤ 5 * 2 ^ 41 := Int.mul_le_mul_of_nonneg_right (by omega) (by decide)
  omega
theorem open_b (ok : okA a) (o : Nat) : -(2 ^ 59) < openN a o ∧ openN a o < 2 ^ 59 := by
  have := add_b (t := openT a o) (B := 2 ^ 41) (a 0 2) 0 0 (by
    intro j _ hj
    have hj : j < a 0 2 := by omega
    have b := aW_b ok hj (ok.2.1 j hj).2.2.2.2.1
    have c := aWO_b ok hj
    unfold openT
    split <;> omega)
  unfold openN
  have h1 := ok.1
  have e : (a 0 2 : Int) * 2 ^ 41 ≤ 5 * 2 ^ 41 := Int.mul_le_mul_of_nonneg_right (by omega) (by decide)
  omega
theorem open_gain (ok : okA a) (o : Nat) : openN a o = openN a 999 + gainN a o := by
  unfold openN gainN
  refine (add_sum (a 0 2) 0 0 0 ?_)
  intro j _ hj
  have hj : j < a 0 2 := by omega
  have h1 := ok.1
  have h5 := (ok.2.1 j hj).2.2.2.2.1
  unfold openT gainT
  rw [if_neg (show ¬ a 5 j = 999 by omega)]
  split <;> omega
theorem gainC (ok : okA a) (rc : rCl a wh kd md st wd) (ra : rI (a 0 2) at' (a 5)) {o : Nat} (ho : o < a 0 0) : f_X1_gainByOpening (nI (a 0 1)) (nI (a 0 2)) wh kd md (nI (a 0 3)) (nI (a 0 4)) st at' wd (nI o) = some (iL (gainN a o)) := by
  have h1 := ok.1
  unfold f_X1_gainByOpening
  have := (loopN (fun f i s => f_X1_gainByOpening_L5 (nI (a 0 1)) (nI (a 0 2)) wh kd md (nI (a 0 3)) (nI (a 0 4)) st at' wd (nI o) f (iL s) (nI i)) (a 0 2) (addS (gainT a o)) (fun _ _ => True) (fun s => some (iL s)) ?_ ?_ (a 0 2) 0 0 fuelN (by omega) trivial (fuel_gt (by omega))).1
  · exact this
  · intro f i s hi _
    refine ⟨trivial, ?_⟩
    have h5 := (ok.2.1 i hi).2.2.2.2.1
    show f_X1_gainByOpening_b5 _ _ _ _ _ _ _ _ _ _ _ _ _ _ = _
    unfold f_X1_gainByOpening_b5 f_X1_gainByOpening_B54 addS gainT
    rw [if_neg (nI_ge hi (by omega)), gI (by omega) (by decide), nI_clamp (by omega), ra i hi, nI_1]
    by_cases q : a 5 i = o
    · rw [if_pos ((nI_eq (by omega) (by omega)).mpr q), wOC ok rc hi, bd1_s, wIC ok rc hi ho, bd1_s, if_pos q, iL_sub, iL_add, q]
    · rw [if_neg (fun e => q ((nI_eq (by omega) (by omega)).mp e)), if_neg q, Int.add_zero]
  · intro f s _
    show f_X1_gainByOpening_b5 _ _ _ _ _ _ _ _ _ _ _ _ _ _ = _
    unfold f_X1_gainByOpening_b5
    rw [if_pos (nI_le (Nat.le_refl _) (by omega))]
theorem openM (ok : okA a) (rm : rMo a wh' kd' md' v) (o : Nat) (x : Int32) (hx : ∀ j, j < 6 → (nI j = x ↔ j = o)) : f_X13_sumOpen v (nI (a 0 1)) (nI (a 0 2)) wh' kd' md' x = some (iL (openN a o)) := by
  have h1 := ok.1
  unfold f_X13_sumOpen
  have := (loopN (fun f i s => f_X13_sumOpen_L5 v (nI (a 0 1)) (nI (a 0 2)) wh' kd' md' x f (iL s) (nI i)) (a 0 2) (addS (openT a o)) (fun _ _ => True) (fun s => some (iL s)) ?_ ?_ (a 0 2) 0 0 fuelN (by omega) trivial (fuel_gt (by omega))).1
  · exact this
  · intro f i s hi _
    refine ⟨trivial, ?_⟩
    have h5 := (ok.2.1 i hi).2.2.2.2.1
    have e : v i = nI (a 5 i) := rm.2.2.2.2.2.2.1 i hi
    have w0 : f_X13_worthBy v (nI (a 0 1)) kd' md' (nI i) (0 : Int32) (0 : Int32) = some (iL (aWO a i)) := wBM (w := 0) (s := 0) ok rm.2.1 rm.2.2.1 rm.2.2.2 hi (by decide) (by decide)
    show f_X13_sumOpen_b5 _ _ _ _ _ _ _ _ _ _ = _
    unfold f_X13_sumOpen_b5 f_X13_sumOpen_B57 addS openT
    rw [if_neg (nI_ge hi (by omega)), n0, gI (by omega) (by decide), nI_clamp (by omega), e, nI_1]
    by_cases q : a 5 i = o
    · rw [if_pos ((hx _ (by omega)).mpr q), w0, bd1_s, if_pos q, iL_add]
    · rw [if_neg (fun e => q ((hx _ (by omega)).mp e)), gI (by omega) (by decide), wIM ok rm hi h5, bd1_s, if_neg q, iL_add]
  · intro f s _
    show f_X13_sumOpen_b5 _ _ _ _ _ _ _ _ _ _ = _
    unfold f_X13_sumOpen_b5
    rw [if_pos (nI_le (Nat.le_refl _) (by omega))]
def toOpenN (a : AS) : Int32 := (itN (mnS (gainN a)) (a 0 0) 0 (-2, 0)).1
theorem toOpenC (ok : okA a) (rc : rCl a wh kd md st wd) (ra : rI (a 0 2) at' (a 5)) : f_X1_laneBestOpened (nI (a 0 0)) (nI (a 0 1)) (nI (a 0 2)) wh kd md (nI (a 0 3)) (nI (a 0 4)) st at' wd = some (toOpenN a) := by
  have h1 := ok.1
  unfold f_X1_laneBestOpened
  have := (loopN (fun f i s => f_X1_laneBestOpened_L8 (nI (a 0 0)) (nI (a 0 1)) (nI (a 0 2)) wh kd md (nI (a 0 3)) (nI (a 0 4)) st at' wd f s.1 (iL s.2) (nI i)) (a 0 0) (mnS (gainN a)) (fun _ s => -(2 ^ 60) < s.2 ∧ s.2 < 2 ^ 60) (fun s => some s.1) ?_ ?_ (a 0 0) 0 (-2, 0) fuelN (by omega) (by decide) (fuel_gt (by omega))).1
  · exact this
  · intro f i s hi hs
    have bb := gain_b ok i
    refine ⟨by unfold mnS; split; exact bb; exact hs, ?_⟩
    show f_X1_laneBestOpened_b8 _ _ _ _ _ _ _ _ _ _ _ _ _ _ _ = _
    unfold f_X1_laneBestOpened_b8 f_X1_laneBestOpened_B41 mnS
    rw [if_neg (nI_ge hi (by omega)), gainC ok rc ra hi, bd1_s, nI_1]
    by_cases q : gainN a i < s.2
    · rw [if_neg (fun e => by have := (iLB hs bb).1.mp e; omega), if_pos q]
    · rw [if_pos ((iLB hs bb).1.mpr (by omega)), if_neg q]
  · intro f s _
    show f_X1_laneBestOpened_b8 _ _ _ _ _ _ _ _ _ _ _ _ _ _ _ = _
    unfold f_X1_laneBestOpened_b8
    rw [if_pos (nI_le (Nat.le_refl _) (by omega))]
theorem toOpenM (ok : okA a) (rm : rMo a wh' kd' md' v) (th tr wr : Int32) : f_X13_toOpen th tr wr v (nI (a 0 0)) (nI (a 0 1)) (nI (a 0 2)) wh' kd' md' = some (toOpenN a, 0, 0, -1) := by
  have h1 := ok.1
  unfold f_X13_toOpen
  rw [openM ok rm 999 (-1) (by intro j hj; constructor <;> intro e; rcases (show j = 0 ∨ j = 1 ∨ j = 2 ∨ j = 3 ∨ j = 4 ∨ j = 5 by omega) with rfl | rfl | rfl | rfl | rfl | rfl <;> exact absurd e (by decide); omega), bd1_s]
  have b0 := open_b ok 999
  have := (loopN (fun f i s => f_X13_toOpen_L30 v (nI (a 0 0)) (nI (a 0 1)) (nI (a 0 2)) wh' kd' md' 0 tr wr f s.1 (iL s.2) (nI i)) (a 0 0) (mnS (openN a)) (fun _ s => -(2 ^ 60) < s.2 ∧ s.2 < 2 ^ 60) (fun s => some (s.1, 0, 0, -1)) ?_ ?_ (a 0 0) 0 (-2, openN a 999) fuelN (by omega) (by constructor <;> (show _; simp only; omega)) (fuel_gt (by omega))).1
  · refine this.trans ?_
    have e1 := mn_cong (val := openN a) (val' := fun j => openN a 999 + gainN a j) (a 0 0) 0 (-2, openN a 999) (fun j _ _ => open_gain ok j)
    have e2 := mn_shift (val := gainN a) (openN a 999) (a 0 0) 0 (-2) 0
    rw [Int.add_zero] at e2
    rw [e1, e2]
    rfl
  · intro f i s hi hs
    have bo := open_b ok i
    have bb : -(2 ^ 60) < openN a i ∧ openN a i < 2 ^ 60 := by omega
    have ho := openM ok rm i (nI i) (fun j hj => nI_eq (by omega) (by omega))
    refine ⟨by unfold mnS; split; exact bb; exact hs, ?_⟩
    show f_X13_toOpen_b30 _ _ _ _ _ _ _ _ _ _ _ _ _ _ = _
    unfold f_X13_toOpen_b30 f_X13_toOpen_B66 mnS
    rw [if_neg (nI_ge hi (by omega)), ho, bd1_s, nI_1]
    by_cases q : openN a i < s.2
    · rw [if_pos ((iLB bb hs).2.mpr q), if_pos q, bd1_s]
    · rw [if_neg (fun e => q ((iLB bb hs).2.mp e)), if_neg q]
  · intro f s _
    show f_X13_toOpen_b30 _ _ _ _ _ _ _ _ _ _ _ _ _ _ = _
    unfold f_X13_toOpen_b30 f_X13_toOpen_B72 f_X13_good
    rw [if_pos (nI_le (Nat.le_refl _) (by omega)), bd3_s]
theorem q_toOpen (ok : okA a) (rc : rCl a wh kd md st wd) (ra : rI (a 0 2) at' (a 5)) (rm : rMo a wh' kd' md' v) (rf th tr wr : Int32) : ∃ r t, f_X11_toOpen rf (nI (a 0 0)) (nI (a 0 1)) (nI (a 0 2)) wh kd md (nI (a 0 3)) (nI (a 0 4)) st at' wd = some (r, t) ∧ f_X13_toOpen th tr wr v (nI (a 0 0)) (nI (a 0 1)) (nI (a 0 2)) wh' kd' md' = some (r, 0, t, -1) ∧ ¬ t = 4 := by
  have h1 := ok.1
  refine ⟨toOpenN a, 0, ?_, toOpenM ok rm th tr wr, by decide⟩
  unfold f_X11_toOpen
  rw [(warT (n := a 0 0) (by omega) (by omega)).1, bd1_s, refF, bd2_s, if_pos rfl, toOpenC ok rc ra, bd1_s]
/-- the game of beast j: it goes to lane l, the foe opens o -/
def gameZ (a : AS) (j l o : Nat) : Int := if l = o then aWO a j else aW a j l
theorem game_b (ok : okA a) {j l : Nat} (hj : j < a 0 2) (hl : l < a 0 0) (o : Nat) : -(2 ^ 40) < gameZ a j l o ∧ gameZ a j l o < 2 ^ 40 := by
  have b := aW_b ok hj hl
  have c := aWO_b ok hj
  unfold gameZ
  split <;> omega
def restQ (a : AS) (j l o k : Nat) : Bool := !(decide (gameZ a j k o ≤ gameZ a j l o) && decide (gameZ a j l o ≤ gameZ a j l k))
def restB (a : AS) (j l o : Nat) : Bool := (findN (restQ a j l o) (a 0 0) 0).isNone
def rWs (a : AS) (j : Nat) (ws : Nat → Int64) : Prop := ∀ l, l < a 0 0 → ws l = iL (aW a j l)
theorem weighC (ok : okA a) (rc : rCl a wh kd md st wd) {j : Nat} (hj : j < a 0 2) (wo : Int64) (ws : Nat → Int64) : ∃ ws', f_X1_weigh (nI (a 0 0)) (nI (a 0 1)) wh kd md (nI (a 0 3)) (nI (a 0 4)) st wd wo ws (nI j) = some (iL (aWO a j), ws') ∧ rWs a j ws' := by
  have h1 := ok.1
  unfold f_X1_weigh
  rw [wOC ok rc hj, bd1_s]
  have := loopN (fun f i s => f_X1_weigh_L14 (nI (a 0 0)) (nI (a 0 1)) wh kd md (nI (a 0 3)) (nI (a 0 4)) st wd (nI j) (iL (aWO a j)) f (nI i) s) (a 0 0) (fun i s => vp_updL s i (iL (aW a j i))) (fun i s => ∀ l, l < i → s l = iL (aW a j l)) (fun s => some (iL (aWO a j), s)) ?_ ?_ (a 0 0) 0 ws fuelN (by omega) (by intro l hl; omega) (fuel_gt (by omega))
  · exact ⟨_, this.1, this.2⟩
  · intro f i s hi hs
    refine ⟨?_, ?_⟩
    · intro l hl
      by_cases q : l = i
      · subst q; exact pk_uLs
      · rw [pk_uLn q]; exact hs l (by omega)
    · show f_X1_weigh_b14 _ _ _ _ _ _ _ _ _ _ _ _ _ _ = _
      unfold f_X1_weigh_b14
      rw [if_neg (nI_ge hi (by omega)), wIC ok rc hj hi, bd1_s, gI (by omega) (by decide), nI_1, nI_clamp (by omega)]
  · intro f s _
    show f_X1_weigh_b14 _ _ _ _ _ _ _ _ _ _ _ _ _ _ = _
    unfold f_X1_weigh_b14
    rw [if_pos (nI_le (Nat.le_refl _) (by omega))]
theorem ifOpC (ok : okA a) {j : Nat} {ws : Nat → Int64} (hw : rWs a j ws) {l o : Nat} (hl : l < a 0 0) (ho : o < a 0 0) : f_X1_worthIfOpened (iL (aWO a j)) ws (nI l) (nI o) = some (iL (gameZ a j l o)) := by
  have h1 := ok.1
  unfold f_X1_worthIfOpened gameZ
  by_cases q : l = o
  · rw [if_pos ((nI_eq (by omega) (by omega)).mpr q), if_pos q]
  · rw [if_neg (fun e => q ((nI_eq (by omega) (by omega)).mp e)), if_neg q, gI (by omega) (by decide), nI_clamp (by omega), hw l hl]
theorem gameM (ok : okA a) (rm : rMo a wh' kd' md' v) {j l o : Nat} (hj : j < a 0 2) (hl : l < a 0 0) (ho : o < a 0 0) : f_X13_gameOf v (nI (a 0 1)) wh' kd' md' (nI j) (nI l) (nI o) = some (iL (gameZ a j l o)) := by
  have h1 := ok.1
  have w0 : f_X13_worthBy v (nI (a 0 1)) kd' md' (nI j) (0 : Int32) (0 : Int32) = some (iL (aWO a j)) := wBM (w := 0) (s := 0) ok rm.2.1 rm.2.2.1 rm.2.2.2 hj (by decide) (by decide)
  unfold f_X13_gameOf gameZ
  by_cases q : l = o
  · rw [if_pos ((nI_eq (by omega) (by omega)).mpr q), if_pos q, w0, bd1_s]
  · rw [if_neg (fun e => q ((nI_eq (by omega) (by omega)).mp e)), if_neg q, wIM ok rm hj hl, bd1_s]
theorem matchB {p : Option Nat} : (match p with | some _ => some (0 : Int32) | none => some 1) = some (if p.isNone then 1 else 0) := by cases p <;> rfl
theorem isRestC (ok : okA a) {j : Nat} (hj : j < a 0 2) {ws : Nat → Int64} (hw : rWs a j ws) {l o : Nat} (hl : l < a 0 0) (ho : o < a 0 0) : f_X1_isRest (nI (a 0 0)) (iL (aWO a j)) ws (nI l) (nI o) = some (if restB a j l o then 1 else 0) := by
  have h1 := ok.1
  unfold f_X1_isRest restB
  rw [ifOpC ok hw hl ho, bd1_s, ← matchB]
  refine searchN (fun f i => f_X1_isRest_L10 (nI (a 0 0)) (iL (aWO a j)) ws (nI l) (nI o) (iL (gameZ a j l o)) f (nI i)) (a 0 0) (restQ a j l o) (fun _ => some 0) (some 1) ?_ ?_ (a 0 0) 0 fuelN (by omega) (fuel_gt (by omega))
  · intro f i hi
    show f_X1_isRest_b10 _ _ _ _ _ _ _ _ = _
    unfold f_X1_isRest_b10 restQ
    have g0 := game_b ok hj hl o
    have g1 := game_b ok hj hi o
    have g2 := game_b ok hj hl i
    rw [if_neg (nI_ge hi (by omega)), ifOpC ok hw hi ho, bd1_s, ifOpC ok hw hl hi, bd1_s, nI_1]
    by_cases q : gameZ a j i o ≤ gameZ a j l o
    · rw [if_neg (fun e => by have := (iLb g0 g1).2.mp e; omega), decide_eq_true q]
      by_cases q2 : gameZ a j l o ≤ gameZ a j l i
      · rw [if_pos ((iLb g0 g2).1.mpr q2), decide_eq_true q2]; rfl
      · rw [if_neg (fun e => q2 ((iLb g0 g2).1.mp e)), decide_eq_false q2]; rfl
    · rw [if_pos ((iLb g0 g1).2.mpr (by omega)), decide_eq_false q]; rfl
  · intro f
    show f_X1_isRest_b10 _ _ _ _ _ _ _ _ = _
    unfold f_X1_isRest_b10
    rw [if_pos (nI_le (Nat.le_refl _) (by omega))]
theorem isRestM (ok : okA a) (rm : rMo a wh' kd' md' v) {j : Nat} (hj : j < a 0 2) {l o : Nat} (hl : l < a 0 0) (ho : o < a 0 0) : f_X13_isRest v (nI (a 0 0)) (nI (a 0 1)) wh' kd' md' (nI j) (nI l) (nI o) = some (if restB a j l o then 1 else 0) := by
  have h1 := ok.1
  unfold f_X13_isRest restB
  rw [← matchB]
  refine searchN (fun f i => f_X13_isRest_L3 v (nI (a 0 0)) (nI (a 0 1)) wh' kd' md' (nI j) (nI l) (nI o) f (nI i)) (a 0 0) (restQ a j l o) (fun _ => some 0) (some 1) ?_ ?_ (a 0 0) 0 fuelN (by omega) (fuel_gt (by omega))
  · intro f i hi
    show f_X13_isRest_b3 _ _ _ _ _ _ _ _ _ _ _ = _
    unfold f_X13_isRest_b3 restQ
    have g0 := game_b ok hj hl o
    have g1 := game_b ok hj hi o
    have g2 := game_b ok hj hl i
    rw [if_neg (nI_ge hi (by omega)), gameM ok rm hj hi ho, bd1_s, gameM ok rm hj hl ho, bd1_s, gameM ok rm hj hl hi, bd1_s, bd1_s, nI_1]
    by_cases q : gameZ a j i o ≤ gameZ a j l o
    · rw [if_pos ((iLb g1 g0).1.mpr q), decide_eq_true q]
      by_cases q2 : gameZ a j l o ≤ gameZ a j l i
      · rw [if_pos ((iLb g0 g2).1.mpr q2), decide_eq_true q2]; rfl
      · rw [if_neg (fun e => q2 ((iLb g0 g2).1.mp e)), decide_eq_false q2]; rfl
    · rw [if_neg (fun e => q ((iLb g1 g0).1.mp e)), decide_eq_false q]; rfl
  · intro f
    show f_X13_isRest_b3 _ _ _ _ _ _ _ _ _ _ _ = _
    unfold f_X13_isRest_b3
    rw [if_pos (nI_le (Nat.le_refl _) (by omega))]
def cntS (a : AS) (j l o : Nat) (s : Int32) : Int32 := s + (if restB a j l o then 1 else 0)
def cntL (a : AS) (j l : Nat) (s : Int32) : Int32 := itN (cntS a j l) (a 0 0) 0 s
def restsN (a : AS) (j : Nat) : Int32 := itN (cntL a j) (a 0 0) 0 0
theorem restsC (ok : okA a) {j : Nat} (hj : j < a 0 2) {ws : Nat → Int64} (hw : rWs a j ws) : f_X1_countRests (nI (a 0 0)) (iL (aWO a j)) ws = some (restsN a j) := by
  have h1 := ok.1
  unfold f_X1_countRests
  refine (loopN (fun f i s => f_X1_countRests_L4 (nI (a 0 0)) (iL (aWO a j)) ws f s (nI i)) (a 0 0) (cntL a j) (fun _ _ => True) (fun s => some s) ?_ ?_ (a 0 0) 0 0 fuelN (by omega) trivial (fuel_gt (by omega))).1
  · intro f l s hl _
    refine ⟨trivial, ?_⟩
    show f_X1_countRests_b4 _ _ _ _ _ _ = _
    unfold f_X1_countRests_b4
    rw [if_neg (nI_ge hl (by omega))]
    refine (loopN (fun f' i s => f_X1_countRests_L17 (f_X1_countRests_L4 (nI (a 0 0)) (iL (aWO a j)) ws f) (nI (a 0 0)) (iL (aWO a j)) ws (nI l) f' s (nI i)) (a 0 0) (cntS a j l) (fun _ _ => True) (fun s => f_X1_countRests_L4 (nI (a 0 0)) (iL (aWO a j)) ws f s (nI (l + 1))) ?_ ?_ (a 0 0) 0 s fuelN (by omega) trivial (fuel_gt (by omega))).1
    · intro f' i s hi _
      refine ⟨trivial, ?_⟩
      show f_X1_countRests_b17 _ _ _ _ _ _ _ _ = _
      unfold f_X1_countRests_b17 f_X1_countRests_B43 cntS
      rw [if_neg (nI_ge hi (by omega)), isRestC ok hj hw hl hi, bd1_s, nI_1]
      cases restB a j l i <;> rfl
    · intro f' s _
      show f_X1_countRests_b17 _ _ _ _ _ _ _ _ = _
      unfold f_X1_countRests_b17 f_X1_countRests_B51
      rw [if_pos (nI_le (Nat.le_refl _) (by omega)), nI_1]
  · intro f s _
    show f_X1_countRests_b4 _ _ _ _ _ _ = _
    unfold f_X1_countRests_b4
    rw [if_pos (nI_le (Nat.le_refl _) (by omega))]
theorem restsM (ok : okA a) (rm : rMo a wh' kd' md' v) {j : Nat} (hj : j < a 0 2) (tr wr : Int32) : f_X13_rests_L23 v (nI (a 0 0)) (nI (a 0 1)) (nI (a 0 2)) wh' kd' md' (nI j) 0 tr wr fuelN 0 0 = some (restsN a j, 0, 0, -1) := by
  have h1 := ok.1
  refine (loopN (fun f i s => f_X13_rests_L23 v (nI (a 0 0)) (nI (a 0 1)) (nI (a 0 2)) wh' kd' md' (nI j) 0 tr wr f s (nI i)) (a 0 0) (cntL a j) (fun _ _ => True) (fun s => some (s, 0, 0, -1)) ?_ ?_ (a 0 0) 0 0 fuelN (by omega) trivial (fuel_gt (by omega))).1
  · intro f l s hl _
    refine ⟨trivial, ?_⟩
    show f_X13_rests_b23 _ _ _ _ _ _ _ _ _ _ _ _ _ _ = _
    unfold f_X13_rests_b23
    rw [if_neg (nI_ge hl (by omega))]
    refine (loopN (fun f' i s => f_X13_rests_L37 (f_X13_rests_L23 v (nI (a 0 0)) (nI (a 0 1)) (nI (a 0 2)) wh' kd' md' (nI j) 0 tr wr f) v (nI (a 0 0)) (nI (a 0 1)) (nI (a 0 2)) wh' kd' md' (nI j) (nI l) 0 tr wr f' s (nI i)) (a 0 0) (cntS a j l) (fun _ _ => True) (fun s => f_X13_rests_L23 v (nI (a 0 0)) (nI (a 0 1)) (nI (a 0 2)) wh' kd' md' (nI j) 0 tr wr f s (nI (l + 1))) ?_ ?_ (a 0 0) 0 s fuelN (by omega) trivial (fuel_gt (by omega))).1
    · intro f' i s hi _
      refine ⟨trivial, ?_⟩
      show f_X13_rests_b37 _ _ _ _ _ _ _ _ _ _ _ _ _ _ _ _ = _
      unfold f_X13_rests_b37 f_X13_rests_B66 cntS
      rw [if_neg (nI_ge hi (by omega)), isRestM ok rm hj hl hi, bd1_s, nI_1]
      cases restB a j l i <;> rfl
    · intro f' s _
      show f_X13_rests_b37 _ _ _ _ _ _ _ _ _ _ _ _ _ _ _ _ = _
      unfold f_X13_rests_b37 f_X13_rests_B74
      rw [if_pos (nI_le (Nat.le_refl _) (by omega)), nI_1]
  · intro f s _
    show f_X13_rests_b23 _ _ _ _ _ _ _ _ _ _ _ _ _ _ = _
    unfold f_X13_rests_b23 f_X13_rests_B80 f_X13_good
    rw [if_pos (nI_le (Nat.le_refl _) (by omega)), bd3_s]
theorem q_rests (ok : okA a) (rc : rCl a wh kd md st wd) (rm : rMo a wh' kd' md' v) (p1 rf th tr wr : Int32) (wo : Int64) (ws : Nat → Int64) : ∃ r t wo' ws', f_X11_rests rf (nI (a 0 0)) (nI (a 0 1)) (nI (a 0 2)) wh kd md (nI (a 0 3)) (nI (a 0 4)) st wd wo ws p1 = some (r, t, wo', ws') ∧ f_X13_rests th tr wr v (nI (a 0 0)) (nI (a 0 1)) (nI (a 0 2)) wh' kd' md' p1 = some (r, 0, t, -1) ∧ ¬ t = 4 := by
  have h1 := ok.1
  unfold f_X11_rests f_X13_rests
  rcases beastT (n := a 0 2) (by omega) p1 with ⟨-, e1, e2⟩ | ⟨j, hj, rfl, e1, e2⟩
  · refine ⟨-1, 1, wo, ws, ?_, ?_, by decide⟩
    · rw [e1, bd1_s, ref1, bd2_s]; rfl
    · rw [e2, bd1_s]; rfl
  · obtain ⟨ws', ew, hw⟩ := weighC ok rc hj wo ws
    refine ⟨restsN a j, 0, iL (aWO a j), ws', ?_, ?_, by decide⟩
    · rw [e1, bd1_s, refF, bd2_s, if_pos rfl, ew, bd2_s, restsC ok hj hw, bd1_s]
    · rw [e2, bd1_s, if_neg (by decide)]; exact restsM ok rm hj tr wr
def restH (a : AS) (j l : Nat) : Option Nat := findN (restB a j l) (a 0 0) 0
def restN (a : AS) (j : Nat) : Int32 := match findN (fun l => (restH a j l).isSome) (a 0 0) 0 with | some l => 10 * nI l + nI ((restH a j l).getD 0) | none => -2
theorem restC (ok : okA a) {j : Nat} (hj : j < a 0 2) {ws : Nat → Int64} (hw : rWs a j ws) : f_X1_firstRest (nI (a 0 0)) (iL (aWO a j)) ws = some (restN a j) := by
  have h1 := ok.1
  unfold f_X1_firstRest restN
  refine (searchN (fun f i => f_X1_firstRest_L2 (nI (a 0 0)) (iL (aWO a j)) ws f (nI i)) (a 0 0) (fun l => (restH a j l).isSome) (fun l => some (10 * nI l + nI ((restH a j l).getD 0))) (some (-2)) ?_ ?_ (a 0 0) 0 fuelN (by omega) (fuel_gt (by omega))).trans ?_
  · intro f l hl
    show f_X1_firstRest_b2 _ _ _ _ _ = _
    unfold f_X1_firstRest_b2
    rw [if_neg (nI_ge hl (by omega))]
    refine (searchN (fun f' i => f_X1_firstRest_L15 (f_X1_firstRest_L2 (nI (a 0 0)) (iL (aWO a j)) ws f) (nI (a 0 0)) (iL (aWO a j)) ws (nI l) f' (nI i)) (a 0 0) (restB a j l) (fun o => some (10 * nI l + nI o)) (f_X1_firstRest_L2 (nI (a 0 0)) (iL (aWO a j)) ws f (nI (l + 1))) ?_ ?_ (a 0 0) 0 fuelN (by omega) (fuel_gt (by omega))).trans ?_
    · intro f' i hi
      show f_X1_firstRest_b15 _ _ _ _ _ _ _ = _
      unfold f_X1_firstRest_b15
      rw [if_neg (nI_ge hi (by omega)), isRestC ok hj hw hl hi, bd1_s, nI_1]
      cases restB a j l i <;> rfl
    · intro f'
      show f_X1_firstRest_b15 _ _ _ _ _ _ _ = _
      unfold f_X1_firstRest_b15 f_X1_firstRest_B48
      rw [if_pos (nI_le (Nat.le_refl _) (by omega)), nI_1]
    · show _ = if (restH a j l).isSome = true then some (10 * nI l + nI ((restH a j l).getD 0)) else _
      unfold restH
      cases findN (restB a j l) (a 0 0) 0 <;> rfl
  · intro f
    show f_X1_firstRest_b2 _ _ _ _ _ = _
    unfold f_X1_firstRest_b2
    rw [if_pos (nI_le (Nat.le_refl _) (by omega))]
  · cases findN (fun l => (restH a j l).isSome) (a 0 0) 0 <;> rfl
theorem restM (ok : okA a) (rm : rMo a wh' kd' md' v) {j : Nat} (hj : j < a 0 2) (tr wr : Int32) : f_X13_rest_L21 v (nI (a 0 0)) (nI (a 0 1)) (nI (a 0 2)) wh' kd' md' (nI j) 0 tr wr fuelN 0 = some (restN a j, 0, 0, -1) := by
  have h1 := ok.1
  unfold restN
  refine (searchN (fun f i => f_X13_rest_L21 v (nI (a 0 0)) (nI (a 0 1)) (nI (a 0 2)) wh' kd' md' (nI j) 0 tr wr f (nI i)) (a 0 0) (fun l => (restH a j l).isSome) (fun l => some (10 * nI l + nI ((restH a j l).getD 0), 0, 0, -1)) (some (-2, 0, 0, -1)) ?_ ?_ (a 0 0) 0 fuelN (by omega) (fuel_gt (by omega))).trans ?_
  · intro f l hl
    show f_X13_rest_b21 _ _ _ _ _ _ _ _ _ _ _ _ _ = _
    unfold f_X13_rest_b21
    rw [if_neg (nI_ge hl (by omega))]
    refine (searchN (fun f' i => f_X13_rest_L34 (f_X13_rest_L21 v (nI (a 0 0)) (nI (a 0 1)) (nI (a 0 2)) wh' kd' md' (nI j) 0 tr wr f) v (nI (a 0 0)) (nI (a 0 1)) (nI (a 0 2)) wh' kd' md' (nI j) (nI l) 0 tr wr f' (nI i)) (a 0 0) (restB a j l) (fun o => some (10 * nI l + nI o, 0, 0, -1)) (f_X13_rest_L21 v (nI (a 0 0)) (nI (a 0 1)) (nI (a 0 2)) wh' kd' md' (nI j) 0 tr wr f (nI (l + 1))) ?_ ?_ (a 0 0) 0 fuelN (by omega) (fuel_gt (by omega))).trans ?_
    · intro f' i hi
      show f_X13_rest_b34 _ _ _ _ _ _ _ _ _ _ _ _ _ _ _ = _
      unfold f_X13_rest_b34 f_X13_good
      rw [if_neg (nI_ge hi (by omega)), isRestM ok rm hj hl hi, bd1_s, bd3_s, nI_1]
      cases restB a j l i <;> rfl
    · intro f'
      show f_X13_rest_b34 _ _ _ _ _ _ _ _ _ _ _ _ _ _ _ = _
      unfold f_X13_rest_b34 f_X13_rest_B72
      rw [if_pos (nI_le (Nat.le_refl _) (by omega)), nI_1]
    · show _ = if (restH a j l).isSome = true then some (10 * nI l + nI ((restH a j l).getD 0), 0, 0, -1) else _
      unfold restH
      cases findN (restB a j l) (a 0 0) 0 <;> rfl
  · intro f
    show f_X13_rest_b21 _ _ _ _ _ _ _ _ _ _ _ _ _ = _
    unfold f_X13_rest_b21 f_X13_rest_B78 f_X13_good
    rw [if_pos (nI_le (Nat.le_refl _) (by omega)), bd3_s]
  · cases findN (fun l => (restH a j l).isSome) (a 0 0) 0 <;> rfl
theorem q_rest (ok : okA a) (rc : rCl a wh kd md st wd) (rm : rMo a wh' kd' md' v) (p1 rf th tr wr : Int32) (wo : Int64) (ws : Nat → Int64) : ∃ r t wo' ws', f_X11_rest rf (nI (a 0 0)) (nI (a 0 1)) (nI (a 0 2)) wh kd md (nI (a 0 3)) (nI (a 0 4)) st wd wo ws p1 = some (r, t, wo', ws') ∧ f_X13_rest th tr wr v (nI (a 0 0)) (nI (a 0 1)) (nI (a 0 2)) wh' kd' md' p1 = some (r, 0, t, -1) ∧ ¬ t = 4 := by
  have h1 := ok.1
  unfold f_X11_rest f_X13_rest
  rcases beastT (n := a 0 2) (by omega) p1 with ⟨-, e1, e2⟩ | ⟨j, hj, rfl, e1, e2⟩
  · refine ⟨-1, 1, wo, ws, ?_, ?_, by decide⟩
    · rw [e1, bd1_s, ref1, bd2_s]; rfl
    · rw [e2, bd1_s]; rfl
  · obtain ⟨ws', ew, hw⟩ := weighC ok rc hj wo ws
    refine ⟨restN a j, 0, iL (aWO a j), ws', ?_, ?_, by decide⟩
    · rw [e1, bd1_s, refF, bd2_s, if_pos rfl, ew, bd2_s, restC ok hj hw, bd1_s]
    · rw [e2, bd1_s, if_neg (by decide)]; exact restM ok rm hj tr wr
/-- weeks: does beast j gain where horse taught n weeks stand -/
def weekP (a : AS) (n j : Nat) : Bool := decide (0 < aWB a j 3 n (aH a j))
def weekB (a : AS) (n : Nat) : Bool := (findN (weekP a n) (a 0 2) 0).isNone
def weeksN (a : AS) : Int32 := match findN (weekB a) 31 0 with | some n => nI n | none => -2
theorem it_and (p : Nat → Bool) : ∀ k i b, itN (fun j b => b && !p j) k i b = (b && (findN p k i).isNone) := by
  intro k
  induction k with
  | zero => intro i b; unfold itN findN; cases b <;> rfl
  | succ k ih =>
    intro i b
    unfold itN findN
    rw [ih (i + 1)]
    cases b <;> cases p i <;> simp
theorem anyC (ok : okA a) (rc : rCl a wh kd md st wd) {n : Nat} (hn : n ≤ 30) : f_X4_anyGainsByHorse (nI (a 0 1)) (nI (a 0 2)) kd md (nI (a 0 3)) (nI (a 0 4)) wd (nI n) = some (if weekB a n then 0 else 1) := by
  have h1 := ok.1
  unfold f_X4_anyGainsByHorse weekB
  refine (searchN (fun f i => f_X4_anyGainsByHorse_L2 (nI (a 0 1)) (nI (a 0 2)) kd md (nI (a 0 3)) (nI (a 0 4)) wd (nI n) f (nI i)) (a 0 2) (weekP a n) (fun _ => some 1) (some 0) ?_ ?_ (a 0 2) 0 fuelN (by omega) (fuel_gt (by omega))).trans ?_
  · intro f i hi
    have h2 := ok.2.1 i hi
    have b := aWB_b (w := 3) (s := n) ok hi (by omega) (aH_le ok hi)
    have e := (iLB (x := aWB a i 3 n (aH a i)) (y := 0) (by omega) (by omega)).1
    rw [show iL 0 = 0 from rfl] at e
    have w : f_X4_worthBy (nI (a 0 1)) kd (nI (a 0 3)) wd (nI i) (3 : Int32) (nI n) (nI (aH a i)) = _ := wBC (w := 3) (s := n) ok rc.2.1 rc.2.2.2.2 hi (by decide) (by omega) (aH_le ok hi)
    show f_X4_anyGainsByHorse_b2 _ _ _ _ _ _ _ _ _ _ = _
    unfold f_X4_anyGainsByHorse_b2 weekP
    rw [if_neg (nI_ge hi (by omega)), holdC (by omega) (rc.2.1 i hi) h2.1 (rc.2.2.1 i hi) (by omega) h1.2.2.2.2.2.2.2.1, bd1_s, w, bd1_s, nI_1]
    by_cases q : 0 < aWB a i 3 n (aH a i)
    · rw [if_neg (fun h => by have := e.mp h; omega), decide_eq_true q]; rfl
    · rw [if_pos (e.mpr (by omega)), decide_eq_false q]; rfl
  · intro f
    show f_X4_anyGainsByHorse_b2 _ _ _ _ _ _ _ _ _ _ = _
    unfold f_X4_anyGainsByHorse_b2
    rw [if_pos (nI_le (Nat.le_refl _) (by omega))]
  · cases findN (weekP a n) (a 0 2) 0 <;> rfl
theorem weeksC (ok : okA a) (rc : rCl a wh kd md st wd) : f_X4_leastWeeks (nI (a 0 1)) (nI (a 0 2)) kd md (nI (a 0 3)) (nI (a 0 4)) wd = some (weeksN a) := by
  have h1 := ok.1
  unfold f_X4_leastWeeks weeksN
  refine (searchN (fun f i => f_X4_leastWeeks_L2 (nI (a 0 1)) (nI (a 0 2)) kd md (nI (a 0 3)) (nI (a 0 4)) wd f (nI i)) 31 (weekB a) (fun n => some (nI n)) (some (-2)) ?_ ?_ 31 0 fuelN (by omega) (fuel_gt (by omega))).trans ?_
  · intro f i hi
    show f_X4_leastWeeks_b2 _ _ _ _ _ _ _ _ _ = _
    unfold f_X4_leastWeeks_b2
    rw [if_neg (show ¬ (30 : Int32) < nI i from nI_nlt (b := i) (a := 30) (by omega) (by decide)), anyC ok rc (by omega), bd1_s, nI_1]
    cases weekB a i <;> rfl
  · intro f
    show f_X4_leastWeeks_b2 _ _ _ _ _ _ _ _ _ = _
    unfold f_X4_leastWeeks_b2
    rw [if_pos (by decide)]
  · cases findN (weekB a) 31 0 <;> rfl
theorem weeksM (ok : okA a) (rm : rMo a wh' kd' md' v) (tr wr : Int32) : f_X13_weeks_L40 v (nI (a 0 0)) (nI (a 0 1)) (nI (a 0 2)) wh' kd' md' 0 tr wr fuelN 0 = some (weeksN a, 0, 0, -1) := by
  have h1 := ok.1
  unfold weeksN
  refine (searchN (fun f i => f_X13_weeks_L40 v (nI (a 0 0)) (nI (a 0 1)) (nI (a 0 2)) wh' kd' md' 0 tr wr f (nI i)) 31 (weekB a) (fun n => some (nI n, 0, 0, -1)) (some (-2, 0, 0, -1)) ?_ ?_ 31 0 fuelN (by omega) (fuel_gt (by omega))).trans ?_
  · intro f n hn
    show f_X13_weeks_b40 _ _ _ _ _ _ _ _ _ _ _ _ = _
    unfold f_X13_weeks_b40
    rw [if_neg (show ¬ (30 : Int32) < nI n from nI_nlt (b := n) (a := 30) (by omega) (by decide))]
    refine (loopN (fun f' i (s : Bool) => f_X13_weeks_L51 (f_X13_weeks_L40 v (nI (a 0 0)) (nI (a 0 1)) (nI (a 0 2)) wh' kd' md' 0 tr wr f) v (nI (a 0 0)) (nI (a 0 1)) (nI (a 0 2)) wh' kd' md' (nI n) 0 tr wr f' (if s then 1 else 0) (nI i)) (a 0 2) (fun j b => b && !weekP a n j) (fun _ _ => True) (fun s => if s then some (nI n, 0, 0, -1) else f_X13_weeks_L40 v (nI (a 0 0)) (nI (a 0 1)) (nI (a 0 2)) wh' kd' md' 0 tr wr f (nI (n + 1))) ?_ ?_ (a 0 2) 0 true fuelN (by omega) trivial (fuel_gt (by omega))).1.trans ?_
    · intro f' i s hi _
      refine ⟨trivial, ?_⟩
      have h2 := ok.2.1 i hi
      have b := aWB_b (w := 3) (s := n) ok hi (by omega) (aH_le ok hi)
      have e := (iLB (x := 0) (y := aWB a i 3 n (aH a i)) (by omega) (by omega)).2
      rw [show iL 0 = 0 from rfl] at e
      have w : f_X13_worthBy v (nI (a 0 1)) kd' md' (nI i) (3 : Int32) (nI n) = _ := wBM (w := 3) (s := n) ok rm.2.1 rm.2.2.1 rm.2.2.2 hi (by decide) (by omega)
      show f_X13_weeks_b51 _ _ _ _ _ _ _ _ _ _ _ _ _ _ _ = _
      unfold f_X13_weeks_b51 f_X13_weeks_B93 f_X13_weeks_B89 f_X13_weeks_B94
      rw [if_neg (nI_ge hi (by omega)), isDeadM rm.2.2.2.1 ok.d (by omega), bd1_s, w, bd1_s, nI_1]
      have hz : aD a i = true → weekP a n i = false := by
        intro hd
        unfold weekP aWB worthZ
        rw [if_pos hd]
        rfl
      have hp : weekP a n i = decide (0 < aWB a i 3 n (aH a i)) := rfl
      cases s
      · rfl
      · rw [if_neg (by decide)]
        cases hd : aD a i
        · rw [if_pos (by rw [show bit (a 0 3) i = false from hd]; rfl), hp]
          by_cases q : 0 < aWB a i 3 n (aH a i)
          · rw [if_pos (e.mpr q), decide_eq_true q]; rfl
          · rw [if_neg (fun h => q (e.mp h)), decide_eq_false q]; rfl
        · rw [if_neg (by rw [show bit (a 0 3) i = true from hd]; decide), hz hd]; rfl
    · intro f' s _
      show f_X13_weeks_b51 _ _ _ _ _ _ _ _ _ _ _ _ _ _ _ = _
      unfold f_X13_weeks_b51 f_X13_weeks_B101 f_X13_good
      rw [if_pos (nI_le (Nat.le_refl _) (by omega)), bd3_s, nI_1]
      cases s <;> rfl
    · rw [it_and]
      unfold weekB
      cases findN (weekP a n) (a 0 2) 0 <;> rfl
  · intro f
    show f_X13_weeks_b40 _ _ _ _ _ _ _ _ _ _ _ _ = _
    unfold f_X13_weeks_b40 f_X13_weeks_B117 f_X13_good
    rw [if_pos (by decide), bd3_s]
  · cases findN (weekB a) 31 0 <;> rfl
theorem horseT (ok : okA a) (rw : rI (a 0 0) wh (a 4)) (rw' : rI (a 0 0) wh' (a 4)) (x : Int32) : (f_X13_isLane (nI (a 0 0)) x = some 0 ∧ ∀ y, f_X11_horseTrouble (nI (a 0 0)) wh x y = some 1) ∨ ∃ l, l < a 0 0 ∧ x = nI l ∧ f_X13_isLane (nI (a 0 0)) x = some 1 ∧ f_X11_horseTrouble (nI (a 0 0)) wh x 0 = some (if a 4 l = 3 then 0 else 5) ∧ (∀ y, ¬ y = 0 → f_X11_horseTrouble (nI (a 0 0)) wh x y = some y) ∧ (wh' l = 3 ↔ a 4 l = 3) := by
  have h1 := ok.1
  unfold f_X11_horseTrouble
  rcases ix2 x (n := a 0 0) (by omega) with h | ⟨l, hl, rfl⟩
  · have := hbN h
    exact Or.inl ⟨this.2.2.2.2.1, fun y => by rw [this.2.1, bd1_s]; rfl⟩
  · have hx := hbY (n := a 0 0) (by omega) hl
    have h3 := ok.2.2 l hl
    have e3 : nI (a 4 l) = 3 ↔ a 4 l = 3 := nI_eq (b := 3) (by omega) (by decide)
    refine Or.inr ⟨l, hl, rfl, hx.2.2.2.2.1, ?_, ?_, ?_⟩
    · rw [hx.2.1, bd1_s, if_neg (by decide), if_pos rfl, gI (by omega) (by decide), nI_clamp (by omega), rw l hl]
      by_cases q : a 4 l = 3
      · rw [if_pos (e3.mpr q), if_pos q]
      · rw [if_neg (fun h => q (e3.mp h)), if_neg q]
    · intro y hy
      rw [hx.2.1, bd1_s, if_neg (by decide), if_neg hy]
    · rw [rw' l hl]; exact e3
theorem q_weeks (ok : okA a) (rc : rCl a wh kd md st wd) (rm : rMo a wh' kd' md' v) (p1 rf th tr wr : Int32) : ∃ r t, f_X11_weeks rf (nI (a 0 0)) (nI (a 0 1)) (nI (a 0 2)) wh kd md (nI (a 0 3)) (nI (a 0 4)) wd p1 = some (r, t) ∧ f_X13_weeks th tr wr v (nI (a 0 0)) (nI (a 0 1)) (nI (a 0 2)) wh' kd' md' p1 = some (r, 0, t, -1) ∧ ¬ t = 4 := by
  have h1 := ok.1
  unfold f_X11_weeks f_X13_weeks
  rcases horseT ok rc.1 rm.1 p1 with ⟨e2, e1⟩ | ⟨l, hl, rfl, e2, e1, -, e3⟩
  · refine ⟨-1, 1, ?_, ?_, by decide⟩
    · rw [e1, bd1_s, ref1, bd2_s]; rfl
    · rw [e2, bd1_s]; rfl
  · by_cases q : a 4 l = 3
    · refine ⟨weeksN a, 0, ?_, ?_, by decide⟩
      · rw [e1, if_pos q, bd1_s, refF, bd2_s, if_pos rfl, weeksC ok rc, bd1_s]
      · rw [e2, bd1_s, if_neg (by decide), gI (by omega) (by decide), nI_clamp (by omega), if_pos (e3.mpr q)]
        exact weeksM ok rm tr wr
    · refine ⟨-1, 5, ?_, ?_, by decide⟩
      · rw [e1, if_neg q, bd1_s]; rfl
      · rw [e2, bd1_s, if_neg (by decide), gI (by omega) (by decide), nI_clamp (by omega), if_neg (fun h => q (e3.mp h))]; rfl
end B9
