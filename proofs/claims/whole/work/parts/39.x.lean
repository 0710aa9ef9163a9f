/-! B9: toOpen, rests, rest, weeks -/
def addS (t : Nat → Int) (j : Nat) (s : Int) : Int := s + t j
theorem add_b {t : Nat → Int} {B : Int} : ∀ k i (s : Int), (∀ j, i ≤ j → j < i + k → -B ≤ t j ∧ t j ≤ B) → s - k * B ≤ itN (addS t) k i s ∧ itN (addS t) k i s ≤ s + k * B := by
  intro k
  induction k with
  | zero => intro i s _; unfold itN; simp
  | succ k ih =>
    intro i s h
    have h0 := h i (Nat.le_refl _) (by omega)
    have := ih (i + 1) (s + t i) (fun j h1 h2 => h j (by omega) (by omega))
    unfold itN addS
    unfold addS at this
    have e : ((k + 1 : Nat) : Int) * B = (k : Int) * B + B := by rw [Int.natCast_add, Int.add_mul]; simp
    omega
theorem add_sum {t u w : Nat → Int} : ∀ k i (s s' : Int), (∀ j, i ≤ j → j < i + k → w j = t j + u j) → itN (addS w) k i (s + s') = itN (addS t) k i s + itN (addS u) k i s' := by
  intro k
  induction k with
  | zero => intro i s s' _; rfl
  | succ k ih =>
    intro i s s' h
    unfold itN
    rw [← ih (i + 1) _ _ (fun j h1 h2 => h j (by omega) (by omega))]
    unfold addS
    rw [h i (Nat.le_refl _) (by omega)]
    congr 1
    omega
theorem mn_shift {val : Nat → Int} (c : Int) : ∀ k i (x : Int32) (s : Int), itN (mnS (fun j => c + val j)) k i (x, c + s) = ((itN (mnS val) k i (x, s)).1, c + (itN (mnS val) k i (x, s)).2) := by
  intro k
  induction k with
  | zero => intro i x s; rfl
  | succ k ih =>
    intro i x s
    unfold itN
    unfold mnS
    by_cases q : val i < s
    · rw [if_pos (show c + val i < (x, c + s).2 by show c + val i < c + s; omega), if_pos (show val i < (x, s).2 from q)]
      exact ih (i + 1) (nI i) (val i)
    · rw [if_neg (show ¬ c + val i < (x, c + s).2 by show ¬ c + val i < c + s; omega), if_neg (show ¬ val i < (x, s).2 from q)]
      exact ih (i + 1) x s
theorem mn_cong {val val' : Nat → Int} : ∀ k i s, (∀ j, i ≤ j → j < i + k → val j = val' j) → itN (mnS val) k i s = itN (mnS val') k i s := by
  intro k
  induction k with
  | zero => intro i s _; rfl
  | succ k ih =>
    intro i s h
    unfold itN
    rw [show mnS val i s = mnS val' i s by unfold mnS; rw [h i (Nat.le_refl _) (by omega)]]
    exact ih (i + 1) _ (fun j h1 h2 => h j (by omega) (by omega))
section B9
variable {a : AS} {wh kd md st wd at' wh' kd' md' v : Nat → Int32}
/-- what the foe gains by opening lane o; the sum with lane o open -/
def gainT (a : AS) (o j : Nat) : Int := if a 5 j = o then aWO a j - aW a j (a 5 j) else 0
def gainN (a : AS) (o : Nat) : Int := itN (addS (gainT a o)) (a 0 2) 0 0
def openT (a : AS) (o j : Nat) : Int := if a 5 j = o then aWO a j else aW a j (a 5 j)
def openN (a : AS) (o : Nat) : Int := itN (addS (openT a o)) (a 0 2) 0 0
theorem gain_b (ok : okA a) (o : Nat) : -(2 ^ 60) < gainN a o ∧ gainN a o < 2 ^ 60 := by
  have := add_b (t := gainT a o) (B := 2 ^ 41) (a 0 2) 0 0 (by
    intro j _ hj
    have hj : j < a 0 2 := by omega
    have b := aW_b ok hj (ok.2.1 j hj).2.2.2.2.1
    have c := aWO_b ok hj
    unfold gainT
    split <;> omega)
  unfold gainN
  have h1 := ok.1
  have e : (a 0 2 : Int) * 2 ^ 41 ≤ 5 * 2 ^ 41 := Int.mul_le_mul_of_nonneg_right (by omega) (by decide)
  omega
theorem open_b (ok : okA a) (o : Nat) : -(2 ^ 59) < openN a o ∧ openN a o < 2 ^ 59 := by
  have := add_b (t := openT a o) (B := 2 ^ 41) (a 0 2) 0 0 (by
    intro j _ hj
    have hj : j < a 0 2 := by omega
    have b := aW_b ok hj (ok.2.1 j hj).2.2.2.2.1
    have c := aWO_b ok hj
    unfold openT
    split <;> omega)
  unfold openN
  have h1 := ok.1
  have e : (a 0 2 : Int) * 2 ^ 41 ≤ 5 * 2 ^ 41 := Int.mul_le_mul_of_nonneg_right (by omega) (by decide)
  omega
theorem open_gain (ok : okA a) (o : Nat) : openN a o = openN a 999 + gainN a o := by
  unfold openN gainN
  refine (add_sum (a 0 2) 0 0 0 ?_)
  intro j _ hj
  have hj : j < a 0 2 := by omega
  have h1 := ok.1
  have h5 := (ok.2.1 j hj).2.2.2.2.1
  unfold openT gainT
  rw [if_neg (show ¬ a 5 j = 999 by omega)]
  split <;> omega
theorem gainC (ok : okA a) (rc : rCl a wh kd md st wd) (ra : rI (a 0 2) at' (a 5)) {o : Nat} (ho : o < a 0 0) : f_X1_gainByOpening (nI (a 0 1)) (nI (a 0 2)) wh kd md (nI (a 0 3)) (nI (a 0 4)) st at' wd (nI o) = some (iL (gainN a o)) := by
  have h1 := ok.1
  unfold f_X1_gainByOpening
  have := (loopN (fun f i s => f_X1_gainByOpening_L5 (nI (a 0 1)) (nI (a 0 2)) wh kd md (nI (a 0 3)) (nI (a 0 4)) st at' wd (nI o) f (iL s) (nI i)) (a 0 2) (addS (gainT a o)) (fun _ _ => True) (fun s => some (iL s)) ?_ ?_ (a 0 2) 0 0 fuelN (by omega) trivial (fuel_gt (by omega))).1
  · exact this
  · intro f i s hi _
    refine ⟨trivial, ?_⟩
    have h5 := (ok.2.1 i hi).2.2.2.2.1
    show f_X1_gainByOpening_b5 _ _ _ _ _ _ _ _ _ _ _ _ _ _ = _
    unfold f_X1_gainByOpening_b5 f_X1_gainByOpening_B54 addS gainT
    rw [if_neg (nI_ge hi (by omega)), gI (by omega) (by decide), nI_clamp (by omega), ra i hi, nI_1]
    by_cases q : a 5 i = o
    · rw [if_pos ((nI_eq (by omega) (by omega)).mpr q), wOC ok rc hi, bd1_s, wIC ok rc hi ho, bd1_s, if_pos q, iL_sub, iL_add, q]
    · rw [if_neg (fun e => q ((nI_eq (by omega) (by omega)).mp e)), if_neg q, Int.add_zero]
  · intro f s _
    show f_X1_gainByOpening_b5 _ _ _ _ _ _ _ _ _ _ _ _ _ _ = _
    unfold f_X1_gainByOpening_b5
    rw [if_pos (nI_le (Nat.le_refl _) (by omega))]
theorem openM (ok : okA a) (rm : rMo a wh' kd' md' v) (o : Nat) (x : Int32) (hx : ∀ j, j < 6 → (nI j = x ↔ j = o)) : f_X13_sumOpen v (nI (a 0 1)) (nI (a 0 2)) wh' kd' md' x = some (iL (openN a o)) := by
  have h1 := ok.1
  unfold f_X13_sumOpen
  have := (loopN (fun f i s => f_X13_sumOpen_L5 v (nI (a 0 1)) (nI (a 0 2)) wh' kd' md' x f (iL s) (nI i)) (a 0 2) (addS (openT a o)) (fun _ _ => True) (fun s => some (iL s)) ?_ ?_ (a 0 2) 0 0 fuelN (by omega) trivial (fuel_gt (by omega))).1
  · exact this
  · intro f i s hi _
    refine ⟨trivial, ?_⟩
    have h5 := (ok.2.1 i hi).2.2.2.2.1
    have e : v i = nI (a 5 i) := rm.2.2.2.2.2.2.1 i hi
    have w0 : f_X13_worthBy v (nI (a 0 1)) kd' md' (nI i) (0 : Int32) (0 : Int32) = some (iL (aWO a i)) := wBM (w := 0) (s := 0) ok rm.2.1 rm.2.2.1 rm.2.2.2 hi (by decide) (by decide)
    show f_X13_sumOpen_b5 _ _ _ _ _ _ _ _ _ _ = _
    unfold f_X13_sumOpen_b5 f_X13_sumOpen_B57 addS openT
    rw [if_neg (nI_ge hi (by omega)), n0, gI (by omega) (by decide), nI_clamp (by omega), e, nI_1]
    by_cases q : a 5 i = o
    · rw [if_pos ((hx _ (by omega)).mpr q), w0, bd1_s, if_pos q, iL_add]
    · rw [if_neg (fun e => q ((hx _ (by omega)).mp e)), gI (by omega) (by decide), wIM ok rm hi h5, bd1_s, if_neg q, iL_add]
  · intro f s _
    show f_X13_sumOpen_b5 _ _ _ _ _ _ _ _ _ _ = _
    unfold f_X13_sumOpen_b5
    rw [if_pos (nI_le (Nat.le_refl _) (by omega))]
def toOpenN (a : AS) : Int32 := (itN (mnS (gainN a)) (a 0 0) 0 (-2, 0)).1
theorem toOpenC (ok : okA a) (rc : rCl a wh kd md st wd) (ra : rI (a 0 2) at' (a 5)) : f_X1_laneBestOpened (nI (a 0 0)) (nI (a 0 1)) (nI (a 0 2)) wh kd md (nI (a 0 3)) (nI (a 0 4)) st at' wd = some (toOpenN a) := by
  have h1 := ok.1
  unfold f_X1_laneBestOpened
  have := (loopN (fun f i s => f_X1_laneBestOpened_L8 (nI (a 0 0)) (nI (a 0 1)) (nI (a 0 2)) wh kd md (nI (a 0 3)) (nI (a 0 4)) st at' wd f s.1 (iL s.2) (nI i)) (a 0 0) (mnS (gainN a)) (fun _ s => -(2 ^ 60) < s.2 ∧ s.2 < 2 ^ 60) (fun s => some s.1) ?_ ?_ (a 0 0) 0 (-2, 0) fuelN (by omega) (by decide) (fuel_gt (by omega))).1
  · exact this
  · intro f i s hi hs
    have bb := gain_b ok i
    refine ⟨by unfold mnS; split; exact bb; exact hs, ?_⟩
    show f_X1_laneBestOpened_b8 _ _ _ _ _ _ _ _ _ _ _ _ _ _ _ = _
    unfold f_X1_laneBestOpened_b8 f_X1_laneBestOpened_B41 mnS
    rw [if_neg (nI_ge hi (by omega)), gainC ok rc ra hi, bd1_s, nI_1]
    by_cases q : gainN a i < s.2
    · rw [if_neg (fun e => by have := (iLB hs bb).1.mp e; omega), if_pos q]
    · rw [if_pos ((iLB hs bb).1.mpr (by omega)), if_neg q]
  · intro f s _
    show f_X1_laneBestOpened_b8 _ _ _ _ _ _ _ _ _ _ _ _ _ _ _ = _
    unfold f_X1_laneBestOpened_b8
    rw [if_pos (nI_le (Nat.le_refl _) (by omega))]
theorem toOpenM (ok : okA a) (rm : rMo a wh' kd' md' v) (th tr wr : Int32) : f_X13_toOpen th tr wr v (nI (a 0 0)) (nI (a 0 1)) (nI (a 0 2)) wh' kd' md' = some (toOpenN a, 0, 0, -1) := by
  have h1 := ok.1
  unfold f_X13_toOpen
  rw [openM ok rm 999 (-1) (by intro j hj; constructor <;> intro e; rcases (show j = 0 ∨ j = 1 ∨ j = 2 ∨ j = 3 ∨ j = 4 ∨ j = 5 by omega) with rfl | rfl | rfl | rfl | rfl | rfl <;> exact absurd e (by decide); omega), bd1_s]
  have b0 := open_b ok 999
  have := (loopN (fun f i s => f_X13_toOpen_L30 v (nI (a 0 0)) (nI (a 0 1)) (nI (a 0 2)) wh' kd' md' 0 tr wr f s.1 (iL s.2) (nI i)) (a 0 0) (mnS (openN a)) (fun _ s => -(2 ^ 60) < s.2 ∧ s.2 < 2 ^ 60) (fun s => some (s.1, 0, 0, -1)) ?_ ?_ (a 0 0) 0 (-2, openN a 999) fuelN (by omega) (by constructor <;> (show _; simp only; omega)) (fuel_gt (by omega))).1
  · refine this.trans ?_
    have e1 := mn_cong (val := openN a) (val' := fun j => openN a 999 + gainN a j) (a 0 0) 0 (-2, openN a 999) (fun j _ _ => open_gain ok j)
    have e2 := mn_shift (val := gainN a) (openN a 999) (a 0 0) 0 (-2) 0
    rw [Int.add_zero] at e2
    rw [e1, e2]
    rfl
  · intro f i s hi hs
    have bo := open_b ok i
    have bb : -(2 ^ 60) < openN a i ∧ openN a i < 2 ^ 60 := by omega
    have ho := openM ok rm i (nI i) (fun j hj => nI_eq (by omega) (by omega))
    refine ⟨by unfold mnS; split; exact bb; exact hs, ?_⟩
    show f_X13_toOpen_b30 _ _ _ _ _ _ _ _ _ _ _ _ _ _ = _
    unfold f_X13_toOpen_b30 f_X13_toOpen_B66 mnS
    rw [if_neg (nI_ge hi (by omega)), ho, bd1_s, nI_1]
    by_cases q : openN a i < s.2
    · rw [if_pos ((iLB bb hs).2.mpr q), if_pos q, bd1_s]
    · rw [if_neg (fun e => q ((iLB bb hs).2.mp e)), if_neg q]
  · intro f s _
    show f_X13_toOpen_b30 _ _ _ _ _ _ _ _ _ _ _ _ _ _ = _
    unfold f_X13_toOpen_b30 f_X13_toOpen_B72 f_X13_good
    rw [if_pos (nI_le (Nat.le_refl _) (by omega)), bd3_s]
theorem q_toOpen (ok : okA a) (rc : rCl a wh kd md st wd) (ra : rI (a 0 2) at' (a 5)) (rm : rMo a wh' kd' md' v) (rf th tr wr : Int32) : ∃ r t, f_X11_toOpen rf (nI (a 0 0)) (nI (a 0 1)) (nI (a 0 2)) wh kd md (nI (a 0 3)) (nI (a 0 4)) st at' wd = some (r, t) ∧ f_X13_toOpen th tr wr v (nI (a 0 0)) (nI (a 0 1)) (nI (a 0 2)) wh' kd' md' = some (r, 0, t, -1) ∧ ¬ t = 4 := by
  have h1 := ok.1
  refine ⟨toOpenN a, 0, ?_, toOpenM ok rm th tr wr, by decide⟩
  unfold f_X11_toOpen
  rw [(warT (n := a 0 0) (by omega) (by omega)).1, bd1_s, refF, bd2_s, if_pos rfl, toOpenC ok rc ra, bd1_s]
/-- the game of beast j: it goes to lane l, the foe opens o -/
def gameZ (a : AS) (j l o : Nat) : Int := if l = o then aWO a j else aW a j l
theorem game_b (ok : okA a) {j l : Nat} (hj : j < a 0 2) (hl : l < a 0 0) (o : Nat) : -(2 ^ 40) < gameZ a j l o ∧ gameZ a j l o < 2 ^ 40 := by
  have b := aW_b ok hj hl
  have c := aWO_b ok hj
  unfold gameZ
  split <;> omega
def restQ (a : AS) (j l o k : Nat) : Bool := !(decide (gameZ a j k o ≤ gameZ a j l o) && decide (gameZ a j l o ≤ gameZ a j l k))
def restB (a : AS) (j l o : Nat) : Bool := (findN (restQ a j l o) (a 0 0) 0).isNone
def rWs (a : AS) (j : Nat) (ws : Nat → Int64) : Prop := ∀ l, l < a 0 0 → ws l = iL (aW a j l)
theorem weighC (ok : okA a) (rc : rCl a wh kd md st wd) {j : Nat} (hj : j < a 0 2) (wo : Int64) (ws : Nat → Int64) : ∃ ws', f_X1_weigh (nI (a 0 0)) (nI (a 0 1)) wh kd md (nI (a 0 3)) (nI (a 0 4)) st wd wo ws (nI j) = some (iL (aWO a j), ws') ∧ rWs a j ws' := by
  have h1 := ok.1
  unfold f_X1_weigh
  rw [wOC ok rc hj, bd1_s]
  have := loopN (fun f i s => f_X1_weigh_L14 (nI (a 0 0)) (nI (a 0 1)) wh kd md (nI (a 0 3)) (nI (a 0 4)) st wd (nI j) (iL (aWO a j)) f (nI i) s) (a 0 0) (fun i s => vp_updL s i (iL (aW a j i))) (fun i s => ∀ l, l < i → s l = iL (aW a j l)) (fun s => some (iL (aWO a j), s)) ?_ ?_ (a 0 0) 0 ws fuelN (by omega) (by intro l hl; omega) (fuel_gt (by omega))
  · exact ⟨_, this.1, this.2⟩
  · intro f i s hi hs
    refine ⟨?_, ?_⟩
    · intro l hl
      by_cases q : l = i
      · subst q; exact pk_uLs
      · rw [pk_uLn q]; exact hs l (by omega)
    · show f_X1_weigh_b14 _ _ _ _ _ _ _ _ _ _ _ _ _ _ = _
      unfold f_X1_weigh_b14
      rw [if_neg (nI_ge hi (by omega)), wIC ok rc hj hi, bd1_s, gI (by omega) (by decide), nI_1, nI_clamp (by omega)]
  · intro f s _
    show f_X1_weigh_b14 _ _ _ _ _ _ _ _ _ _ _ _ _ _ = _
    unfold f_X1_weigh_b14
    rw [if_pos (nI_le (Nat.le_refl _) (by omega))]
theorem ifOpC (ok : okA a) {j : Nat} {ws : Nat → Int64} (hw : rWs a j ws) {l o : Nat} (hl : l < a 0 0) (ho : o < a 0 0) : f_X1_worthIfOpened (iL (aWO a j)) ws (nI l) (nI o) = some (iL (gameZ a j l o)) := by
  have h1 := ok.1
  unfold f_X1_worthIfOpened gameZ
  by_cases q : l = o
  · rw [if_pos ((nI_eq (by omega) (by omega)).mpr q), if_pos q]
  · rw [if_neg (fun e => q ((nI_eq (by omega) (by omega)).mp e)), if_neg q, gI (by omega) (by decide), nI_clamp (by omega), hw l hl]
theorem gameM (ok : okA a) (rm : rMo a wh' kd' md' v) {j l o : Nat} (hj : j < a 0 2) (hl : l < a 0 0) (ho : o < a 0 0) : f_X13_gameOf v (nI (a 0 1)) wh' kd' md' (nI j) (nI l) (nI o) = some (iL (gameZ a j l o)) := by
  have h1 := ok.1
  have w0 : f_X13_worthBy v (nI (a 0 1)) kd' md' (nI j) (0 : Int32) (0 : Int32) = some (iL (aWO a j)) := wBM (w := 0) (s := 0) ok rm.2.1 rm.2.2.1 rm.2.2.2 hj (by decide) (by decide)
  unfold f_X13_gameOf gameZ
  by_cases q : l = o
  · rw [if_pos ((nI_eq (by omega) (by omega)).mpr q), if_pos q, w0, bd1_s]
  · rw [if_neg (fun e => q ((nI_eq (by omega) (by omega)).mp e)), if_neg q, wIM ok rm hj hl, bd1_s]
theorem matchB {p : Option Nat} : (match p with | some _ => some (0 : Int32) | none => some 1) = some (if p.isNone then 1 else 0) := by cases p <;> rfl
theorem isRestC (ok : okA a) {j : Nat} (hj : j < a 0 2) {ws : Nat → Int64} (hw : rWs a j ws) {l o : Nat} (hl : l < a 0 0) (ho : o < a 0 0) : f_X1_isRest (nI (a 0 0)) (iL (aWO a j)) ws (nI l) (nI o) = some (if restB a j l o then 1 else 0) := by
  have h1 := ok.1
  unfold f_X1_isRest restB
  rw [ifOpC ok hw hl ho, bd1_s, ← matchB]
  refine searchN (fun f i => f_X1_isRest_L10 (nI (a 0 0)) (iL (aWO a j)) ws (nI l) (nI o) (iL (gameZ a j l o)) f (nI i)) (a 0 0) (restQ a j l o) (fun _ => some 0) (some 1) ?_ ?_ (a 0 0) 0 fuelN (by omega) (fuel_gt (by omega))
  · intro f i hi
    show f_X1_isRest_b10 _ _ _ _ _ _ _ _ = _
    unfold f_X1_isRest_b10 restQ
    have g0 := game_b ok hj hl o
    have g1 := game_b ok hj hi o
    have g2 := game_b ok hj hl i
    rw [if_neg (nI_ge hi (by omega)), ifOpC ok hw hi ho, bd1_s, ifOpC ok hw hl hi, bd1_s, nI_1]
    by_cases q : gameZ a j i o ≤ gameZ a j l o
    · rw [if_neg (fun e => by have := (iLb g0 g1).2.mp e; omega), decide_eq_true q]
      by_cases q2 : gameZ a j l o ≤ gameZ a j l i
      · rw [if_pos ((iLb g0 g2).1.mpr q2), decide_eq_true q2]; rfl
      · rw [if_neg (fun e => q2 ((iLb g0 g2).1.mp e)), decide_eq_false q2]; rfl
    · rw [if_pos ((iLb g0 g1).2.mpr (by omega)), decide_eq_false q]; rfl
  · intro f
    show f_X1_isRest_b10 _ _ _ _ _ _ _ _ = _
    unfold f_X1_isRest_b10
    rw [if_pos (nI_le (Nat.le_refl _) (by omega))]
theorem isRestM (ok : okA a) (rm : rMo a wh' kd' md' v) {j : Nat} (hj : j < a 0 2) {l o : Nat} (hl : l < a 0 0) (ho : o < a 0 0) : f_X13_isRest v (nI (a 0 0)) (nI (a 0 1)) wh' kd' md' (nI j) (nI l) (nI o) = some (if restB a j l o then 1 else 0) := by
  have h1 := ok.1
  unfold f_X13_isRest restB
  rw [← matchB]
  refine searchN (fun f i => f_X13_isRest_L3 v (nI (a 0 0)) (nI (a 0 1)) wh' kd' md' (nI j) (nI l) (nI o) f (nI i)) (a 0 0) (restQ a j l o) (fun _ => some 0) (some 1) ?_ ?_ (a 0 0) 0 fuelN (by omega) (fuel_gt (by omega))
  · intro f i hi
    show f_X13_isRest_b3 _ _ _ _ _ _ _ _ _ _ _ = _
    unfold f_X13_isRest_b3 restQ
    have g0 := game_b ok hj hl o
    have g1 := game_b ok hj hi o
    have g2 := game_b ok hj hl i
    rw [if_neg (nI_ge hi (by omega)), gameM ok rm hj hi ho, bd1_s, gameM ok rm hj hl ho, bd1_s, gameM ok rm hj hl hi, bd1_s, bd1_s, nI_1]
    by_cases q : gameZ a j i o ≤ gameZ a j l o
    · rw [if_pos ((iLb g1 g0).1.mpr q), decide_eq_true q]
      by_cases q2 : gameZ a j l o ≤ gameZ a j l i
      · rw [if_pos ((iLb g0 g2).1.mpr q2), decide_eq_true q2]; rfl
      · rw [if_neg (fun e => q2 ((iLb g0 g2).1.mp e)), decide_eq_false q2]; rfl
    · rw [if_neg (fun e => q ((iLb g1 g0).1.mp e)), decide_eq_false q]; rfl
  · intro f
    show f_X13_isRest_b3 _ _ _ _ _ _ _ _ _ _ _ = _
    unfold f_X13_isRest_b3
    rw [if_pos (nI_le (Nat.le_refl _) (by omega))]
def cntS (a : AS) (j l o : Nat) (s : Int32) : Int32 := s + (if restB a j l o then 1 else 0)
def cntL (a : AS) (j l : Nat) (s : Int32) : Int32 := itN (cntS a j l) (a 0 0) 0 s
def restsN (a : AS) (j : Nat) : Int32 := itN (cntL a j) (a 0 0) 0 0
theorem restsC (ok : okA a) {j : Nat} (hj : j < a 0 2) {ws : Nat → Int64} (hw : rWs a j ws) : f_X1_countRests (nI (a 0 0)) (iL (aWO a j)) ws = some (restsN a j) := by
  have h1 := ok.1
  unfold f_X1_countRests
  refine (loopN (fun f i s => f_X1_countRests_L4 (nI (a 0 0)) (iL (aWO a j)) ws f s (nI i)) (a 0 0) (cntL a j) (fun _ _ => True) (fun s => some s) ?_ ?_ (a 0 0) 0 0 fuelN (by omega) trivial (fuel_gt (by omega))).1
  · intro f l s hl _
    refine ⟨trivial, ?_⟩
    show f_X1_countRests_b4 _ _ _ _ _ _ = _
    unfold f_X1_countRests_b4
    rw [if_neg (nI_ge hl (by omega))]
    refine (loopN (fun f' i s => f_X1_countRests_L17 (f_X1_countRests_L4 (nI (a 0 0)) (iL (aWO a j)) ws f) (nI (a 0 0)) (iL (aWO a j)) ws (nI l) f' s (nI i)) (a 0 0) (cntS a j l) (fun _ _ => True) (fun s => f_X1_countRests_L4 (nI (a 0 0)) (iL (aWO a j)) ws f s (nI (l + 1))) ?_ ?_ (a 0 0) 0 s fuelN (by omega) trivial (fuel_gt (by omega))).1
    · intro f' i s hi _
      refine ⟨trivial, ?_⟩
      show f_X1_countRests_b17 _ _ _ _ _ _ _ _ = _
      unfold f_X1_countRests_b17 f_X1_countRests_B43 cntS
      rw [if_neg (nI_ge hi (by omega)), isRestC ok hj hw hl hi, bd1_s, nI_1]
      cases restB a j l i <;> rfl
    · intro f' s _
      show f_X1_countRests_b17 _ _ _ _ _ _ _ _ = _
      unfold f_X1_countRests_b17 f_X1_countRests_B51
      rw [if_pos (nI_le (Nat.le_refl _) (by omega)), nI_1]
  · intro f s _
    show f_X1_countRests_b4 _ _ _ _ _ _ = _
    unfold f_X1_countRests_b4
    rw [if_pos (nI_le (Nat.le_refl _) (by omega))]
theorem restsM (ok : okA a) (rm : rMo a wh' kd' md' v) {j : Nat} (hj : j < a 0 2) (tr wr : Int32) : f_X13_rests_L23 v (nI (a 0 0)) (nI (a 0 1)) (nI (a 0 2)) wh' kd' md' (nI j) 0 tr wr fuelN 0 0 = some (restsN a j, 0, 0, -1) := by
  have h1 := ok.1
  refine (loopN (fun f i s => f_X13_rests_L23 v (nI (a 0 0)) (nI (a 0 1)) (nI (a 0 2)) wh' kd' md' (nI j) 0 tr wr f s (nI i)) (a 0 0) (cntL a j) (fun _ _ => True) (fun s => some (s, 0, 0, -1)) ?_ ?_ (a 0 0) 0 0 fuelN (by omega) trivial (fuel_gt (by omega))).1
  · intro f l s hl _
    refine ⟨trivial, ?_⟩
    show f_X13_rests_b23 _ _ _ _ _ _ _ _ _ _ _ _ _ _ = _
    unfold f_X13_rests_b23
    rw [if_neg (nI_ge hl (by omega))]
    refine (loopN (fun f' i s => f_X13_rests_L37 (f_X13_rests_L23 v (nI (a 0 0)) (nI (a 0 1)) (nI (a 0 2)) wh' kd' md' (nI j) 0 tr wr f) v (nI (a 0 0)) (nI (a 0 1)) (nI (a 0 2)) wh' kd' md' (nI j) (nI l) 0 tr wr f' s (nI i)) (a 0 0) (cntS a j l) (fun _ _ => True) (fun s => f_X13_rests_L23 v (nI (a 0 0)) (nI (a 0 1)) (nI (a 0 2)) wh' kd' md' (nI j) 0 tr wr f s (nI (l + 1))) ?_ ?_ (a 0 0) 0 s fuelN (by omega) trivial (fuel_gt (by omega))).1
    · intro f' i s hi _
      refine ⟨trivial, ?_⟩
      show f_X13_rests_b37 _ _ _ _ _ _ _ _ _ _ _ _ _ _ _ _ = _
      unfold f_X13_rests_b37 f_X13_rests_B66 cntS
      rw [if_neg (nI_ge hi (by omega)), isRestM ok rm hj hl hi, bd1_s, nI_1]
      cases restB a j l i <;> rfl
    · intro f' s _
      show f_X13_rests_b37 _ _ _ _ _ _ _ _ _ _ _ _ _ _ _ _ = _
      unfold f_X13_rests_b37 f_X13_rests_B74
      rw [if_pos (nI_le (Nat.le_refl _) (by omega)), nI_1]
  · intro f s _
    show f_X13_rests_b23 _ _ _ _ _ _ _ _ _ _ _ _ _ _ = _
    unfold f_X13_rests_b23 f_X13_rests_B80 f_X13_good
    rw [if_pos (nI_le (Nat.le_refl _) (by omega)), bd3_s]
theorem q_rests (ok : okA a) (rc : rCl a wh kd md st wd) (rm : rMo a wh' kd' md' v) (p1 rf th tr wr : Int32) (wo : Int64) (ws : Nat → Int64) : ∃ r t wo' ws', f_X11_rests rf (nI (a 0 0)) (nI (a 0 1)) (nI (a 0 2)) wh kd md (nI (a 0 3)) (nI (a 0 4)) st wd wo ws p1 = some (r, t, wo', ws') ∧ f_X13_rests th tr wr v (nI (a 0 0)) (nI (a 0 1)) (nI (a 0 2)) wh' kd' md' p1 = some (r, 0, t, -1) ∧ ¬ t = 4 := by
  have h1 := ok.1
  unfold f_X11_rests f_X13_rests
  rcases beastT (n := a 0 2) (by omega) p1 with ⟨-, e1, e2⟩ | ⟨j, hj, rfl, e1, e2⟩
  · refine ⟨-1, 1, wo, ws, ?_, ?_, by decide⟩
    · rw [e1, bd1_s, ref1, bd2_s]; rfl
    · rw [e2, bd1_s]; rfl
  · obtain ⟨ws', ew, hw⟩ := weighC ok rc hj wo ws
    refine ⟨restsN a j, 0, iL (aWO a j), ws', ?_, ?_, by decide⟩
    · rw [e1, bd1_s, refF, bd2_s, if_pos rfl, ew, bd2_s, restsC ok hj hw, bd1_s]
    · rw [e2, bd1_s, if_neg (by decide)]; exact restsM ok rm hj tr wr
def restH (a : AS) (j l : Nat) : Option Nat := findN (restB a j l) (a 0 0) 0
def restN (a : AS) (j : Nat) : Int32 := match findN (fun l => (restH a j l).isSome) (a 0 0) 0 with | some l => 10 * nI l + nI ((restH a j l).getD 0) | none => -2
theorem restC (ok : okA a) {j : Nat} (hj : j < a 0 2) {ws : Nat → Int64} (hw : rWs a j ws) : f_X1_firstRest (nI (a 0 0)) (iL (aWO a j)) ws = some (restN a j) := by
  have h1 := ok.1
  unfold f_X1_firstRest restN
  refine (searchN (fun f i => f_X1_firstRest_L2 (nI (a 0 0)) (iL (aWO a j)) ws f (nI i)) (a 0 0) (fun l => (restH a j l).isSome) (fun l => some (10 * nI l + nI ((restH a j l).getD 0))) (some (-2)) ?_ ?_ (a 0 0) 0 fuelN (by omega) (fuel_gt (by omega))).trans ?_
  · intro f l hl
    show f_X1_firstRest_b2 _ _ _ _ _ = _
    unfold f_X1_firstRest_b2
    rw [if_neg (nI_ge hl (by omega))]
    refine (searchN (fun f' i => f_X1_firstRest_L15 (f_X1_firstRest_L2 (nI (a 0 0)) (iL (aWO a j)) ws f) (nI (a 0 0)) (iL (aWO a j)) ws (nI l) f' (nI i)) (a 0 0) (restB a j l) (fun o => some (10 * nI l + nI o)) (f_X1_firstRest_L2 (nI (a 0 0)) (iL (aWO a j)) ws f (nI (l + 1))) ?_ ?_ (a 0 0) 0 fuelN (by omega) (fuel_gt (by omega))).trans ?_
    · intro f' i hi
      show f_X1_firstRest_b15 _ _ _ _ _ _ _ = _
      unfold f_X1_firstRest_b15
      rw [if_neg (nI_ge hi (by omega)), isRestC ok hj hw hl hi, bd1_s, nI_1]
      cases restB a j l i <;> rfl
    · intro f'
      show f_X1_firstRest_b15 _ _ _ _ _ _ _ = _
      unfold f_X1_firstRest_b15 f_X1_firstRest_B48
      rw [if_pos (nI_le (Nat.le_refl _) (by omega)), nI_1]
    · show _ = if (restH a j l).isSome = true then some (10 * nI l + nI ((restH a j l).getD 0)) else _
      unfold restH
      cases findN (restB a j l) (a 0 0) 0 <;> rfl
  · intro f
    show f_X1_firstRest_b2 _ _ _ _ _ = _
    unfold f_X1_firstRest_b2
    rw [if_pos (nI_le (Nat.le_refl _) (by omega))]
  · cases findN (fun l => (restH a j l).isSome) (a 0 0) 0 <;> rfl
theorem restM (ok : okA a) (rm : rMo a wh' kd' md' v) {j : Nat} (hj : j < a 0 2) (tr wr : Int32) : f_X13_rest_L21 v (nI (a 0 0)) (nI (a 0 1)) (nI (a 0 2)) wh' kd' md' (nI j) 0 tr wr fuelN 0 = some (restN a j, 0, 0, -1) := by
  have h1 := ok.1
  unfold restN
  refine (searchN (fun f i => f_X13_rest_L21 v (nI (a 0 0)) (nI (a 0 1)) (nI (a 0 2)) wh' kd' md' (nI j) 0 tr wr f (nI i)) (a 0 0) (fun l => (restH a j l).isSome) (fun l => some (10 * nI l + nI ((restH a j l).getD 0), 0, 0, -1)) (some (-2, 0, 0, -1)) ?_ ?_ (a 0 0) 0 fuelN (by omega) (fuel_gt (by omega))).trans ?_
  · intro f l hl
    show f_X13_rest_b21 _ _ _ _ _ _ _ _ _ _ _ _ _ = _
    unfold f_X13_rest_b21
    rw [if_neg (nI_ge hl (by omega))]
    refine (searchN (fun f' i => f_X13_rest_L34 (f_X13_rest_L21 v (nI (a 0 0)) (nI (a 0 1)) (nI (a 0 2)) wh' kd' md' (nI j) 0 tr wr f) v (nI (a 0 0)) (nI (a 0 1)) (nI (a 0 2)) wh' kd' md' (nI j) (nI l) 0 tr wr f' (nI i)) (a 0 0) (restB a j l) (fun o => some (10 * nI l + nI o, 0, 0, -1)) (f_X13_rest_L21 v (nI (a 0 0)) (nI (a 0 1)) (nI (a 0 2)) wh' kd' md' (nI j) 0 tr wr f (nI (l + 1))) ?_ ?_ (a 0 0) 0 fuelN (by omega) (fuel_gt (by omega))).trans ?_
    · intro f' i hi
      show f_X13_rest_b34 _ _ _ _ _ _ _ _ _ _ _ _ _ _ _ = _
      unfold f_X13_rest_b34 f_X13_good
      rw [if_neg (nI_ge hi (by omega)), isRestM ok rm hj hl hi, bd1_s, bd3_s, nI_1]
      cases restB a j l i <;> rfl
    · intro f'
      show f_X13_rest_b34 _ _ _ _ _ _ _ _ _ _ _ _ _ _ _ = _
      unfold f_X13_rest_b34 f_X13_rest_B72
      rw [if_pos (nI_le (Nat.le_refl _) (by omega)), nI_1]
    · show _ = if (restH a j l).isSome = true then some (10 * nI l + nI ((restH a j l).getD 0), 0, 0, -1) else _
      unfold restH
      cases findN (restB a j l) (a 0 0) 0 <;> rfl
  · intro f
    show f_X13_rest_b21 _ _ _ _ _ _ _ _ _ _ _ _ _ = _
    unfold f_X13_rest_b21 f_X13_rest_B78 f_X13_good
    rw [if_pos (nI_le (Nat.le_refl _) (by omega)), bd3_s]
  · cases findN (fun l => (restH a j l).isSome) (a 0 0) 0 <;> rfl
theorem q_rest (ok : okA a) (rc : rCl a wh kd md st wd) (rm : rMo a wh' kd' md' v) (p1 rf th tr wr : Int32) (wo : Int64) (ws : Nat → Int64) : ∃ r t wo' ws', f_X11_rest rf (nI (a 0 0)) (nI (a 0 1)) (nI (a 0 2)) wh kd md (nI (a 0 3)) (nI (a 0 4)) st wd wo ws p1 = some (r, t, wo', ws') ∧ f_X13_rest th tr wr v (nI (a 0 0)) (nI (a 0 1)) (nI (a 0 2)) wh' kd' md' p1 = some (r, 0, t, -1) ∧ ¬ t = 4 := by
  have h1 := ok.1
  unfold f_X11_rest f_X13_rest
  rcases beastT (n := a 0 2) (by omega) p1 with ⟨-, e1, e2⟩ | ⟨j, hj, rfl, e1, e2⟩
  · refine ⟨-1, 1, wo, ws, ?_, ?_, by decide⟩
    · rw [e1, bd1_s, ref1, bd2_s]; rfl
    · rw [e2, bd1_s]; rfl
  · obtain ⟨ws', ew, hw⟩ := weighC ok rc hj wo ws
    refine ⟨restN a j, 0, iL (aWO a j), ws', ?_, ?_, by decide⟩
    · rw [e1, bd1_s, refF, bd2_s, if_pos rfl, ew, bd2_s, restC ok hj hw, bd1_s]
    · rw [e2, bd1_s, if_neg (by decide)]; exact restM ok rm hj tr wr
/-- weeks: does beast j gain where horse taught n weeks stand -/
def weekP (a : AS) (n j : Nat) : Bool := decide (0 < aWB a j 3 n (aH a j))
def weekB (a : AS) (n : Nat) : Bool := (findN (weekP a n) (a 0 2) 0).isNone
def weeksN (a : AS) : Int32 := match findN (weekB a) 31 0 with | some n => nI n | none => -2
theorem it_and (p : Nat → Bool) : ∀ k i b, itN (fun j b => b && !p j) k i b = (b && (findN p k i).isNone) := by
  intro k
  induction k with
  | zero => intro i b; unfold itN findN; cases b <;> rfl
  | succ k ih =>
    intro i b
    unfold itN findN
    rw [ih (i + 1)]
    cases b <;> cases p i <;> simp
theorem anyC (ok : okA a) (rc : rCl a wh kd md st wd) {n : Nat} (hn : n ≤ 30) : f_X4_anyGainsByHorse (nI (a 0 1)) (nI (a 0 2)) kd md (nI (a 0 3)) (nI (a 0 4)) wd (nI n) = some (if weekB a n then 0 else 1) := by
  have h1 := ok.1
  unfold f_X4_anyGainsByHorse weekB
  refine (searchN (fun f i => f_X4_anyGainsByHorse_L2 (nI (a 0 1)) (nI (a 0 2)) kd md (nI (a 0 3)) (nI (a 0 4)) wd (nI n) f (nI i)) (a 0 2) (weekP a n) (fun _ => some 1) (some 0) ?_ ?_ (a 0 2) 0 fuelN (by omega) (fuel_gt (by omega))).trans ?_
  · intro f i hi
    have h2 := ok.2.1 i hi
    have b := aWB_b (w := 3) (s := n) ok hi (by omega) (aH_le ok hi)
    have e := (iLB (x := aWB a i 3 n (aH a i)) (y := 0) (by omega) (by omega)).1
    rw [show iL 0 = 0 from rfl] at e
    have w : f_X4_worthBy (nI (a 0 1)) kd (nI (a 0 3)) wd (nI i) (3 : Int32) (nI n) (nI (aH a i)) = _ := wBC (w := 3) (s := n) ok rc.2.1 rc.2.2.2.2 hi (by decide) (by omega) (aH_le ok hi)
    show f_X4_anyGainsByHorse_b2 _ _ _ _ _ _ _ _ _ _ = _
    unfold f_X4_anyGainsByHorse_b2 weekP
    rw [if_neg (nI_ge hi (by omega)), holdC (by omega) (rc.2.1 i hi) h2.1 (rc.2.2.1 i hi) (by omega) h1.2.2.2.2.2.2.2.1, bd1_s, w, bd1_s, nI_1]
    by_cases q : 0 < aWB a i 3 n (aH a i)
    · rw [if_neg (fun h => by have := e.mp h; omega), decide_eq_true q]; rfl
    · rw [if_pos (e.mpr (by omega)), decide_eq_false q]; rfl
  · intro f
    show f_X4_anyGainsByHorse_b2 _ _ _ _ _ _ _ _ _ _ = _
    unfold f_X4_anyGainsByHorse_b2
    rw [if_pos (nI_le (Nat.le_refl _) (by omega))]
  · cases findN (weekP a n) (a 0 2) 0 <;> rfl
theorem weeksC (ok : okA a) (rc : rCl a wh kd md st wd) : f_X4_leastWeeks (nI (a 0 1)) (nI (a 0 2)) kd md (nI (a 0 3)) (nI (a 0 4)) wd = some (weeksN a) := by
  have h1 := ok.1
  unfold f_X4_leastWeeks weeksN
  refine (searchN (fun f i => f_X4_leastWeeks_L2 (nI (a 0 1)) (nI (a 0 2)) kd md (nI (a 0 3)) (nI (a 0 4)) wd f (nI i)) 31 (weekB a) (fun n => some (nI n)) (some (-2)) ?_ ?_ 31 0 fuelN (by omega) (fuel_gt (by omega))).trans ?_
  · intro f i hi
    show f_X4_leastWeeks_b2 _ _ _ _ _ _ _ _ _ = _
    unfold f_X4_leastWeeks_b2
    rw [if_neg (show ¬ (30 : Int32) < nI i from nI_nlt (b := i) (a := 30) (by omega) (by decide)), anyC ok rc (by omega), bd1_s, nI_1]
    cases weekB a i <;> rfl
  · intro f
    show f_X4_leastWeeks_b2 _ _ _ _ _ _ _ _ _ = _
    unfold f_X4_leastWeeks_b2
    rw [if_pos (by decide)]
  · cases findN (weekB a) 31 0 <;> rfl
theorem weeksM (ok : okA a) (rm : rMo a wh' kd' md' v) (tr wr : Int32) : f_X13_weeks_L40 v (nI (a 0 0)) (nI (a 0 1)) (nI (a 0 2)) wh' kd' md' 0 tr wr fuelN 0 = some (weeksN a, 0, 0, -1) := by
  have h1 := ok.1
  unfold weeksN
  refine (searchN (fun f i => f_X13_weeks_L40 v (nI (a 0 0)) (nI (a 0 1)) (nI (a 0 2)) wh' kd' md' 0 tr wr f (nI i)) 31 (weekB a) (fun n => some (nI n, 0, 0, -1)) (some (-2, 0, 0, -1)) ?_ ?_ 31 0 fuelN (by omega) (fuel_gt (by omega))).trans ?_
  · intro f n hn
    show f_X13_weeks_b40 _ _ _ _ _ _ _ _ _ _ _ _ = _
    unfold f_X13_weeks_b40
    rw [if_neg (show ¬ (30 : Int32) < nI n from nI_nlt (b := n) (a := 30) (by omega) (by decide))]
    refine (loopN (fun f' i (s : Bool) => f_X13_weeks_L51 (f_X13_weeks_L40 v (nI (a 0 0)) (nI (a 0 1)) (nI (a 0 2)) wh' kd' md' 0 tr wr f) v (nI (a 0 0)) (nI (a 0 1)) (nI (a 0 2)) wh' kd' md' (nI n) 0 tr wr f' (if s then 1 else 0) (nI i)) (a 0 2) (fun j b => b && !weekP a n j) (fun _ _ => True) (fun s => if s then some (nI n, 0, 0, -1) else f_X13_weeks_L40 v (nI (a 0 0)) (nI (a 0 1)) (nI (a 0 2)) wh' kd' md' 0 tr wr f (nI (n + 1))) ?_ ?_ (a 0 2) 0 true fuelN (by omega) trivial (fuel_gt (by omega))).1.trans ?_
    · intro f' i s hi _
      refine ⟨trivial, ?_⟩
      have h2 := ok.2.1 i hi
      have b := aWB_b (w := 3) (s := n) ok hi (by omega) (aH_le ok hi)
      have e := (iLB (x := 0) (y := aWB a i 3 n (aH a i)) (by omega) (by omega)).2
      rw [show iL 0 = 0 from rfl] at e
      have w : f_X13_worthBy v (nI (a 0 1)) kd' md' (nI i) (3 : Int32) (nI n) = _ := wBM (w := 3) (s := n) ok rm.2.1 rm.2.2.1 rm.2.2.2 hi (by decide) (by omega)
      show f_X13_weeks_b51 _ _ _ _ _ _ _ _ _ _ _ _ _ _ _ = _
      unfold f_X13_weeks_b51 f_X13_weeks_B93 f_X13_weeks_B89 f_X13_weeks_B94
      rw [if_neg (nI_ge hi (by omega)), isDeadM rm.2.2.2.1 ok.d (by omega), bd1_s, w, bd1_s, nI_1]
      have hz : aD a i = true → weekP a n i = false := by
        intro hd
        unfold weekP aWB worthZ
        rw [if_pos hd]
        rfl
      have hp : weekP a n i = decide (0 < aWB a i 3 n (aH a i)) := rfl
      cases s
      · rfl
      · rw [if_neg (by decide)]
        cases hd : aD a i
        · rw [if_pos (by rw [show bit (a 0 3) i = false from hd]; rfl), hp]
          by_cases q : 0 < aWB a i 3 n (aH a i)
          · rw [if_pos (e.mpr q), decide_eq_true q]; rfl
          · rw [if_neg (fun h => q (e.mp h)), decide_eq_false q]; rfl
        · rw [if_neg (by rw [show bit (a 0 3) i = true from hd]; decide), hz hd]; rfl
    · intro f' s _
      show f_X13_weeks_b51 _ _ _ _ _ _ _ _ _ _ _ _ _ _ _ = _
      unfold f_X13_weeks_b51 f_X13_weeks_B101 f_X13_good
      rw [if_pos (nI_le (Nat.le_refl _) (by omega)), bd3_s, nI_1]
      cases s <;> rfl
    · rw [it_and]
      unfold weekB
      cases findN (weekP a n) (a 0 2) 0 <;> rfl
  · intro f
    show f_X13_weeks_b40 _ _ _ _ _ _ _ _ _ _ _ _ = _
    unfold f_X13_weeks_b40 f_X13_weeks_B117 f_X13_good
    rw [if_pos (by decide), bd3_s]
  · cases findN (weekB a) 31 0 <;> rfl
theorem horseT (ok : okA a) (rw : rI (a 0 0) wh (a 4)) (rw' : rI (a 0 0) wh' (a 4)) (x : Int32) : (f_X13_isLane (nI (a 0 0)) x = some 0 ∧ ∀ y, f_X11_horseTrouble (nI (a 0 0)) wh x y = some 1) ∨ ∃ l, l < a 0 0 ∧ x = nI l ∧ f_X13_isLane (nI (a 0 0)) x = some 1 ∧ f_X11_horseTrouble (nI (a 0 0)) wh x 0 = some (if a 4 l = 3 then 0 else 5) ∧ (∀ y, ¬ y = 0 → f_X11_horseTrouble (nI (a 0 0)) wh x y = some y) ∧ (wh' l = 3 ↔ a 4 l = 3) := by
  have h1 := ok.1
  unfold f_X11_horseTrouble
  rcases ix2 x (n := a 0 0) (by omega) with h | ⟨l, hl, rfl⟩
  · have := hbN h
    exact Or.inl ⟨this.2.2.2.2.1, fun y => by rw [this.2.1, bd1_s]; rfl⟩
  · have hx := hbY (n := a 0 0) (by omega) hl
    have h3 := ok.2.2 l hl
    have e3 : nI (a 4 l) = 3 ↔ a 4 l = 3 := nI_eq (b := 3) (by omega) (by decide)
    refine Or.inr ⟨l, hl, rfl, hx.2.2.2.2.1, ?_, ?_, ?_⟩
    · rw [hx.2.1, bd1_s, if_neg (by decide), if_pos rfl, gI (by omega) (by decide), nI_clamp (by omega), rw l hl]
      by_cases q : a 4 l = 3
      · rw [if_pos (e3.mpr q), if_pos q]
      · rw [if_neg (fun h => q (e3.mp h)), if_neg q]
    · intro y hy
      rw [hx.2.1, bd1_s, if_neg (by decide), if_neg hy]
    · rw [rw' l hl]; exact e3
theorem q_weeks (ok : okA a) (rc : rCl a wh kd md st wd) (rm : rMo a wh' kd' md' v) (p1 rf th tr wr : Int32) : ∃ r t, f_X11_weeks rf (nI (a 0 0)) (nI (a 0 1)) (nI (a 0 2)) wh kd md (nI (a 0 3)) (nI (a 0 4)) wd p1 = some (r, t) ∧ f_X13_weeks th tr wr v (nI (a 0 0)) (nI (a 0 1)) (nI (a 0 2)) wh' kd' md' p1 = some (r, 0, t, -1) ∧ ¬ t = 4 := by
  have h1 := ok.1
  unfold f_X11_weeks f_X13_weeks
  rcases horseT ok rc.1 rm.1 p1 with ⟨e2, e1⟩ | ⟨l, hl, rfl, e2, e1, -, e3⟩
  · refine ⟨-1, 1, ?_, ?_, by decide⟩
    · rw [e1, bd1_s, ref1, bd2_s]; rfl
    · rw [e2, bd1_s]; rfl
  · by_cases q : a 4 l = 3
    · refine ⟨weeksN a, 0, ?_, ?_, by decide⟩
      · rw [e1, if_pos q, bd1_s, refF, bd2_s, if_pos rfl, weeksC ok rc, bd1_s]
      · rw [e2, bd1_s, if_neg (by decide), gI (by omega) (by decide), nI_clamp (by omega), if_pos (e3.mpr q)]
        exact weeksM ok rm tr wr
    · refine ⟨-1, 5, ?_, ?_, by decide⟩
      · rw [e1, if_neg q, bd1_s]; rfl
      · rw [e2, bd1_s, if_neg (by decide), gI (by omega) (by decide), nI_clamp (by omega), if_neg (fun h => q (e3.mp h))]; rfl
end B9
/-! BA: sale, saleOver, lane, beast, size, seed, turnedBy -/
def popN (n : Nat) : Nat := n % 2 + n / 2 % 2 + n / 4 % 2 + n / 8 % 2 + n / 16 % 2 + n / 32 % 2
theorem popC : ∀ n, n < 64 → f_J6_bitCount_0f7a4 (nI n) = some (nI (popN n)) := by decide +kernel
theorem bits_mono : ∀ f x y r, f_X13_bits_L4 f x y = some r → f_X13_bits_L4 (f + 1) x y = some r := by
  intro f
  induction f with
  | zero => intro x y r h; exact absurd h (by intro e; cases e)
  | succ f ih =>
    intro x y r h
    have h' : f_X13_bits_b4 (f_X13_bits_L4 f) x y = some r := h
    show f_X13_bits_b4 (f_X13_bits_L4 (f + 1)) x y = some r
    unfold f_X13_bits_b4 at h' ⊢
    by_cases q : y = 0
    · rw [if_pos q] at h' ⊢; exact h'
    · rw [if_neg q] at h' ⊢; exact ih _ _ _ h'
theorem bits8 : ∀ n, n < 64 → f_X13_bits_L4 8 0 (nI n) = some (nI (popN n)) := by decide +kernel
theorem popM {n : Nat} (hn : n < 64) : f_X13_bits (nI n) = some (nI (popN n)) := by
  unfold f_X13_bits
  have : ∀ k, f_X13_bits_L4 (8 + k) 0 (nI n) = some (nI (popN n)) := by
    intro k
    induction k with
    | zero => exact bits8 n hn
    | succ k ih => exact bits_mono _ _ _ _ ih
  have e := fuelN_ge
  have := this (fuelN - 8)
  rwa [show 8 + (fuelN - 8) = fuelN by omega] at this
theorem pop_le : ∀ n, n < 32 → popN n < 6 := by decide +kernel
theorem outIn (x lo hi : Int32) : (f_X11_outside x lo hi = some 0 ∧ f_X13_in x lo hi = some 1 ∧ ¬ x < lo ∧ x ≤ hi) ∨ (f_X11_outside x lo hi = some 1 ∧ f_X13_in x lo hi = some 0) := by
  unfold f_X11_outside f_X13_in f_X11_outside_B10
  by_cases q : x < lo
  · rw [if_pos q, if_pos q]; exact Or.inr ⟨rfl, rfl⟩
  · rw [if_neg q, if_neg q]
    by_cases q2 : x ≤ hi
    · rw [if_pos q2, if_neg (Int32.not_lt.mpr q2)]; exact Or.inl ⟨rfl, rfl, q, q2⟩
    · rw [if_neg q2, if_pos (Int32.not_le.mp q2)]; exact Or.inr ⟨rfl, rfl⟩
theorem it_id {S : Type} {step : Nat → S → S} (h : ∀ j s, step j s = s) : ∀ k i s, itN step k i s = s := by
  intro k
  induction k with
  | zero => intro i s; rfl
  | succ k ih => intro i s; unfold itN; rw [ih, h]
section BA
variable {a : AS} {wh kd md st wd at' pr wh' kd' md' pr' v : Nat → Int32}
def prS (a : AS) (x j s : Nat) : Nat := s + (if bit x j then a 3 j else 0)
def priceN (a : AS) (x : Nat) : Nat := itN (prS a x) (a 0 2) 0 0
theorem price_b (ok : okA a) (x : Nat) : ∀ k i s, i + k = a 0 2 → s ≤ 99 * i → itN (prS a x) k i s ≤ 99 * a 0 2 := by
  intro k
  induction k with
  | zero => intro i s hi h; unfold itN; rw [← hi]; simpa using h
  | succ k ih =>
    intro i s hi h
    have h2 := ok.2.1 i (by omega)
    unfold itN
    refine ih (i + 1) _ (by omega) ?_
    unfold prS
    split <;> omega
theorem price_lt (ok : okA a) (x : Nat) : priceN a x ≤ 495 := by
  have := price_b ok x (a 0 2) 0 0 (by omega) (by omega)
  have h1 := ok.1
  unfold priceN; omega
theorem priceC (ok : okA a) (rp : rI (a 0 2) pr (a 3)) {x : Nat} (hx : x < 2 ^ 31) : f_X11_priceOf (nI (a 0 2)) pr (nI x) = some (nI (priceN a x)) := by
  have h1 := ok.1
  unfold f_X11_priceOf
  refine (loopN (fun f i s => f_X11_priceOf_L4 (nI (a 0 2)) pr (nI x) f (nI s) (nI i)) (a 0 2) (prS a x) (fun _ _ => True) (fun s => some (nI s)) ?_ ?_ (a 0 2) 0 0 fuelN (by omega) trivial (fuel_gt (by omega))).1
  · intro f i s hi _
    refine ⟨trivial, ?_⟩
    show f_X11_priceOf_b4 _ _ _ _ _ _ = _
    unfold f_X11_priceOf_b4 f_X11_priceOf_B38 prS bit
    rw [if_neg (nI_ge hi (by omega)), bitN hx (by omega), gI (by omega) (by decide), nI_1, nI_clamp (by omega), rp i hi, show (0 : Int32) = nI 0 from rfl, nI_add, nI_add]
    rcases Nat.mod_two_eq_zero_or_one (x / 2 ^ i) with h | h <;> rw [h] <;> rfl
  · intro f s _
    show f_X11_priceOf_b4 _ _ _ _ _ _ = _
    unfold f_X11_priceOf_b4
    rw [if_pos (nI_le (Nat.le_refl _) (by omega))]
theorem priceM (ok : okA a) (rp : rI (a 0 2) pr (a 3)) {x : Nat} (hx : x < 2 ^ 31) : f_X13_priceOf (nI (a 0 2)) pr (nI x) = some (nI (priceN a x)) := by
  have h1 := ok.1
  unfold f_X13_priceOf
  refine (loopN (fun f i s => f_X13_priceOf_L4 (nI (a 0 2)) pr (nI x) f (nI s) (nI i)) (a 0 2) (prS a x) (fun _ _ => True) (fun s => some (nI s)) ?_ ?_ (a 0 2) 0 0 fuelN (by omega) trivial (fuel_gt (by omega))).1
  · intro f i s hi _
    refine ⟨trivial, ?_⟩
    show f_X13_priceOf_b4 _ _ _ _ _ _ = _
    unfold f_X13_priceOf_b4 f_X13_priceOf_B37 prS
    rw [if_neg (nI_ge hi (by omega)), bitM hx (by omega), bd1_s, gI (by omega) (by decide), nI_1, nI_clamp (by omega), rp i hi]
    cases bit x i
    · rw [selF, show (0 : Int32) = nI 0 from rfl, nI_add]; rfl
    · rw [selT, nI_add]; rfl
  · intro f s _
    show f_X13_priceOf_b4 _ _ _ _ _ _ = _
    unfold f_X13_priceOf_b4
    rw [if_pos (nI_le (Nat.le_refl _) (by omega))]
def sellOK (a : AS) (m x : Nat) : Bool := decide (x &&& a 0 3 = 0) && decide (m ≤ priceN a x)
def sellS (a : AS) (m x : Nat) (s : Option Nat) : Option Nat := if sellOK a m x && (match s with | none => true | some b => decide (popN x < popN b)) then some x else s
def sellN (a : AS) (m : Nat) : Option Nat := itN (sellS a m) (2 ^ a 0 2) 0 none
def setI (s : Option Nat) : Int32 := match s with | none => -2 | some b => nI b
def fewI (s : Option Nat) : Int32 := match s with | none => 6 | some b => nI (popN b)
theorem pow32 (ok : okA a) : 2 ^ a 0 2 ≤ 32 := Nat.pow_le_pow_right (n := 2) (by decide) (show a 0 2 ≤ 5 from ok.1.2.2.2.2.2.1)
theorem andI {x d : Nat} (hx : x < 2 ^ 31) : nI x &&& nI d = 0 ↔ x &&& d = 0 := by
  rw [nI_and]
  exact nI_eq (b := 0) (Nat.lt_of_le_of_lt Nat.and_le_left hx) (by decide)
theorem sellI {m : Nat} : ∀ i (s : Option Nat), (∀ b, s = some b → b < i) → ∀ b, sellS a m i s = some b → b < i + 1 := by
  intro i s h b e
  unfold sellS at e
  split at e
  · cases e; omega
  · have := h b e; omega
theorem sellC (ok : okA a) (rp : rI (a 0 2) pr (a 3)) {m : Nat} (hm : m ≤ 500) : f_X11_fewestToSell (nI (a 0 2)) pr (nI (a 0 3)) (nI m) = some (setI (sellN a m)) ∧ ∀ b, sellN a m = some b → b < 2 ^ a 0 2 := by
  have h1 := ok.1
  have hp := pow32 ok
  unfold f_X11_fewestToSell
  refine loopN (fun f i s => f_X11_fewestToSell_L9 (nI (a 0 2)) pr (nI (a 0 3)) (nI m) f (setI s) (fewI s) (nI i)) (2 ^ a 0 2) (sellS a m) (fun i s => ∀ b, s = some b → b < i) (fun s => some (setI s)) ?_ ?_ (2 ^ a 0 2) 0 none fuelN (by omega) (by intro b e; cases e) (fuel_gt (by omega))
  · intro f i s hi hs
    refine ⟨sellI i s hs, ?_⟩
    show f_X11_fewestToSell_b9 _ _ _ _ _ _ _ _ = _
    unfold f_X11_fewestToSell_b9 f_X11_fewestToSell_B65
    have pl := price_lt ok i
    have pi := pop_le i (by omega)
    rw [shlN (by omega), if_neg (nI_ge hi (by omega)), popC i (by omega), bd1_s, priceC ok rp (by omega), bd1_s, nI_1]
    have key : fewI s ≤ nI (popN i) ↔ ¬ (match s with | none => true | some b => decide (popN i < popN b)) = true := by
      cases s with
      | none =>
        refine ⟨fun e => absurd e (nI_ge (b := 6) pi (by decide)), fun e => absurd rfl e⟩
      | some b =>
        have hb := hs b rfl
        have pb := pop_le b (by omega)
        show nI (popN b) ≤ nI (popN i) ↔ _
        rw [nI_leI (by omega) (by omega)]
        simp
    have ha : nI i &&& nI (a 0 3) = 0 ↔ i &&& a 0 3 = 0 := andI (by omega)
    have hq : nI (priceN a i) < nI m ↔ priceN a i < m := nI_ltI (by omega) (by omega)
    unfold sellS sellOK
    cases hc : (match s with | none => true | some b => decide (popN i < popN b))
    · rw [if_pos (key.mpr (by rw [hc]; decide)), Bool.and_false]; rfl
    · rw [if_neg (fun e => absurd hc (key.mp e))]
      by_cases q : i &&& a 0 3 = 0
      · rw [if_pos (ha.mpr q), decide_eq_true q]
        by_cases q2 : m ≤ priceN a i
        · rw [if_neg (fun e => by have := hq.mp e; omega), decide_eq_true q2]; rfl
        · rw [if_pos (hq.mpr (by omega)), decide_eq_false q2]; rfl
      · rw [if_neg (fun e => q (ha.mp e)), decide_eq_false q]; rfl
  · intro f s _
    show f_X11_fewestToSell_b9 _ _ _ _ _ _ _ _ = _
    unfold f_X11_fewestToSell_b9
    rw [shlN (by omega), if_pos (nI_le (Nat.le_refl _) (by omega))]
theorem setI_n {s : Option Nat} (h : ∀ b, s = some b → b < 32) : setI s = -2 ↔ s = none := by
  cases s with
  | none => exact ⟨fun _ => rfl, fun _ => rfl⟩
  | some b =>
    refine ⟨fun e => ?_, fun e => by cases e⟩
    have := nI_pos (n := b) (by have := h b rfl; omega)
    rw [show nI b = (-2 : Int32) from e] at this
    exact absurd (show (-2 : Int32) < 0 by decide) this
theorem sellM (ok : okA a) (rp : rI (a 0 2) pr (a 3)) (hv : v 10 = nI (a 0 3)) {m : Nat} (hm : m ≤ 500) : f_X13_sold v (nI (a 0 2)) pr (nI m) = some (setI (sellN a m)) := by
  have h1 := ok.1
  have hp := pow32 ok
  unfold f_X13_sold
  refine (loopN (fun f i s => f_X13_sold_L5 v (nI (a 0 2)) pr (nI m) f (setI s) (nI i)) (2 ^ a 0 2) (sellS a m) (fun i s => ∀ b, s = some b → b < i) (fun s => some (setI s)) ?_ ?_ (2 ^ a 0 2) 0 none fuelN (by omega) (by intro b e; cases e) (fuel_gt (by omega))).1
  · intro f i s hi hs
    refine ⟨sellI i s hs, ?_⟩
    show f_X13_sold_b5 _ _ _ _ _ _ _ = _
    unfold f_X13_sold_b5 f_X13_sold_B56 f_X13_sold_B58
    have pl := price_lt ok i
    have pi := pop_le i (by omega)
    have ha : nI i &&& nI (a 0 3) = 0 ↔ i &&& a 0 3 = 0 := andI (by omega)
    have hq : nI (priceN a i) < nI m ↔ priceN a i < m := nI_ltI (by omega) (by omega)
    rw [shlN (by omega), if_neg (nI_ge hi (by omega)), c10, hv, priceM ok rp (by omega), bd1_s, nI_1]
    unfold sellS sellOK
    by_cases q : i &&& a 0 3 = 0
    · rw [if_pos (ha.mpr q), decide_eq_true q]
      by_cases q2 : m ≤ priceN a i
      · rw [if_neg (fun e => by have := hq.mp e; omega), decide_eq_true q2]
        cases s with
        | none => rw [if_pos rfl]; rfl
        | some b =>
          have hb := hs b rfl
          have pb := pop_le b (by omega)
          have e5 : nI (popN b) ≤ nI (popN i) ↔ popN b ≤ popN i := nI_leI (by omega) (by omega)
          rw [if_neg (fun e => by have := (setI_n (s := some b) (by intro c h; cases h; omega)).mp e; cases this), popM (by omega), bd1_s, show setI (some b) = nI b from rfl, popM (by omega), bd1_s]
          by_cases q3 : popN b ≤ popN i
          · rw [if_pos (e5.mpr q3), show decide (popN i < popN b) = false from decide_eq_false (by omega)]; rfl
          · rw [if_neg (fun e => q3 (e5.mp e)), show decide (popN i < popN b) = true from decide_eq_true (by omega)]; rfl
      · rw [if_pos (hq.mpr (by omega)), decide_eq_false q2]; rfl
    · rw [if_neg (fun e => q (ha.mp e)), decide_eq_false q]; rfl
  · intro f s _
    show f_X13_sold_b5 _ _ _ _ _ _ _ = _
    unfold f_X13_sold_b5
    rw [shlN (by omega), if_pos (nI_le (Nat.le_refl _) (by omega))]
theorem saleT (ok : okA a) (x : Int32) : (f_X11_saleTrouble (nI (a 0 0)) x = some 2 ∧ f_X13_in x 0 500 = some 0) ∨ ∃ m, m ≤ 500 ∧ x = nI m ∧ f_X11_saleTrouble (nI (a 0 0)) x = some 0 ∧ f_X13_in x 0 500 = some 1 := by
  have h1 := ok.1
  unfold f_X11_saleTrouble
  rw [(warT (n := a 0 0) (by omega) (by omega)).2, bd1_s]
  rcases outIn x 0 500 with ⟨e1, e2, h3, h4⟩ | ⟨e1, e2⟩
  · obtain ⟨m, hm, rfl⟩ := nI_of2 (M := 500) (n := 500) rfl h3 h4
    exact Or.inr ⟨m, hm, rfl, by rw [e1, bd1_s]; rfl, e2⟩
  · exact Or.inl ⟨by rw [e1, bd1_s]; rfl, e2⟩
theorem q_sale (ok : okA a) (rp : rI (a 0 2) pr (a 3)) (rp' : rI (a 0 2) pr' (a 3)) (hv : v 10 = nI (a 0 3)) (p1 rf th tr wr : Int32) : ∃ r t, f_X11_sale rf (nI (a 0 0)) (nI (a 0 2)) pr (nI (a 0 3)) p1 = some (r, t) ∧ f_X13_sale th tr wr v (nI (a 0 2)) pr' p1 = some (r, 0, t, -1) ∧ ¬ t = 4 := by
  unfold f_X11_sale f_X13_sale
  rcases saleT ok p1 with ⟨e1, e2⟩ | ⟨m, hm, rfl, e1, e2⟩
  · refine ⟨-1, 2, ?_, ?_, by decide⟩
    · rw [e1, bd1_s]; rfl
    · rw [e2, bd1_s]; rfl
  · refine ⟨setI (sellN a m), 0, ?_, ?_, by decide⟩
    · rw [e1, bd1_s, refF, bd2_s, if_pos rfl, (sellC ok rp hm).1, bd1_s]
    · rw [e2, bd1_s, if_neg (by decide), sellM ok rp' hv hm, bd1_s]; rfl
theorem q_saleOver (ok : okA a) (rp : rI (a 0 2) pr (a 3)) (rp' : rI (a 0 2) pr' (a 3)) (hv : v 10 = nI (a 0 3)) (p1 rf th tr wr : Int32) : ∃ r t, f_X11_saleOver rf (nI (a 0 0)) (nI (a 0 2)) pr (nI (a 0 3)) p1 = some (r, t) ∧ f_X13_saleOver th tr wr v (nI (a 0 2)) pr' p1 = some (r, 0, t, -1) ∧ ¬ t = 4 := by
  have hp := pow32 ok
  unfold f_X11_saleOver f_X13_saleOver f_X11_saleOver_B33
  rcases saleT ok p1 with ⟨e1, e2⟩ | ⟨m, hm, rfl, e1, e2⟩
  · refine ⟨-1, 2, ?_, ?_, by decide⟩
    · rw [e1, bd1_s]; rfl
    · rw [e2, bd1_s]; rfl
  · obtain ⟨ec, hb⟩ := sellC ok rp hm
    have em := sellM ok rp' hv hm
    have hn := setI_n (s := sellN a m) (fun b h => by have := hb b h; omega)
    cases hs : sellN a m with
    | none =>
      refine ⟨-1, 6, ?_, ?_, by decide⟩
      · rw [e1, bd1_s, refF, bd2_s, if_pos rfl, ec, bd1_s, if_pos (hn.mpr hs)]; rfl
      · rw [e2, bd1_s, if_neg (by decide), em, bd1_s, if_pos (hn.mpr hs)]; rfl
    | some b =>
      have hbl := hb b hs
      refine ⟨nI (priceN a b) - nI m, 0, ?_, ?_, by decide⟩
      · rw [e1, bd1_s, refF, bd2_s, if_pos rfl, ec, bd1_s, if_neg (fun e => by rw [hn.mp e] at hs; cases hs), refF, bd2_s, if_pos rfl, hs, show setI (some b) = nI b from rfl, priceC ok rp (by omega), bd1_s]
      · rw [e2, bd1_s, if_neg (by decide), em, bd1_s, if_neg (fun e => by rw [hn.mp e] at hs; cases hs), hs, show setI (some b) = nI b from rfl, priceM ok rp' (by omega), bd1_s]; rfl
/-- who lives in lane l -/
def liveS (a : AS) (l j : Nat) (s : Int32) : Int32 := if a 5 j = l ∧ aD a j = false then s ||| ((1 : Int32) <<< (nI j &&& 31)) else s
def liveN (a : AS) (l : Nat) : Int32 := itN (liveS a l) (a 0 2) 0 0
theorem liveC (ok : okA a) (ra : rI (a 0 2) at' (a 5)) {l : Nat} (hl : l < a 0 0) : f_X8_livingIn (nI (a 0 3)) at' (nI l) (nI (a 0 2)) = some (liveN a l) := by
  have h1 := ok.1
  unfold f_X8_livingIn
  refine (loopN (fun f i s => f_X8_livingIn_L5 (nI (a 0 3)) at' (nI l) (nI (a 0 2)) f s (nI i)) (a 0 2) (liveS a l) (fun _ _ => True) (fun s => some s) ?_ ?_ (a 0 2) 0 0 fuelN (by omega) trivial (fuel_gt (by omega))).1
  · intro f i s hi _
    refine ⟨trivial, ?_⟩
    have h5 := (ok.2.1 i hi).2.2.2.2.1
    show f_X8_livingIn_b5 _ _ _ _ _ _ _ = _
    unfold f_X8_livingIn_b5 f_X8_livingIn_B44 liveS
    rw [if_neg (nI_ge hi (by omega)), if_neg (show ¬ (5 : Int32) ≤ nI i from nI_ge (b := 5) (by omega) (by decide)), gI (by omega) (by decide), nI_clamp (by omega), ra i hi, isDeadN ok.d (by omega), bd1_s, nI_1]
    by_cases q : a 5 i = l
    · rw [if_pos ((nI_eq (by omega) (by omega)).mpr q)]
      show (if (if aD a i = true then (1 : Int32) else 0) = 0 then _ else _) = _
      cases hd : aD a i
      · rw [selF, if_pos ⟨q, rfl⟩]
      · rw [selT, if_neg (by intro h; cases h.2)]
    · rw [if_neg (fun e => q ((nI_eq (by omega) (by omega)).mp e)), if_neg (fun h => q h.1)]
  · intro f s _
    show f_X8_livingIn_b5 _ _ _ _ _ _ _ = _
    unfold f_X8_livingIn_b5
    rw [if_pos (nI_le (Nat.le_refl _) (by omega))]
theorem liveM (ok : okA a) (rv : rV a v) {l : Nat} (hl : l < a 0 0) (tr wr : Int32) : f_X13_lane_L68 v (nI (a 0 0)) (nI (a 0 2)) wh' (nI l) 0 tr wr fuelN 0 0 = some (liveN a l, 0, 0, -1) := by
  have h1 := ok.1
  refine (loopN (fun f i s => f_X13_lane_L68 v (nI (a 0 0)) (nI (a 0 2)) wh' (nI l) 0 tr wr f s (nI i)) (a 0 2) (liveS a l) (fun _ _ => True) (fun s => some (s, 0, 0, -1)) ?_ ?_ (a 0 2) 0 0 fuelN (by omega) trivial (fuel_gt (by omega))).1
  · intro f i s hi _
    refine ⟨trivial, ?_⟩
    have h5 := (ok.2.1 i hi).2.2.2.2.1
    have e : v i = nI (a 5 i) := rv.2.2.2.1 i hi
    show f_X13_lane_b68 _ _ _ _ _ _ _ _ _ _ _ = _
    unfold f_X13_lane_b68 f_X13_lane_B110 f_X13_lane_B111 liveS
    rw [if_neg (nI_ge hi (by omega)), n0, gI (by omega) (by decide), nI_clamp (by omega), e, isDeadM rv.1 ok.d (by omega), bd1_s, nI_1, Int32.or_zero]
    by_cases q : a 5 i = l
    · rw [if_pos ((nI_eq (by omega) (by omega)).mpr q)]
      show (if (if aD a i = true then (1 : Int32) else 0) = 0 then _ else _) = _
      cases hd : aD a i
      · rw [selF, if_pos ⟨q, rfl⟩]
      · rw [selT, if_neg (by intro h; cases h.2)]
    · rw [if_neg (fun e => q ((nI_eq (by omega) (by omega)).mp e)), if_neg (fun h => q h.1)]
  · intro f s _
    show f_X13_lane_b68 _ _ _ _ _ _ _ _ _ _ _ = _
    unfold f_X13_lane_b68 f_X13_lane_B119 f_X13_good
    rw [if_pos (nI_le (Nat.le_refl _) (by omega)), bd3_s]
theorem q_lane (ok : okA a) (rw : rI (a 0 0) wh (a 4)) (rs : rI (a 0 0) st (a 7)) (ra : rI (a 0 2) at' (a 5)) (rw' : rI (a 0 0) wh' (a 4)) (rv : rV a v) (p1 p2 rf th tr wr : Int32) : ∃ r t, f_X11_lane rf (nI (a 0 0)) (nI (a 0 2)) wh (nI (a 0 3)) st at' p1 p2 = some (r, t) ∧ f_X13_lane th tr wr v (nI (a 0 0)) (nI (a 0 2)) wh' p1 p2 = some (r, 0, t, -1) ∧ ¬ t = 4 := by
  have h1 := ok.1
  unfold f_X11_lane f_X13_lane f_X11_lane_B21 f_X11_lane_B26 f_X13_lane_B22 f_X13_lane_B59
  rcases ix2 p1 (n := a 0 0) (by omega) with h | ⟨l, hl, rfl⟩
  · have := hbN h
    refine ⟨-1, 1, ?_, ?_, by decide⟩
    · rw [this.2.1, bd1_s]; rfl
    · rw [this.2.2.2.2.1, bd1_s]; rfl
  · have hx := hbY (n := a 0 0) (by omega) hl
    have e11 : v (11 + l) = nI (a 7 l) := rv.2.2.2.2.2 l hl
    rcases outIn p2 0 2 with ⟨e1, e2, h3, h4⟩ | ⟨e1, e2⟩
    · obtain ⟨m, hm, rfl⟩ := nI_of2 (M := 2) (n := 2) rfl h3 h4
      rw [hx.2.1, hx.2.2.2.2.1, bd1_s, bd1_s, if_neg (by decide), if_neg (by decide), e1, e2, bd1_s, bd1_s, if_pos rfl, if_neg (by decide), refF, bd2_s, if_pos rfl]
      rcases (show m = 0 ∨ m = 1 ∨ m = 2 by omega) with rfl | rfl | rfl
      · refine ⟨nI (a 4 l), 0, ?_, ?_, by decide⟩
        · rw [if_pos (by decide), gI (by omega) (by decide), nI_clamp (by omega), rw l hl]
        · rw [if_neg (by decide), if_pos (by decide), gI (by omega) (by decide), nI_clamp (by omega), rw' l hl]; rfl
      · refine ⟨nI (a 7 l), 0, ?_, ?_, by decide⟩
        · rw [if_neg (by decide), if_pos (by decide), gI (by omega) (by decide), nI_clamp (by omega), rs l hl]
        · rw [if_neg (by decide), if_neg (by decide), n11, gI (by omega) (by decide), nI_clamp (by omega), e11]; rfl
      · refine ⟨liveN a l, 0, ?_, ?_, by decide⟩
        · rw [if_neg (by decide), if_neg (by decide), liveC ok ra hl, bd1_s]
        · rw [if_pos (by decide)]; exact liveM ok rv hl tr wr
    · refine ⟨-1, 1, ?_, ?_, by decide⟩
      · rw [hx.2.1, bd1_s, if_neg (by decide), e1, bd1_s]; rfl
      · rw [hx.2.2.2.2.1, bd1_s, if_neg (by decide), e2, bd1_s]; rfl
theorem q_beast (ok : okA a) (rc : rCl a wh kd md st wd) (rp : rI (a 0 2) pr (a 3)) (ra : rI (a 0 2) at' (a 5)) (rm : rMo a wh' kd' md' v) (rp' : rI (a 0 2) pr' (a 3)) (p1 p2 rf th tr wr : Int32) : ∃ r t, f_X11_beast rf (nI (a 0 2)) kd md pr (nI (a 0 3)) (nI (a 0 4)) at' wd p1 p2 = some (r, t) ∧ f_X13_beast th tr wr v (nI (a 0 2)) kd' md' pr' p1 p2 = some (r, 0, t, -1) ∧ ¬ t = 4 := by
  have h1 := ok.1
  obtain ⟨rc1, rk, rmo, rs, rwd⟩ := rc
  obtain ⟨rm1, rk', rmo', rv⟩ := rm
  unfold f_X11_beast f_X13_beast f_X11_beast_B22 f_X11_beast_B27 f_X13_beast_B23 f_X13_beast_B174
  rcases ix2 p1 (n := a 0 2) (by omega) with h | ⟨l, hl, rfl⟩
  · have := hbN h
    refine ⟨-1, 1, ?_, ?_, by decide⟩
    · rw [this.1, bd1_s]; rfl
    · rw [this.2.2.2.1, bd1_s]; rfl
  · have hx := hbY (n := a 0 2) (by omega) hl
    have h2 := ok.2.1 l hl
    have e0 : v l = nI (a 5 l) := rv.2.2.2.1 l hl
    have e5 : v (5 + l) = nI (a 6 l) := rv.2.2.2.2.1 l hl
    rcases outIn p2 0 7 with ⟨e1, e2, h3, h4⟩ | ⟨e1, e2⟩
    · obtain ⟨m, hm, rfl⟩ := nI_of2 (M := 7) (n := 7) rfl h3 h4
      rw [hx.1, hx.2.2.2.1, bd1_s, bd1_s, if_neg (by decide), if_neg (by decide), e1, e2, bd1_s, bd1_s, if_pos rfl, if_neg (by decide), refF, bd2_s, if_pos rfl]
      rw [n0, n5, gI (show l < 5 by omega) (by decide), gI (show l < 5 by omega) (by decide), gI (show l < 19 by omega) (by decide), gI (show 5 + l < 19 by omega) (by decide), nI_clamp (show l < 2 ^ 31 by omega), nI_clamp (show 5 + l < 2 ^ 31 by omega)]
      rcases (show m = 0 ∨ m = 1 ∨ m = 2 ∨ m = 3 ∨ m = 4 ∨ m = 5 ∨ m = 6 ∨ m = 7 by omega) with rfl | rfl | rfl | rfl | rfl | rfl | rfl | rfl
      · refine ⟨nI (a 1 l), 0, ?_, ?_, by decide⟩
        · rw [if_pos (by decide), rk l hl]
        · rw [if_pos (by decide), rk' l hl]; rfl
      · refine ⟨nI (a 5 l), 0, ?_, ?_, by decide⟩
        · rw [if_neg (by decide), if_pos (by decide), ra l hl]
        · rw [if_neg (by decide), if_pos (by decide), e0]; rfl
      · refine ⟨nI (a 2 l), 0, ?_, ?_, by decide⟩
        · rw [if_neg (by decide), if_neg (by decide), if_pos (by decide), rmo l hl]
        · rw [if_neg (by decide), if_neg (by decide), if_pos (by decide), rmo' l hl]; rfl
      · refine ⟨nI (a 3 l), 0, ?_, ?_, by decide⟩
        · rw [if_neg (by decide), if_neg (by decide), if_neg (by decide), if_pos (by decide), rp l hl]
        · rw [if_neg (by decide), if_neg (by decide), if_neg (by decide), if_pos (by decide), rp' l hl]; rfl
      · refine ⟨nI (aF a l), 0, ?_, ?_, by decide⟩
        · rw [if_neg (by decide), if_neg (by decide), if_neg (by decide), if_neg (by decide), if_pos (by decide), forceC ok.d (by omega) (rk l hl) h2.1 (rwd l hl) (by omega), bd1_s]
        · rw [if_neg (by decide), if_neg (by decide), if_neg (by decide), if_neg (by decide), if_pos (by decide), forceM rv.1 ok.d (by omega) (rk' l hl) h2.1 e5 (by omega), bd1_s]; rfl
      · refine ⟨nI (aH a l), 0, ?_, ?_, by decide⟩
        · rw [if_neg (by decide), if_neg (by decide), if_neg (by decide), if_neg (by decide), if_neg (by decide), if_pos (by decide), holdC (by omega) (rk l hl) h2.1 (rmo l hl) (by omega) h1.2.2.2.2.2.2.2.1, bd1_s]
        · rw [if_neg (by decide), if_neg (by decide), if_neg (by decide), if_neg (by decide), if_neg (by decide), if_pos (by decide), holdM (by omega) (rk' l hl) h2.1 (rmo' l hl) (by omega) rv.2.1 h1.2.2.2.2.2.2.2.1, bd1_s]; rfl
      · refine ⟨nI (a 6 l), 0, ?_, ?_, by decide⟩
        · rw [if_neg (by decide), if_neg (by decide), if_neg (by decide), if_neg (by decide), if_neg (by decide), if_neg (by decide), if_pos (by decide), rwd l hl]
        · rw [if_neg (by decide), if_neg (by decide), if_neg (by decide), if_neg (by decide), if_neg (by decide), if_neg (by decide), if_pos (by decide), e5]; rfl
      · rw [isDeadN ok.d (by omega), isDeadM rv.1 ok.d (by omega), bd1_s, bd1_s]
        refine ⟨(if bit (a 0 3) l then 1 else 0), 0, ?_, ?_, by decide⟩
        · rw [if_neg (by decide), if_neg (by decide), if_neg (by decide), if_neg (by decide), if_neg (by decide), if_neg (by decide), if_neg (by decide)]
          cases bit (a 0 3) l <;> rfl
        · rw [if_neg (by decide), if_neg (by decide), if_neg (by decide), if_neg (by decide), if_neg (by decide), if_neg (by decide), if_neg (by decide)]
          cases bit (a 0 3) l <;> rfl
    · refine ⟨-1, 1, ?_, ?_, by decide⟩
      · rw [hx.1, bd1_s, if_neg (by decide), e1, bd1_s]; rfl
      · rw [hx.2.2.2.1, bd1_s, if_neg (by decide), e2, bd1_s]; rfl
theorem q_size (rv : rV a v) (hw : a 0 4 < 2) {T U : Nat} (hT : T < 64) (hU : U < 64) (by' ci pa ac ma p1 th : Int32) : ∃ r, f_X11_size by' (nI (a 0 0)) (nI (a 0 1)) (nI T) (nI (a 0 2)) ci pa (nI U) (nI (a 0 4)) (nI (a 0 5)) ac ma p1 = some r ∧ f_X13_size th by' ac ma v (nI (a 0 0)) (nI (a 0 1)) (nI (popN T)) (nI (a 0 2)) ci pa (nI U) p1 = some (r, 0) := by
  unfold f_X11_size f_X13_size
  rw [popC T hT, popC U hU, popM hU, bd1_s, bd1_s, bd1_s, c17, c18, rv.2.1, rv.2.2.1]
  have n11' : ∀ k : Int32, p1 = 11 → ¬ k = 11 → ¬ p1 = k := fun k e n e2 => n (e2.symm.trans e)
  by_cases q : p1 = 11
  · refine ⟨by', ?_, ?_⟩
    · rw [q]; rfl
    · rw [if_pos q]
  · rw [if_neg q]
    rcases outIn p1 0 10 with ⟨-, e2, h3, h4⟩ | ⟨-, e2⟩
    · obtain ⟨m, hm, rfl⟩ := nI_of2 (M := 10) (n := 10) rfl h3 h4
      rw [e2, bd1_s, if_neg (by decide)]
      rcases (show m = 0 ∨ m = 1 ∨ m = 2 ∨ m = 3 ∨ m = 4 ∨ m = 5 ∨ m = 6 ∨ m = 7 ∨ m = 8 ∨ m = 9 ∨ m = 10 by omega) with rfl | rfl | rfl | rfl | rfl | rfl | rfl | rfl | rfl | rfl | rfl
      · exact ⟨_, rfl, rfl⟩
      · exact ⟨_, rfl, rfl⟩
      · exact ⟨_, rfl, rfl⟩
      · exact ⟨_, rfl, rfl⟩
      · exact ⟨_, rfl, rfl⟩
      · exact ⟨_, rfl, rfl⟩
      · exact ⟨_, rfl, rfl⟩
      · rcases (show a 0 4 = 0 ∨ a 0 4 = 1 by omega) with h | h <;> rw [h] <;> exact ⟨_, rfl, rfl⟩
      · exact ⟨_, rfl, rfl⟩
      · exact ⟨_, rfl, rfl⟩
      · exact ⟨_, rfl, rfl⟩
    · rw [e2, bd1_s, if_pos rfl]
      have key : ∀ k, k < 11 → ¬ p1 = nI k := by
        intro k hk e
        subst e
        have : ∀ k, k < 11 → f_X13_in (nI k) 0 10 = some 1 := by decide +kernel
        rw [this k hk] at e2
        exact absurd e2 (by decide)
      refine ⟨-1, ?_, rfl⟩
      rw [if_neg (key 0 (by decide)), if_neg (key 1 (by decide)), if_neg (key 2 (by decide)), if_neg (key 3 (by decide)), if_neg (key 4 (by decide)), if_neg (key 5 (by decide)), if_neg (key 6 (by decide)), if_neg (key 7 (by decide)), if_neg (key 8 (by decide)), if_neg (key 9 (by decide)), if_neg (key 10 (by decide)), if_neg q]
theorem q_seed (ok : okA a) (p1 rf th tr wr dr : Int32) : (∃ n, n ≤ 65536 ∧ p1 = nI n ∧ f_X11_seed rf (nI (a 0 0)) dr p1 = some (1, 0, nI n) ∧ f_X13_seed th tr wr v p1 = some (1, 0, 0, -1, upd v 18 (nI n))) ∨ (f_X11_seed rf (nI (a 0 0)) dr p1 = some (0, 2, dr) ∧ f_X13_seed th tr wr v p1 = some (0, 0, 2, -1, v)) := by
  have h1 := ok.1
  unfold f_X11_seed f_X13_seed f_X11_seed_B31
  rw [(warT (n := a 0 0) (by omega) (by omega)).2, bd1_s, if_neg (by decide)]
  rcases outIn p1 0 65536 with ⟨e1, e2, h3, h4⟩ | ⟨e1, e2⟩
  · obtain ⟨n, hn, rfl⟩ := nI_of2 (M := 65536) (n := 65536) rfl h3 h4
    exact Or.inl ⟨n, hn, rfl, by rw [e1, bd1_s]; rfl, by rw [e2, bd1_s, c18]; rfl⟩
  · exact Or.inr ⟨by rw [e1, bd1_s]; rfl, by rw [e2, bd1_s]; rfl⟩
/-- whom a trumpet of b turns -/
def near (x y : Nat) : Bool := decide (x ≤ y + 1) && decide (y ≤ x + 1)
theorem nearC : ∀ x, x < 6 → ∀ y, y < 6 → ((1 : Int32) < (if 0 ≤ nI x - nI y then nI x - nI y else 0 - (nI x - nI y)) ↔ near x y = false) := by decide +kernel
theorem nearM : ∀ x, x < 6 → ∀ y, y < 6 → (((nI x - nI y) < -1 ∨ 1 < nI x - nI y) ↔ near x y = false) := by decide +kernel
def turnP (a : AS) (b k : Nat) : Bool := near (a 5 k) (a 5 b) && (!aD a k && decide (aH a k < 50))
def turnS (a : AS) (b k : Nat) (s : Int32) : Int32 := if !aD a b && turnP a b k then s ||| ((1 : Int32) <<< (nI k &&& 31)) else s
def turnN (a : AS) (b : Nat) : Int32 := itN (turnS a b) (a 0 2) 0 0
theorem turnByC (ok : okA a) (rk : rI (a 0 2) kd (a 1)) (rmo : rI (a 0 2) md (a 2)) (ra : rI (a 0 2) at' (a 5)) {b : Nat} (hb : b < a 0 2) : f_X10_turnBy (nI (a 0 2)) kd md (nI (a 0 3)) (nI (a 0 4)) at' (nI b) = some (turnN a b) := by
  have h1 := ok.1
  unfold f_X10_turnBy
  rw [isDeadN ok.d (by omega), bd1_s]
  show (if (if aD a b = true then (1 : Int32) else 0) = 0 then _ else _) = _
  cases hd : aD a b
  · rw [selF]
    refine (loopN (fun f i s => f_X10_turnBy_L17 (nI (a 0 2)) kd md (nI (a 0 3)) (nI (a 0 4)) at' (nI b) f s (nI i)) (a 0 2) (turnS a b) (fun _ _ => True) (fun s => some s) ?_ ?_ (a 0 2) 0 0 fuelN (by omega) trivial (fuel_gt (by omega))).1
    · intro f i s hi _
      refine ⟨trivial, ?_⟩
      have h2 := ok.2.1 i hi
      have h5 := h2.2.2.2.2.1
      have h5b := (ok.2.1 b hb).2.2.2.2.1
      have hh := aH_le ok hi
      show f_X10_turnBy_b17 _ _ _ _ _ _ _ _ _ _ = _
      unfold f_X10_turnBy_b17 f_X10_turnBy_B88 turnS turnP
      rw [if_neg (nI_ge hi (by omega)), gI (by omega) (by decide), gI (by omega) (by decide), nI_clamp (show i < 2 ^ 31 by omega), nI_clamp (show b < 2 ^ 31 by omega), ra i hi, ra b hb, isDeadN ok.d (by omega), bd1_s, holdC (by omega) (rk i hi) h2.1 (rmo i hi) (by omega) h1.2.2.2.2.2.2.2.1, bd1_s, nI_1, hd]
      have e := nearC (a 5 i) (by omega) (a 5 b) (by omega)
      have e50 : (50 : Int32) ≤ nI (aH a i) ↔ 50 ≤ aH a i := nI_leI (a := 50) (by decide) (by omega)
      by_cases q : near (a 5 i) (a 5 b) = false
      · rw [if_pos (e.mpr q), q]; rfl
      · rw [if_neg (fun h => q (e.mp h)), show near (a 5 i) (a 5 b) = true by cases hq : near (a 5 i) (a 5 b); exact absurd hq q; rfl]
        show (if (if aD a i = true then (1 : Int32) else 0) = 0 then _ else _) = _
        cases aD a i
        · rw [selF]
          by_cases q2 : aH a i < 50
          · rw [if_neg (fun h => by have := e50.mp h; omega), decide_eq_true q2]; rfl
          · rw [if_pos (e50.mpr (by omega)), decide_eq_false q2]; rfl
        · rw [selT]; rfl
    · intro f s _
      show f_X10_turnBy_b17 _ _ _ _ _ _ _ _ _ _ = _
      unfold f_X10_turnBy_b17
      rw [if_pos (nI_le (Nat.le_refl _) (by omega))]
  · rw [selT]
    unfold turnN
    rw [it_id (fun j s => by unfold turnS; rw [hd]; rfl)]
theorem turnOfM (ok : okA a) (rm : rMo a wh' kd' md' v) {b : Nat} (hb : b < a 0 2) : f_X13_turnedOf v (nI (a 0 2)) kd' md' (nI b) = some (turnN a b) := by
  have h1 := ok.1
  obtain ⟨r1, rk, rmo, rv⟩ := rm
  unfold f_X13_turnedOf
  refine (loopN (fun f i s => f_X13_turnedOf_L4 v (nI (a 0 2)) kd' md' (nI b) f s (nI i)) (a 0 2) (turnS a b) (fun _ _ => True) (fun s => some s) ?_ ?_ (a 0 2) 0 0 fuelN (by omega) trivial (fuel_gt (by omega))).1
  · intro f i s hi _
    refine ⟨trivial, ?_⟩
    have h2 := ok.2.1 i hi
    have h5 := h2.2.2.2.2.1
    have h5b := (ok.2.1 b hb).2.2.2.2.1
    have hh := aH_le ok hi
    have ei : v i = nI (a 5 i) := rv.2.2.2.1 i hi
    have eb : v b = nI (a 5 b) := rv.2.2.2.1 b hb
    show f_X13_turnedOf_b4 _ _ _ _ _ _ _ _ = _
    unfold f_X13_turnedOf_b4 f_X13_turnedOf_B78 turnS turnP
    rw [if_neg (nI_ge hi (by omega)), n0, n0, gI (by omega) (by decide), gI (by omega) (by decide), nI_clamp (show i < 2 ^ 31 by omega), nI_clamp (show b < 2 ^ 31 by omega), ei, eb, isDeadM rv.1 ok.d (by omega), bd1_s, isDeadM rv.1 ok.d (by omega), bd1_s, holdM (by omega) (rk i hi) h2.1 (rmo i hi) (by omega) rv.2.1 h1.2.2.2.2.2.2.2.1, bd1_s, nI_1]
    have e := nearM (a 5 i) (by omega) (a 5 b) (by omega)
    have e50 : (50 : Int32) ≤ nI (aH a i) ↔ 50 ≤ aH a i := nI_leI (a := 50) (by decide) (by omega)
    show (if (if aD a b = true then (1 : Int32) else 0) = 0 then (if (if aD a i = true then (1 : Int32) else 0) = 0 then _ else _) else _) = _
    cases aD a b
    · rw [selF]
      cases aD a i
      · rw [selF]
        by_cases q : near (a 5 i) (a 5 b) = false
        · rw [q]
          rcases e.mpr q with h | h
          · rw [if_pos h]; rfl
          · by_cases q3 : (nI (a 5 i) - nI (a 5 b)) < -1
            · rw [if_pos q3]; rfl
            · rw [if_neg q3, if_pos h]; rfl
        · rw [if_neg (fun h => q (e.mp (Or.inl h))), if_neg (fun h => q (e.mp (Or.inr h))), show near (a 5 i) (a 5 b) = true by cases hq : near (a 5 i) (a 5 b); exact absurd hq q; rfl]
          by_cases q2 : aH a i < 50
          · rw [if_neg (fun h => by have := e50.mp h; omega), decide_eq_true q2]; rfl
          · rw [if_pos (e50.mpr (by omega)), decide_eq_false q2]; rfl
      · rw [selT, Bool.not_true, Bool.false_and, Bool.and_false, Bool.and_false]; rfl
    · rw [selT]; rfl
  · intro f s _
    show f_X13_turnedOf_b4 _ _ _ _ _ _ _ _ = _
    unfold f_X13_turnedOf_b4
    rw [if_pos (nI_le (Nat.le_refl _) (by omega))]
theorem q_turnedBy (ok : okA a) (rc : rCl a wh kd md st wd) (ra : rI (a 0 2) at' (a 5)) (rm : rMo a wh' kd' md' v) (p1 rf th tr wr : Int32) : ∃ r t, f_X11_turnedBy rf (nI (a 0 2)) kd md (nI (a 0 3)) (nI (a 0 4)) at' p1 = some (r, t) ∧ f_X13_turnedBy th tr wr v (nI (a 0 2)) kd' md' p1 = some (r, 0, t, -1) ∧ ¬ t = 4 := by
  have h1 := ok.1
  unfold f_X11_turnedBy f_X13_turnedBy
  rcases beastT (n := a 0 2) (by omega) p1 with ⟨-, e1, e2⟩ | ⟨j, hj, rfl, e1, e2⟩
  · refine ⟨-1, 1, ?_, ?_, by decide⟩
    · rw [e1, bd1_s, ref1, bd2_s]; rfl
    · rw [e2, bd1_s]; rfl
  · refine ⟨turnN a j, 0, ?_, ?_, by decide⟩
    · rw [e1, bd1_s, refF, bd2_s, if_pos rfl, turnByC ok rc.2.1 rc.2.2.1 ra hj, bd1_s]
    · rw [e2, bd1_s, if_neg (by decide), turnOfM ok rm hj, bd1_s]; rfl
end BA
/-! BB: trumpets: fits, could, surely, ask -/
theorem loopR {S T : Type} (L : Nat → Nat → S → Option T) (n : Nat) (I : Nat → S → Prop) (P : Option T → Prop) (hs : ∀ f i s, i < n → I i s → ∃ s', I (i + 1) s' ∧ L (f + 1) i s = L f (i + 1) s') (he : ∀ f s, I n s → P (L (f + 1) n s)) : ∀ k i s f, i + k = n → I i s → k < f → P (L f i s) := by
  intro k
  induction k with
  | zero =>
    intro i s f hi hI hf
    obtain ⟨f, rfl⟩ : ∃ g, f = g + 1 := ⟨f - 1, by omega⟩
    have : i = n := by omega
    subst this
    exact he f s hI
  | succ k ih =>
    intro i s f hi hI hf
    obtain ⟨f, rfl⟩ : ∃ g, f = g + 1 := ⟨f - 1, by omega⟩
    obtain ⟨s', h1, h2⟩ := hs f i s (by omega) hI
    rw [h2]
    exact ih (i + 1) s' f (by omega) h1 (by omega)
theorem it_snoc {S : Type} (step : Nat → S → S) : ∀ k i s, itN step (k + 1) i s = step (i + k) (itN step k i s) := by
  intro k
  induction k with
  | zero => intro i s; rfl
  | succ k ih =>
    intro i s
    show itN step (k + 1) (i + 1) (step i s) = _
    rw [ih (i + 1) (step i s)]
    show _ = step (i + (k + 1)) (itN step k (i + 1) (step i s))
    rw [show i + 1 + k = i + (k + 1) by omega]
theorem bd4_s {α A B C D : Type} (x : A) (y : B) (z : C) (w : D) (k : A → B → C → D → Option α) : bd4 (some (x, y, z, w)) k = k x y z w := rfl
theorem bd5_s {α A B C D E : Type} (x : A) (y : B) (z : C) (w : D) (u : E) (k : A → B → C → D → E → Option α) : bd5 (some (x, y, z, w, u)) k = k x y z w u := rfl
theorem bit_tb (d j : Nat) : bit d j = d.testBit j := by
  unfold bit
  rw [Nat.testBit_eq_decide_div_mod_eq]
  by_cases q : d / 2 ^ j % 2 = 1
  · rw [q]; rfl
  · rw [decide_eq_false q]
    exact beq_eq_false_iff_ne.mpr q
theorem bit_or (x y j : Nat) : bit (x ||| y) j = (bit x j || bit y j) := by rw [bit_tb, bit_tb, bit_tb, Nat.testBit_or]
theorem bit_and (x y j : Nat) : bit (x &&& y) j = (bit x j && bit y j) := by rw [bit_tb, bit_tb, bit_tb, Nat.testBit_and]
theorem bit_hi {x n j : Nat} (h : x < 2 ^ n) (hj : n ≤ j) : bit x j = false := by
  rw [bit_tb]
  exact Nat.testBit_lt_two_pow (Nat.lt_of_lt_of_le h (Nat.pow_le_pow_right (by decide) hj))
theorem bit_ext {x y : Nat} (h : ∀ j, bit x j = bit y j) : x = y := by
  apply Nat.eq_of_testBit_eq
  intro j
  rw [← bit_tb, ← bit_tb]
  exact h j
theorem bit_pow (n j : Nat) : bit (2 ^ n) j = decide (n = j) := by rw [bit_tb, Nat.testBit_two_pow]
theorem bit_0 (j : Nat) : bit 0 j = false := by rw [bit_tb, Nat.zero_testBit]
theorem bit_full {n j : Nat} (h : j < n) : bit (2 ^ n - 1) j = true := by rw [bit_tb, Nat.testBit_two_pow_sub_one, decide_eq_true h]
theorem bit_mod (x j : Nat) : x / 2 ^ j % 2 = if bit x j then 1 else 0 := by
  unfold bit
  rcases Nat.mod_two_eq_zero_or_one (x / 2 ^ j) with h | h <;> rw [h] <;> rfl
def orS (p : Nat → Bool) (b s : Nat) : Nat := s ||| (if p b then 2 ^ b else 0)
theorem or_bits (p : Nat → Bool) : ∀ k j, bit (itN (orS p) k 0 0) j = (decide (j < k) && p j) := by
  intro k
  induction k with
  | zero => intro j; unfold itN; rw [bit_0]; rfl
  | succ k ih =>
    intro j
    rw [it_snoc, Nat.zero_add]
    unfold orS
    rw [bit_or]
    unfold orS at ih
    rw [ih j]
    by_cases q : j = k
    · subst q
      rw [decide_eq_false (Nat.lt_irrefl j), decide_eq_true (Nat.lt_succ_self j)]
      cases p j
      · simp [bit_0]
      · simp [bit_pow]
    · have e : decide (j < k + 1) = decide (j < k) := by
        by_cases h : j < k
        · rw [decide_eq_true h, decide_eq_true (by omega)]
        · rw [decide_eq_false h, decide_eq_false (by omega)]
      rw [e]
      cases p k
      · simp [bit_0]
      · simp [bit_pow, Ne.symm q]
theorem or_eq {p : Nat → Bool} {n N : Nat} (hN : N < 2 ^ n) (h : ∀ b, b < n → bit N b = p b) : itN (orS p) n 0 0 = N := by
  apply bit_ext
  intro j
  rw [or_bits]
  by_cases q : j < n
  · rw [decide_eq_true q, h j q]; rfl
  · rw [decide_eq_false q, bit_hi hN (by omega)]; rfl
section BB
variable {a : AS} {wh kd md st wd at' wh' kd' md' v : Nat → Int32}
def tsS (a : AS) (x j : Nat) (s : Int32) : Int32 := s ||| (if bit x j then turnN a j else 0)
def tsN (a : AS) (x : Nat) : Int32 := itN (tsS a x) (a 0 2) 0 0
def fitB (a : AS) (tu : Int32) (x : Nat) : Bool := decide (x &&& a 0 3 = 0) && decide (tsN a x = tu)
def trS (a : AS) (tu : Int32) (x : Nat) (s : Nat × (Nat → Nat)) : Nat × (Nat → Nat) := if fitB a tu x then (s.1 + 1, fun b => s.2 b + x / 2 ^ b % 2) else s
def trN (a : AS) (tu : Int32) (i : Nat) : Nat × (Nat → Nat) := itN (trS a tu) (i - 1) 1 (0, fun _ => 0)
theorem trN_s (a : AS) (tu : Int32) {i : Nat} (hi : 1 ≤ i) : trN a tu (i + 1) = trS a tu i (trN a tu i) := by
  unfold trN
  rw [show i + 1 - 1 = (i - 1) + 1 by omega, it_snoc, show 1 + (i - 1) = i by omega]
theorem trN_b (a : AS) (tu : Int32) : ∀ i, 1 ≤ i → (trN a tu i).1 < i ∧ ∀ b, (trN a tu i).2 b ≤ (trN a tu i).1 := by
  intro i hi
  induction i with
  | zero => omega
  | succ i ih =>
    by_cases q : i = 0
    · subst q; exact ⟨by show (0 : Nat) < 1; omega, fun b => Nat.le_refl 0⟩
    · have := ih (by omega)
      rw [trN_s a tu (by omega)]
      unfold trS
      split
      · refine ⟨by show (trN a tu i).1 + 1 < i + 1; omega, fun b => ?_⟩
        have h := this.2 b
        have : i / 2 ^ b % 2 < 2 := Nat.mod_lt _ (by decide)
        show (trN a tu i).2 b + i / 2 ^ b % 2 ≤ (trN a tu i).1 + 1
        omega
      · exact ⟨by omega, this.2⟩
/-- all sets are tried -/
abbrev trF (a : AS) (tu : Int32) : Nat × (Nat → Nat) := trN a tu (2 ^ a 0 2)
theorem tsC (ok : okA a) {tt : Nat → Int32} (ht : ∀ b, b < a 0 2 → tt b = turnN a b) {x : Nat} (hx : x < 2 ^ 31) : f_X10_turnBySet (nI (a 0 2)) tt (nI x) = some (tsN a x) := by
  have h1 := ok.1
  unfold f_X10_turnBySet
  refine (loopN (fun f i s => f_X10_turnBySet_L4 (nI (a 0 2)) tt (nI x) f s (nI i)) (a 0 2) (tsS a x) (fun _ _ => True) (fun s => some s) ?_ ?_ (a 0 2) 0 0 fuelN (by omega) trivial (fuel_gt (by omega))).1
  · intro f i s hi _
    refine ⟨trivial, ?_⟩
    show f_X10_turnBySet_b4 _ _ _ _ _ _ = _
    unfold f_X10_turnBySet_b4 f_X10_turnBySet_B35 tsS
    rw [if_neg (nI_ge hi (by omega)), bitN hx (by omega), bit_mod, gI (by omega) (by decide), nI_1, nI_clamp (by omega), ht i hi]
    cases bit x i <;> rfl
  · intro f s _
    show f_X10_turnBySet_b4 _ _ _ _ _ _ = _
    unfold f_X10_turnBySet_b4
    rw [if_pos (nI_le (Nat.le_refl _) (by omega))]
theorem countC (ok : okA a) {c : Nat → Nat} {w : Nat → Int32} (hw : ∀ b, b < a 0 2 → w b = nI (c b)) {x : Nat} (hx : x < 2 ^ 31) (n N A : Int32) : ∃ w', f_X10_count (nI (a 0 2)) n N A w (nI x) = some (n + 1, N ||| nI x, A &&& nI x, w') ∧ ∀ b, b < a 0 2 → w' b = nI (c b + x / 2 ^ b % 2) := by
  have h1 := ok.1
  unfold f_X10_count
  refine loopR (fun f i s => f_X10_count_L32 (nI (a 0 2)) (nI x) (n + 1) (N ||| nI x) (A &&& nI x) f (nI i) s) (a 0 2) (fun i s => (∀ b, b < i → s b = nI (c b + x / 2 ^ b % 2)) ∧ ∀ b, i ≤ b → b < a 0 2 → s b = nI (c b)) (fun o => ∃ w', o = some (n + 1, N ||| nI x, A &&& nI x, w') ∧ ∀ b, b < a 0 2 → w' b = nI (c b + x / 2 ^ b % 2)) ?_ ?_ (a 0 2) 0 w fuelN (by omega) ⟨by intro b hb; omega, fun b _ hb => hw b hb⟩ (fuel_gt (by omega))
  · intro f i s hi hs
    refine ⟨upd s i (nI (c i + x / 2 ^ i % 2)), ⟨?_, ?_⟩, ?_⟩
    · intro b hb
      by_cases q : b = i
      · subst q; exact pk_us
      · rw [pk_un q]; exact hs.1 b (by omega)
    · intro b hb hb2
      rw [pk_un (by omega)]; exact hs.2 b (by omega) hb2
    · show f_X10_count_b32 _ _ _ _ _ _ _ _ = _
      unfold f_X10_count_b32
      rw [if_neg (nI_ge hi (by omega)), gI (by omega) (by decide), gI (by omega) (by decide), nI_1, nI_clamp (by omega), hs.2 i (Nat.le_refl _) hi, bitN hx (by omega), nI_add]
  · intro f s hs
    refine ⟨s, ?_, hs.1⟩
    show f_X10_count_b32 _ _ _ _ _ _ _ _ = _
    unfold f_X10_count_b32
    rw [if_pos (nI_le (Nat.le_refl _) (by omega))]
/-- what the search for sets leaves -/
def trI (a : AS) (tu : Int32) (i : Nat) (n N A : Int32) (w : Nat → Int32) : Prop := n = nI (trN a tu i).1 ∧ (∀ b, b < a 0 2 → w b = nI ((trN a tu i).2 b)) ∧ (∃ x, x < 2 ^ a 0 2 ∧ N = nI x ∧ ∀ b, b < a 0 2 → bit x b = decide (0 < (trN a tu i).2 b)) ∧ ∃ x, x < 2 ^ a 0 2 ∧ A = nI x ∧ ∀ b, b < a 0 2 → bit x b = decide ((trN a tu i).2 b = (trN a tu i).1)
theorem findC (ok : okA a) (rk : rI (a 0 2) kd (a 1)) (rmo : rI (a 0 2) md (a 2)) (ra : rI (a 0 2) at' (a 5)) (tu s1 s2 s3 : Int32) (t0 w0 : Nat → Int32) : ∃ N A tt w, f_X10_findSets (nI (a 0 2)) tu kd md (nI (a 0 3)) (nI (a 0 4)) at' s1 s2 s3 t0 w0 = some (nI (trF a tu).1, N, (if nI (trF a tu).1 = 0 then 0 else A), tt, w) ∧ trI a tu (2 ^ a 0 2) (nI (trF a tu).1) N A w := by
  have h1 := ok.1
  have hp := pow32 ok
  have hp1 : 1 ≤ 2 ^ a 0 2 := Nat.one_le_two_pow
  have step2 : ∀ (tt : Nat → Int32), (∀ b, b < a 0 2 → tt b = turnN a b) → ∀ w, (∀ b, b < a 0 2 → w b = nI 0) → ∃ N A w', f_X10_findSets_L64 (nI (a 0 2)) tu kd md (nI (a 0 3)) (nI (a 0 4)) at' tt fuelN 1 0 0 (((1 : Int32) <<< (nI (a 0 2) &&& 31)) - 1) w = some (nI (trF a tu).1, N, (if nI (trF a tu).1 = 0 then 0 else A), tt, w') ∧ trI a tu (2 ^ a 0 2) (nI (trF a tu).1) N A w' := by
    intro tt ht w hw
    refine loopR (fun f i (s : Int32 × Int32 × Int32 × (Nat → Int32)) => f_X10_findSets_L64 (nI (a 0 2)) tu kd md (nI (a 0 3)) (nI (a 0 4)) at' tt f (nI i) s.1 s.2.1 s.2.2.1 s.2.2.2) (2 ^ a 0 2) (fun i s => 1 ≤ i ∧ trI a tu i s.1 s.2.1 s.2.2.1 s.2.2.2) (fun o => ∃ N A w', o = some (nI (trF a tu).1, N, (if nI (trF a tu).1 = 0 then 0 else A), tt, w') ∧ trI a tu (2 ^ a 0 2) (nI (trF a tu).1) N A w') ?_ ?_ (2 ^ a 0 2 - 1) 1 (0, 0, (((1 : Int32) <<< (nI (a 0 2) &&& 31)) - 1), w) fuelN (by omega) ?_ (fuel_gt (by omega))
    · intro f i s hi hs
      obtain ⟨n, N, A, w⟩ := s
      obtain ⟨hi1, en, ew, ⟨x, hx, eN, bN⟩, ⟨y, hy, eA, bA⟩⟩ := hs
      have tb := trN_b a tu i hi1
      show ∃ s' : Int32 × Int32 × Int32 × (Nat → Int32), _ ∧ f_X10_findSets_b64 (nI (a 0 2)) tu kd md (nI (a 0 3)) (nI (a 0 4)) at' tt (f_X10_findSets_L64 (nI (a 0 2)) tu kd md (nI (a 0 3)) (nI (a 0 4)) at' tt f) (nI i) n N A w = _
      unfold f_X10_findSets_b64 f_X10_findSets_B109
      rw [shlN (by omega), if_neg (nI_ge hi (by omega)), tsC ok ht (by omega), bd1_s, nI_1]
      have ha : nI i &&& nI (a 0 3) = 0 ↔ i &&& a 0 3 = 0 := andI (by omega)
      have same : fitB a tu i = false → trN a tu (i + 1) = trN a tu i := by
        intro h
        rw [trN_s a tu hi1]; unfold trS; rw [h]; rfl
      have stay : fitB a tu i = false → trI a tu (i + 1) n N A w := by
        intro h
        unfold trI
        rw [same h]
        exact ⟨en, ew, ⟨x, hx, eN, bN⟩, ⟨y, hy, eA, bA⟩⟩
      by_cases q : i &&& a 0 3 = 0
      · rw [if_pos (ha.mpr q)]
        by_cases q2 : tsN a i = tu
        · obtain ⟨w', ec, hw'⟩ := countC ok (c := (trN a tu i).2) ew (x := i) (by omega) n N A
          rw [if_pos q2, ec, bd4_s]
          have hf : fitB a tu i = true := by unfold fitB; rw [decide_eq_true q, decide_eq_true q2]; rfl
          have e1 : trN a tu (i + 1) = ((trN a tu i).1 + 1, fun b => (trN a tu i).2 b + i / 2 ^ b % 2) := by
            rw [trN_s a tu hi1]; unfold trS; rw [hf]; rfl
          refine ⟨(n + 1, N ||| nI i, A &&& nI i, w'), ⟨by omega, ?_⟩, rfl⟩
          unfold trI
          rw [e1]
          refine ⟨by show n + 1 = _; rw [en, nI_1], hw', ⟨x ||| i, Nat.or_lt_two_pow hx hi, by show N ||| nI i = _; rw [eN, nI_or], ?_⟩, ⟨y &&& i, Nat.lt_of_le_of_lt Nat.and_le_left hy, by show A &&& nI i = _; rw [eA, nI_and], ?_⟩⟩
          · intro b hb
            rw [bit_or, bN b hb]
            show _ = decide (0 < (trN a tu i).2 b + i / 2 ^ b % 2)
            rw [bit_mod]
            cases bit i b
            · simp
            · simp
          · intro b hb
            rw [bit_and, bA b hb]
            show _ = decide ((trN a tu i).2 b + i / 2 ^ b % 2 = (trN a tu i).1 + 1)
            have h3 := tb.2 b
            rw [bit_mod]
            cases bit i b
            · rw [Bool.and_false]
              symm
              apply decide_eq_false
              simp only [Bool.false_eq_true, if_false]
              omega
            · rw [Bool.and_true]
              simp
        · rw [if_neg q2]
          have hf : fitB a tu i = false := by unfold fitB; rw [decide_eq_false q2, Bool.and_false]
          exact ⟨(n, N, A, w), ⟨by omega, stay hf⟩, rfl⟩
      · rw [if_neg (fun e => q (ha.mp e))]
        have hf : fitB a tu i = false := by unfold fitB; rw [decide_eq_false q, Bool.false_and]
        exact ⟨(n, N, A, w), ⟨by omega, stay hf⟩, rfl⟩
    · intro f s hs
      obtain ⟨n, N, A, w⟩ := s
      obtain ⟨_, hI⟩ := hs
      have en : n = nI (trF a tu).1 := hI.1
      subst en
      refine ⟨N, A, w, ?_, hI⟩
      show f_X10_findSets_b64 (nI (a 0 2)) tu kd md (nI (a 0 3)) (nI (a 0 4)) at' tt (f_X10_findSets_L64 (nI (a 0 2)) tu kd md (nI (a 0 3)) (nI (a 0 4)) at' tt f) (nI (2 ^ a 0 2)) (nI (trF a tu).1) N A w = _
      unfold f_X10_findSets_b64 f_X10_findSets_B115 f_X10_findSets_B131
      rw [shlN (by omega), if_pos (nI_le (Nat.le_refl _) (by omega))]
      by_cases q : nI (trF a tu).1 = 0
      · rw [if_pos q, if_pos q]
      · rw [if_neg q, if_neg q]
    · refine ⟨Nat.le_refl _, rfl, hw, ⟨0, by omega, rfl, fun b _ => by rw [bit_0]; rfl⟩, ⟨2 ^ a 0 2 - 1, by omega, ?_, fun b hb => by rw [bit_full hb]; rfl⟩⟩
      show ((1 : Int32) <<< (nI (a 0 2) &&& 31)) - 1 = _
      rw [shlN (by omega), show (1 : Int32) = nI 1 from rfl, pk_sub hp1]
  unfold f_X10_findSets
  refine loopR (fun f i (s : (Nat → Int32) × (Nat → Int32)) => f_X10_findSets_L27 (nI (a 0 2)) tu kd md (nI (a 0 3)) (nI (a 0 4)) at' 0 0 (((1 : Int32) <<< (nI (a 0 2) &&& 31)) - 1) f (nI i) s.1 s.2) (a 0 2) (fun i s => (∀ b, b < i → s.1 b = turnN a b) ∧ ∀ b, b < i → s.2 b = nI 0) (fun o => ∃ N A tt w, o = some (nI (trF a tu).1, N, (if nI (trF a tu).1 = 0 then 0 else A), tt, w) ∧ trI a tu (2 ^ a 0 2) (nI (trF a tu).1) N A w) ?_ ?_ (a 0 2) 0 (t0, w0) fuelN (by omega) ⟨by intro b hb; omega, by intro b hb; omega⟩ (fuel_gt (by omega))
  · intro f i s hi hs
    refine ⟨(upd s.1 i (turnN a i), upd s.2 i 0), ⟨?_, ?_⟩, ?_⟩
    · intro b hb
      by_cases q : b = i
      · subst q; exact pk_us
      · show upd s.1 i (turnN a i) b = _
        rw [pk_un q]; exact hs.1 b (by omega)
    · intro b hb
      by_cases q : b = i
      · subst q; exact pk_us
      · show upd s.2 i 0 b = _
        rw [pk_un q]; exact hs.2 b (by omega)
    · show f_X10_findSets_b27 _ _ _ _ _ _ _ _ _ _ _ _ _ _ = _
      unfold f_X10_findSets_b27
      rw [if_neg (nI_ge hi (by omega)), turnByC ok rk rmo ra hi, bd1_s, gI (by omega) (by decide), gI (by omega) (by decide), nI_1, nI_clamp (by omega)]
  · intro f s hs
    obtain ⟨N, A, w, e, hI⟩ := step2 s.1 hs.1 s.2 hs.2
    refine ⟨N, A, s.1, w, ?_, hI⟩
    show f_X10_findSets_b27 _ _ _ _ _ _ _ _ _ _ _ _ _ _ = _
    unfold f_X10_findSets_b27 f_X10_findSets_B62
    rw [if_pos (nI_le (Nat.le_refl _) (by omega))]
    exact e
theorem trumM (ok : okA a) (rm : rMo a wh' kd' md' v) (tu s0 : Int32) (g0 : Nat → Int32) : ∃ g, f_X13_trumpets s0 v g0 (nI (a 0 2)) tu kd' md' = some (nI (trF a tu).1, g) ∧ ∀ b, b < a 0 2 → g b = nI ((trF a tu).2 b) := by
  have h1 := ok.1
  have hp := pow32 ok
  have hp1 : 1 ≤ 2 ^ a 0 2 := Nat.one_le_two_pow
  have step2 : ∀ g, (∀ b, b < a 0 2 → g b = nI 0) → ∃ g', f_X13_trumpets_L27 v (nI (a 0 2)) tu kd' md' fuelN 1 0 g = some (nI (trF a tu).1, g') ∧ ∀ b, b < a 0 2 → g' b = nI ((trF a tu).2 b) := by
    intro g hg
    refine loopR (fun f i (s : Int32 × (Nat → Int32)) => f_X13_trumpets_L27 v (nI (a 0 2)) tu kd' md' f (nI i) s.1 s.2) (2 ^ a 0 2) (fun i s => 1 ≤ i ∧ s.1 = nI (trN a tu i).1 ∧ ∀ b, b < a 0 2 → s.2 b = nI ((trN a tu i).2 b)) (fun o => ∃ g', o = some (nI (trF a tu).1, g') ∧ ∀ b, b < a 0 2 → g' b = nI ((trF a tu).2 b)) ?_ ?_ (2 ^ a 0 2 - 1) 1 (0, g) fuelN (by omega) ⟨Nat.le_refl _, rfl, hg⟩ (fuel_gt (by omega))
    · intro f i s hi hs
      obtain ⟨n, w⟩ := s
      obtain ⟨hi1, en, ew⟩ := hs
      show ∃ s' : Int32 × (Nat → Int32), _ ∧ f_X13_trumpets_b27 v (nI (a 0 2)) tu kd' md' (f_X13_trumpets_L27 v (nI (a 0 2)) tu kd' md' f) (nI i) n w = _
      unfold f_X13_trumpets_b27
      rw [shlN (by omega), if_neg (nI_ge hi (by omega))]
      have hts := (loopN (fun f' j s => f_X13_trumpets_L44 (f_X13_trumpets_L27 v (nI (a 0 2)) tu kd' md' f) v (nI (a 0 2)) tu kd' md' (nI i) n w f' s (nI j)) (a 0 2) (tsS a i) (fun _ _ => True) (fun s => f_X13_trumpets_B81 (f_X13_trumpets_L27 v (nI (a 0 2)) tu kd' md' f) v (nI (a 0 2)) tu kd' md' (nI i) s n w) (by
        intro f' j s hj _
        refine ⟨trivial, ?_⟩
        show f_X13_trumpets_b44 _ _ _ _ _ _ _ _ _ _ _ _ = _
        unfold f_X13_trumpets_b44 f_X13_trumpets_B73 tsS
        rw [if_neg (nI_ge hj (by omega)), bitM (by omega) (by omega), bd1_s, turnOfM ok rm hj, bd1_s, nI_1]
        cases bit i j <;> rfl) (by
        intro f' s _
        show f_X13_trumpets_b44 _ _ _ _ _ _ _ _ _ _ _ _ = _
        unfold f_X13_trumpets_b44
        rw [if_pos (nI_le (Nat.le_refl _) (by omega))]) (a 0 2) 0 0 fuelN (by omega) trivial (fuel_gt (by omega))).1
      rw [show f_X13_trumpets_L44 (f_X13_trumpets_L27 v (nI (a 0 2)) tu kd' md' f) v (nI (a 0 2)) tu kd' md' (nI i) n w fuelN 0 0 = _ from hts]
      show ∃ s' : Int32 × (Nat → Int32), _ ∧ f_X13_trumpets_B81 (f_X13_trumpets_L27 v (nI (a 0 2)) tu kd' md' f) v (nI (a 0 2)) tu kd' md' (nI i) (tsN a i) n w = _
      unfold f_X13_trumpets_B81 f_X13_trumpets_B158
      rw [c10, rm.2.2.2.1, nI_1]
      have ha : nI i &&& nI (a 0 3) = 0 ↔ i &&& a 0 3 = 0 := andI (by omega)
      have stay : fitB a tu i = false → 1 ≤ i + 1 ∧ n = nI (trN a tu (i + 1)).1 ∧ ∀ b, b < a 0 2 → w b = nI ((trN a tu (i + 1)).2 b) := by
        intro h
        have : trN a tu (i + 1) = trN a tu i := by rw [trN_s a tu hi1]; unfold trS; rw [h]; rfl
        rw [this]
        exact ⟨by omega, en, ew⟩
      by_cases q : i &&& a 0 3 = 0
      · rw [if_pos (ha.mpr q)]
        by_cases q2 : tsN a i = tu
        · rw [if_pos q2]
          have hf : fitB a tu i = true := by unfold fitB; rw [decide_eq_true q, decide_eq_true q2]; rfl
          have e1 : trN a tu (i + 1) = ((trN a tu i).1 + 1, fun b => (trN a tu i).2 b + i / 2 ^ b % 2) := by
            rw [trN_s a tu hi1]; unfold trS; rw [hf]; rfl
          rw [e1]
          refine loopR (fun f' j s => f_X13_trumpets_L119 (f_X13_trumpets_L27 v (nI (a 0 2)) tu kd' md' f) v (nI (a 0 2)) tu kd' md' (nI i) (n + 1) f' (nI j) s) (a 0 2) (fun j s => (∀ b, b < j → s b = nI ((trN a tu i).2 b + i / 2 ^ b % 2)) ∧ ∀ b, j ≤ b → b < a 0 2 → s b = nI ((trN a tu i).2 b)) (fun o => ∃ s' : Int32 × (Nat → Int32), (1 ≤ i + 1 ∧ s'.1 = nI ((trN a tu i).1 + 1) ∧ ∀ b, b < a 0 2 → s'.2 b = nI ((trN a tu i).2 b + i / 2 ^ b % 2)) ∧ o = f_X13_trumpets_L27 v (nI (a 0 2)) tu kd' md' f (nI (i + 1)) s'.1 s'.2) ?_ ?_ (a 0 2) 0 w fuelN (by omega) ⟨by intro b hb; omega, fun b _ hb => ew b hb⟩ (fuel_gt (by omega))
          · intro f' j s hj hs
            refine ⟨upd s j (nI ((trN a tu i).2 j + i / 2 ^ j % 2)), ⟨?_, ?_⟩, ?_⟩
            · intro b hb
              by_cases q : b = j
              · subst q; exact pk_us
              · rw [pk_un q]; exact hs.1 b (by omega)
            · intro b hb hb2
              rw [pk_un (by omega)]; exact hs.2 b (by omega) hb2
            · show f_X13_trumpets_b119 _ _ _ _ _ _ _ _ _ _ _ = _
              unfold f_X13_trumpets_b119 f_X13_trumpets_B150
              rw [if_neg (nI_ge hj (by omega)), gI (by omega) (by decide), bitM (by omega) (by omega), bd1_s, gI (by omega) (by decide), nI_1, nI_clamp (by omega), hs.2 j (Nat.le_refl _) hj, bit_mod]
              cases bit i j
              · rw [selF]; rfl
              · rw [selT]; rfl
          · intro f' s hs
            refine ⟨(n + 1, s), ⟨by omega, by show n + 1 = _; rw [en, nI_1], hs.1⟩, ?_⟩
            show f_X13_trumpets_b119 _ _ _ _ _ _ _ _ _ _ _ = _
            unfold f_X13_trumpets_b119 f_X13_trumpets_B158
            rw [if_pos (nI_le (Nat.le_refl _) (by omega)), nI_1]
        · rw [if_neg q2]
          have hf : fitB a tu i = false := by unfold fitB; rw [decide_eq_false q2, Bool.and_false]
          exact ⟨(n, w), stay hf, rfl⟩
      · rw [if_neg (fun e => q (ha.mp e))]
        have hf : fitB a tu i = false := by unfold fitB; rw [decide_eq_false q, Bool.false_and]
        exact ⟨(n, w), stay hf, rfl⟩
    · intro f s hs
      obtain ⟨n, w⟩ := s
      obtain ⟨_, en, ew⟩ := hs
      have en : n = nI (trF a tu).1 := en
      subst en
      refine ⟨w, ?_, ew⟩
      show f_X13_trumpets_b27 _ _ _ _ _ _ _ _ _ = _
      unfold f_X13_trumpets_b27
      rw [shlN (by omega), if_pos (nI_le (Nat.le_refl _) (by omega))]
  unfold f_X13_trumpets
  refine loopR (fun f i s => f_X13_trumpets_L7 v (nI (a 0 2)) tu kd' md' 0 f (nI i) s) 5 (fun i s => ∀ b, b < i → s b = nI 0) (fun o => ∃ g, o = some (nI (trF a tu).1, g) ∧ ∀ b, b < a 0 2 → g b = nI ((trF a tu).2 b)) ?_ ?_ 5 0 g0 fuelN (by omega) (by intro b hb; omega) (fuel_gt (by omega))
  · intro f i s hi hs
    refine ⟨upd s i 0, ?_, ?_⟩
    · intro b hb
      by_cases q : b = i
      · subst q; exact pk_us
      · rw [pk_un q]; exact hs b (by omega)
    · show f_X13_trumpets_b7 _ _ _ _ _ _ _ _ _ = _
      unfold f_X13_trumpets_b7
      rw [if_neg (show ¬ (5 : Int32) ≤ nI i from nI_ge (b := 5) hi (by decide)), gI hi (by decide), nI_1, nI_clamp (by omega)]
  · intro f s hs
    obtain ⟨g, e, hg⟩ := step2 s (fun b hb => hs b (by omega))
    refine ⟨g, ?_, hg⟩
    show f_X13_trumpets_b7 _ _ _ _ _ _ _ _ _ = _
    unfold f_X13_trumpets_b7 f_X13_trumpets_B25
    rw [if_pos (by decide)]
    exact e
theorem q_fits (ok : okA a) (rc : rCl a wh kd md st wd) (ra : rI (a 0 2) at' (a 5)) (rm : rMo a wh' kd' md' v) (tu rf th tr wr s1 s2 s3 n0 : Int32) (t0 w0 g0 : Nat → Int32) : ∃ r t x1 x2 x3 x4 x5 y1 y2, f_X11_fits rf (nI (a 0 0)) (nI (a 0 2)) tu kd md (nI (a 0 3)) (nI (a 0 4)) at' s1 s2 s3 t0 w0 = some (r, t, x1, x2, x3, x4, x5) ∧ f_X13_fits th tr wr n0 v g0 (nI (a 0 2)) tu kd' md' = some (r, 0, t, -1, y1, y2) ∧ ¬ t = 4 := by
  have h1 := ok.1
  obtain ⟨N, A, tt, w, e, hI⟩ := findC ok rc.2.1 rc.2.2.1 ra tu s1 s2 s3 t0 w0
  obtain ⟨g, e2, hg⟩ := trumM ok rm tu n0 g0
  refine ⟨nI (trF a tu).1, 0, _, _, _, _, _, _, _, ?_, ?_, by decide⟩
  rotate_left 7
  · unfold f_X11_fits
    rw [(warT (n := a 0 0) (by omega) (by omega)).1, bd1_s, refF, bd2_s, if_pos rfl, e, bd5_s]
  · unfold f_X13_fits
    rw [e2, bd2_s]; rfl
theorem q_could (ok : okA a) (rc : rCl a wh kd md st wd) (ra : rI (a 0 2) at' (a 5)) (rm : rMo a wh' kd' md' v) (tu rf th tr wr s1 s2 s3 n0 : Int32) (t0 w0 g0 : Nat → Int32) : ∃ r t x1 x2 x3 x4 x5 y1 y2, f_X11_could rf (nI (a 0 0)) (nI (a 0 2)) tu kd md (nI (a 0 3)) (nI (a 0 4)) at' s1 s2 s3 t0 w0 = some (r, t, x1, x2, x3, x4, x5) ∧ f_X13_could th tr wr n0 v g0 (nI (a 0 2)) tu kd' md' = some (r, 0, t, -1, y1, y2) ∧ ¬ t = 4 := by
  have h1 := ok.1
  have hp := pow32 ok
  obtain ⟨N, A, tt, w, e, hI⟩ := findC ok rc.2.1 rc.2.2.1 ra tu s1 s2 s3 t0 w0
  obtain ⟨g, e2, hg⟩ := trumM ok rm tu n0 g0
  obtain ⟨-, -, ⟨x, hx, eN, bN⟩, -⟩ := hI
  have tb := trN_b a tu (2 ^ a 0 2) Nat.one_le_two_pow
  refine ⟨N, 0, nI (trF a tu).1, N, _, tt, w, nI (trF a tu).1, g, ?_, ?_, by decide⟩
  rotate_left 1
  · unfold f_X11_could
    rw [(warT (n := a 0 0) (by omega) (by omega)).1, bd1_s, refF, bd2_s, if_pos rfl, e, bd5_s]
  · unfold f_X13_could
    rw [e2, bd2_s]
    have := (loopN (fun f i s => f_X13_could_L26 v (nI (a 0 2)) tu kd' md' 0 tr wr (nI (trF a tu).1) g f (nI s) (nI i)) (a 0 2) (orS (fun b => decide (0 < (trF a tu).2 b))) (fun _ _ => True) (fun s => some (nI s, 0, 0, -1, nI (trF a tu).1, g)) ?_ ?_ (a 0 2) 0 0 fuelN (by omega) trivial (fuel_gt (by omega))).1
    · rw [or_eq hx bN] at this
      rw [eN]
      exact this
    · intro f i s hi _
      refine ⟨trivial, ?_⟩
      have hb := tb.2 i
      have hz : nI ((trF a tu).2 i) ≤ 0 ↔ (trF a tu).2 i ≤ 0 := nI_leI (b := 0) (by show (trN a tu (2 ^ a 0 2)).2 i < _; omega) (by decide)
      show f_X13_could_b26 _ _ _ _ _ _ _ _ _ _ _ _ _ = _
      unfold f_X13_could_b26 f_X13_could_B54 orS
      rw [if_neg (nI_ge hi (by omega)), gI (by omega) (by decide), nI_clamp (by omega), hg i hi, shlN (by omega), nI_or, show (0 : Int32) = nI 0 from rfl, nI_or, nI_1]
      by_cases q : 0 < (trF a tu).2 i
      · rw [if_neg (fun h => by have := hz.mp h; omega), decide_eq_true q]; rfl
      · rw [if_pos (hz.mpr (by omega)), decide_eq_false q]; rfl
    · intro f s _
      show f_X13_could_b26 _ _ _ _ _ _ _ _ _ _ _ _ _ = _
      unfold f_X13_could_b26 f_X13_could_B62 f_X13_good
      rw [if_pos (nI_le (Nat.le_refl _) (by omega)), bd3_s]
theorem q_surely (ok : okA a) (rc : rCl a wh kd md st wd) (ra : rI (a 0 2) at' (a 5)) (rm : rMo a wh' kd' md' v) (tu rf th tr wr s1 s2 s3 n0 : Int32) (t0 w0 g0 : Nat → Int32) : ∃ r t x1 x2 x3 x4 x5 y1 y2, f_X11_surely rf (nI (a 0 0)) (nI (a 0 2)) tu kd md (nI (a 0 3)) (nI (a 0 4)) at' s1 s2 s3 t0 w0 = some (r, t, x1, x2, x3, x4, x5) ∧ f_X13_surely th tr wr n0 v g0 (nI (a 0 2)) tu kd' md' = some (r, 0, t, -1, y1, y2) ∧ ¬ t = 4 := by
  have h1 := ok.1
  have hp := pow32 ok
  obtain ⟨N, A, tt, w, e, hI⟩ := findC ok rc.2.1 rc.2.2.1 ra tu s1 s2 s3 t0 w0
  obtain ⟨g, e2, hg⟩ := trumM ok rm tu n0 g0
  obtain ⟨-, -, -, ⟨x, hx, eA, bA⟩⟩ := hI
  have tb := trN_b a tu (2 ^ a 0 2) Nat.one_le_two_pow
  have hn : nI (trF a tu).1 = 0 ↔ (trF a tu).1 = 0 := nI_eq (b := 0) (by show (trN a tu (2 ^ a 0 2)).1 < _; omega) (by decide)
  refine ⟨(if nI (trF a tu).1 = 0 then 0 else A), 0, nI (trF a tu).1, N, _, tt, w, nI (trF a tu).1, g, ?_, ?_, by decide⟩
  rotate_left 1
  · unfold f_X11_surely
    rw [(warT (n := a 0 0) (by omega) (by omega)).1, bd1_s, refF, bd2_s, if_pos rfl, e, bd5_s]
  · unfold f_X13_surely
    rw [e2, bd2_s]
    have := (loopN (fun f i s => f_X13_surely_L26 v (nI (a 0 2)) tu kd' md' 0 tr wr (nI (trF a tu).1) g f (nI s) (nI i)) (a 0 2) (orS (fun b => decide (0 < (trF a tu).1) && decide ((trF a tu).2 b = (trF a tu).1))) (fun _ _ => True) (fun s => some (nI s, 0, 0, -1, nI (trF a tu).1, g)) ?_ ?_ (a 0 2) 0 0 fuelN (by omega) trivial (fuel_gt (by omega))).1
    · have ex : itN (orS (fun b => decide (0 < (trF a tu).1) && decide ((trF a tu).2 b = (trF a tu).1))) (a 0 2) 0 0 = if (trF a tu).1 = 0 then 0 else x := by
        by_cases q : (trF a tu).1 = 0
        · rw [if_pos q]
          apply or_eq (Nat.two_pow_pos _)
          intro b _
          rw [bit_0, decide_eq_false (show ¬ 0 < (trF a tu).1 by omega), Bool.false_and]
        · rw [if_neg q]
          apply or_eq hx
          intro b hb
          rw [bA b hb, decide_eq_true (show 0 < (trF a tu).1 by omega), Bool.true_and]
      rw [ex] at this
      refine this.trans ?_
      by_cases q : (trF a tu).1 = 0
      · rw [if_pos q, if_pos (hn.mpr q)]; rfl
      · rw [if_neg q, if_neg (fun h => q (hn.mp h)), eA]
    · intro f i s hi _
      refine ⟨trivial, ?_⟩
      have hb := tb.2 i
      have hz : nI (trF a tu).1 ≤ 0 ↔ (trF a tu).1 ≤ 0 := nI_leI (b := 0) (by show (trN a tu (2 ^ a 0 2)).1 < _; omega) (by decide)
      have hc : nI ((trF a tu).2 i) = nI (trF a tu).1 ↔ (trF a tu).2 i = (trF a tu).1 := nI_eq (by show (trN a tu (2 ^ a 0 2)).2 i < _; omega) (by show (trN a tu (2 ^ a 0 2)).1 < _; omega)
      show f_X13_surely_b26 _ _ _ _ _ _ _ _ _ _ _ _ _ = _
      unfold f_X13_surely_b26 f_X13_surely_B64 f_X13_surely_B65 orS
      rw [if_neg (nI_ge hi (by omega)), gI (by omega) (by decide), nI_clamp (by omega), hg i hi, shlN (by omega), nI_or, show (0 : Int32) = nI 0 from rfl, nI_or, nI_1]
      by_cases q : 0 < (trF a tu).1
      · rw [if_neg (fun h => by have := hz.mp h; omega), decide_eq_true q]
        by_cases q2 : (trF a tu).2 i = (trF a tu).1
        · rw [if_pos (hc.mpr q2), decide_eq_true q2]; rfl
        · rw [if_neg (fun h => q2 (hc.mp h)), decide_eq_false q2]; rfl
      · rw [if_pos (hz.mpr (by omega)), decide_eq_false q]; rfl
    · intro f s _
      show f_X13_surely_b26 _ _ _ _ _ _ _ _ _ _ _ _ _ = _
      unfold f_X13_surely_b26 f_X13_surely_B73 f_X13_good
      rw [if_pos (nI_le (Nat.le_refl _) (by omega)), bd3_s]
/-- how many sets are left at most behind an answer -/
def lvN (n c : Nat) : Nat := if c ≤ n - c then n - c else c
def askS (n : Nat) (c : Nat → Nat) (b s : Nat) : Nat := if lvN n (c s) ≤ lvN n (c b) then s else b
theorem lvM {n b : Nat} {c : Nat → Nat} {g : Nat → Int32} (hb : b < 5) (hc : c b ≤ n) (hn : n < 2 ^ 30) (hg : g b = nI (c b)) : f_X13_leaves (nI n) g (nI b) = some (nI (lvN n (c b))) := by
  unfold f_X13_leaves lvN
  rw [gI hb (by decide), gI hb (by decide), gI hb (by decide), gI hb (by decide), nI_clamp (by omega), hg, pk_sub hc]
  by_cases q : c b ≤ n - c b
  · rw [if_pos (nI_le q (by omega)), if_pos q]
  · rw [if_neg (nI_ge (by omega) (by omega)), if_neg q]
theorem lvC {n x : Nat} (hc : x ≤ n) (hn : n < 2 ^ 30) : (if nI x < nI n - nI x then nI n - nI x else nI x) = nI (lvN n x) := by
  unfold lvN
  rw [pk_sub hc]
  rcases Nat.lt_trichotomy x (n - x) with q | q | q
  · rw [if_pos (nI_lt q (by omega)), if_pos (by omega)]
  · rw [if_neg (nI_nlt (by omega) (by omega)), if_pos (by omega), ← q]
  · rw [if_neg (nI_nlt (by omega) (by omega)), if_neg (by omega)]
theorem lv_b {n x : Nat} (hc : x ≤ n) : lvN n x ≤ n := by unfold lvN; split <;> omega
theorem q_ask (ok : okA a) (rc : rCl a wh kd md st wd) (ra : rI (a 0 2) at' (a 5)) (rm : rMo a wh' kd' md' v) (tu rf th tr wr s1 s2 s3 n0 : Int32) (t0 w0 g0 : Nat → Int32) : ∃ r t x1 x2 x3 x4 x5 y1 y2, f_X11_ask rf (nI (a 0 0)) (nI (a 0 2)) tu kd md (nI (a 0 3)) (nI (a 0 4)) at' s1 s2 s3 t0 w0 = some (r, t, x1, x2, x3, x4, x5) ∧ f_X13_ask th tr wr n0 v g0 (nI (a 0 2)) tu kd' md' = some (r, 0, t, -1, y1, y2) ∧ ¬ t = 4 := by
  have h1 := ok.1
  have hp := pow32 ok
  obtain ⟨N, A, tt, w, e, hI⟩ := findC ok rc.2.1 rc.2.2.1 ra tu s1 s2 s3 t0 w0
  obtain ⟨g, e2, hg⟩ := trumM ok rm tu n0 g0
  have hw := hI.2.1
  have tb := trN_b a tu (2 ^ a 0 2) Nat.one_le_two_pow
  have nb : (trF a tu).1 < 32 := by show (trN a tu (2 ^ a 0 2)).1 < 32; omega
  have cb : ∀ b, (trF a tu).2 b ≤ (trF a tu).1 := tb.2
  have hn : nI (trF a tu).1 = 0 ↔ (trF a tu).1 = 0 := nI_eq (b := 0) (by omega) (by decide)
  have hz : nI (trF a tu).1 ≤ 0 ↔ (trF a tu).1 ≤ 0 := nI_leI (b := 0) (by omega) (by decide)
  generalize (if nI (trF a tu).1 = 0 then 0 else A) = AA at e
  generalize (trF a tu).1 = n at *
  generalize hcc : (trF a tu).2 = c at *
  have hw : ∀ b, b < a 0 2 → w b = nI (c b) := fun b hb => by rw [← hcc]; exact hw b hb
  have hasC : f_X11_ask rf (nI (a 0 0)) (nI (a 0 2)) tu kd md (nI (a 0 3)) (nI (a 0 4)) at' s1 s2 s3 t0 w0 = bd1 (f_X10_bestToAsk (nI (a 0 2)) (nI n) w) fun r => some (r, 0, nI n, N, AA, tt, w) := by
    unfold f_X11_ask
    rw [(warT (n := a 0 0) (by omega) (by omega)).1, bd1_s, refF, bd2_s, if_pos rfl, e, bd5_s]
  have hasM : f_X13_ask th tr wr n0 v g0 (nI (a 0 2)) tu kd' md' = _ := by unfold f_X13_ask; rw [e2, bd2_s]
  rw [hasC, hasM]
  by_cases q : n = 0
  · refine ⟨-2, 0, nI n, N, AA, tt, w, nI n, g, ?_, ?_, by decide⟩
    · have : f_X10_bestToAsk (nI (a 0 2)) (nI n) w = some (-2) := by
        unfold f_X10_bestToAsk
        obtain ⟨f, hf⟩ : ∃ f, fuelN = f + 1 := ⟨fuelN - 1, by have := fuelN_ge; omega⟩
        rw [hf]
        show f_X10_bestToAsk_b10 _ _ _ _ _ _ _ = _
        unfold f_X10_bestToAsk_b10
        rw [if_pos (hz.mpr (by omega))]
        by_cases q2 : nI (a 0 2) ≤ 0
        · rw [if_pos q2]
        · rw [if_neg q2]
      rw [this, bd1_s]
    · rw [if_pos (hn.mpr q)]; rfl
  · refine ⟨nI (itN (askS n c) (a 0 2 - 1) 1 0), 0, nI n, N, AA, tt, w, nI n, g, ?_, ?_, by decide⟩
    · have : f_X10_bestToAsk (nI (a 0 2)) (nI n) w = some (nI (itN (askS n c) (a 0 2 - 1) 1 0)) := by
        unfold f_X10_bestToAsk
        obtain ⟨f, hf⟩ : ∃ f, fuelN = f + 1 := ⟨fuelN - 1, by have := fuelN_ge; omega⟩
        have hfg := fuelN_ge
        rw [hf] at hfg ⊢
        have st1 : f_X10_bestToAsk_L10 (nI (a 0 2)) (nI n) w (f + 1) (-2) (nI n) 0 = f_X10_bestToAsk_L10 (nI (a 0 2)) (nI n) w f (nI 0) (nI (lvN n (c 0))) (nI 1) := by
          show f_X10_bestToAsk_b10 _ _ _ _ _ _ _ = _
          unfold f_X10_bestToAsk_b10 f_X10_bestToAsk_B62 f_X10_bestToAsk_B67
          rw [show (0 : Int32) = nI 0 from rfl, if_neg (nI_ge (show 0 < a 0 2 by omega) (by omega)), show nI 0 = (0 : Int32) from rfl, if_neg (fun h => q (by have := hz.mp h; omega)), show (0 : Int32) = nI 0 from rfl, gI (by decide) (by decide), gI (by decide) (by decide), if_pos rfl, nI_clamp (by decide), hw 0 (by omega), lvC (cb 0) (by omega), nI_1]
        rw [st1]
        refine (loopN (fun f i b => f_X10_bestToAsk_L10 (nI (a 0 2)) (nI n) w f (nI b) (nI (lvN n (c b))) (nI i)) (a 0 2) (askS n c) (fun _ b => b < a 0 2) (fun b => some (nI b)) ?_ ?_ (a 0 2 - 1) 1 0 f (by omega) (by omega) (by omega)).1
        · intro f i b hi hb
          refine ⟨by unfold askS; split <;> omega, ?_⟩
          have l1 := lv_b (cb b)
          have l2 := lv_b (cb i)
          have el : nI (lvN n (c b)) ≤ nI (lvN n (c i)) ↔ lvN n (c b) ≤ lvN n (c i) := nI_leI (by omega) (by omega)
          show f_X10_bestToAsk_b10 _ _ _ _ _ _ _ = _
          unfold f_X10_bestToAsk_b10 f_X10_bestToAsk_B62 f_X10_bestToAsk_B67 askS
          rw [if_neg (nI_ge hi (by omega)), if_neg (fun h => q (by have := hz.mp h; omega)), gI (by omega) (by decide), gI (by omega) (by decide), nI_clamp (by omega), hw i hi, lvC (cb i) (by omega), nI_1, if_neg (fun e => absurd (show (-2 : Int32) < 0 by decide) (by rw [← e]; exact nI_pos (by omega)))]
          by_cases q2 : lvN n (c b) ≤ lvN n (c i)
          · rw [if_pos (el.mpr q2), if_pos q2]
          · rw [if_neg (fun h => q2 (el.mp h)), if_neg q2]
        · intro f b _
          show f_X10_bestToAsk_b10 _ _ _ _ _ _ _ = _
          unfold f_X10_bestToAsk_b10
          rw [if_pos (nI_le (Nat.le_refl _) (by omega))]
      rw [this, bd1_s]
    · rw [if_neg (fun h => q (hn.mp h))]
      refine (loopN (fun f i b => f_X13_ask_L40 v (nI (a 0 2)) tu kd' md' 0 tr wr (nI n) g f (nI b) (nI i)) (a 0 2) (askS n c) (fun _ b => b < a 0 2) (fun b => some (nI b, 0, 0, -1, nI n, g)) ?_ ?_ (a 0 2 - 1) 1 0 fuelN (by omega) (by omega) (fuel_gt (by omega))).1
      · intro f i b hi hb
        refine ⟨by unfold askS; split <;> omega, ?_⟩
        have l1 := lv_b (cb b)
        have l2 := lv_b (cb i)
        have el : nI (lvN n (c b)) ≤ nI (lvN n (c i)) ↔ lvN n (c b) ≤ lvN n (c i) := nI_leI (by omega) (by omega)
        show f_X13_ask_b40 _ _ _ _ _ _ _ _ _ _ _ _ _ = _
        unfold f_X13_ask_b40 f_X13_ask_B66 askS
        rw [if_neg (nI_ge hi (by omega)), lvM (by omega) (cb i) (by omega) (hg i hi), bd1_s, lvM (by omega) (cb b) (by omega) (hg b hb), bd1_s, nI_1]
        by_cases q2 : lvN n (c b) ≤ lvN n (c i)
        · rw [if_pos (el.mpr q2), if_pos q2]
        · rw [if_neg (fun h => q2 (el.mp h)), if_neg q2]
      · intro f b _
        show f_X13_ask_b40 _ _ _ _ _ _ _ _ _ _ _ _ _ = _
        unfold f_X13_ask_b40 f_X13_ask_B72 f_X13_good
        rw [if_pos (nI_le (Nat.le_refl _) (by omega)), bd3_s]
end BB
/-! BC: battles -/
def drawN (d : Nat) : Nat := (75 * d + 74) % 65537
def hsN (h : Nat) : Nat → Nat → Bool × Nat
  | 0, d => (true, d)
  | k + 1, d => if drawN d % 100 < h then hsN h k (drawN d) else (false, drawN d)
theorem drawN_lt (d : Nat) : drawN d < 65537 := Nat.mod_lt _ (by decide)
theorem hsN_lt (h : Nat) : ∀ k d, d < 65537 → (hsN h k d).2 < 65537 := by
  intro k
  induction k with
  | zero => intro d hd; exact hd
  | succ k ih =>
    intro d _
    unfold hsN
    split
    · exact ih _ (drawN_lt d)
    · exact drawN_lt d
theorem drawC {d : Nat} (hd : d < 65537) : ((75 * nI d) + 74) - ((75 * nI d) + 74) / 65537 * 65537 = nI (drawN d) := by
  rw [show (75 : Int32) = nI 75 from rfl, show (74 : Int32) = nI 74 from rfl, show (65537 : Int32) = nI 65537 from rfl, pk_mul, nI_add, pk_rem (by omega) (by decide) (by decide)]
  rfl
theorem drawM {d : Nat} (hd : d < 65537) : (((75 * ((nI d).toInt64)) + 74) - ((75 * ((nI d).toInt64)) + 74) / 65537 * 65537).toInt32 = nI (drawN d) := by
  rw [nI_l (by omega), show (75 : Int64) = lN 75 from rfl, show (74 : Int64) = lN 74 from rfl, show (65537 : Int64) = lN 65537 from rfl, lN_mul, lN_add, pk_lRem (by omega) (by decide) (by decide), lN_i]
  rfl
theorem mod100 {x : Nat} (hx : x < 2 ^ 31) : nI x - nI x / 100 * 100 = nI (x % 100) := pk_rem hx (by decide) (by decide)
theorem hsC {dp h : Nat} (hdp : dp < 100) (hh : h ≤ 100) : ∀ k i f d, i + k = dp → k < f → d < 65537 → f_X0_holdsAllSteps_L2 (nI dp) (nI h) f (nI i) (nI d) = some (if (hsN h k d).1 then 1 else 0, nI (hsN h k d).2) := by
  intro k
  induction k with
  | zero =>
    intro i f d hi hf hd
    obtain ⟨f, rfl⟩ : ∃ g, f = g + 1 := ⟨f - 1, by omega⟩
    show f_X0_holdsAllSteps_b2 _ _ _ _ _ = _
    unfold f_X0_holdsAllSteps_b2
    rw [if_pos (nI_le (by omega) (by omega))]
    rfl
  | succ k ih =>
    intro i f d hi hf hd
    obtain ⟨f, rfl⟩ : ∃ g, f = g + 1 := ⟨f - 1, by omega⟩
    have dl := drawN_lt d
    have ml : drawN d % 100 < 100 := Nat.mod_lt _ (by decide)
    show f_X0_holdsAllSteps_b2 _ _ _ _ _ = _
    unfold f_X0_holdsAllSteps_b2 hsN
    rw [if_neg (nI_ge (show i < dp by omega) (by omega)), drawC hd, mod100 (by omega), nI_1]
    by_cases q : drawN d % 100 < h
    · rw [if_pos (nI_lt q (by omega)), if_pos q]
      exact ih (i + 1) f (drawN d) (by omega) (by omega) dl
    · rw [if_neg (nI_nlt (by omega) (by omega)), if_neg q]
      rfl
theorem hsC' {dp h d : Nat} (hdp : dp < 100) (hh : h ≤ 100) (hd : d < 65537) : f_X0_holdsAllSteps (nI dp) (nI d) (nI h) = some (if (hsN h dp d).1 then 1 else 0, nI (hsN h dp d).2) := by
  unfold f_X0_holdsAllSteps
  exact hsC hdp hh dp 0 fuelN d (by omega) (fuel_gt (by omega)) hd
/-- a fight: drawn, harm to the foe, to its own, across, strength left -/
abbrev FS : Type := Nat × Nat × Nat × Nat × (Nat → Nat)
def foA (a : AS) (b x : Nat) : Nat := foeN (a 1 b) (aF a b) (a 4 (a 5 b)) x
def owA (a : AS) (b x : Nat) : Nat := ownN (a 1 b) (aF a b) (a 4 (a 5 b)) x
def chS (a : AS) (b : Nat) (s : FS) : FS := if aD a b then s else if (hsN (aH a b) (a 0 1) s.1).1 then ((hsN (aH a b) (a 0 1) s.1).2, s.2.1 + foA a b (s.2.2.2.2 (a 5 b)), s.2.2.1 + owA a b (s.2.2.2.2 (a 5 b)), s.2.2.2.1 ||| 2 ^ b, if a 4 (a 5 b) = 2 then (fun k => if k = a 5 b then s.2.2.2.2 (a 5 b) - foA a b (s.2.2.2.2 (a 5 b)) else s.2.2.2.2 k) else s.2.2.2.2) else ((hsN (aH a b) (a 0 1) s.1).2, s.2.1, s.2.2.1 + aF a b / 2, s.2.2.2.1, s.2.2.2.2)
def fgI (a : AS) (d : Nat) (i : Nat) : FS := itN (chS a) i 0 (d, 0, 0, 0, a 7)
abbrev fgN (a : AS) (d : Nat) : FS := fgI a d (a 0 2)
theorem fgI_s (a : AS) (d i : Nat) : fgI a d (i + 1) = chS a i (fgI a d i) := by unfold fgI; rw [it_snoc, Nat.zero_add]
theorem foA_le {a : AS} {b x : Nat} (hx : x ≤ 60) : foA a b x ≤ 60 ∧ owA a b x ≤ 60 := by
  have h1 := foeN_le (k := a 1 b) (w := a 4 (a 5 b)) (forceN_le (a 1 b) (a 6 b) (aD a b)) hx
  have h2 := ownN_le (k := a 1 b) (w := a 4 (a 5 b)) (s := x) (forceN_le (a 1 b) (a 6 b) (aD a b))
  unfold foA owA
  exact ⟨h1, by omega⟩
theorem foA_sub {a : AS} {b x : Nat} (h : a 4 (a 5 b) = 2) : foA a b x ≤ x := by
  unfold foA foeN
  rw [h, if_neg (by decide), if_pos rfl]
  split <;> omega
def okF (a : AS) (i : Nat) (s : FS) : Prop := s.1 < 65537 ∧ s.2.1 ≤ 60 * i ∧ s.2.2.1 ≤ 60 * i ∧ s.2.2.2.1 < 2 ^ i ∧ ∀ l, l < a 0 0 → s.2.2.2.2 l ≤ 60
theorem fg_ok {a : AS} (ok : okA a) {d : Nat} (hd : d < 65537) : ∀ i, i ≤ a 0 2 → okF a i (fgI a d i) := by
  intro i
  induction i with
  | zero => intro _; exact ⟨hd, Nat.zero_le _, Nat.zero_le _, by show (0 : Nat) < 2 ^ 0; decide, fun l hl => (ok.2.2 l hl).2⟩
  | succ i ih =>
    intro hi
    obtain ⟨h1, h2, h3, h4, h5⟩ := ih (by omega)
    have hl := (ok.2.1 i (by omega)).2.2.2.2.1
    have h6 := h5 _ hl
    have h7 := foA_le (a := a) (b := i) h6
    have hf := forceN_le (a 1 i) (a 6 i) (aD a i)
    have hp : 2 ^ (i + 1) = 2 ^ i + 2 ^ i := by rw [Nat.pow_succ]; omega
    rw [fgI_s]
    unfold chS
    split
    · exact ⟨h1, by omega, by omega, by omega, h5⟩
    · split
      · refine ⟨hsN_lt _ _ _ h1, ?_, ?_, ?_, ?_⟩
        · show (fgI a d i).2.1 + _ ≤ _; omega
        · show (fgI a d i).2.2.1 + _ ≤ _; omega
        · exact Nat.or_lt_two_pow (by omega) (Nat.pow_lt_pow_right (by decide) (by omega))
        · intro l hl2
          show (if a 4 (a 5 i) = 2 then _ else _ : Nat → Nat) l ≤ 60
          split
          · show (if l = a 5 i then _ else _) ≤ 60
            split
            · omega
            · exact h5 l hl2
          · exact h5 l hl2
      · refine ⟨hsN_lt _ _ _ h1, ?_, ?_, ?_, h5⟩
        · show (fgI a d i).2.1 ≤ _; omega
        · show (fgI a d i).2.2.1 + _ ≤ _; omega
        · show (fgI a d i).2.2.2.1 < _; omega
section BC
variable {a : AS} {wh kd md st wd at' wh' kd' md' v : Nat → Int32}
theorem upd_left {f : Nat → Int32} {g : Nat → Nat} {n l y : Nat} (hf : rI n f g) (hl : l < n) : rI n (upd f l (nI y)) (fun k => if k = l then y else g k) := by
  intro j hj
  show _ = nI (if j = l then y else g j)
  by_cases q : j = l
  · subst q; rw [pk_us, if_pos rfl]
  · rw [pk_un q, if_neg q]; exact hf j hj
theorem chC (ok : okA a) (rc : rCl a wh kd md st wd) (ra : rI (a 0 2) at' (a 5)) {b : Nat} (hb : b < a 0 2) (hd : aD a b = false) {s : FS} (hs : okF a b s) {fl : Nat → Int32} (hfl : rI (a 0 0) fl s.2.2.2.2) : ∃ fl', f_X0_charge (nI (a 0 1)) wh kd md (nI (a 0 3)) (nI (a 0 4)) at' wd (nI s.1) (nI s.2.1) (nI s.2.2.1) (nI s.2.2.2.1) fl (nI b) = some (nI (chS a b s).1, nI (chS a b s).2.1, nI (chS a b s).2.2.1, nI (chS a b s).2.2.2.1, fl') ∧ rI (a 0 0) fl' (chS a b s).2.2.2.2 := by
  have h1 := ok.1
  have h2 := ok.2.1 b hb
  have hl := h2.2.2.2.2.1
  have h3 := ok.2.2 _ hl
  obtain ⟨s1, s2, s3, s4, s5⟩ := hs
  have h6 := s5 _ hl
  have hh := aH_le ok hb
  obtain ⟨r1, rk, rmo, rs, rwd⟩ := rc
  have fo : f_X4_forceOf kd (nI (a 0 3)) wd (nI b) = some (nI (aF a b)) := forceC ok.d (by omega) (rk b hb) h2.1 (rwd b hb) (by omega)
  have fl30 : aF a b ≤ 30 := forceN_le _ _ _
  have ho : f_X4_holdOf kd md (nI (a 0 4)) (nI b) = some (nI (aH a b)) := holdC (by omega) (rk b hb) h2.1 (rmo b hb) (by omega) h1.2.2.2.2.2.2.2.1
  unfold f_X0_charge chS
  rw [fo, bd1_s, ho, bd1_s, hsC' (by omega) hh s1, bd2_s, hd, if_neg (by decide)]
  cases hq : (hsN (aH a b) (a 0 1) s.1).1
  · rw [selF, turnC (by omega), bd1_s, nI_add]
    exact ⟨fl, rfl, hfl⟩
  · rw [selT, if_pos rfl, gI (by omega) (by decide), gI (by omega) (by decide), nI_clamp (show b < 2 ^ 31 by omega), ra b hb, gI (by omega) (by decide), gI (by omega) (by decide), nI_clamp (show a 5 b < 2 ^ 31 by omega), rk b hb, r1 _ hl, hfl _ hl, foeC h2.1 (by omega) h3.1 (by omega), bd1_s, gI (by omega) (by decide), gI (by omega) (by decide), gI (by omega) (by decide), ownC h2.1 (by omega) h3.1 (by omega), bd1_s, gI (by omega) (by decide), gI (by omega) (by decide), gI (by omega) (by decide), nI_add, nI_add, shlN (by omega), nI_or]
    have e2 : nI (a 4 (a 5 b)) = 2 ↔ a 4 (a 5 b) = 2 := nI_eq (b := 2) (by omega) (by decide)
    by_cases q : a 4 (a 5 b) = 2
    · rw [if_pos (e2.mpr q), if_pos q]
      have hs := foA_sub (a := a) (b := b) (x := s.2.2.2.2 (a 5 b)) q
      refine ⟨_, rfl, ?_⟩
      rw [pk_sub (show foeN (a 1 b) (aF a b) (a 4 (a 5 b)) (s.2.2.2.2 (a 5 b)) ≤ s.2.2.2.2 (a 5 b) from hs)]
      exact upd_left hfl hl
    · rw [if_neg (fun h => q (e2.mp h)), if_neg q]
      exact ⟨fl, rfl, hfl⟩
theorem fightC (ok : okA a) (rc : rCl a wh kd md st wd) (ra : rI (a 0 2) at' (a 5)) {d : Nat} (hd : d < 65537) (x1 x2 x3 x4 : Int32) (fl : Nat → Int32) : ∃ fl', f_X0_fightFrom (nI (a 0 1)) (nI (a 0 2)) wh kd md (nI (a 0 3)) (nI (a 0 4)) st at' wd x1 x2 x3 x4 fl (nI d) = some (nI (fgN a d).1, nI (fgN a d).2.1, nI (fgN a d).2.2.1, nI (fgN a d).2.2.2.1, fl') ∧ rI (a 0 0) fl' (fgN a d).2.2.2.2 := by
  have h1 := ok.1
  unfold f_X0_fightFrom
  refine loopR (fun f i (s : Int32 × Int32 × Int32 × Int32 × (Nat → Int32)) => f_X0_fightFrom_L40 (nI (a 0 1)) (nI (a 0 2)) wh kd md (nI (a 0 3)) (nI (a 0 4)) st at' wd f (nI i) s.1 s.2.1 s.2.2.1 s.2.2.2.1 s.2.2.2.2) (a 0 2) (fun i s => s.1 = nI (fgI a d i).1 ∧ s.2.1 = nI (fgI a d i).2.1 ∧ s.2.2.1 = nI (fgI a d i).2.2.1 ∧ s.2.2.2.1 = nI (fgI a d i).2.2.2.1 ∧ rI (a 0 0) s.2.2.2.2 (fgI a d i).2.2.2.2) (fun o => ∃ fl', o = some (nI (fgN a d).1, nI (fgN a d).2.1, nI (fgN a d).2.2.1, nI (fgN a d).2.2.2.1, fl') ∧ rI (a 0 0) fl' (fgN a d).2.2.2.2) ?_ ?_ (a 0 2) 0 (nI d, 0, 0, 0, va_cpy st fl ((0 : Int32).toNatClampNeg) ((0 : Int32).toNatClampNeg) ((6 : Int32).toNatClampNeg)) fuelN (by omega) ?_ (fuel_gt (by omega))
  · intro f i s hi hs
    obtain ⟨y1, y2, y3, y4, y5⟩ := s
    obtain ⟨e1, e2, e3, e4, e5⟩ := hs
    have e1 : y1 = nI (fgI a d i).1 := e1
    have e2 : y2 = nI (fgI a d i).2.1 := e2
    have e3 : y3 = nI (fgI a d i).2.2.1 := e3
    have e4 : y4 = nI (fgI a d i).2.2.2.1 := e4
    have e5 : rI (a 0 0) y5 (fgI a d i).2.2.2.2 := e5
    subst e1; subst e2; subst e3; subst e4
    rw [fgI_s]
    show ∃ s' : Int32 × Int32 × Int32 × Int32 × (Nat → Int32), _ ∧ f_X0_fightFrom_b40 (nI (a 0 1)) (nI (a 0 2)) wh kd md (nI (a 0 3)) (nI (a 0 4)) st at' wd (f_X0_fightFrom_L40 (nI (a 0 1)) (nI (a 0 2)) wh kd md (nI (a 0 3)) (nI (a 0 4)) st at' wd f) (nI i) (nI (fgI a d i).1) (nI (fgI a d i).2.1) (nI (fgI a d i).2.2.1) (nI (fgI a d i).2.2.2.1) y5 = _
    unfold f_X0_fightFrom_b40 f_X0_fightFrom_B67
    rw [if_neg (nI_ge hi (by omega)), isDeadN ok.d (by omega), bd1_s, nI_1]
    show ∃ s' : Int32 × Int32 × Int32 × Int32 × (Nat → Int32), _ ∧ (if (if aD a i = true then (1 : Int32) else 0) = 0 then _ else _) = _
    cases hdd : aD a i
    · rw [selF]
      obtain ⟨fl', ec, hfl'⟩ := chC ok rc ra hi hdd (fg_ok ok hd i (by omega)) e5
      rw [ec, bd5_s]
      exact ⟨(_, _, _, _, fl'), ⟨rfl, rfl, rfl, rfl, hfl'⟩, rfl⟩
    · rw [selT]
      have : chS a i (fgI a d i) = fgI a d i := by unfold chS; rw [hdd]; rfl
      rw [this]
      exact ⟨(_, _, _, _, y5), ⟨rfl, rfl, rfl, rfl, e5⟩, rfl⟩
  · intro f s hs
    obtain ⟨y1, y2, y3, y4, y5⟩ := s
    obtain ⟨e1, e2, e3, e4, e5⟩ := hs
    refine ⟨y5, ?_, e5⟩
    show f_X0_fightFrom_b40 _ _ _ _ _ _ _ _ _ _ _ _ _ _ _ _ _ = _
    unfold f_X0_fightFrom_b40
    rw [if_pos (nI_le (Nat.le_refl _) (by omega))]
    rw [show y1 = nI (fgN a d).1 from e1, show y2 = nI (fgN a d).2.1 from e2, show y3 = nI (fgN a d).2.2.1 from e3, show y4 = nI (fgN a d).2.2.2.1 from e4]
  · refine ⟨rfl, rfl, rfl, rfl, ?_⟩
    intro l hl
    show va_cpy st fl 0 0 6 l = _
    rw [pk_cpy_in (by omega) (by omega), show 0 + (l - 0) = l by omega]
    exact rc.2.2.2.1 l hl
theorem hoM (ok : okA a) (rk : rI (a 0 2) kd' (a 1)) (rmo : rI (a 0 2) md' (a 2)) (hv : v 17 = nI (a 0 4)) {b : Nat} (hb : b < a 0 2) : ∀ k i f row d, i + k = a 0 1 → k < f → row 18 = nI d → d < 65537 → ∃ row', f_X13_holdsOn_L2 v (nI (a 0 1)) kd' md' (nI b) f (nI i) row = some (if (hsN (aH a b) k d).1 then 1 else 0, row') ∧ row' 18 = nI (hsN (aH a b) k d).2 ∧ ∀ j, j ≠ 18 → row' j = row j := by
  have h1 := ok.1
  have h2 := ok.2.1 b hb
  have hh := aH_le ok hb
  intro k
  induction k with
  | zero =>
    intro i f row d hi hf hr hd
    obtain ⟨f, rfl⟩ : ∃ g, f = g + 1 := ⟨f - 1, by omega⟩
    refine ⟨row, ?_, hr, fun _ _ => rfl⟩
    show f_X13_holdsOn_b2 _ _ _ _ _ _ _ _ = _
    unfold f_X13_holdsOn_b2
    rw [if_pos (nI_le (by omega) (by omega))]
    rfl
  | succ k ih =>
    intro i f row d hi hf hr hd
    obtain ⟨f, rfl⟩ : ∃ g, f = g + 1 := ⟨f - 1, by omega⟩
    have dl := drawN_lt d
    have ml : drawN d % 100 < 100 := Nat.mod_lt _ (by decide)
    have er : (upd row 18 (nI (drawN d))) 18 = nI (drawN d) := pk_us
    show ∃ row', f_X13_holdsOn_b2 v (nI (a 0 1)) kd' md' (nI b) (f_X13_holdsOn_L2 v (nI (a 0 1)) kd' md' (nI b) f) (nI i) row = _ ∧ _
    unfold f_X13_holdsOn_b2 hsN
    rw [if_neg (nI_ge (show i < a 0 1 by omega) (by omega)), c18, hr, drawM hd, holdM (by omega) (rk b hb) h2.1 (rmo b hb) (by omega) hv h1.2.2.2.2.2.2.2.1, bd1_s, er, mod100 (by omega), nI_1]
    by_cases q : drawN d % 100 < aH a b
    · rw [if_pos (nI_lt q (by omega)), if_pos q]
      obtain ⟨row', e, e2, e3⟩ := ih (i + 1) f (upd row 18 (nI (drawN d))) (drawN d) (by omega) (by omega) er dl
      exact ⟨row', e, e2, fun j hj => by rw [e3 j hj, pk_un hj]⟩
    · rw [if_neg (nI_nlt (by omega) (by omega)), if_neg q]
      exact ⟨_, rfl, er, fun j hj => pk_un hj⟩
def rWM (a : AS) (row : Nat → Int32) (s : FS) : Prop := row 18 = nI s.1 ∧ (∀ j, j < a 0 2 → row j = nI (a 5 j)) ∧ (∀ l, l < a 0 0 → row (11 + l) = nI (s.2.2.2.2 l))
theorem fightMM (ok : okA a) (rw' : rI (a 0 0) wh' (a 4)) (rk : rI (a 0 2) kd' (a 1)) (rmo : rI (a 0 2) md' (a 2)) (rv : rV a v) {d : Nat} (hd : d < 65537) (x1 x2 x3 : Int32) {row : Nat → Int32} (hr : rWM a row (d, 0, 0, 0, a 7)) : ∃ row', f_X13_fights x1 x2 x3 v (nI (a 0 1)) (nI (a 0 2)) wh' kd' md' row = some (nI (fgN a d).2.1, nI (fgN a d).2.2.1, nI (fgN a d).2.2.2.1, row') ∧ rWM a row' (fgN a d) := by
  have h1 := ok.1
  unfold f_X13_fights
  refine loopR (fun f i (s : Int32 × Int32 × Int32 × (Nat → Int32)) => f_X13_fights_L17 v (nI (a 0 1)) (nI (a 0 2)) wh' kd' md' f (nI i) s.1 s.2.1 s.2.2.1 s.2.2.2) (a 0 2) (fun i s => s.1 = nI (fgI a d i).2.1 ∧ s.2.1 = nI (fgI a d i).2.2.1 ∧ s.2.2.1 = nI (fgI a d i).2.2.2.1 ∧ rWM a s.2.2.2 (fgI a d i)) (fun o => ∃ row', o = some (nI (fgN a d).2.1, nI (fgN a d).2.2.1, nI (fgN a d).2.2.2.1, row') ∧ rWM a row' (fgN a d)) ?_ ?_ (a 0 2) 0 (0, 0, 0, row) fuelN (by omega) ⟨rfl, rfl, rfl, hr⟩ (fuel_gt (by omega))
  · intro f i s hi hs
    obtain ⟨y2, y3, y4, y5⟩ := s
    obtain ⟨e2, e3, e4, hR⟩ := hs
    have e2 : y2 = nI (fgI a d i).2.1 := e2
    have e3 : y3 = nI (fgI a d i).2.2.1 := e3
    have e4 : y4 = nI (fgI a d i).2.2.2.1 := e4
    have hR : rWM a y5 (fgI a d i) := hR
    subst e2; subst e3; subst e4
    have h2 := ok.2.1 i hi
    have hl := h2.2.2.2.2.1
    have h3 := ok.2.2 _ hl
    obtain ⟨s1, s2, s3, s4, s5⟩ := fg_ok ok hd i (by omega)
    have h6 := s5 _ hl
    rw [fgI_s]
    generalize fgI a d i = s at *
    show ∃ s' : Int32 × Int32 × Int32 × (Nat → Int32), _ ∧ f_X13_fights_b17 v (nI (a 0 1)) (nI (a 0 2)) wh' kd' md' (f_X13_fights_L17 v (nI (a 0 1)) (nI (a 0 2)) wh' kd' md' f) (nI i) (nI s.2.1) (nI s.2.2.1) (nI s.2.2.2.1) y5 = _
    unfold f_X13_fights_b17 f_X13_fights_B191 f_X13_fights_B192
    rw [if_neg (nI_ge hi (by omega)), isDeadM rv.1 ok.d (by omega), bd1_s, nI_1]
    show ∃ s' : Int32 × Int32 × Int32 × (Nat → Int32), _ ∧ (if (if aD a i = true then (1 : Int32) else 0) = 0 then _ else _) = _
    unfold chS
    cases hdd : aD a i
    · rw [selF, if_neg (by decide)]
      obtain ⟨row', ec, er, eo⟩ := hoM ok rk rmo rv.2.1 hi (a 0 1) 0 fuelN y5 s.1 (by omega) (fuel_gt (by omega)) hR.1 s1
      have ec' : f_X13_holdsOn v (nI (a 0 1)) kd' md' y5 (nI i) = some (if (hsN (aH a i) (a 0 1) s.1).1 then 1 else 0, row') := ec
      rw [ec', bd2_s]
      have z5 : ∀ j, j < a 0 2 → row' j = nI (a 5 j) := fun j hj => by rw [eo j (by omega)]; exact hR.2.1 j hj
      have z11 : ∀ l, l < a 0 0 → row' (11 + l) = nI (s.2.2.2.2 l) := fun l hl => by rw [eo _ (by omega)]; exact hR.2.2 l hl
      have fo : f_X13_forceOf v kd' (nI i) = some (nI (aF a i)) := forceM rv.1 ok.d (by omega) (rk i hi) h2.1 (rv.2.2.2.2.1 i hi) (by omega)
      have fl30 : aF a i ≤ 30 := forceN_le _ _ _
      cases hq : (hsN (aH a i) (a 0 1) s.1).1
      · rw [selF, fo, bd1_s, half (by omega), nI_add]
        exact ⟨(_, _, _, row'), ⟨rfl, rfl, rfl, er, z5, z11⟩, rfl⟩
      · rw [selT, n0, gI (by omega) (by decide), nI_clamp (show i < 2 ^ 31 by omega), z5 i hi, if_pos rfl]
        have hm0 : f_X13_harmBy v kd' (nI i) (nI (a 4 (a 5 i))) (nI (s.2.2.2.2 (a 5 i))) (0 : Int32) = some (nI (foA a i (s.2.2.2.2 (a 5 i)))) := by
          have := harmM' (s := s.2.2.2.2 (a 5 i)) rv.1 ok.d (by omega) (rk i hi) h2.1 (rv.2.2.2.2.1 i hi) (by omega) h3.1 (by omega) false
          refine (show f_X13_harmBy v kd' (nI i) (nI (a 4 (a 5 i))) (nI (s.2.2.2.2 (a 5 i))) (0 : Int32) = _ from this).trans ?_
          unfold harmN
          rw [show bit (a 0 3) i = false from hdd]
          unfold foA aF aD
          rw [show bit (a 0 3) i = false from hdd]
          rfl
        have hm1 : f_X13_harmBy v kd' (nI i) (nI (a 4 (a 5 i))) (nI (s.2.2.2.2 (a 5 i))) (1 : Int32) = some (nI (owA a i (s.2.2.2.2 (a 5 i)))) := by
          have := harmM' (s := s.2.2.2.2 (a 5 i)) rv.1 ok.d (by omega) (rk i hi) h2.1 (rv.2.2.2.2.1 i hi) (by omega) h3.1 (by omega) true
          refine (show f_X13_harmBy v kd' (nI i) (nI (a 4 (a 5 i))) (nI (s.2.2.2.2 (a 5 i))) (1 : Int32) = _ from this).trans ?_
          unfold harmN
          rw [show bit (a 0 3) i = false from hdd]
          unfold owA aF aD
          rw [show bit (a 0 3) i = false from hdd]
          rfl
        rw [gI (show a 5 i < 6 by omega) (by decide), n11, gI (show 11 + a 5 i < 19 by omega) (by decide), nI_clamp (show a 5 i < 2 ^ 31 by omega), nI_clamp (show 11 + a 5 i < 2 ^ 31 by omega), rw' _ hl, z11 _ hl, hm0, bd1_s, gI (show a 5 i < 6 by omega) (by decide), gI (show 11 + a 5 i < 19 by omega) (by decide), hm1, bd1_s, gI (show a 5 i < 6 by omega) (by decide), gI (show 11 + a 5 i < 19 by omega) (by decide), gI (show 11 + a 5 i < 19 by omega) (by decide), gI (show 11 + a 5 i < 19 by omega) (by decide), gI (show 11 + a 5 i < 19 by omega) (by decide), nI_add, nI_add, shlN (by omega), nI_or]
        have e2 : nI (a 4 (a 5 i)) = 2 ↔ a 4 (a 5 i) = 2 := nI_eq (b := 2) (by omega) (by decide)
        by_cases q : a 4 (a 5 i) = 2
        · rw [if_pos (e2.mpr q), if_pos q]
          have hs := foA_sub (a := a) (b := i) (x := s.2.2.2.2 (a 5 i)) q
          have val : (if nI (s.2.2.2.2 (a 5 i)) ≤ nI (foA a i (s.2.2.2.2 (a 5 i))) then (0 : Int32) else nI (s.2.2.2.2 (a 5 i)) - nI (foA a i (s.2.2.2.2 (a 5 i)))) = nI (s.2.2.2.2 (a 5 i) - foA a i (s.2.2.2.2 (a 5 i))) := by
            by_cases q3 : s.2.2.2.2 (a 5 i) ≤ foA a i (s.2.2.2.2 (a 5 i))
            · rw [if_pos (nI_le q3 (by omega)), Nat.sub_eq_zero_of_le q3]; rfl
            · rw [if_neg (nI_ge (by omega) (by omega)), pk_sub hs]
          refine ⟨(_, _, _, upd row' (11 + a 5 i) (nI (s.2.2.2.2 (a 5 i) - foA a i (s.2.2.2.2 (a 5 i))))), ⟨rfl, rfl, rfl, ?_, ?_, ?_⟩, ?_⟩
          · show upd row' (11 + a 5 i) _ 18 = _
            rw [pk_un (by omega)]; exact er
          · intro j hj
            show upd row' (11 + a 5 i) _ j = _
            rw [pk_un (by omega)]; exact z5 j hj
          · intro l hl2
            show upd row' (11 + a 5 i) _ (11 + l) = nI (if l = a 5 i then _ else _)
            by_cases q4 : l = a 5 i
            · subst q4; rw [pk_us, if_pos rfl]
            · rw [pk_un (by omega), if_neg q4]; exact z11 l hl2
          · rw [← val]
            by_cases q3 : nI (s.2.2.2.2 (a 5 i)) ≤ nI (foA a i (s.2.2.2.2 (a 5 i)))
            · rw [if_pos q3, if_pos q3]
            · rw [if_neg q3, if_neg q3]
        · rw [if_neg (fun h => q (e2.mp h)), if_neg q]
          exact ⟨(_, _, _, row'), ⟨rfl, rfl, rfl, er, z5, z11⟩, rfl⟩
    · rw [selT]
      exact ⟨(_, _, _, y5), ⟨rfl, rfl, rfl, hR⟩, rfl⟩
  · intro f s hs
    obtain ⟨y2, y3, y4, y5⟩ := s
    obtain ⟨e2, e3, e4, hR⟩ := hs
    refine ⟨y5, ?_, hR⟩
    show f_X13_fights_b17 _ _ _ _ _ _ _ _ _ _ _ _ = _
    unfold f_X13_fights_b17
    rw [if_pos (nI_le (Nat.le_refl _) (by omega))]
    rw [show y2 = nI (fgN a d).2.1 from e2, show y3 = nI (fgN a d).2.2.1 from e3, show y4 = nI (fgN a d).2.2.2.1 from e4]
theorem hoMV (ok : okA a) (rk : rI (a 0 2) kd' (a 1)) (rmo : rI (a 0 2) md' (a 2)) {b : Nat} (hb : b < a 0 2) : ∀ k i f row d, i + k = a 0 1 → k < f → row 18 = nI d → row 17 = nI (a 0 4) → d < 65537 → ∃ row', f_X13_holdsOn_v_L2 (nI (a 0 1)) kd' md' (nI b) f (nI i) row = some (if (hsN (aH a b) k d).1 then 1 else 0, row') ∧ row' 18 = nI (hsN (aH a b) k d).2 ∧ ∀ j, j ≠ 18 → row' j = row j := by
  have h1 := ok.1
  have h2 := ok.2.1 b hb
  have hh := aH_le ok hb
  intro k
  induction k with
  | zero =>
    intro i f row d hi hf hr h17 hd
    obtain ⟨f, rfl⟩ : ∃ g, f = g + 1 := ⟨f - 1, by omega⟩
    refine ⟨row, ?_, hr, fun _ _ => rfl⟩
    show f_X13_holdsOn_v_b2 _ _ _ _ _ _ _ = _
    unfold f_X13_holdsOn_v_b2
    rw [if_pos (nI_le (by omega) (by omega))]
    rfl
  | succ k ih =>
    intro i f row d hi hf hr h17 hd
    obtain ⟨f, rfl⟩ : ∃ g, f = g + 1 := ⟨f - 1, by omega⟩
    have dl := drawN_lt d
    have ml : drawN d % 100 < 100 := Nat.mod_lt _ (by decide)
    have er : (upd row 18 (nI (drawN d))) 18 = nI (drawN d) := pk_us
    show ∃ row', f_X13_holdsOn_v_b2 (nI (a 0 1)) kd' md' (nI b) (f_X13_holdsOn_v_L2 (nI (a 0 1)) kd' md' (nI b) f) (nI i) row = _ ∧ _
    unfold f_X13_holdsOn_v_b2 hsN
    rw [if_neg (nI_ge (show i < a 0 1 by omega) (by omega)), c18, hr, drawM hd, holdM (by omega) (rk b hb) h2.1 (rmo b hb) (by omega) (by rw [pk_un (by decide)]; exact h17) h1.2.2.2.2.2.2.2.1, bd1_s, er, mod100 (by omega), nI_1]
    by_cases q : drawN d % 100 < aH a b
    · rw [if_pos (nI_lt q (by omega)), if_pos q]
      obtain ⟨row', e, e2, e3⟩ := ih (i + 1) f (upd row 18 (nI (drawN d))) (drawN d) (by omega) (by omega) er (by rw [pk_un (by decide)]; exact h17) dl
      exact ⟨row', e, e2, fun j hj => by rw [e3 j hj, pk_un hj]⟩
    · rw [if_neg (nI_nlt (by omega) (by omega)), if_neg q]
      exact ⟨_, rfl, er, fun j hj => pk_un hj⟩
def rWMV (a : AS) (row : Nat → Int32) (s : FS) : Prop := row 18 = nI s.1 ∧ (∀ j, j < a 0 2 → row j = nI (a 5 j)) ∧ (∀ l, l < a 0 0 → row (11 + l) = nI (s.2.2.2.2 l)) ∧ row 10 = nI (a 0 3) ∧ row 17 = nI (a 0 4) ∧ ∀ j, j < a 0 2 → row (5 + j) = nI (a 6 j)
theorem fightMMV (ok : okA a) (rw' : rI (a 0 0) wh' (a 4)) (rk : rI (a 0 2) kd' (a 1)) (rmo : rI (a 0 2) md' (a 2)) {d : Nat} (hd : d < 65537) (x1 x2 x3 : Int32) {row : Nat → Int32} (hr : rWMV a row (d, 0, 0, 0, a 7)) : ∃ row', f_X13_fights_v x1 x2 x3 row (nI (a 0 1)) (nI (a 0 2)) wh' kd' md' = some (nI (fgN a d).2.1, nI (fgN a d).2.2.1, nI (fgN a d).2.2.2.1, row') ∧ rWMV a row' (fgN a d) := by
  have h1 := ok.1
  unfold f_X13_fights_v
  refine loopR (fun f i (s : Int32 × Int32 × Int32 × (Nat → Int32)) => f_X13_fights_v_L17 (nI (a 0 1)) (nI (a 0 2)) wh' kd' md' f (nI i) s.1 s.2.1 s.2.2.1 s.2.2.2) (a 0 2) (fun i s => s.1 = nI (fgI a d i).2.1 ∧ s.2.1 = nI (fgI a d i).2.2.1 ∧ s.2.2.1 = nI (fgI a d i).2.2.2.1 ∧ rWMV a s.2.2.2 (fgI a d i)) (fun o => ∃ row', o = some (nI (fgN a d).2.1, nI (fgN a d).2.2.1, nI (fgN a d).2.2.2.1, row') ∧ rWMV a row' (fgN a d)) ?_ ?_ (a 0 2) 0 (0, 0, 0, row) fuelN (by omega) ⟨rfl, rfl, rfl, hr⟩ (fuel_gt (by omega))
  · intro f i s hi hs
    obtain ⟨y2, y3, y4, y5⟩ := s
    obtain ⟨e2, e3, e4, hR⟩ := hs
    have e2 : y2 = nI (fgI a d i).2.1 := e2
    have e3 : y3 = nI (fgI a d i).2.2.1 := e3
    have e4 : y4 = nI (fgI a d i).2.2.2.1 := e4
    have hR : rWMV a y5 (fgI a d i) := hR
    subst e2; subst e3; subst e4
    have h2 := ok.2.1 i hi
    have hl := h2.2.2.2.2.1
    have h3 := ok.2.2 _ hl
    obtain ⟨s1, s2, s3, s4, s5⟩ := fg_ok ok hd i (by omega)
    have h6 := s5 _ hl
    rw [fgI_s]
    generalize fgI a d i = s at *
    show ∃ s' : Int32 × Int32 × Int32 × (Nat → Int32), _ ∧ f_X13_fights_v_b17 (nI (a 0 1)) (nI (a 0 2)) wh' kd' md' (f_X13_fights_v_L17 (nI (a 0 1)) (nI (a 0 2)) wh' kd' md' f) (nI i) (nI s.2.1) (nI s.2.2.1) (nI s.2.2.2.1) y5 = _
    unfold f_X13_fights_v_b17 f_X13_fights_v_B191 f_X13_fights_v_B192
    rw [if_neg (nI_ge hi (by omega)), isDeadM hR.2.2.2.1 ok.d (by omega), bd1_s, nI_1]
    show ∃ s' : Int32 × Int32 × Int32 × (Nat → Int32), _ ∧ (if (if aD a i = true then (1 : Int32) else 0) = 0 then _ else _) = _
    unfold chS
    cases hdd : aD a i
    · rw [selF, if_neg (by decide)]
      obtain ⟨row', ec, er, eo⟩ := hoMV ok rk rmo hi (a 0 1) 0 fuelN y5 s.1 (by omega) (fuel_gt (by omega)) hR.1 hR.2.2.2.2.1 s1
      have ec' : f_X13_holdsOn_v y5 (nI (a 0 1)) kd' md' (nI i) = some (if (hsN (aH a i) (a 0 1) s.1).1 then 1 else 0, row') := ec
      rw [ec', bd2_s]
      have z5 : ∀ j, j < a 0 2 → row' j = nI (a 5 j) := fun j hj => by rw [eo j (by omega)]; exact hR.2.1 j hj
      have z11 : ∀ l, l < a 0 0 → row' (11 + l) = nI (s.2.2.2.2 l) := fun l hl => by rw [eo _ (by omega)]; exact hR.2.2.1 l hl
      have z10 : row' 10 = nI (a 0 3) := by rw [eo 10 (by decide)]; exact hR.2.2.2.1
      have z17 : row' 17 = nI (a 0 4) := by rw [eo 17 (by decide)]; exact hR.2.2.2.2.1
      have zw : ∀ j, j < a 0 2 → row' (5 + j) = nI (a 6 j) := fun j hj => by rw [eo _ (by omega)]; exact hR.2.2.2.2.2 j hj
      have fo : f_X13_forceOf row' kd' (nI i) = some (nI (aF a i)) := forceM z10 ok.d (by omega) (rk i hi) h2.1 (zw i hi) (by omega)
      have fl30 : aF a i ≤ 30 := forceN_le _ _ _
      cases hq : (hsN (aH a i) (a 0 1) s.1).1
      · rw [selF, fo, bd1_s, half (by omega), nI_add]
        exact ⟨(_, _, _, row'), ⟨rfl, rfl, rfl, er, z5, z11, z10, z17, zw⟩, rfl⟩
      · rw [selT, n0, gI (by omega) (by decide), nI_clamp (show i < 2 ^ 31 by omega), z5 i hi, if_pos rfl]
        have hm0 : f_X13_harmBy row' kd' (nI i) (nI (a 4 (a 5 i))) (nI (s.2.2.2.2 (a 5 i))) (0 : Int32) = some (nI (foA a i (s.2.2.2.2 (a 5 i)))) := by
          have := harmM' (s := s.2.2.2.2 (a 5 i)) z10 ok.d (by omega) (rk i hi) h2.1 (zw i hi) (by omega) h3.1 (by omega) false
          refine (show f_X13_harmBy row' kd' (nI i) (nI (a 4 (a 5 i))) (nI (s.2.2.2.2 (a 5 i))) (0 : Int32) = _ from this).trans ?_
          unfold harmN
          rw [show bit (a 0 3) i = false from hdd]
          unfold foA aF aD
          rw [show bit (a 0 3) i = false from hdd]
          rfl
        have hm1 : f_X13_harmBy row' kd' (nI i) (nI (a 4 (a 5 i))) (nI (s.2.2.2.2 (a 5 i))) (1 : Int32) = some (nI (owA a i (s.2.2.2.2 (a 5 i)))) := by
          have := harmM' (s := s.2.2.2.2 (a 5 i)) z10 ok.d (by omega) (rk i hi) h2.1 (zw i hi) (by omega) h3.1 (by omega) true
          refine (show f_X13_harmBy row' kd' (nI i) (nI (a 4 (a 5 i))) (nI (s.2.2.2.2 (a 5 i))) (1 : Int32) = _ from this).trans ?_
          unfold harmN
          rw [show bit (a 0 3) i = false from hdd]
          unfold owA aF aD
          rw [show bit (a 0 3) i = false from hdd]
          rfl
        rw [gI (show a 5 i < 6 by omega) (by decide), n11, gI (show 11 + a 5 i < 19 by omega) (by decide), nI_clamp (show a 5 i < 2 ^ 31 by omega), nI_clamp (show 11 + a 5 i < 2 ^ 31 by omega), rw' _ hl, z11 _ hl, hm0, bd1_s, gI (show a 5 i < 6 by omega) (by decide), gI (show 11 + a 5 i < 19 by omega) (by decide), hm1, bd1_s, gI (show a 5 i < 6 by omega) (by decide), gI (show 11 + a 5 i < 19 by omega) (by decide), gI (show 11 + a 5 i < 19 by omega) (by decide), gI (show 11 + a 5 i < 19 by omega) (by decide), gI (show 11 + a 5 i < 19 by omega) (by decide), nI_add, nI_add, shlN (by omega), nI_or]
        have e2 : nI (a 4 (a 5 i)) = 2 ↔ a 4 (a 5 i) = 2 := nI_eq (b := 2) (by omega) (by decide)
        by_cases q : a 4 (a 5 i) = 2
        · rw [if_pos (e2.mpr q), if_pos q]
          have hs := foA_sub (a := a) (b := i) (x := s.2.2.2.2 (a 5 i)) q
          have val : (if nI (s.2.2.2.2 (a 5 i)) ≤ nI (foA a i (s.2.2.2.2 (a 5 i))) then (0 : Int32) else nI (s.2.2.2.2 (a 5 i)) - nI (foA a i (s.2.2.2.2 (a 5 i)))) = nI (s.2.2.2.2 (a 5 i) - foA a i (s.2.2.2.2 (a 5 i))) := by
            by_cases q3 : s.2.2.2.2 (a 5 i) ≤ foA a i (s.2.2.2.2 (a 5 i))
            · rw [if_pos (nI_le q3 (by omega)), Nat.sub_eq_zero_of_le q3]; rfl
            · rw [if_neg (nI_ge (by omega) (by omega)), pk_sub hs]
          refine ⟨(_, _, _, upd row' (11 + a 5 i) (nI (s.2.2.2.2 (a 5 i) - foA a i (s.2.2.2.2 (a 5 i))))), ⟨rfl, rfl, rfl, ?_, ?_, ?_, ?_, ?_, ?_⟩, ?_⟩
          · show upd row' (11 + a 5 i) _ 18 = _
            rw [pk_un (by omega)]; exact er
          · intro j hj
            show upd row' (11 + a 5 i) _ j = _
            rw [pk_un (by omega)]; exact z5 j hj
          · intro l hl2
            show upd row' (11 + a 5 i) _ (11 + l) = nI (if l = a 5 i then _ else _)
            by_cases q4 : l = a 5 i
            · subst q4; rw [pk_us, if_pos rfl]
            · rw [pk_un (by omega), if_neg q4]; exact z11 l hl2
          · show upd row' (11 + a 5 i) _ 10 = _
            rw [pk_un (by omega)]; exact z10
          · show upd row' (11 + a 5 i) _ 17 = _
            rw [pk_un (by omega)]; exact z17
          · intro j hj
            show upd row' (11 + a 5 i) _ (5 + j) = _
            rw [pk_un (by omega)]; exact zw j hj
          · rw [← val]
            by_cases q3 : nI (s.2.2.2.2 (a 5 i)) ≤ nI (foA a i (s.2.2.2.2 (a 5 i)))
            · rw [if_pos q3, if_pos q3]
            · rw [if_neg q3, if_neg q3]
        · rw [if_neg (fun h => q (e2.mp h)), if_neg q]
          exact ⟨(_, _, _, row'), ⟨rfl, rfl, rfl, er, z5, z11, z10, z17, zw⟩, rfl⟩
    · rw [selT]
      exact ⟨(_, _, _, y5), ⟨rfl, rfl, rfl, hR⟩, rfl⟩
  · intro f s hs
    obtain ⟨y2, y3, y4, y5⟩ := s
    obtain ⟨e2, e3, e4, hR⟩ := hs
    refine ⟨y5, ?_, hR⟩
    show f_X13_fights_v_b17 _ _ _ _ _ _ _ _ _ _ _ = _
    unfold f_X13_fights_v_b17
    rw [if_pos (nI_le (Nat.le_refl _) (by omega))]
    rw [show y2 = nI (fgN a d).2.1 from e2, show y3 = nI (fgN a d).2.2.1 from e3, show y4 = nI (fgN a d).2.2.2.1 from e4]
end BC
/-! BD: many battles -/
theorem bd9_s {α A B C D E F G H I : Type} (x1 : A) (x2 : B) (x3 : C) (x4 : D) (x5 : E) (x6 : F) (x7 : G) (x8 : H) (x9 : I) (k : A → B → C → D → E → F → G → H → I → Option α) : bd9 (some (x1, x2, x3, x4, x5, x6, x7, x8, x9)) k = k x1 x2 x3 x4 x5 x6 x7 x8 x9 := rfl
theorem bd8_s {α A B C D E F G H : Type} (x1 : A) (x2 : B) (x3 : C) (x4 : D) (x5 : E) (x6 : F) (x7 : G) (x8 : H) (k : A → B → C → D → E → F → G → H → Option α) : bd8 (some (x1, x2, x3, x4, x5, x6, x7, x8)) k = k x1 x2 x3 x4 x5 x6 x7 x8 := rfl
theorem bd6_s {α A B C D E F : Type} (x1 : A) (x2 : B) (x3 : C) (x4 : D) (x5 : E) (x6 : F) (k : A → B → C → D → E → F → Option α) : bd6 (some (x1, x2, x3, x4, x5, x6)) k = k x1 x2 x3 x4 x5 x6 := rfl
/-- many battles: drawn, harm to the foe, to its own, won, across -/
abbrev MS : Type := Nat × Nat × Nat × Nat × (Nat → Nat)
def mnyS (a : AS) (_ : Nat) (s : MS) : MS := ((fgN a s.1).1, s.2.1 + (fgN a s.1).2.1, s.2.2.1 + (fgN a s.1).2.2.1, s.2.2.2.1 + (if (fgN a s.1).2.1 ≤ (fgN a s.1).2.2.1 then 0 else 1), fun b => s.2.2.2.2 b + (fgN a s.1).2.2.2.1 / 2 ^ b % 2)
def mnyI (a : AS) (d i : Nat) : MS := itN (mnyS a) i 0 (d, 0, 0, 0, fun _ => 0)
theorem mnyI_s (a : AS) (d i : Nat) : mnyI a d (i + 1) = mnyS a i (mnyI a d i) := by unfold mnyI; rw [it_snoc, Nat.zero_add]
theorem mny_ok {a : AS} (ok : okA a) {d : Nat} (hd : d < 65537) : ∀ i, (mnyI a d i).1 < 65537 := by
  intro i
  induction i with
  | zero => exact hd
  | succ i ih => rw [mnyI_s]; exact (fg_ok ok ih (a 0 2) (Nat.le_refl _)).1
section BD
variable {a : AS} {wh kd md st wd at' wh' kd' md' v : Nat → Int32}
theorem manyC (ok : okA a) (rc : rCl a wh kd md st wd) (ra : rI (a 0 2) at' (a 5)) {d n : Nat} (hd : d < 65537) (hn : n ≤ 90) (x1 x2 x3 x4 x5 x6 x7 : Int32) (fl cr : Nat → Int32) : ∃ z1 z2 z3 z4 zl zc, f_X0_fightMany (nI (a 0 1)) (nI (a 0 2)) wh kd md (nI (a 0 3)) (nI (a 0 4)) st at' wd x1 x2 x3 x4 x5 x6 x7 fl cr (nI d) (nI n) = some (z1, z2, z3, z4, nI (mnyI a d n).2.1, nI (mnyI a d n).2.2.1, nI (mnyI a d n).2.2.2.1, zl, zc) ∧ ∀ b, b < a 0 2 → zc b = nI ((mnyI a d n).2.2.2.2 b) := by
  have h1 := ok.1
  have hp := pow32 ok
  have step2 : ∀ cr : Nat → Int32, (∀ b, b < a 0 2 → cr b = nI 0) → ∃ z1 z2 z3 z4 zl zc, f_X0_fightMany_L48 (nI (a 0 1)) (nI (a 0 2)) wh kd md (nI (a 0 3)) (nI (a 0 4)) st at' wd (nI n) fuelN 0 (nI d) x2 x3 x4 0 0 0 fl cr = some (z1, z2, z3, z4, nI (mnyI a d n).2.1, nI (mnyI a d n).2.2.1, nI (mnyI a d n).2.2.2.1, zl, zc) ∧ ∀ b, b < a 0 2 → zc b = nI ((mnyI a d n).2.2.2.2 b) := by
    intro cr hcr
    refine loopR (fun f i (s : Int32 × Int32 × Int32 × Int32 × Int32 × Int32 × Int32 × (Nat → Int32) × (Nat → Int32)) => f_X0_fightMany_L48 (nI (a 0 1)) (nI (a 0 2)) wh kd md (nI (a 0 3)) (nI (a 0 4)) st at' wd (nI n) f (nI i) s.1 s.2.1 s.2.2.1 s.2.2.2.1 s.2.2.2.2.1 s.2.2.2.2.2.1 s.2.2.2.2.2.2.1 s.2.2.2.2.2.2.2.1 s.2.2.2.2.2.2.2.2) n (fun i s => s.1 = nI (mnyI a d i).1 ∧ s.2.2.2.2.1 = nI (mnyI a d i).2.1 ∧ s.2.2.2.2.2.1 = nI (mnyI a d i).2.2.1 ∧ s.2.2.2.2.2.2.1 = nI (mnyI a d i).2.2.2.1 ∧ ∀ b, b < a 0 2 → s.2.2.2.2.2.2.2.2 b = nI ((mnyI a d i).2.2.2.2 b)) (fun o => ∃ z1 z2 z3 z4 zl zc, o = some (z1, z2, z3, z4, nI (mnyI a d n).2.1, nI (mnyI a d n).2.2.1, nI (mnyI a d n).2.2.2.1, zl, zc) ∧ ∀ b, b < a 0 2 → zc b = nI ((mnyI a d n).2.2.2.2 b)) ?_ ?_ n 0 (nI d, x2, x3, x4, 0, 0, 0, fl, cr) fuelN (by omega) ⟨rfl, rfl, rfl, rfl, hcr⟩ (fuel_gt (by omega))
    · intro f i s hi hs
      obtain ⟨y1, y2, y3, y4, y5, y6, y7, y8, y9⟩ := s
      obtain ⟨e1, e2, e3, e4, e5⟩ := hs
      have e1 : y1 = nI (mnyI a d i).1 := e1
      have e2 : y5 = nI (mnyI a d i).2.1 := e2
      have e3 : y6 = nI (mnyI a d i).2.2.1 := e3
      have e4 : y7 = nI (mnyI a d i).2.2.2.1 := e4
      have e5 : ∀ b, b < a 0 2 → y9 b = nI ((mnyI a d i).2.2.2.2 b) := e5
      subst e1; subst e2; subst e3; subst e4
      have md' := mny_ok ok hd i
      rw [mnyI_s]
      generalize mnyI a d i = m at *
      obtain ⟨fl', ef, -⟩ := fightC ok rc ra md' (nI m.1) y2 y3 y4 y8
      obtain ⟨-, g2, g3, g4, -⟩ := fg_ok ok md' (a 0 2) (Nat.le_refl _)
      show ∃ s' : Int32 × Int32 × Int32 × Int32 × Int32 × Int32 × Int32 × (Nat → Int32) × (Nat → Int32), _ ∧ f_X0_fightMany_b48 (nI (a 0 1)) (nI (a 0 2)) wh kd md (nI (a 0 3)) (nI (a 0 4)) st at' wd (nI n) (f_X0_fightMany_L48 (nI (a 0 1)) (nI (a 0 2)) wh kd md (nI (a 0 3)) (nI (a 0 4)) st at' wd (nI n) f) (nI i) (nI m.1) y2 y3 y4 (nI m.2.1) (nI m.2.2.1) (nI m.2.2.2.1) y8 y9 = _
      unfold f_X0_fightMany_b48
      rw [if_neg (nI_ge hi (by omega)), ef, bd5_s]
      have key : ∀ t : Nat, (t = if (fgN a m.1).2.1 ≤ (fgN a m.1).2.2.1 then 0 else 1) → ∃ s' : Int32 × Int32 × Int32 × Int32 × Int32 × Int32 × Int32 × (Nat → Int32) × (Nat → Int32), (s'.1 = nI (mnyS a i m).1 ∧ s'.2.2.2.2.1 = nI (mnyS a i m).2.1 ∧ s'.2.2.2.2.2.1 = nI (mnyS a i m).2.2.1 ∧ s'.2.2.2.2.2.2.1 = nI (mnyS a i m).2.2.2.1 ∧ ∀ b, b < a 0 2 → s'.2.2.2.2.2.2.2.2 b = nI ((mnyS a i m).2.2.2.2 b)) ∧ f_X0_fightMany_B108 (f_X0_fightMany_L48 (nI (a 0 1)) (nI (a 0 2)) wh kd md (nI (a 0 3)) (nI (a 0 4)) st at' wd (nI n) f) (nI (a 0 1)) (nI (a 0 2)) wh kd md (nI (a 0 3)) (nI (a 0 4)) st at' wd (nI n) (nI i) (nI m.2.2.2.1) (nI t) (nI (fgN a m.1).1) (nI (fgN a m.1).2.1) (nI (fgN a m.1).2.2.1) (nI (fgN a m.1).2.2.2.1) (nI m.2.1 + nI (fgN a m.1).2.1) (nI m.2.2.1 + nI (fgN a m.1).2.2.1) (nI m.2.2.2.1) fl' y9 = f_X0_fightMany_L48 (nI (a 0 1)) (nI (a 0 2)) wh kd md (nI (a 0 3)) (nI (a 0 4)) st at' wd (nI n) f (nI (i + 1)) s'.1 s'.2.1 s'.2.2.1 s'.2.2.2.1 s'.2.2.2.2.1 s'.2.2.2.2.2.1 s'.2.2.2.2.2.2.1 s'.2.2.2.2.2.2.2.1 s'.2.2.2.2.2.2.2.2 := by
        intro t ht
        unfold f_X0_fightMany_B108
        rw [nI_add, nI_add, nI_add]
        refine loopR (fun f' j w => f_X0_fightMany_L115 (f_X0_fightMany_L48 (nI (a 0 1)) (nI (a 0 2)) wh kd md (nI (a 0 3)) (nI (a 0 4)) st at' wd (nI n) f) (nI (a 0 1)) (nI (a 0 2)) wh kd md (nI (a 0 3)) (nI (a 0 4)) st at' wd (nI n) (nI i) (nI (fgN a m.1).1) (nI (fgN a m.1).2.1) (nI (fgN a m.1).2.2.1) (nI (fgN a m.1).2.2.2.1) (nI (m.2.1 + (fgN a m.1).2.1)) (nI (m.2.2.1 + (fgN a m.1).2.2.1)) (nI (m.2.2.2.1 + t)) fl' f' (nI j) w) (a 0 2) (fun j w => (∀ b, b < j → w b = nI (m.2.2.2.2 b + (fgN a m.1).2.2.2.1 / 2 ^ b % 2)) ∧ ∀ b, j ≤ b → b < a 0 2 → w b = nI (m.2.2.2.2 b)) (fun o => ∃ s' : Int32 × Int32 × Int32 × Int32 × Int32 × Int32 × Int32 × (Nat → Int32) × (Nat → Int32), (s'.1 = nI (mnyS a i m).1 ∧ s'.2.2.2.2.1 = nI (mnyS a i m).2.1 ∧ s'.2.2.2.2.2.1 = nI (mnyS a i m).2.2.1 ∧ s'.2.2.2.2.2.2.1 = nI (mnyS a i m).2.2.2.1 ∧ ∀ b, b < a 0 2 → s'.2.2.2.2.2.2.2.2 b = nI ((mnyS a i m).2.2.2.2 b)) ∧ o = f_X0_fightMany_L48 (nI (a 0 1)) (nI (a 0 2)) wh kd md (nI (a 0 3)) (nI (a 0 4)) st at' wd (nI n) f (nI (i + 1)) s'.1 s'.2.1 s'.2.2.1 s'.2.2.2.1 s'.2.2.2.2.1 s'.2.2.2.2.2.1 s'.2.2.2.2.2.2.1 s'.2.2.2.2.2.2.2.1 s'.2.2.2.2.2.2.2.2) ?_ ?_ (a 0 2) 0 y9 fuelN (by omega) ⟨by intro b hb; omega, fun b _ hb => e5 b hb⟩ (fuel_gt (by omega))
        · intro f' j w hj hw
          refine ⟨upd w j (nI (m.2.2.2.2 j + (fgN a m.1).2.2.2.1 / 2 ^ j % 2)), ⟨?_, ?_⟩, ?_⟩
          · intro b hb
            by_cases q : b = j
            · subst q; exact pk_us
            · rw [pk_un q]; exact hw.1 b (by omega)
          · intro b hb hb2
            rw [pk_un (by omega)]; exact hw.2 b (by omega) hb2
          · show f_X0_fightMany_b115 _ _ _ _ _ _ _ _ _ _ _ _ _ _ _ _ _ _ _ _ _ _ _ _ = _
            unfold f_X0_fightMany_b115
            rw [if_neg (nI_ge hj (by omega)), gI (by omega) (by decide), gI (by omega) (by decide), nI_1, nI_clamp (by omega), hw.2 j (Nat.le_refl _) hj, bitN (by omega) (by omega), nI_add]
        · intro f' w hw
          refine ⟨(nI (fgN a m.1).1, nI (fgN a m.1).2.1, nI (fgN a m.1).2.2.1, nI (fgN a m.1).2.2.2.1, nI (m.2.1 + (fgN a m.1).2.1), nI (m.2.2.1 + (fgN a m.1).2.2.1), nI (m.2.2.2.1 + t), fl', w), ⟨rfl, rfl, rfl, by rw [ht]; rfl, hw.1⟩, ?_⟩
          show f_X0_fightMany_b115 _ _ _ _ _ _ _ _ _ _ _ _ _ _ _ _ _ _ _ _ _ _ _ _ = _
          unfold f_X0_fightMany_b115 f_X0_fightMany_B152
          rw [if_pos (nI_le (Nat.le_refl _) (by omega)), nI_1]
      have el : nI (fgN a m.1).2.1 ≤ nI (fgN a m.1).2.2.1 ↔ (fgN a m.1).2.1 ≤ (fgN a m.1).2.2.1 := nI_leI (by omega) (by omega)
      by_cases q : (fgN a m.1).2.1 ≤ (fgN a m.1).2.2.1
      · rw [if_pos (el.mpr q)]
        exact key 0 (by rw [if_pos q])
      · rw [if_neg (fun h => q (el.mp h))]
        exact key 1 (by rw [if_neg q])
    · intro f s hs
      obtain ⟨y1, y2, y3, y4, y5, y6, y7, y8, y9⟩ := s
      obtain ⟨e1, e2, e3, e4, e5⟩ := hs
      refine ⟨y1, y2, y3, y4, y8, y9, ?_, e5⟩
      show f_X0_fightMany_b48 _ _ _ _ _ _ _ _ _ _ _ _ _ _ _ _ _ _ _ _ _ _ = _
      unfold f_X0_fightMany_b48
      rw [if_pos (nI_le (Nat.le_refl _) (by omega))]
      rw [show y5 = nI (mnyI a d n).2.1 from e2, show y6 = nI (mnyI a d n).2.2.1 from e3, show y7 = nI (mnyI a d n).2.2.2.1 from e4]
  unfold f_X0_fightMany
  refine loopR (fun f i s => f_X0_fightMany_L17 (nI (a 0 1)) (nI (a 0 2)) wh kd md (nI (a 0 3)) (nI (a 0 4)) st at' wd (nI d) (nI n) x1 x2 x3 x4 0 0 0 fl f (nI i) s) (a 0 2) (fun i s => ∀ b, b < i → s b = nI 0) (fun o => ∃ z1 z2 z3 z4 zl zc, o = some (z1, z2, z3, z4, nI (mnyI a d n).2.1, nI (mnyI a d n).2.2.1, nI (mnyI a d n).2.2.2.1, zl, zc) ∧ ∀ b, b < a 0 2 → zc b = nI ((mnyI a d n).2.2.2.2 b)) ?_ ?_ (a 0 2) 0 cr fuelN (by omega) (by intro b hb; omega) (fuel_gt (by omega))
  · intro f i s hi hs
    refine ⟨upd s i 0, ?_, ?_⟩
    · intro b hb
      by_cases q : b = i
      · subst q; exact pk_us
      · rw [pk_un q]; exact hs b (by omega)
    · show f_X0_fightMany_b17 _ _ _ _ _ _ _ _ _ _ _ _ _ _ _ _ _ _ _ _ _ _ _ = _
      unfold f_X0_fightMany_b17
      rw [if_neg (nI_ge hi (by omega)), gI (by omega) (by decide), nI_1, nI_clamp (by omega)]
  · intro f s hs
    obtain ⟨z1, z2, z3, z4, zl, zc, e, hz⟩ := step2 s hs
    refine ⟨z1, z2, z3, z4, zl, zc, ?_, hz⟩
    show f_X0_fightMany_b17 _ _ _ _ _ _ _ _ _ _ _ _ _ _ _ _ _ _ _ _ _ _ _ = _
    unfold f_X0_fightMany_b17 f_X0_fightMany_B41
    rw [if_pos (nI_le (Nat.le_refl _) (by omega))]
    exact e
theorem triesM (v x : Nat → Int32) : ∃ g, f_X13_tries v x = some g ∧ ∀ j, j < 19 → g j = v j := by
  unfold f_X13_tries
  refine loopR (fun f i s => f_X13_tries_L2 v f (nI i) s) 19 (fun i s => ∀ b, b < i → s b = v b) (fun o => ∃ g, o = some g ∧ ∀ j, j < 19 → g j = v j) ?_ ?_ 19 0 x fuelN (by omega) (by intro b hb; omega) (fuel_gt (by omega))
  · intro f i s hi hs
    refine ⟨upd s i (v i), ?_, ?_⟩
    · intro b hb
      by_cases q : b = i
      · subst q; exact pk_us
      · rw [pk_un q]; exact hs b (by omega)
    · show f_X13_tries_b2 _ _ _ _ = _
      unfold f_X13_tries_b2
      rw [if_neg (show ¬ (19 : Int32) ≤ nI i from nI_ge (b := 19) hi (by decide)), gI hi (by decide), gI hi (by decide), nI_1, nI_clamp (by omega)]
  · intro f s hs
    refine ⟨s, ?_, hs⟩
    show f_X13_tries_b2 _ _ _ _ = _
    unfold f_X13_tries_b2
    rw [if_pos (by decide)]
theorem manyM (ok : okA a) (rm : rMo a wh' kd' md' v) {d n p : Nat} (hd : d < 65537) (hn : n ≤ 90) (hp : p < a 0 2) (x1 x2 x3 x4 x5 x6 x7 : Int32) (x : Nat → Int32) : ∃ z1 z2 z3 zx, f_X13_fightsAll x1 x2 x3 x4 x5 x6 x7 v x (nI (a 0 1)) (nI (a 0 2)) wh' kd' md' (nI d) (nI n) (nI p) = some (z1, z2, z3, nI (mnyI a d n).2.1, nI (mnyI a d n).2.2.1, nI (mnyI a d n).2.2.2.1, nI ((mnyI a d n).2.2.2.2 p), zx) := by
  have h1 := ok.1
  have h32 := pow32 ok
  obtain ⟨rw', rk, rmo, rv⟩ := rm
  unfold f_X13_fightsAll
  refine loopR (fun f i (s : Int32 × Int32 × Int32 × Int32 × Int32 × Int32 × Int32 × Int32 × (Nat → Int32)) => f_X13_fightsAll_L26 v (nI (a 0 1)) (nI (a 0 2)) wh' kd' md' (nI n) (nI p) f s.1 (nI i) s.2.1 s.2.2.1 s.2.2.2.1 s.2.2.2.2.1 s.2.2.2.2.2.1 s.2.2.2.2.2.2.1 s.2.2.2.2.2.2.2.1 s.2.2.2.2.2.2.2.2) n (fun i s => s.1 = nI (mnyI a d i).1 ∧ s.2.2.2.2.1 = nI (mnyI a d i).2.1 ∧ s.2.2.2.2.2.1 = nI (mnyI a d i).2.2.1 ∧ s.2.2.2.2.2.2.1 = nI (mnyI a d i).2.2.2.1 ∧ s.2.2.2.2.2.2.2.1 = nI ((mnyI a d i).2.2.2.2 p)) (fun o => ∃ z1 z2 z3 zx, o = some (z1, z2, z3, nI (mnyI a d n).2.1, nI (mnyI a d n).2.2.1, nI (mnyI a d n).2.2.2.1, nI ((mnyI a d n).2.2.2.2 p), zx)) ?_ ?_ n 0 (nI d, x1, x2, x3, 0, 0, 0, 0, x) fuelN (by omega) ⟨rfl, rfl, rfl, rfl, rfl⟩ (fuel_gt (by omega))
  · intro f i s hi hs
    obtain ⟨y1, y2, y3, y4, y5, y6, y7, y8, y9⟩ := s
    obtain ⟨e1, e2, e3, e4, e5⟩ := hs
    have e1 : y1 = nI (mnyI a d i).1 := e1
    have e2 : y5 = nI (mnyI a d i).2.1 := e2
    have e3 : y6 = nI (mnyI a d i).2.2.1 := e3
    have e4 : y7 = nI (mnyI a d i).2.2.2.1 := e4
    have e5 : y8 = nI ((mnyI a d i).2.2.2.2 p) := e5
    subst e1; subst e2; subst e3; subst e4; subst e5
    have md' := mny_ok ok hd i
    rw [mnyI_s]
    generalize mnyI a d i = m at *
    obtain ⟨g, eg, hg⟩ := triesM v y9
    obtain ⟨row', ef, er, -⟩ := fightMM ok rw' rk rmo rv md' y2 y3 y4 (row := upd g 18 (nI m.1)) ⟨pk_us, fun j hj => by rw [pk_un (by omega), hg j (by omega)]; exact rv.2.2.2.1 j hj, fun l hl => by rw [pk_un (by omega), hg _ (by omega)]; exact rv.2.2.2.2.2 l hl⟩
    obtain ⟨-, g2, g3, g4, -⟩ := fg_ok ok md' (a 0 2) (Nat.le_refl _)
    show ∃ s' : Int32 × Int32 × Int32 × Int32 × Int32 × Int32 × Int32 × Int32 × (Nat → Int32), _ ∧ f_X13_fightsAll_b26 _ _ _ _ _ _ _ _ _ _ _ _ _ _ _ _ _ _ _ = _
    unfold f_X13_fightsAll_b26
    rw [if_neg (nI_ge hi (by omega)), eg, bd1_s, c18, ef, bd4_s]
    have el : nI (fgN a m.1).2.1 ≤ nI (fgN a m.1).2.2.1 ↔ (fgN a m.1).2.1 ≤ (fgN a m.1).2.2.1 := nI_leI (by omega) (by omega)
    have er : row' 18 = nI (fgN a m.1).1 := er
    unfold f_X13_fightsAll_B109 f_X13_fightsAll_B134
    rw [er, bitM (by omega) (by omega), bd1_s, nI_1, nI_add, nI_add]
    refine ⟨(nI (fgN a m.1).1, nI (fgN a m.1).2.1, nI (fgN a m.1).2.2.1, nI (fgN a m.1).2.2.2.1, nI (m.2.1 + (fgN a m.1).2.1), nI (m.2.2.1 + (fgN a m.1).2.2.1), nI (m.2.2.2.1 + (if (fgN a m.1).2.1 ≤ (fgN a m.1).2.2.1 then 0 else 1)), nI (m.2.2.2.2 p + (fgN a m.1).2.2.2.1 / 2 ^ p % 2), row'), ⟨rfl, rfl, rfl, rfl, rfl⟩, ?_⟩
    rw [bit_mod]
    by_cases q : (fgN a m.1).2.1 ≤ (fgN a m.1).2.2.1
    · rw [if_pos (el.mpr q), if_pos q]
      cases bit (fgN a m.1).2.2.2.1 p
      · rw [selF, show (0 : Int32) = nI 0 from rfl, nI_add, nI_add]; rfl
      · rw [selT, show (0 : Int32) = nI 0 from rfl, show (1 : Int32) = nI 1 from rfl, nI_add, nI_add]; rfl
    · rw [if_neg (fun h => q (el.mp h)), if_neg q]
      cases bit (fgN a m.1).2.2.2.1 p
      · rw [selF, show (0 : Int32) = nI 0 from rfl, show (1 : Int32) = nI 1 from rfl, nI_add, nI_add]; rfl
      · rw [selT, show (1 : Int32) = nI 1 from rfl, nI_add, nI_add]; rfl
  · intro f s hs
    obtain ⟨y1, y2, y3, y4, y5, y6, y7, y8, y9⟩ := s
    obtain ⟨e1, e2, e3, e4, e5⟩ := hs
    refine ⟨y2, y3, y4, y9, ?_⟩
    show f_X13_fightsAll_b26 _ _ _ _ _ _ _ _ _ _ _ _ _ _ _ _ _ _ _ = _
    unfold f_X13_fightsAll_b26
    rw [if_pos (nI_le (Nat.le_refl _) (by omega))]
    rw [show y5 = nI (mnyI a d n).2.1 from e2, show y6 = nI (mnyI a d n).2.2.1 from e3, show y7 = nI (mnyI a d n).2.2.2.1 from e4, show y8 = nI ((mnyI a d n).2.2.2.2 p) from e5]
/-- are battles refused -/
theorem batT (x y : Int32) : (f_X11_battlesTrouble 1 x y = some 2 ∧ f_X13_refusesBattles 1 x y = some 2) ∨ ∃ d n, d < 65537 ∧ n ≤ 90 ∧ x = nI d ∧ y = nI n ∧ f_X11_battlesTrouble 1 x y = some 0 ∧ f_X13_refusesBattles 1 x y = some 0 := by
  unfold f_X11_battlesTrouble f_X13_refusesBattles f_X11_battlesTrouble_B27
  rw [if_neg (by decide), if_neg (by decide)]
  rcases outIn x 0 65536 with ⟨e1, e2, h3, h4⟩ | ⟨e1, e2⟩
  · obtain ⟨d, hd, rfl⟩ := nI_of2 (M := 65536) (n := 65536) rfl h3 h4
    rw [e1, e2, bd1_s, bd1_s, if_pos rfl, if_neg (by decide)]
    rcases outIn y 1 90 with ⟨f1, f2, g3, g4⟩ | ⟨f1, f2⟩
    · have g0 : ¬ y < 0 := fun h => g3 (Int32.lt_trans h (by decide))
      obtain ⟨n, hn, rfl⟩ := nI_of2 (M := 90) (n := 90) rfl g0 g4
      rw [f1, f2, bd1_s, bd1_s]
      exact Or.inr ⟨d, n, by omega, hn, rfl, rfl, rfl, rfl⟩
    · rw [f1, f2, bd1_s, bd1_s]
      exact Or.inl ⟨rfl, rfl⟩
  · rw [e1, e2, bd1_s, bd1_s]
    exact Or.inl ⟨rfl, rfl⟩
theorem q_battles (ok : okA a) (rc : rCl a wh kd md st wd) (ra : rI (a 0 2) at' (a 5)) (rm : rMo a wh' kd' md' v) (p1 p2 : Int32) (own : Bool) (rf x1 x2 x3 x4 x5 x6 x7 : Int32) (fl cr : Nat → Int32) (th tr wr w1 w2 w3 w4 w5 w6 w7 : Int32) (xx : Nat → Int32) : ∃ r t y1 y2 y3 y4 y5 y6 y7 y8 y9 z1 z2 z3 z4 z5 z6 z7 z8, f_X11_battles rf (nI (a 0 0)) (nI (a 0 1)) (nI (a 0 2)) wh kd md (nI (a 0 3)) (nI (a 0 4)) st at' wd x1 x2 x3 x4 x5 x6 x7 fl cr p1 p2 (if own then 1 else 0) = some (r, t, y1, y2, y3, y4, y5, y6, y7, y8, y9) ∧ f_X13_battles th tr wr w1 w2 w3 w4 w5 w6 w7 v xx (nI (a 0 1)) (nI (a 0 2)) wh' kd' md' p1 p2 (if own then 1 else 0) = some (r, 0, t, -1, z1, z2, z3, z4, z5, z6, z7, z8) ∧ ¬ t = 4 := by
  have h1 := ok.1
  unfold f_X11_battles f_X13_battles f_X13_battles_B60
  rw [(warT (n := a 0 0) (by omega) (by omega)).2, bd1_s]
  rcases batT p1 p2 with ⟨e1, e2⟩ | ⟨d, n, hd, hn, rfl, rfl, e1, e2⟩
  · rw [e1, e2, bd1_s, bd1_s]
    exact ⟨-1, 2, _, _, _, _, _, _, _, _, _, _, _, _, _, _, _, _, _, rfl, rfl, by decide⟩
  · obtain ⟨z1, z2, z3, z4, zl, zc, ec, hz⟩ := manyC ok rc ra hd hn x1 x2 x3 x4 x5 x6 x7 fl cr
    obtain ⟨u1, u2, u3, ux, em⟩ := manyM (p := 0) ok rm hd hn (by omega) w1 w2 w3 w4 w5 w6 w7 xx
    rw [e1, e2, bd1_s, bd1_s, refF, bd2_s, if_pos rfl, if_pos (by decide), ec, bd9_s, show (0 : Int32) = nI 0 from rfl, em, bd8_s, show nI 0 = (0 : Int32) from rfl]
    cases own
    · exact ⟨_, 0, _, _, _, _, _, _, _, _, _, _, _, _, _, _, _, _, _, rfl, rfl, by decide⟩
    · exact ⟨_, 0, _, _, _, _, _, _, _, _, _, _, _, _, _, _, _, _, _, rfl, rfl, by decide⟩
theorem q_won (ok : okA a) (rc : rCl a wh kd md st wd) (ra : rI (a 0 2) at' (a 5)) (rm : rMo a wh' kd' md' v) (p1 p2 : Int32) (rf x1 x2 x3 x4 x5 x6 x7 : Int32) (fl cr : Nat → Int32) (th tr wr w1 w2 w3 w4 w5 w6 w7 : Int32) (xx : Nat → Int32) : ∃ r t y1 y2 y3 y4 y5 y6 y7 y8 y9 z1 z2 z3 z4 z5 z6 z7 z8, f_X11_won rf (nI (a 0 0)) (nI (a 0 1)) (nI (a 0 2)) wh kd md (nI (a 0 3)) (nI (a 0 4)) st at' wd x1 x2 x3 x4 x5 x6 x7 fl cr p1 p2 = some (r, t, y1, y2, y3, y4, y5, y6, y7, y8, y9) ∧ f_X13_won th tr wr w1 w2 w3 w4 w5 w6 w7 v xx (nI (a 0 1)) (nI (a 0 2)) wh' kd' md' p1 p2 = some (r, 0, t, -1, z1, z2, z3, z4, z5, z6, z7, z8) ∧ ¬ t = 4 := by
  have h1 := ok.1
  unfold f_X11_won f_X13_won
  rw [(warT (n := a 0 0) (by omega) (by omega)).2, bd1_s]
  rcases batT p1 p2 with ⟨e1, e2⟩ | ⟨d, n, hd, hn, rfl, rfl, e1, e2⟩
  · rw [e1, e2, bd1_s, bd1_s]
    exact ⟨-1, 2, _, _, _, _, _, _, _, _, _, _, _, _, _, _, _, _, _, rfl, rfl, by decide⟩
  · obtain ⟨z1, z2, z3, z4, zl, zc, ec, hz⟩ := manyC ok rc ra hd hn x1 x2 x3 x4 x5 x6 x7 fl cr
    obtain ⟨u1, u2, u3, ux, em⟩ := manyM (p := 0) ok rm hd hn (by omega) w1 w2 w3 w4 w5 w6 w7 xx
    rw [e1, e2, bd1_s, bd1_s, refF, bd2_s, if_pos rfl, if_pos (by decide), ec, bd9_s, show (0 : Int32) = nI 0 from rfl, em, bd8_s, show nI 0 = (0 : Int32) from rfl]
    exact ⟨_, 0, _, _, _, _, _, _, _, _, _, _, _, _, _, _, _, _, _, rfl, rfl, by decide⟩
theorem q_acrossIn (ok : okA a) (rc : rCl a wh kd md st wd) (ra : rI (a 0 2) at' (a 5)) (rm : rMo a wh' kd' md' v) (p1 p2 p3 : Int32) (rf x1 x2 x3 x4 x5 x6 x7 : Int32) (fl cr : Nat → Int32) (th tr wr w1 w2 w3 w4 w5 w6 w7 : Int32) (xx : Nat → Int32) : ∃ r t y1 y2 y3 y4 y5 y6 y7 y8 y9 z1 z2 z3 z4 z5 z6 z7 z8, f_X11_acrossIn rf (nI (a 0 1)) (nI (a 0 2)) wh kd md (nI (a 0 3)) (nI (a 0 4)) st at' wd x1 x2 x3 x4 x5 x6 x7 fl cr p1 p2 p3 = some (r, t, y1, y2, y3, y4, y5, y6, y7, y8, y9) ∧ f_X13_acrossIn th tr wr w1 w2 w3 w4 w5 w6 w7 v xx (nI (a 0 1)) (nI (a 0 2)) wh' kd' md' p1 p2 p3 = some (r, 0, t, -1, z1, z2, z3, z4, z5, z6, z7, z8) ∧ ¬ t = 4 := by
  have h1 := ok.1
  unfold f_X11_acrossIn f_X13_acrossIn
  rcases ix2 p1 (n := a 0 2) (by omega) with h | ⟨j, hj, rfl⟩
  · have := hbN h
    rw [this.1, this.2.2.2.1, bd1_s, bd1_s]
    exact ⟨-1, 1, _, _, _, _, _, _, _, _, _, _, _, _, _, _, _, _, _, rfl, rfl, by decide⟩
  · have hx := hbY (n := a 0 2) (by omega) hj
    rw [hx.1, hx.2.2.2.1, bd1_s, bd1_s]
    rcases batT p2 p3 with ⟨e1, e2⟩ | ⟨d, n, hd, hn, rfl, rfl, e1, e2⟩
    · rw [e1, e2, bd1_s, bd1_s]
      exact ⟨-1, 2, _, _, _, _, _, _, _, _, _, _, _, _, _, _, _, _, _, rfl, rfl, by decide⟩
    · obtain ⟨z1, z2, z3, z4, zl, zc, ec, hz⟩ := manyC ok rc ra hd hn x1 x2 x3 x4 x5 x6 x7 fl cr
      obtain ⟨u1, u2, u3, ux, em⟩ := manyM (p := j) ok rm hd hn hj w1 w2 w3 w4 w5 w6 w7 xx
      rw [e1, e2, bd1_s, bd1_s, refF, bd2_s, if_pos rfl, if_pos (by decide), ec, bd9_s, em, bd8_s, gI (by omega) (by decide), nI_clamp (by omega), hz j hj]
      exact ⟨_, 0, _, _, _, _, _, _, _, _, _, _, _, _, _, _, _, _, _, rfl, rfl, by decide⟩
end BD
