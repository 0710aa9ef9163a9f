/-! B8: worst, toHammer, moodFor, toOpen -/
def mxS (val : Nat → Int) (j : Nat) (s : Int32 × Int) : Int32 × Int := if s.2 < val j then (nI j, val j) else s
def mnS (val : Nat → Int) (j : Nat) (s : Int32 × Int) : Int32 × Int := if val j < s.2 then (nI j, val j) else s
theorem iLB {x y : Int} (hx : -(2 ^ 60) < x ∧ x < 2 ^ 60) (hy : -(2 ^ 60) < y ∧ y < 2 ^ 60) : (iL x ≤ iL y ↔ x ≤ y) ∧ (iL x < iL y ↔ x < y) := ⟨iL_le (by omega) (by omega) (by omega) (by omega), iL_lt (by omega) (by omega) (by omega) (by omega)⟩
section B8
variable {a : AS} {wh kd md st wd at' wh' kd' md' v : Nat → Int32}
def worstN (a : AS) : Int32 := (itN (mxS (fun j => aM a j (a 5 j) true)) (a 0 2) 0 (-2, 0)).1
theorem worstC (ok : okA a) (rc : rCl a wh kd md st wd) (ra : rI (a 0 2) at' (a 5)) : f_X4_beastOfMostOwnHarm (nI (a 0 1)) (nI (a 0 2)) wh kd md (nI (a 0 3)) (nI (a 0 4)) st at' wd = some (worstN a) := by
  have h1 := ok.1
  unfold f_X4_beastOfMostOwnHarm
  have := (loopN (fun f i s => f_X4_beastOfMostOwnHarm_L8 (nI (a 0 1)) (nI (a 0 2)) wh kd md (nI (a 0 3)) (nI (a 0 4)) st at' wd f s.1 (iL s.2) (nI i)) (a 0 2) (mxS (fun j => aM a j (a 5 j) true)) (fun _ s => -(2 ^ 60) < s.2 ∧ s.2 < 2 ^ 60) (fun s => some s.1) ?_ ?_ (a 0 2) 0 (-2, 0) fuelN (by omega) (by decide) (fuel_gt (by omega))).1
  · exact this
  · intro f i s hi hs
    have b := aM_b ok hi (ok.2.1 i hi).2.2.2.2.1 true
    have bb : -(2 ^ 60) < aM a i (a 5 i) true ∧ aM a i (a 5 i) true < 2 ^ 60 := by omega
    refine ⟨by unfold mxS; split; exact bb; exact hs, ?_⟩
    have e : f_X4_meanIn (nI (a 0 1)) wh kd md (nI (a 0 3)) (nI (a 0 4)) st wd (nI i) (nI (a 5 i)) 1 = _ := mIC ok rc hi (ok.2.1 i hi).2.2.2.2.1 true
    show f_X4_beastOfMostOwnHarm_b8 _ _ _ _ _ _ _ _ _ _ _ _ _ _ = _
    unfold f_X4_beastOfMostOwnHarm_b8 f_X4_beastOfMostOwnHarm_B52 mxS
    rw [if_neg (nI_ge hi (by omega)), gI (by omega) (by decide), nI_clamp (by omega), ra i hi, e, bd1_s, nI_1]
    by_cases q : s.2 < aM a i (a 5 i) true
    · rw [if_neg (fun e => by have := (iLB bb hs).1.mp e; omega), if_pos q]
    · rw [if_pos ((iLB bb hs).1.mpr (by omega)), if_neg q]
  · intro f s _
    show f_X4_beastOfMostOwnHarm_b8 _ _ _ _ _ _ _ _ _ _ _ _ _ _ = _
    unfold f_X4_beastOfMostOwnHarm_b8
    rw [if_pos (nI_le (Nat.le_refl _) (by omega))]
theorem worstM (ok : okA a) (rm : rMo a wh' kd' md' v) (th tr wr : Int32) : f_X13_worst th tr wr v (nI (a 0 1)) (nI (a 0 2)) wh' kd' md' = some (worstN a, 0, 0, -1) := by
  have h1 := ok.1
  unfold f_X13_worst
  have := (loopN (fun f i s => f_X13_worst_L26 v (nI (a 0 1)) (nI (a 0 2)) wh' kd' md' 0 tr wr f s.1 (iL s.2) (nI i)) (a 0 2) (mxS (fun j => aM a j (a 5 j) true)) (fun _ s => -(2 ^ 60) < s.2 ∧ s.2 < 2 ^ 60) (fun s => some (s.1, 0, 0, -1)) ?_ ?_ (a 0 2) 0 (-2, 0) fuelN (by omega) (by decide) (fuel_gt (by omega))).1
  · exact this
  · intro f i s hi hs
    have b := aM_b ok hi (ok.2.1 i hi).2.2.2.2.1 true
    have bb : -(2 ^ 60) < aM a i (a 5 i) true ∧ aM a i (a 5 i) true < 2 ^ 60 := by omega
    refine ⟨by unfold mxS; split; exact bb; exact hs, ?_⟩
    have e : f_X13_meanNow v (nI (a 0 1)) wh' kd' md' (nI i) 1 = _ := nowM ok rm hi true
    show f_X13_worst_b26 _ _ _ _ _ _ _ _ _ _ _ _ _ = _
    unfold f_X13_worst_b26 f_X13_worst_B64 mxS
    rw [if_neg (nI_ge hi (by omega)), e, bd1_s, nI_1]
    by_cases q : s.2 < aM a i (a 5 i) true
    · rw [if_pos ((iLB hs bb).2.mpr q), if_pos q, bd1_s]
    · rw [if_neg (fun e => q ((iLB hs bb).2.mp e)), if_neg q]
  · intro f s _
    show f_X13_worst_b26 _ _ _ _ _ _ _ _ _ _ _ _ _ = _
    unfold f_X13_worst_b26 f_X13_worst_B70 f_X13_good
    rw [if_pos (nI_le (Nat.le_refl _) (by omega)), bd3_s]
theorem q_worst (ok : okA a) (rc : rCl a wh kd md st wd) (ra : rI (a 0 2) at' (a 5)) (rm : rMo a wh' kd' md' v) (rf th tr wr : Int32) : ∃ r t, f_X11_worst rf (nI (a 0 0)) (nI (a 0 1)) (nI (a 0 2)) wh kd md (nI (a 0 3)) (nI (a 0 4)) st at' wd = some (r, t) ∧ f_X13_worst th tr wr v (nI (a 0 1)) (nI (a 0 2)) wh' kd' md' = some (r, 0, t, -1) ∧ ¬ t = 4 := by
  have h1 := ok.1
  refine ⟨worstN a, 0, ?_, worstM ok rm th tr wr, by decide⟩
  unfold f_X11_worst
  rw [(warT (n := a 0 0) (by omega) (by omega)).1, bd1_s, refF, bd2_s, if_pos rfl, worstC ok rc ra, bd1_s]
def hammerN (a : AS) : Int32 := (itN (mnS (fun j => aW a j (a 5 j))) (a 0 2) 0 (-2, 0)).1
theorem hammerC (ok : okA a) (rc : rCl a wh kd md st wd) (ra : rI (a 0 2) at' (a 5)) : f_X4_beastBetterDead (nI (a 0 1)) (nI (a 0 2)) wh kd md (nI (a 0 3)) (nI (a 0 4)) st at' wd = some (hammerN a) := by
  have h1 := ok.1
  unfold f_X4_beastBetterDead
  have := (loopN (fun f i s => f_X4_beastBetterDead_L8 (nI (a 0 1)) (nI (a 0 2)) wh kd md (nI (a 0 3)) (nI (a 0 4)) st at' wd f s.1 (iL s.2) (nI i)) (a 0 2) (mnS (fun j => aW a j (a 5 j))) (fun _ s => -(2 ^ 60) < s.2 ∧ s.2 < 2 ^ 60) (fun s => some s.1) ?_ ?_ (a 0 2) 0 (-2, 0) fuelN (by omega) (by decide) (fuel_gt (by omega))).1
  · exact this
  · intro f i s hi hs
    have b := aW_b ok hi (ok.2.1 i hi).2.2.2.2.1
    have bb : -(2 ^ 60) < aW a i (a 5 i) ∧ aW a i (a 5 i) < 2 ^ 60 := by omega
    refine ⟨by unfold mnS; split; exact bb; exact hs, ?_⟩
    show f_X4_beastBetterDead_b8 _ _ _ _ _ _ _ _ _ _ _ _ _ _ = _
    unfold f_X4_beastBetterDead_b8 f_X4_beastBetterDead_B51 mnS
    rw [if_neg (nI_ge hi (by omega)), gI (by omega) (by decide), nI_clamp (by omega), ra i hi, wIC ok rc hi (ok.2.1 i hi).2.2.2.2.1, bd1_s, nI_1]
    by_cases q : aW a i (a 5 i) < s.2
    · rw [if_neg (fun e => by have := (iLB hs bb).1.mp e; omega), if_pos q]
    · rw [if_pos ((iLB hs bb).1.mpr (by omega)), if_neg q]
  · intro f s _
    show f_X4_beastBetterDead_b8 _ _ _ _ _ _ _ _ _ _ _ _ _ _ = _
    unfold f_X4_beastBetterDead_b8
    rw [if_pos (nI_le (Nat.le_refl _) (by omega))]
theorem hammerM (ok : okA a) (rm : rMo a wh' kd' md' v) (th tr wr : Int32) : f_X13_toHammer th tr wr v (nI (a 0 1)) (nI (a 0 2)) wh' kd' md' = some (hammerN a, 0, 0, -1) := by
  have h1 := ok.1
  unfold f_X13_toHammer
  have := (loopN (fun f i s => f_X13_toHammer_L26 v (nI (a 0 1)) (nI (a 0 2)) wh' kd' md' 0 tr wr f s.1 (iL s.2) (nI i)) (a 0 2) (mnS (fun j => aW a j (a 5 j))) (fun _ s => -(2 ^ 60) < s.2 ∧ s.2 < 2 ^ 60) (fun s => some (s.1, 0, 0, -1)) ?_ ?_ (a 0 2) 0 (-2, 0) fuelN (by omega) (by decide) (fuel_gt (by omega))).1
  · exact this
  · intro f i s hi hs
    have hl := (ok.2.1 i hi).2.2.2.2.1
    have b := aW_b ok hi hl
    have bb : -(2 ^ 60) < aW a i (a 5 i) ∧ aW a i (a 5 i) < 2 ^ 60 := by omega
    refine ⟨by unfold mnS; split; exact bb; exact hs, ?_⟩
    show f_X13_toHammer_b26 _ _ _ _ _ _ _ _ _ _ _ _ _ = _
    unfold f_X13_toHammer_b26 f_X13_toHammer_B71 mnS
    rw [if_neg (nI_ge hi (by omega)), n0, gI (by omega) (by decide), nI_clamp (by omega), rm.2.2.2.2.2.2.1 i hi, wIM ok rm hi hl, bd1_s, nI_1]
    by_cases q : aW a i (a 5 i) < s.2
    · rw [if_pos ((iLB bb hs).2.mpr q), if_pos q]
    · rw [if_neg (fun e => q ((iLB bb hs).2.mp e)), if_neg q]
  · intro f s _
    show f_X13_toHammer_b26 _ _ _ _ _ _ _ _ _ _ _ _ _ = _
    unfold f_X13_toHammer_b26 f_X13_toHammer_B77 f_X13_good
    rw [if_pos (nI_le (Nat.le_refl _) (by omega)), bd3_s]
theorem q_toHammer (ok : okA a) (rc : rCl a wh kd md st wd) (ra : rI (a 0 2) at' (a 5)) (rm : rMo a wh' kd' md' v) (rf th tr wr : Int32) : ∃ r t, f_X11_toHammer rf (nI (a 0 0)) (nI (a 0 1)) (nI (a 0 2)) wh kd md (nI (a 0 3)) (nI (a 0 4)) st at' wd = some (r, t) ∧ f_X13_toHammer th tr wr v (nI (a 0 1)) (nI (a 0 2)) wh' kd' md' = some (r, 0, t, -1) ∧ ¬ t = 4 := by
  have h1 := ok.1
  refine ⟨hammerN a, 0, ?_, hammerM ok rm th tr wr, by decide⟩
  unfold f_X11_toHammer
  rw [(warT (n := a 0 0) (by omega) (by omega)).1, bd1_s, refF, bd2_s, if_pos rfl, hammerC ok rc ra, bd1_s]
/-- moodFor: the least mood with a worth above 0 -/
def moodP (a : AS) (j l m : Nat) : Bool := decide (0 < aWB a j (a 4 l) (a 7 l) (holdN (a 1 j) m (a 0 4)))
def moodN (a : AS) (j l : Nat) : Int32 := match findN (moodP a j l) 101 0 with | some m => nI m | none => -2
theorem moodC (ok : okA a) (rc : rCl a wh kd md st wd) {j l : Nat} (hj : j < a 0 2) (hl : l < a 0 0) : f_X4_leastMood (nI (a 0 1)) wh kd (nI (a 0 3)) (nI (a 0 4)) st wd (nI j) (nI l) = some (moodN a j l) := by
  have h1 := ok.1
  have h2 := ok.2.1 j hj
  have h3 := ok.2.2 l hl
  unfold f_X4_leastMood moodN
  have := searchN (fun f i => f_X4_leastMood_L2 (nI (a 0 1)) wh kd (nI (a 0 3)) (nI (a 0 4)) st wd (nI j) (nI l) f (nI i)) 101 (moodP a j l) (fun m => some (nI m)) (some (-2)) ?_ ?_ 101 0 fuelN (by omega) (fuel_gt (by omega))
  · refine this.trans ?_
    cases findN (moodP a j l) 101 0 <;> rfl
  · intro f i hi
    have hh := holdN_le (k := a 1 j) (w := a 0 4) (show i ≤ 100 by omega)
    have b := aWB_b (w := a 4 l) ok hj h3.2 hh
    show f_X4_leastMood_b2 _ _ _ _ _ _ _ _ _ _ _ = _
    unfold f_X4_leastMood_b2 moodP
    rw [if_neg (show ¬ (100 : Int32) < nI i from nI_nlt (b := i) (a := 100) (by omega) (by decide)), gI (by omega) (by decide), nI_clamp (show j < 2 ^ 31 by omega), rc.2.1 j hj, holdByC _ h2.1 i (by omega) _ h1.2.2.2.2.2.2.2.1, bd1_s, gI (by omega) (by decide), gI (by omega) (by decide), nI_clamp (show l < 2 ^ 31 by omega), rc.1 l hl, rc.2.2.2.1 l hl, wBC ok rc.2.1 rc.2.2.2.2 hj h3.1 h3.2 hh, bd1_s, nI_1]
    have e := (iLB (x := aWB a j (a 4 l) (a 7 l) (holdN (a 1 j) i (a 0 4))) (y := 0) (by omega) (by omega)).1
    rw [show iL 0 = 0 from rfl] at e
    by_cases q : 0 < aWB a j (a 4 l) (a 7 l) (holdN (a 1 j) i (a 0 4))
    · rw [if_neg (fun h => by have := e.mp h; omega), decide_eq_true q]; rfl
    · rw [if_pos (e.mpr (by omega)), decide_eq_false q]; rfl
  · intro f
    show f_X4_leastMood_b2 _ _ _ _ _ _ _ _ _ _ _ = _
    unfold f_X4_leastMood_b2
    rw [if_pos (by decide)]
theorem moodM (ok : okA a) (rm : rMo a wh' kd' md' v) {j l : Nat} (hj : j < a 0 2) (hl : l < a 0 0) (tr wr : Int32) : f_X13_moodFor_L29 v (nI (a 0 0)) (nI (a 0 1)) (nI (a 0 2)) wh' kd' (nI j) (nI l) 0 tr wr fuelN 0 = some (moodN a j l, 0, 0, -1) := by
  have h1 := ok.1
  have h2 := ok.2.1 j hj
  have h3 := ok.2.2 l hl
  unfold moodN
  have := searchN (fun f i => f_X13_moodFor_L29 v (nI (a 0 0)) (nI (a 0 1)) (nI (a 0 2)) wh' kd' (nI j) (nI l) 0 tr wr f (nI i)) 101 (moodP a j l) (fun m => some (nI m, 0, 0, -1)) (some (-2, 0, 0, -1)) ?_ ?_ 101 0 fuelN (by omega) (fuel_gt (by omega))
  · refine this.trans ?_
    cases findN (moodP a j l) 101 0 <;> rfl
  · intro f i hi
    have hh := holdN_le (k := a 1 j) (w := a 0 4) (show i ≤ 100 by omega)
    have b := aWB_b (w := a 4 l) ok hj h3.2 hh
    have key : f_X13_moodFor_B57 (f_X13_moodFor_L29 v (nI (a 0 0)) (nI (a 0 1)) (nI (a 0 2)) wh' kd' (nI j) (nI l) 0 tr wr f) v (nI (a 0 0)) (nI (a 0 1)) (nI (a 0 2)) wh' kd' (nI j) (nI l) (nI i) (nI j) (nI l) (nI j) (nI i) (nI (a 0 4)) 0 tr wr = if moodP a j l i then some (nI i, 0, 0, -1) else f_X13_moodFor_L29 v (nI (a 0 0)) (nI (a 0 1)) (nI (a 0 2)) wh' kd' (nI j) (nI l) 0 tr wr f (nI (i + 1)) := by
      unfold f_X13_moodFor_B57 moodP f_X13_good
      rw [holdByM (by omega) (rm.2.1 j hj) h2.1 (by omega) h1.2.2.2.2.2.2.2.1, bd1_s, whM ok rm hj hl hh, bd1_s, nI_1]
      have e := (iLB (x := aWB a j (a 4 l) (a 7 l) (holdN (a 1 j) i (a 0 4))) (y := 0) (by omega) (by omega)).1
      rw [show iL 0 = 0 from rfl] at e
      by_cases q : 0 < aWB a j (a 4 l) (a 7 l) (holdN (a 1 j) i (a 0 4))
      · rw [if_neg (fun h => by have := e.mp h; omega), decide_eq_true q, bd3_s]; rfl
      · rw [if_pos (e.mpr (by omega)), decide_eq_false q]; rfl
    show f_X13_moodFor_b29 _ _ _ _ _ _ _ _ _ _ _ _ _ = _
    unfold f_X13_moodFor_b29
    rw [if_neg (show ¬ (100 : Int32) < nI i from nI_nlt (b := i) (a := 100) (by omega) (by decide)), c17, rm.2.2.2.2.1]
    rcases (show a 0 4 = 0 ∨ a 0 4 = 1 by omega) with hw | hw
    · rw [hw] at key ⊢
      rw [if_neg (by decide)]; exact key
    · rw [hw] at key ⊢
      rw [if_pos (by decide)]; exact key
  · intro f
    show f_X13_moodFor_b29 _ _ _ _ _ _ _ _ _ _ _ _ _ = _
    unfold f_X13_moodFor_b29 f_X13_moodFor_B80 f_X13_good
    rw [if_pos (by decide), bd3_s]
theorem q_moodFor (ok : okA a) (rc : rCl a wh kd md st wd) (rm : rMo a wh' kd' md' v) (p1 p2 rf th tr wr : Int32) : ∃ r t, f_X11_moodFor rf (nI (a 0 0)) (nI (a 0 1)) (nI (a 0 2)) wh kd (nI (a 0 3)) (nI (a 0 4)) st wd p1 p2 = some (r, t) ∧ f_X13_moodFor th tr wr v (nI (a 0 0)) (nI (a 0 1)) (nI (a 0 2)) wh' kd' p1 p2 = some (r, 0, t, -1) ∧ ¬ t = 4 := by
  have h1 := ok.1
  unfold f_X11_moodFor f_X13_moodFor f_X13_moodFor_B21
  rcases meetT (n := a 0 2) (m := a 0 0) (by omega) (by omega) p1 p2 with ⟨e1, e2⟩ | ⟨j, l, hj, hl, rfl, rfl, e1, e2, e3⟩
  · refine ⟨-1, 1, ?_, ?_, by decide⟩
    · rw [e1, bd1_s, ref1, bd2_s]; rfl
    · rcases e2 with e2 | ⟨e2, e3⟩
      · rw [e2, bd1_s]; rfl
      · rw [e2, bd1_s, if_neg (by decide), e3, bd1_s]; rfl
  · refine ⟨moodN a j l, 0, ?_, ?_, by decide⟩
    · rw [e1, bd1_s, refF, bd2_s, if_pos rfl, moodC ok rc hj hl, bd1_s]
    · rw [e2, bd1_s, if_neg (by decide), e3, bd1_s, if_neg (by decide)]; exact moodM ok rm hj hl tr wr
end B8
