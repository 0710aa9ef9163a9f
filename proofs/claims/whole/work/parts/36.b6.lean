/-! B6: calls about one beast and one lane -/
theorem m1L : (-1 : Int32).toInt64 = -1 := by decide
section B6
variable {a : AS} {wh kd md st wd wh' kd' md' v : Nat → Int32}
theorem acC (ok : okA a) (rk : rI (a 0 2) kd (a 1)) (rm : rI (a 0 2) md (a 2)) {j : Nat} (hj : j < a 0 2) : f_X4_acrossOverFull (nI (a 0 1)) kd md (nI (a 0 3)) (nI (a 0 4)) (nI j) = some (iL (getsN (a 0 1) (aH a j) (aD a j))) := by
  have h1 := ok.1
  have h2 := ok.2.1 j hj
  exact acrossC (by omega) ok.d (by omega) (rk j hj) h2.1 (rm j hj) (by omega) h1.2.2.2.2.2.2.2.1
theorem acM (ok : okA a) (rm : rMo a wh' kd' md' v) {j : Nat} (hj : j < a 0 2) : f_X13_holds v (nI (a 0 1)) kd' md' (nI j) = some (iL (getsN (a 0 1) (aH a j) (aD a j))) := by
  obtain ⟨r1, r2, r3, rv⟩ := rm
  have h1 := ok.1
  have h2 := ok.2.1 j hj
  exact holdsM (by omega) rv.1 ok.d (by omega) (r2 j hj) h2.1 (r3 j hj) (by omega) rv.2.1 h1.2.2.2.2.2.2.2.1
theorem gets_b (ok : okA a) {j : Nat} (hj : j < a 0 2) : getsN (a 0 1) (aH a j) (aD a j) < 2 ^ 40 := by
  have := pow_b (aH_le ok hj) ok.1.2.2.2.1
  unfold getsN
  split <;> omega
theorem q_across (ok : okA a) (rc : rCl a wh kd md st wd) (rm : rMo a wh' kd' md' v) (p1 : Int32) (lo : Bool) (rf th tr wr : Int32) : ∃ r t, f_X11_across rf (nI (a 0 1)) (nI (a 0 2)) kd md (nI (a 0 3)) (nI (a 0 4)) p1 (if lo then 1 else 0) = some (r, t) ∧ f_X13_across th tr wr v (nI (a 0 1)) (nI (a 0 2)) kd' md' p1 (if lo then 1 else 0) = some (r, 0, t, -1) ∧ ¬ t = 4 := by
  have h1 := ok.1
  unfold f_X11_across f_X13_across
  rcases beastT (n := a 0 2) (by omega) p1 with ⟨-, e1, e2⟩ | ⟨j, hj, rfl, e1, e2⟩
  · refine ⟨-1, 1, ?_, ?_, by decide⟩
    · rw [e1, bd1_s, ref1, bd2_s]; rfl
    · rw [e2, bd1_s]; rfl
  · have gb := gets_b ok hj
    refine ⟨toldZ (a 0 1) (getsN (a 0 1) (aH a j) (aD a j)) lo, 0, ?_, ?_, by decide⟩
    · rw [e1, bd1_s, refF, bd2_s, if_pos rfl, acC ok rc.2.1 rc.2.2.1 hj, bd1_s, toldC h1.2.2.2.1 (by omega) (by omega), bd1_s]
    · rw [e2, bd1_s, if_neg (by decide), acM ok rm hj, bd1_s, wholeM (by omega), bd1_s, fracM h1.2.2.2.1 (by omega) (by omega), bd3_s]
theorem hIC (ok : okA a) (rc : rCl a wh kd md st wd) {j l : Nat} (hj : j < a 0 2) (hl : l < a 0 0) (own : Bool) : f_X4_harmIn wh kd (nI (a 0 3)) st wd (nI j) (nI l) (if own then 1 else 0) = some (nI (aHa a j l own)) := by
  obtain ⟨r1, r2, r3, r4, r5⟩ := rc
  have h1 := ok.1
  have h2 := ok.2.1 j hj
  have h3 := ok.2.2 l hl
  exact harmC ok.d (by omega) (by omega) (r2 j hj) h2.1 (r5 j hj) (by omega) (r1 l hl) h3.1 (r4 l hl) (by omega) own
theorem q_meets (ok : okA a) (rc : rCl a wh kd md st wd) (rm : rMo a wh' kd' md' v) (p1 p2 : Int32) (own : Bool) (rf th tr wr : Int32) : ∃ r t, f_X11_meets rf (nI (a 0 0)) (nI (a 0 2)) wh kd (nI (a 0 3)) st wd p1 p2 (if own then 1 else 0) = some (r, t) ∧ f_X13_meets th tr wr v (nI (a 0 0)) (nI (a 0 2)) wh' kd' p1 p2 (if own then 1 else 0) = some (r, 0, t, -1) ∧ ¬ t = 4 := by
  have h1 := ok.1
  unfold f_X11_meets f_X13_meets f_X13_meets_B35
  rcases meetT (n := a 0 2) (m := a 0 0) (by omega) (by omega) p1 p2 with ⟨e1, e2⟩ | ⟨j, l, hj, hl, rfl, rfl, e1, e2, e3⟩
  · refine ⟨-1, 1, ?_, ?_, by decide⟩
    · rw [e1, bd1_s, ref1, bd2_s]; rfl
    · rcases e2 with e2 | ⟨e2, e3⟩
      · rw [e2, bd1_s]; rfl
      · rw [e2, bd1_s, if_neg (by decide), e3, bd1_s]; rfl
  · refine ⟨nI (aHa a j l own), 0, ?_, ?_, by decide⟩
    · rw [e1, bd1_s, refF, bd2_s, if_pos rfl, hIC ok rc hj hl own, bd1_s]
    · rw [e2, bd1_s, if_neg (by decide), e3, bd1_s, if_neg (by decide), hIM ok rm hj hl own, bd1_s]; rfl
theorem q_mean (ok : okA a) (rc : rCl a wh kd md st wd) (rm : rMo a wh' kd' md' v) (p1 p2 : Int32) (own lo : Bool) (rf th tr wr : Int32) : ∃ r t, f_X11_mean rf (nI (a 0 0)) (nI (a 0 1)) (nI (a 0 2)) wh kd md (nI (a 0 3)) (nI (a 0 4)) st wd p1 p2 (if own then 1 else 0) (if lo then 1 else 0) = some (r, t) ∧ f_X13_mean th tr wr v (nI (a 0 0)) (nI (a 0 1)) (nI (a 0 2)) wh' kd' md' p1 p2 (if own then 1 else 0) (if lo then 1 else 0) = some (r, 0, t, -1) ∧ ¬ t = 4 := by
  have h1 := ok.1
  unfold f_X11_mean f_X13_mean f_X13_mean_B47
  rcases meetT (n := a 0 2) (m := a 0 0) (by omega) (by omega) p1 p2 with ⟨e1, e2⟩ | ⟨j, l, hj, hl, rfl, rfl, e1, e2, e3⟩
  · refine ⟨-1, 1, ?_, ?_, by decide⟩
    · rw [e1, bd1_s, ref1, bd2_s]; rfl
    · rcases e2 with e2 | ⟨e2, e3⟩
      · rw [e2, bd1_s]; rfl
      · rw [e2, bd1_s, if_neg (by decide), e3, bd1_s]; rfl
  · have b := aM_b ok hj hl own
    refine ⟨toldZ (a 0 1) (aM a j l own) lo, 0, ?_, ?_, by decide⟩
    · rw [e1, bd1_s, refF, bd2_s, if_pos rfl, mIC ok rc hj hl own, bd1_s, toldC h1.2.2.2.1 (by omega) (by omega), bd1_s]
    · rw [e2, bd1_s, if_neg (by decide), e3, bd1_s, if_neg (by decide), hIM ok rm hj hl own, bd1_s, mBM ok rm hj hl own, bd1_s, wholeM (by omega), bd1_s, fracM h1.2.2.2.1 (by omega) (by omega), bd3_s]
theorem q_worth (ok : okA a) (rc : rCl a wh kd md st wd) (rm : rMo a wh' kd' md' v) (p1 p2 : Int32) (lo : Bool) (rf th tr wr : Int32) : ∃ r t, f_X11_worth rf (nI (a 0 0)) (nI (a 0 1)) (nI (a 0 2)) wh kd md (nI (a 0 3)) (nI (a 0 4)) st wd p1 p2 (if lo then 1 else 0) = some (r, t) ∧ f_X13_worth th tr wr v (nI (a 0 0)) (nI (a 0 1)) (nI (a 0 2)) wh' kd' md' p1 p2 (if lo then 1 else 0) = some (r, 0, t, -1) ∧ ¬ t = 4 := by
  have h1 := ok.1
  unfold f_X11_worth f_X13_worth f_X13_worth_B39
  rcases meetT (n := a 0 2) (m := a 0 0) (by omega) (by omega) p1 p2 with ⟨e1, e2⟩ | ⟨j, l, hj, hl, rfl, rfl, e1, e2, e3⟩
  · refine ⟨-9223372036854775808, 1, ?_, ?_, by decide⟩
    · rw [e1, bd1_s, ref1, bd2_s]; rfl
    · rcases e2 with e2 | ⟨e2, e3⟩
      · rw [e2, bd1_s]; rfl
      · rw [e2, bd1_s, if_neg (by decide), e3, bd1_s]; rfl
  · have b := aW_b ok hj hl
    refine ⟨toldZ (a 0 1) (aW a j l) lo, 0, ?_, ?_, by decide⟩
    · rw [e1, bd1_s, refF, bd2_s, if_pos rfl, wIC ok rc hj hl, bd1_s, toldC h1.2.2.2.1 (by omega) (by omega), bd1_s]
    · rw [e2, bd1_s, if_neg (by decide), e3, bd1_s, if_neg (by decide), wIM ok rm hj hl, bd1_s, wholeM (by omega), bd1_s, fracM h1.2.2.2.1 (by omega) (by omega), bd3_s]
theorem whM (ok : okA a) (rm : rMo a wh' kd' md' v) {j l h : Nat} (hj : j < a 0 2) (hl : l < a 0 0) (hh : h ≤ 100) : f_X13_worthHeld v (nI (a 0 1)) wh' kd' (nI j) (nI l) (nI h) = some (iL (aWB a j (a 4 l) (a 7 l) h)) := by
  have rm0 := rm
  obtain ⟨r1, r2, r3, rv⟩ := rm
  have h1 := ok.1
  have h2 := ok.2.1 j hj
  have h3 := ok.2.2 l hl
  have e0 : f_X13_meetsIn v wh' kd' (nI j) (nI l) 0 = _ := hIM ok rm0 hj hl false
  have e1 : f_X13_meetsIn v wh' kd' (nI j) (nI l) 1 = _ := hIM ok rm0 hj hl true
  have hf : f_X13_forceOf v kd' (nI j) = some (nI (aF a j)) := forceM rv.1 ok.d (show j < 5 by omega) (r2 j hj) h2.1 (rv.2.2.2.2.1 j hj) (by omega)
  have hfl : aF a j ≤ 30 := forceN_le (a 1 j) (a 6 j) (bit (a 0 3) j)
  have b1 := foeN_le (k := a 1 j) (w := a 4 l) hfl h3.2
  have b2 := ownN_le (k := a 1 j) (w := a 4 l) (s := a 7 l) hfl
  have hdd : f_X13_isDead v (nI j) = some (if aD a j then 1 else 0) := isDeadM rv.1 ok.d (by omega)
  unfold f_X13_worthHeld aWB worthZ
  unfold aHa harmN at e0 e1
  rw [hdd, bd1_s]
  generalize aF a j = f at e0 e1 hf hfl b1 b2 ⊢
  generalize aD a j = dd at e0 e1 ⊢
  cases dd
  · rw [selF, nI_l (by omega), powM (by omega), bd1_s, e0, bd1_s, e1, bd1_s, wholeM (by omega), bd1_s, hf, bd1_s, half (by omega)]
    rw [show (if false = true then 0 else if false = true then ownN (a 1 j) f (a 4 l) (a 7 l) else foeN (a 1 j) f (a 4 l) (a 7 l)) = foeN (a 1 j) f (a 4 l) (a 7 l) from rfl, show (if false = true then 0 else if true = true then ownN (a 1 j) f (a 4 l) (a 7 l) else foeN (a 1 j) f (a 4 l) (a 7 l)) = ownN (a 1 j) f (a 4 l) (a 7 l) from rfl]
    rw [subL (by omega) (by omega), nI_iL (by omega), lN_iL, iL_mul, iL_sub, iL_mul, iL_sub]; rfl
  · rw [selT]; rfl
theorem q_worthIf (ok : okA a) (rc : rCl a wh kd md st wd) (rm : rMo a wh' kd' md' v) (p1 p2 : Int32) (ra lo : Bool) (rf th tr wr : Int32) : ∃ r t, f_X11_worthIf rf (nI (a 0 0)) (nI (a 0 1)) (nI (a 0 2)) wh kd md (nI (a 0 3)) st wd p1 p2 (if ra then 1 else 0) (if lo then 1 else 0) = some (r, t) ∧ f_X13_worthIf th tr wr v (nI (a 0 0)) (nI (a 0 1)) (nI (a 0 2)) wh' kd' md' p1 p2 (if ra then 1 else 0) (if lo then 1 else 0) = some (r, 0, t, -1) ∧ ¬ t = 4 := by
  have h1 := ok.1
  unfold f_X11_worthIf f_X13_worthIf f_X13_worthIf_B21
  rcases meetT (n := a 0 2) (m := a 0 0) (by omega) (by omega) p1 p2 with ⟨e1, e2⟩ | ⟨j, l, hj, hl, rfl, rfl, e1, e2, e3⟩
  · refine ⟨-9223372036854775808, 1, ?_, ?_, by decide⟩
    · rw [e1, bd1_s, ref1, bd2_s]; rfl
    · rcases e2 with e2 | ⟨e2, e3⟩
      · rw [e2, bd1_s]; rfl
      · rw [e2, bd1_s, if_neg (by decide), e3, bd1_s]; rfl
  · have h2 := ok.2.1 j hj
    have h3 := ok.2.2 l hl
    obtain ⟨w, hw, ew⟩ : ∃ w : Nat, w < 2 ∧ (if ra then (1 : Int32) else 0) = nI w := by cases ra; exact ⟨0, by decide, rfl⟩; exact ⟨1, by decide, rfl⟩
    have hh := holdN_le (k := a 1 j) (w := w) h2.2.1
    have b := aWB_b (w := a 4 l) ok hj h3.2 hh
    refine ⟨toldZ (a 0 1) (aWB a j (a 4 l) (a 7 l) (holdN (a 1 j) (a 2 j) w)) lo, 0, ?_, ?_, by decide⟩
    · rw [e1, bd1_s, refF, bd2_s, if_pos rfl, gI (by omega) (by decide), gI (by omega) (by decide), nI_clamp (show j < 2 ^ 31 by omega), rc.2.1 j hj, rc.2.2.1 j hj, ew, holdByC _ h2.1 _ (by omega) w hw, bd1_s, gI (by omega) (by decide), gI (by omega) (by decide), nI_clamp (show l < 2 ^ 31 by omega), rc.1 l hl, rc.2.2.2.1 l hl, wBC ok rc.2.1 rc.2.2.2.2 hj h3.1 h3.2 hh, bd1_s, toldC h1.2.2.2.1 (by omega) (by omega), bd1_s]
    · rw [e2, bd1_s, if_neg (by decide), e3, bd1_s, if_neg (by decide), gI (by omega) (by decide), nI_clamp (show j < 2 ^ 31 by omega), rm.2.2.1 j hj, ew, holdByM (by omega) (rm.2.1 j hj) h2.1 (by omega) hw, bd1_s, whM ok rm hj hl hh, bd1_s, wholeM (by omega), bd1_s, fracM h1.2.2.2.1 (by omega) (by omega), bd3_s]
end B6
