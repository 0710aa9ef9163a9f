/-! BC: battles -/
def drawN (d : Nat) : Nat := (75 * d + 74) % 65537
def hsN (h : Nat) : Nat → Nat → Bool × Nat
  | 0, d => (true, d)
  | k + 1, d => if drawN d % 100 < h then hsN h k (drawN d) else (false, drawN d)
theorem drawN_lt (d : Nat) : drawN d < 65537 := Nat.mod_lt _ (by decide)
theorem hsN_lt (h : Nat) : ∀ k d, d < 65537 → (hsN h k d).2 < 65537 := by
  intro k
  induction k with
  | zero => intro d hd; exact hd
  | succ k ih =>
    intro d _
    unfold hsN
    split
    · exact ih _ (drawN_lt d)
    · exact drawN_lt d
theorem drawC {d : Nat} (hd : d < 65537) : ((75 * nI d) + 74) - ((75 * nI d) + 74) / 65537 * 65537 = nI (drawN d) := by
  rw [show (75 : Int32) = nI 75 from rfl, show (74 : Int32) = nI 74 from rfl, show (65537 : Int32) = nI 65537 from rfl, pk_mul, nI_add, pk_rem (by omega) (by decide) (by decide)]
  rfl
theorem drawM {d : Nat} (hd : d < 65537) : (((75 * ((nI d).toInt64)) + 74) - ((75 * ((nI d).toInt64)) + 74) / 65537 * 65537).toInt32 = nI (drawN d) := by
  rw [nI_l (by omega), show (75 : Int64) = lN 75 from rfl, show (74 : Int64) = lN 74 from rfl, show (65537 : Int64) = lN 65537 from rfl, lN_mul, lN_add, pk_lRem (by omega) (by decide) (by decide), lN_i]
  rfl
theorem mod100 {x : Nat} (hx : x < 2 ^ 31) : nI x - nI x / 100 * 100 = nI (x % 100) := pk_rem hx (by decide) (by decide)
theorem hsC {dp h : Nat} (hdp : dp < 100) (hh : h ≤ 100) : ∀ k i f d, i + k = dp → k < f → d < 65537 → f_X0_holdsAllSteps_L2 (nI dp) (nI h) f (nI i) (nI d) = some (if (hsN h k d).1 then 1 else 0, nI (hsN h k d).2) := by
  intro k
  induction k with
  | zero =>
    intro i f d hi hf hd
    obtain ⟨f, rfl⟩ : ∃ g, f = g + 1 := ⟨f - 1, by omega⟩
    show f_X0_holdsAllSteps_b2 _ _ _ _ _ = _
    unfold f_X0_holdsAllSteps_b2
    rw [if_pos (nI_le (by omega) (by omega))]
    rfl
  | succ k ih =>
    intro i f d hi hf hd
    obtain ⟨f, rfl⟩ : ∃ g, f = g + 1 := ⟨f - 1, by omega⟩
    have dl := drawN_lt d
    have ml : drawN d % 100 < 100 := Nat.mod_lt _ (by decide)
    show f_X0_holdsAllSteps_b2 _ _ _ _ _ = _
    unfold f_X0_holdsAllSteps_b2 hsN
    rw [if_neg (nI_ge (show i < dp by omega) (by omega)), drawC hd, mod100 (by omega), nI_1]
    by_cases q : drawN d % 100 < h
    · rw [if_pos (nI_lt q (by omega)), if_pos q]
      exact ih (i + 1) f (drawN d) (by omega) (by omega) dl
    · rw [if_neg (nI_nlt (by omega) (by omega)), if_neg q]
      rfl
theorem hsC' {dp h d : Nat} (hdp : dp < 100) (hh : h ≤ 100) (hd : d < 65537) : f_X0_holdsAllSteps (nI dp) (nI d) (nI h) = some (if (hsN h dp d).1 then 1 else 0, nI (hsN h dp d).2) := by
  unfold f_X0_holdsAllSteps
  exact hsC hdp hh dp 0 fuelN d (by omega) (fuel_gt (by omega)) hd
/-- a fight: drawn, harm to the foe, to its own, across, strength left -/
abbrev FS : Type := Nat × Nat × Nat × Nat × (Nat → Nat)
def foA (a : AS) (b x : Nat) : Nat := foeN (a 1 b) (aF a b) (a 4 (a 5 b)) x
def owA (a : AS) (b x : Nat) : Nat := ownN (a 1 b) (aF a b) (a 4 (a 5 b)) x
def chS (a : AS) (b : Nat) (s : FS) : FS := if aD a b then s else if (hsN (aH a b) (a 0 1) s.1).1 then ((hsN (aH a b) (a 0 1) s.1).2, s.2.1 + foA a b (s.2.2.2.2 (a 5 b)), s.2.2.1 + owA a b (s.2.2.2.2 (a 5 b)), s.2.2.2.1 ||| 2 ^ b, if a 4 (a 5 b) = 2 then (fun k => if k = a 5 b then s.2.2.2.2 (a 5 b) - foA a b (s.2.2.2.2 (a 5 b)) else s.2.2.2.2 k) else s.2.2.2.2) else ((hsN (aH a b) (a 0 1) s.1).2, s.2.1, s.2.2.1 + aF a b / 2, s.2.2.2.1, s.2.2.2.2)
def fgI (a : AS) (d : Nat) (i : Nat) : FS := itN (chS a) i 0 (d, 0, 0, 0, a 7)
abbrev fgN (a : AS) (d : Nat) : FS := fgI a d (a 0 2)
theorem fgI_s (a : AS) (d i : Nat) : fgI a d (i + 1) = chS a i (fgI a d i) := by unfold fgI; rw [it_snoc, Nat.zero_add]
theorem foA_le {a : AS} {b x : Nat} (hx : x ≤ 60) : foA a b x ≤ 60 ∧ owA a b x ≤ 60 := by
  have h1 := foeN_le (k := a 1 b) (w := a 4 (a 5 b)) (forceN_le (a 1 b) (a 6 b) (aD a b)) hx
  have h2 := ownN_le (k := a 1 b) (w := a 4 (a 5 b)) (s := x) (forceN_le (a 1 b) (a 6 b) (aD a b))
  unfold foA owA
  exact ⟨h1, Nat.le_trans h2 (by decide)⟩
theorem foA_sub {a : AS} {b x : Nat} (h : a 4 (a 5 b) = 2) : foA a b x ≤ x := by
  unfold foA foeN
  rw [h, if_neg (by decide), if_pos rfl]
  split <;> omega
def okF (a : AS) (i : Nat) (s : FS) : Prop := s.1 < 65537 ∧ s.2.1 ≤ 60 * i ∧ s.2.2.1 ≤ 60 * i ∧ s.2.2.2.1 < 2 ^ i ∧ ∀ l, l < a 0 0 → s.2.2.2.2 l ≤ 60
theorem fg_ok {a : AS} (ok : okA a) {d : Nat} (hd : d < 65537) : ∀ i, i ≤ a 0 2 → okF a i (fgI a d i) := by
  intro i
  induction i with
  | zero => intro _; exact ⟨hd, Nat.zero_le _, Nat.zero_le _, by show (0 : Nat) < 2 ^ 0; decide, fun l hl => (ok.2.2 l hl).2⟩
  | succ i ih =>
    intro hi
    obtain ⟨h1, h2, h3, h4, h5⟩ := ih (by omega)
    have hl := (ok.2.1 i (by omega)).2.2.2.2.1
    have h6 := h5 _ hl
    have h7 := foA_le (a := a) (b := i) h6
    have hf : aF a i ≤ 30 := forceN_le _ _ _
    have hp : 2 ^ (i + 1) = 2 ^ i + 2 ^ i := by rw [Nat.pow_succ]; omega
    rw [fgI_s]
    unfold chS
    split
    · exact ⟨h1, by omega, by omega, by omega, h5⟩
    · split
      · refine ⟨hsN_lt _ _ _ h1, ?_, ?_, ?_, ?_⟩
        · show (fgI a d i).2.1 + _ ≤ _; omega
        · show (fgI a d i).2.2.1 + _ ≤ _; omega
        · exact Nat.or_lt_two_pow (by omega) (Nat.pow_lt_pow_right (by decide) (by omega))
        · intro l hl2
          show (if a 4 (a 5 i) = 2 then _ else _ : Nat → Nat) l ≤ 60
          split
          · show (if l = a 5 i then _ else _) ≤ 60
            split
            · omega
            · exact h5 l hl2
          · exact h5 l hl2
      · refine ⟨hsN_lt _ _ _ h1, ?_, ?_, ?_, h5⟩
        · show (fgI a d i).2.1 ≤ _; omega
        · show (fgI a d i).2.2.1 + _ ≤ _; omega
        · show (fgI a d i).2.2.2.1 < _; omega
section BC
variable {a : AS} {wh kd md st wd at' wh' kd' md' v : Nat → Int32}
theorem upd_left {f : Nat → Int32} {g : Nat → Nat} {n l y : Nat} (hf : rI n f g) (hl : l < n) : rI n (upd f l (nI y)) (fun k => if k = l then y else g k) := by
  intro j hj
  show _ = nI (if j = l then y else g j)
  by_cases q : j = l
  · subst q; rw [pk_us, if_pos rfl]
  · rw [pk_un q, if_neg q]; exact hf j hj
theorem chC (ok : okA a) (rc : rCl a wh kd md st wd) (ra : rI (a 0 2) at' (a 5)) {b : Nat} (hb : b < a 0 2) (hd : aD a b = false) {s : FS} (hs : okF a b s) {fl : Nat → Int32} (hfl : rI (a 0 0) fl s.2.2.2.2) : ∃ fl', f_X0_charge (nI (a 0 1)) wh kd md (nI (a 0 3)) (nI (a 0 4)) at' wd (nI s.1) (nI s.2.1) (nI s.2.2.1) (nI s.2.2.2.1) fl (nI b) = some (nI (chS a b s).1, nI (chS a b s).2.1, nI (chS a b s).2.2.1, nI (chS a b s).2.2.2.1, fl') ∧ rI (a 0 0) fl' (chS a b s).2.2.2.2 := by
  have h1 := ok.1
  have h2 := ok.2.1 b hb
  have hl := h2.2.2.2.2.1
  have h3 := ok.2.2 _ hl
  obtain ⟨s1, s2, s3, s4, s5⟩ := hs
  have h6 := s5 _ hl
  have hh := aH_le ok hb
  obtain ⟨r1, rk, rmo, rs, rwd⟩ := rc
  have fo : f_X4_forceOf kd (nI (a 0 3)) wd (nI b) = some (nI (aF a b)) := forceC ok.d (by omega) (rk b hb) h2.1 (rwd b hb) (by omega)
  have fl30 : aF a b ≤ 30 := forceN_le _ _ _
  have ho : f_X4_holdOf kd md (nI (a 0 4)) (nI b) = some (nI (aH a b)) := holdC (by omega) (rk b hb) h2.1 (rmo b hb) (by omega) h1.2.2.2.2.2.2.2.1
  unfold f_X0_charge chS
  rw [fo, bd1_s, ho, bd1_s, hsC' (by omega) hh s1, bd2_s, hd, if_neg (show ¬ false = true by decide)]
  cases hq : (hsN (aH a b) (a 0 1) s.1).1
  · rw [selF, turnC (by omega), bd1_s, nI_add]
    exact ⟨fl, rfl, hfl⟩
  · rw [selT, if_pos rfl, gI (by omega) (by decide), gI (by omega) (by decide), nI_clamp (show b < 2 ^ 31 by omega), ra b hb, gI (by omega) (by decide), gI (by omega) (by decide), nI_clamp (show a 5 b < 2 ^ 31 by omega), rk b hb, r1 _ hl, hfl _ hl, foeC h2.1 (by omega) h3.1 (by omega), bd1_s, gI (by omega) (by decide), gI (by omega) (by decide), gI (by omega) (by decide), ownC h2.1 (by omega) h3.1 (by omega), bd1_s, gI (by omega) (by decide), gI (by omega) (by decide), gI (by omega) (by decide), nI_add, nI_add, shlN (by omega), nI_or]
    have e2 : nI (a 4 (a 5 b)) = 2 ↔ a 4 (a 5 b) = 2 := nI_eq (b := 2) (by omega) (by decide)
    by_cases q : a 4 (a 5 b) = 2
    · rw [if_pos (e2.mpr q), if_pos q]
      have hs := foA_sub (a := a) (b := b) (x := s.2.2.2.2 (a 5 b)) q
      refine ⟨_, rfl, ?_⟩
      rw [pk_sub (show foeN (a 1 b) (aF a b) (a 4 (a 5 b)) (s.2.2.2.2 (a 5 b)) ≤ s.2.2.2.2 (a 5 b) from hs)]
      exact upd_left hfl hl
    · rw [if_neg (fun h => q (e2.mp h)), if_neg q]
      exact ⟨fl, rfl, hfl⟩
theorem fightC (ok : okA a) (rc : rCl a wh kd md st wd) (ra : rI (a 0 2) at' (a 5)) {d : Nat} (hd : d < 65537) (x1 x2 x3 x4 : Int32) (fl : Nat → Int32) : ∃ fl', f_X0_fightFrom (nI (a 0 1)) (nI (a 0 2)) wh kd md (nI (a 0 3)) (nI (a 0 4)) st at' wd x1 x2 x3 x4 fl (nI d) = some (nI (fgN a d).1, nI (fgN a d).2.1, nI (fgN a d).2.2.1, nI (fgN a d).2.2.2.1, fl') ∧ rI (a 0 0) fl' (fgN a d).2.2.2.2 := by
  have h1 := ok.1
  unfold f_X0_fightFrom
  refine loopR (fun f i (s : Int32 × Int32 × Int32 × Int32 × (Nat → Int32)) => f_X0_fightFrom_L40 (nI (a 0 1)) (nI (a 0 2)) wh kd md (nI (a 0 3)) (nI (a 0 4)) st at' wd f (nI i) s.1 s.2.1 s.2.2.1 s.2.2.2.1 s.2.2.2.2) (a 0 2) (fun i s => s.1 = nI (fgI a d i).1 ∧ s.2.1 = nI (fgI a d i).2.1 ∧ s.2.2.1 = nI (fgI a d i).2.2.1 ∧ s.2.2.2.1 = nI (fgI a d i).2.2.2.1 ∧ rI (a 0 0) s.2.2.2.2 (fgI a d i).2.2.2.2) (fun o => ∃ fl', o = some (nI (fgN a d).1, nI (fgN a d).2.1, nI (fgN a d).2.2.1, nI (fgN a d).2.2.2.1, fl') ∧ rI (a 0 0) fl' (fgN a d).2.2.2.2) ?_ ?_ (a 0 2) 0 (nI d, 0, 0, 0, va_cpy st fl ((0 : Int32).toNatClampNeg) ((0 : Int32).toNatClampNeg) ((6 : Int32).toNatClampNeg)) fuelN (by omega) ?_ (fuel_gt (by omega))
  · intro f i s hi hs
    obtain ⟨y1, y2, y3, y4, y5⟩ := s
    obtain ⟨e1, e2, e3, e4, e5⟩ := hs
    have e1 : y1 = nI (fgI a d i).1 := e1
    have e2 : y2 = nI (fgI a d i).2.1 := e2
    have e3 : y3 = nI (fgI a d i).2.2.1 := e3
    have e4 : y4 = nI (fgI a d i).2.2.2.1 := e4
    have e5 : rI (a 0 0) y5 (fgI a d i).2.2.2.2 := e5
    subst e1; subst e2; subst e3; subst e4
    rw [fgI_s]
    show ∃ s' : Int32 × Int32 × Int32 × Int32 × (Nat → Int32), _ ∧ f_X0_fightFrom_b40 (nI (a 0 1)) (nI (a 0 2)) wh kd md (nI (a 0 3)) (nI (a 0 4)) st at' wd (f_X0_fightFrom_L40 (nI (a 0 1)) (nI (a 0 2)) wh kd md (nI (a 0 3)) (nI (a 0 4)) st at' wd f) (nI i) (nI (fgI a d i).1) (nI (fgI a d i).2.1) (nI (fgI a d i).2.2.1) (nI (fgI a d i).2.2.2.1) y5 = _
    unfold f_X0_fightFrom_b40 f_X0_fightFrom_B67
    rw [if_neg (nI_ge hi (by omega)), isDeadN ok.d (by omega), bd1_s, nI_1]
    show ∃ s' : Int32 × Int32 × Int32 × Int32 × (Nat → Int32), _ ∧ (if (if aD a i = true then (1 : Int32) else 0) = 0 then _ else _) = _
    cases hdd : aD a i
    · rw [selF]
      obtain ⟨fl', ec, hfl'⟩ := chC ok rc ra hi hdd (fg_ok ok hd i (by omega)) e5
      rw [ec, bd5_s]
      exact ⟨(_, _, _, _, fl'), ⟨rfl, rfl, rfl, rfl, hfl'⟩, rfl⟩
    · rw [selT]
      have : chS a i (fgI a d i) = fgI a d i := by unfold chS; rw [hdd]; rfl
      rw [this]
      exact ⟨(_, _, _, _, y5), ⟨rfl, rfl, rfl, rfl, e5⟩, rfl⟩
  · intro f s hs
    obtain ⟨y1, y2, y3, y4, y5⟩ := s
    obtain ⟨e1, e2, e3, e4, e5⟩ := hs
    refine ⟨y5, ?_, e5⟩
    show f_X0_fightFrom_b40 _ _ _ _ _ _ _ _ _ _ _ _ _ _ _ _ _ = _
    unfold f_X0_fightFrom_b40
    rw [if_pos (nI_le (Nat.le_refl _) (by omega))]
    rw [show y1 = nI (fgN a d).1 from e1, show y2 = nI (fgN a d).2.1 from e2, show y3 = nI (fgN a d).2.2.1 from e3, show y4 = nI (fgN a d).2.2.2.1 from e4]
  · refine ⟨rfl, rfl, rfl, rfl, ?_⟩
    intro l hl
    show va_cpy st fl 0 0 6 l = _
    rw [pk_cpy_in (by omega) (by omega), show 0 + (l - 0) = l by omega]
    exact rc.2.2.2.1 l hl
theorem hoM (ok : okA a) (rk : rI (a 0 2) kd' (a 1)) (rmo : rI (a 0 2) md' (a 2)) (hv : v 17 = nI (a 0 4)) {b : Nat} (hb : b < a 0 2) : ∀ k i f row d, i + k = a 0 1 → k < f → row 18 = nI d → d < 65537 → ∃ row', f_X13_holdsOn_L2 v (nI (a 0 1)) kd' md' (nI b) f (nI i) row = some (if (hsN (aH a b) k d).1 then 1 else 0, row') ∧ row' 18 = nI (hsN (aH a b) k d).2 ∧ ∀ j, j ≠ 18 → row' j = row j := by
  have h1 := ok.1
  have h2 := ok.2.1 b hb
  have hh := aH_le ok hb
  intro k
  induction k with
  | zero =>
    intro i f row d hi hf hr hd
    obtain ⟨f, rfl⟩ : ∃ g, f = g + 1 := ⟨f - 1, by omega⟩
    refine ⟨row, ?_, hr, fun _ _ => rfl⟩
    show f_X13_holdsOn_b2 _ _ _ _ _ _ _ _ = _
    unfold f_X13_holdsOn_b2
    rw [if_pos (nI_le (by omega) (by omega))]
    rfl
  | succ k ih =>
    intro i f row d hi hf hr hd
    obtain ⟨f, rfl⟩ : ∃ g, f = g + 1 := ⟨f - 1, by omega⟩
    have dl := drawN_lt d
    have ml : drawN d % 100 < 100 := Nat.mod_lt _ (by decide)
    have er : (upd row 18 (nI (drawN d))) 18 = nI (drawN d) := pk_us
    show ∃ row', f_X13_holdsOn_b2 v (nI (a 0 1)) kd' md' (nI b) (f_X13_holdsOn_L2 v (nI (a 0 1)) kd' md' (nI b) f) (nI i) row = _ ∧ _
    unfold f_X13_holdsOn_b2 hsN
    rw [if_neg (nI_ge (show i < a 0 1 by omega) (by omega)), c18, hr, drawM hd, holdM (by omega) (rk b hb) h2.1 (rmo b hb) (by omega) hv h1.2.2.2.2.2.2.2.1, bd1_s, er, mod100 (by omega), nI_1]
    by_cases q : drawN d % 100 < aH a b
    · rw [if_pos (nI_lt q (by omega)), if_pos q]
      obtain ⟨row', e, e2, e3⟩ := ih (i + 1) f (upd row 18 (nI (drawN d))) (drawN d) (by omega) (by omega) er dl
      exact ⟨row', e, e2, fun j hj => by rw [e3 j hj, pk_un hj]⟩
    · rw [if_neg (nI_nlt (Nat.le_of_not_lt q) (by omega)), if_neg q]
      exact ⟨_, rfl, er, fun j hj => pk_un hj⟩
def rWM (a : AS) (row : Nat → Int32) (s : FS) : Prop := row 18 = nI s.1 ∧ (∀ j, j < a 0 2 → row j = nI (a 5 j)) ∧ (∀ l, l < a 0 0 → row (11 + l) = nI (s.2.2.2.2 l))
theorem fightMM (ok : okA a) (rw' : rI (a 0 0) wh' (a 4)) (rk : rI (a 0 2) kd' (a 1)) (rmo : rI (a 0 2) md' (a 2)) (rv : rV a v) {d : Nat} (hd : d < 65537) (x1 x2 x3 : Int32) {row : Nat → Int32} (hr : rWM a row (d, 0, 0, 0, a 7)) : ∃ row', f_X13_fights x1 x2 x3 v (nI (a 0 1)) (nI (a 0 2)) wh' kd' md' row = some (nI (fgN a d).2.1, nI (fgN a d).2.2.1, nI (fgN a d).2.2.2.1, row') ∧ rWM a row' (fgN a d) := by
  have h1 := ok.1
  unfold f_X13_fights
  refine loopR (fun f i (s : Int32 × Int32 × Int32 × (Nat → Int32)) => f_X13_fights_L17 v (nI (a 0 1)) (nI (a 0 2)) wh' kd' md' f (nI i) s.1 s.2.1 s.2.2.1 s.2.2.2) (a 0 2) (fun i s => s.1 = nI (fgI a d i).2.1 ∧ s.2.1 = nI (fgI a d i).2.2.1 ∧ s.2.2.1 = nI (fgI a d i).2.2.2.1 ∧ rWM a s.2.2.2 (fgI a d i)) (fun o => ∃ row', o = some (nI (fgN a d).2.1, nI (fgN a d).2.2.1, nI (fgN a d).2.2.2.1, row') ∧ rWM a row' (fgN a d)) ?_ ?_ (a 0 2) 0 (0, 0, 0, row) fuelN (by omega) ⟨rfl, rfl, rfl, hr⟩ (fuel_gt (by omega))
  · intro f i s hi hs
    obtain ⟨y2, y3, y4, y5⟩ := s
    obtain ⟨e2, e3, e4, hR⟩ := hs
    have e2 : y2 = nI (fgI a d i).2.1 := e2
    have e3 : y3 = nI (fgI a d i).2.2.1 := e3
    have e4 : y4 = nI (fgI a d i).2.2.2.1 := e4
    have hR : rWM a y5 (fgI a d i) := hR
    subst e2; subst e3; subst e4
    have h2 := ok.2.1 i hi
    have hl := h2.2.2.2.2.1
    have h3 := ok.2.2 _ hl
    obtain ⟨s1, s2, s3, s4, s5⟩ := fg_ok ok hd i (by omega)
    have h6 := s5 _ hl
    rw [fgI_s]
    generalize fgI a d i = s at *
    show ∃ s' : Int32 × Int32 × Int32 × (Nat → Int32), _ ∧ f_X13_fights_b17 v (nI (a 0 1)) (nI (a 0 2)) wh' kd' md' (f_X13_fights_L17 v (nI (a 0 1)) (nI (a 0 2)) wh' kd' md' f) (nI i) (nI s.2.1) (nI s.2.2.1) (nI s.2.2.2.1) y5 = _
    unfold f_X13_fights_b17 f_X13_fights_B191 f_X13_fights_B192
    rw [if_neg (nI_ge hi (by omega)), isDeadM rv.1 ok.d (by omega), bd1_s, nI_1]
    show ∃ s' : Int32 × Int32 × Int32 × (Nat → Int32), _ ∧ (if (if aD a i = true then (1 : Int32) else 0) = 0 then _ else _) = _
    unfold chS
    cases hdd : aD a i
    · rw [selF, if_neg (by decide)]
      obtain ⟨row', ec, er, eo⟩ := hoM ok rk rmo rv.2.1 hi (a 0 1) 0 fuelN y5 s.1 (by omega) (fuel_gt (by omega)) hR.1 s1
      have ec' : f_X13_holdsOn v (nI (a 0 1)) kd' md' y5 (nI i) = some (if (hsN (aH a i) (a 0 1) s.1).1 then 1 else 0, row') := ec
      rw [ec', bd2_s]
      have z5 : ∀ j, j < a 0 2 → row' j = nI (a 5 j) := fun j hj => by rw [eo j (by omega)]; exact hR.2.1 j hj
      have z11 : ∀ l, l < a 0 0 → row' (11 + l) = nI (s.2.2.2.2 l) := fun l hl => by rw [eo _ (by omega)]; exact hR.2.2 l hl
      have fo : f_X13_forceOf v kd' (nI i) = some (nI (aF a i)) := forceM rv.1 ok.d (by omega) (rk i hi) h2.1 (rv.2.2.2.2.1 i hi) (by omega)
      have fl30 : aF a i ≤ 30 := forceN_le _ _ _
      cases hq : (hsN (aH a i) (a 0 1) s.1).1
      · rw [selF, fo, bd1_s, half (by omega), nI_add]
        exact ⟨(_, _, _, row'), ⟨rfl, rfl, rfl, er, z5, z11⟩, rfl⟩
      · rw [selT, n0, gI (by omega) (by decide), nI_clamp (show i < 2 ^ 31 by omega), z5 i hi, if_pos rfl]
        have hm0 : f_X13_harmBy v kd' (nI i) (nI (a 4 (a 5 i))) (nI (s.2.2.2.2 (a 5 i))) (0 : Int32) = some (nI (foA a i (s.2.2.2.2 (a 5 i)))) := by
          have := harmM' (s := s.2.2.2.2 (a 5 i)) rv.1 ok.d (by omega) (rk i hi) h2.1 (rv.2.2.2.2.1 i hi) (by omega) h3.1 (by omega) false
          refine (show f_X13_harmBy v kd' (nI i) (nI (a 4 (a 5 i))) (nI (s.2.2.2.2 (a 5 i))) (0 : Int32) = _ from this).trans ?_
          unfold harmN
          rw [show bit (a 0 3) i = false from hdd]
          unfold foA aF aD
          rw [show bit (a 0 3) i = false from hdd]
          rfl
        have hm1 : f_X13_harmBy v kd' (nI i) (nI (a 4 (a 5 i))) (nI (s.2.2.2.2 (a 5 i))) (1 : Int32) = some (nI (owA a i (s.2.2.2.2 (a 5 i)))) := by
          have := harmM' (s := s.2.2.2.2 (a 5 i)) rv.1 ok.d (by omega) (rk i hi) h2.1 (rv.2.2.2.2.1 i hi) (by omega) h3.1 (by omega) true
          refine (show f_X13_harmBy v kd' (nI i) (nI (a 4 (a 5 i))) (nI (s.2.2.2.2 (a 5 i))) (1 : Int32) = _ from this).trans ?_
          unfold harmN
          rw [show bit (a 0 3) i = false from hdd]
          unfold owA aF aD
          rw [show bit (a 0 3) i = false from hdd]
          rfl
        rw [gI (show a 5 i < 6 by omega) (by decide), n11, gI (show 11 + a 5 i < 19 by omega) (by decide), nI_clamp (show a 5 i < 2 ^ 31 by omega), nI_clamp (show 11 + a 5 i < 2 ^ 31 by omega), rw' _ hl, z11 _ hl, hm0, bd1_s, gI (show a 5 i < 6 by omega) (by decide), gI (show 11 + a 5 i < 19 by omega) (by decide), hm1, bd1_s, gI (show a 5 i < 6 by omega) (by decide), gI (show 11 + a 5 i < 19 by omega) (by decide), gI (show 11 + a 5 i < 19 by omega) (by decide), gI (show 11 + a 5 i < 19 by omega) (by decide), gI (show 11 + a 5 i < 19 by omega) (by decide), nI_add, nI_add, shlN (by omega), nI_or]
        have e2 : nI (a 4 (a 5 i)) = 2 ↔ a 4 (a 5 i) = 2 := nI_eq (b := 2) (by omega) (by decide)
        by_cases q : a 4 (a 5 i) = 2
        · rw [if_pos (e2.mpr q), if_pos q]
          have hs := foA_sub (a := a) (b := i) (x := s.2.2.2.2 (a 5 i)) q
          have val : (if nI (s.2.2.2.2 (a 5 i)) ≤ nI (foA a i (s.2.2.2.2 (a 5 i))) then (0 : Int32) else nI (s.2.2.2.2 (a 5 i)) - nI (foA a i (s.2.2.2.2 (a 5 i)))) = nI (s.2.2.2.2 (a 5 i) - foA a i (s.2.2.2.2 (a 5 i))) := by
            by_cases q3 : s.2.2.2.2 (a 5 i) ≤ foA a i (s.2.2.2.2 (a 5 i))
            · rw [if_pos (nI_le q3 (by omega)), Nat.sub_eq_zero_of_le q3]; rfl
            · rw [if_neg (nI_ge (by omega) (by omega)), pk_sub hs]
          refine ⟨(_, _, _, upd row' (11 + a 5 i) (nI (s.2.2.2.2 (a 5 i) - foA a i (s.2.2.2.2 (a 5 i))))), ⟨rfl, rfl, rfl, ?_, ?_, ?_⟩, ?_⟩
          · show upd row' (11 + a 5 i) _ 18 = _
            rw [pk_un (by omega)]; exact er
          · intro j hj
            show upd row' (11 + a 5 i) _ j = _
            rw [pk_un (by omega)]; exact z5 j hj
          · intro l hl2
            show upd row' (11 + a 5 i) _ (11 + l) = nI (if l = a 5 i then _ else _)
            by_cases q4 : l = a 5 i
            · subst q4; rw [pk_us, if_pos rfl]
            · rw [pk_un (by omega), if_neg q4]; exact z11 l hl2
          · rw [← val]
            by_cases q3 : nI (s.2.2.2.2 (a 5 i)) ≤ nI (foA a i (s.2.2.2.2 (a 5 i)))
            · rw [if_pos q3, if_pos q3]; rfl
            · rw [if_neg q3, if_neg q3]; rfl
        · rw [if_neg (fun h => q (e2.mp h)), if_neg q]
          exact ⟨(_, _, _, row'), ⟨rfl, rfl, rfl, er, z5, z11⟩, rfl⟩
    · rw [selT]
      exact ⟨(_, _, _, y5), ⟨rfl, rfl, rfl, hR⟩, rfl⟩
  · intro f s hs
    obtain ⟨y2, y3, y4, y5⟩ := s
    obtain ⟨e2, e3, e4, hR⟩ := hs
    refine ⟨y5, ?_, hR⟩
    show f_X13_fights_b17 _ _ _ _ _ _ _ _ _ _ _ _ = _
    unfold f_X13_fights_b17
    rw [if_pos (nI_le (Nat.le_refl _) (by omega))]
    rw [show y2 = nI (fgN a d).2.1 from e2, show y3 = nI (fgN a d).2.2.1 from e3, show y4 = nI (fgN a d).2.2.2.1 from e4]
theorem hoMV (ok : okA a) (rk : rI (a 0 2) kd' (a 1)) (rmo : rI (a 0 2) md' (a 2)) {b : Nat} (hb : b < a 0 2) : ∀ k i f row d, i + k = a 0 1 → k < f → row 18 = nI d → row 17 = nI (a 0 4) → d < 65537 → ∃ row', f_X13_holdsOn_v_L2 (nI (a 0 1)) kd' md' (nI b) f (nI i) row = some (if (hsN (aH a b) k d).1 then 1 else 0, row') ∧ row' 18 = nI (hsN (aH a b) k d).2 ∧ ∀ j, j ≠ 18 → row' j = row j := by
  have h1 := ok.1
  have h2 := ok.2.1 b hb
  have hh := aH_le ok hb
  intro k
  induction k with
  | zero =>
    intro i f row d hi hf hr h17 hd
    obtain ⟨f, rfl⟩ : ∃ g, f = g + 1 := ⟨f - 1, by omega⟩
    refine ⟨row, ?_, hr, fun _ _ => rfl⟩
    show f_X13_holdsOn_v_b2 _ _ _ _ _ _ _ = _
    unfold f_X13_holdsOn_v_b2
    rw [if_pos (nI_le (by omega) (by omega))]
    rfl
  | succ k ih =>
    intro i f row d hi hf hr h17 hd
    obtain ⟨f, rfl⟩ : ∃ g, f = g + 1 := ⟨f - 1, by omega⟩
    have dl := drawN_lt d
    have ml : drawN d % 100 < 100 := Nat.mod_lt _ (by decide)
    have er : (upd row 18 (nI (drawN d))) 18 = nI (drawN d) := pk_us
    show ∃ row', f_X13_holdsOn_v_b2 (nI (a 0 1)) kd' md' (nI b) (f_X13_holdsOn_v_L2 (nI (a 0 1)) kd' md' (nI b) f) (nI i) row = _ ∧ _
    unfold f_X13_holdsOn_v_b2 hsN
    rw [if_neg (nI_ge (show i < a 0 1 by omega) (by omega)), c18, hr, drawM hd, holdM (by omega) (rk b hb) h2.1 (rmo b hb) (by omega) (by rw [pk_un (by decide)]; exact h17) h1.2.2.2.2.2.2.2.1, bd1_s, er, mod100 (by omega), nI_1]
    by_cases q : drawN d % 100 < aH a b
    · rw [if_pos (nI_lt q (by omega)), if_pos q]
      obtain ⟨row', e, e2, e3⟩ := ih (i + 1) f (upd row 18 (nI (drawN d))) (drawN d) (by omega) (by omega) er (by rw [pk_un (by decide)]; exact h17) dl
      exact ⟨row', e, e2, fun j hj => by rw [e3 j hj, pk_un hj]⟩
    · rw [if_neg (nI_nlt (Nat.le_of_not_lt q) (by omega)), if_neg q]
      exact ⟨_, rfl, er, fun j hj => pk_un hj⟩
def rWMV (a : AS) (row : Nat → Int32) (s : FS) : Prop := row 18 = nI s.1 ∧ (∀ j, j < a 0 2 → row j = nI (a 5 j)) ∧ (∀ l, l < a 0 0 → row (11 + l) = nI (s.2.2.2.2 l)) ∧ row 10 = nI (a 0 3) ∧ row 17 = nI (a 0 4) ∧ ∀ j, j < a 0 2 → row (5 + j) = nI (a 6 j)
theorem fightMMV (ok : okA a) (rw' : rI (a 0 0) wh' (a 4)) (rk : rI (a 0 2) kd' (a 1)) (rmo : rI (a 0 2) md' (a 2)) {d : Nat} (hd : d < 65537) (x1 x2 x3 : Int32) {row : Nat → Int32} (hr : rWMV a row (d, 0, 0, 0, a 7)) : ∃ row', f_X13_fights_v x1 x2 x3 row (nI (a 0 1)) (nI (a 0 2)) wh' kd' md' = some (nI (fgN a d).2.1, nI (fgN a d).2.2.1, nI (fgN a d).2.2.2.1, row') ∧ rWMV a row' (fgN a d) := by
  have h1 := ok.1
  unfold f_X13_fights_v
  refine loopR (fun f i (s : Int32 × Int32 × Int32 × (Nat → Int32)) => f_X13_fights_v_L17 (nI (a 0 1)) (nI (a 0 2)) wh' kd' md' f (nI i) s.1 s.2.1 s.2.2.1 s.2.2.2) (a 0 2) (fun i s => s.1 = nI (fgI a d i).2.1 ∧ s.2.1 = nI (fgI a d i).2.2.1 ∧ s.2.2.1 = nI (fgI a d i).2.2.2.1 ∧ rWMV a s.2.2.2 (fgI a d i)) (fun o => ∃ row', o = some (nI (fgN a d).2.1, nI (fgN a d).2.2.1, nI (fgN a d).2.2.2.1, row') ∧ rWMV a row' (fgN a d)) ?_ ?_ (a 0 2) 0 (0, 0, 0, row) fuelN (by omega) ⟨rfl, rfl, rfl, hr⟩ (fuel_gt (by omega))
  · intro f i s hi hs
    obtain ⟨y2, y3, y4, y5⟩ := s
    obtain ⟨e2, e3, e4, hR⟩ := hs
    have e2 : y2 = nI (fgI a d i).2.1 := e2
    have e3 : y3 = nI (fgI a d i).2.2.1 := e3
    have e4 : y4 = nI (fgI a d i).2.2.2.1 := e4
    have hR : rWMV a y5 (fgI a d i) := hR
    subst e2; subst e3; subst e4
    have h2 := ok.2.1 i hi
    have hl := h2.2.2.2.2.1
    have h3 := ok.2.2 _ hl
    obtain ⟨s1, s2, s3, s4, s5⟩ := fg_ok ok hd i (by omega)
    have h6 := s5 _ hl
    rw [fgI_s]
    generalize fgI a d i = s at *
    show ∃ s' : Int32 × Int32 × Int32 × (Nat → Int32), _ ∧ f_X13_fights_v_b17 (nI (a 0 1)) (nI (a 0 2)) wh' kd' md' (f_X13_fights_v_L17 (nI (a 0 1)) (nI (a 0 2)) wh' kd' md' f) (nI i) (nI s.2.1) (nI s.2.2.1) (nI s.2.2.2.1) y5 = _
    unfold f_X13_fights_v_b17 f_X13_fights_v_B191 f_X13_fights_v_B192
    rw [if_neg (nI_ge hi (by omega)), isDeadM hR.2.2.2.1 ok.d (by omega), bd1_s, nI_1]
    show ∃ s' : Int32 × Int32 × Int32 × (Nat → Int32), _ ∧ (if (if aD a i = true then (1 : Int32) else 0) = 0 then _ else _) = _
    unfold chS
    cases hdd : aD a i
    · rw [selF, if_neg (by decide)]
      obtain ⟨row', ec, er, eo⟩ := hoMV ok rk rmo hi (a 0 1) 0 fuelN y5 s.1 (by omega) (fuel_gt (by omega)) hR.1 hR.2.2.2.2.1 s1
      have ec' : f_X13_holdsOn_v y5 (nI (a 0 1)) kd' md' (nI i) = some (if (hsN (aH a i) (a 0 1) s.1).1 then 1 else 0, row') := ec
      rw [ec', bd2_s]
      have z5 : ∀ j, j < a 0 2 → row' j = nI (a 5 j) := fun j hj => by rw [eo j (by omega)]; exact hR.2.1 j hj
      have z11 : ∀ l, l < a 0 0 → row' (11 + l) = nI (s.2.2.2.2 l) := fun l hl => by rw [eo _ (by omega)]; exact hR.2.2.1 l hl
      have z10 : row' 10 = nI (a 0 3) := by rw [eo 10 (by decide)]; exact hR.2.2.2.1
      have z17 : row' 17 = nI (a 0 4) := by rw [eo 17 (by decide)]; exact hR.2.2.2.2.1
      have zw : ∀ j, j < a 0 2 → row' (5 + j) = nI (a 6 j) := fun j hj => by rw [eo _ (by omega)]; exact hR.2.2.2.2.2 j hj
      have fo : f_X13_forceOf row' kd' (nI i) = some (nI (aF a i)) := forceM z10 ok.d (by omega) (rk i hi) h2.1 (zw i hi) (by omega)
      have fl30 : aF a i ≤ 30 := forceN_le _ _ _
      cases hq : (hsN (aH a i) (a 0 1) s.1).1
      · rw [selF, fo, bd1_s, half (by omega), nI_add]
        exact ⟨(_, _, _, row'), ⟨rfl, rfl, rfl, er, z5, z11, z10, z17, zw⟩, rfl⟩
      · rw [selT, n0, gI (by omega) (by decide), nI_clamp (show i < 2 ^ 31 by omega), z5 i hi, if_pos rfl]
        have hm0 : f_X13_harmBy row' kd' (nI i) (nI (a 4 (a 5 i))) (nI (s.2.2.2.2 (a 5 i))) (0 : Int32) = some (nI (foA a i (s.2.2.2.2 (a 5 i)))) := by
          have := harmM' (s := s.2.2.2.2 (a 5 i)) z10 ok.d (by omega) (rk i hi) h2.1 (zw i hi) (by omega) h3.1 (by omega) false
          refine (show f_X13_harmBy row' kd' (nI i) (nI (a 4 (a 5 i))) (nI (s.2.2.2.2 (a 5 i))) (0 : Int32) = _ from this).trans ?_
          unfold harmN
          rw [show bit (a 0 3) i = false from hdd]
          unfold foA aF aD
          rw [show bit (a 0 3) i = false from hdd]
          rfl
        have hm1 : f_X13_harmBy row' kd' (nI i) (nI (a 4 (a 5 i))) (nI (s.2.2.2.2 (a 5 i))) (1 : Int32) = some (nI (owA a i (s.2.2.2.2 (a 5 i)))) := by
          have := harmM' (s := s.2.2.2.2 (a 5 i)) z10 ok.d (by omega) (rk i hi) h2.1 (zw i hi) (by omega) h3.1 (by omega) true
          refine (show f_X13_harmBy row' kd' (nI i) (nI (a 4 (a 5 i))) (nI (s.2.2.2.2 (a 5 i))) (1 : Int32) = _ from this).trans ?_
          unfold harmN
          rw [show bit (a 0 3) i = false from hdd]
          unfold owA aF aD
          rw [show bit (a 0 3) i = false from hdd]
          rfl
        rw [gI (show a 5 i < 6 by omega) (by decide), n11, gI (show 11 + a 5 i < 19 by omega) (by decide), nI_clamp (show a 5 i < 2 ^ 31 by omega), nI_clamp (show 11 + a 5 i < 2 ^ 31 by omega), rw' _ hl, z11 _ hl, hm0, bd1_s, gI (show a 5 i < 6 by omega) (by decide), gI (show 11 + a 5 i < 19 by omega) (by decide), hm1, bd1_s, gI (show a 5 i < 6 by omega) (by decide), gI (show 11 + a 5 i < 19 by omega) (by decide), gI (show 11 + a 5 i < 19 by omega) (by decide), gI (show 11 + a 5 i < 19 by omega) (by decide), gI (show 11 + a 5 i < 19 by omega) (by decide), nI_add, nI_add, shlN (by omega), nI_or]
        have e2 : nI (a 4 (a 5 i)) = 2 ↔ a 4 (a 5 i) = 2 := nI_eq (b := 2) (by omega) (by decide)
        by_cases q : a 4 (a 5 i) = 2
        · rw [if_pos (e2.mpr q), if_pos q]
          have hs := foA_sub (a := a) (b := i) (x := s.2.2.2.2 (a 5 i)) q
          have val : (if nI (s.2.2.2.2 (a 5 i)) ≤ nI (foA a i (s.2.2.2.2 (a 5 i))) then (0 : Int32) else nI (s.2.2.2.2 (a 5 i)) - nI (foA a i (s.2.2.2.2 (a 5 i)))) = nI (s.2.2.2.2 (a 5 i) - foA a i (s.2.2.2.2 (a 5 i))) := by
            by_cases q3 : s.2.2.2.2 (a 5 i) ≤ foA a i (s.2.2.2.2 (a 5 i))
            · rw [if_pos (nI_le q3 (by omega)), Nat.sub_eq_zero_of_le q3]; rfl
            · rw [if_neg (nI_ge (by omega) (by omega)), pk_sub hs]
          refine ⟨(_, _, _, upd row' (11 + a 5 i) (nI (s.2.2.2.2 (a 5 i) - foA a i (s.2.2.2.2 (a 5 i))))), ⟨rfl, rfl, rfl, ?_, ?_, ?_, ?_, ?_, ?_⟩, ?_⟩
          · show upd row' (11 + a 5 i) _ 18 = _
            rw [pk_un (by omega)]; exact er
          · intro j hj
            show upd row' (11 + a 5 i) _ j = _
            rw [pk_un (by omega)]; exact z5 j hj
          · intro l hl2
            show upd row' (11 + a 5 i) _ (11 + l) = nI (if l = a 5 i then _ else _)
            by_cases q4 : l = a 5 i
            · subst q4; rw [pk_us, if_pos rfl]
            · rw [pk_un (by omega), if_neg q4]; exact z11 l hl2
          · show upd row' (11 + a 5 i) _ 10 = _
            rw [pk_un (by omega)]; exact z10
          · show upd row' (11 + a 5 i) _ 17 = _
            rw [pk_un (by omega)]; exact z17
          · intro j hj
            show upd row' (11 + a 5 i) _ (5 + j) = _
            rw [pk_un (by omega)]; exact zw j hj
          · rw [← val]
            by_cases q3 : nI (s.2.2.2.2 (a 5 i)) ≤ nI (foA a i (s.2.2.2.2 (a 5 i)))
            · rw [if_pos q3, if_pos q3]; rfl
            · rw [if_neg q3, if_neg q3]; rfl
        · rw [if_neg (fun h => q (e2.mp h)), if_neg q]
          exact ⟨(_, _, _, row'), ⟨rfl, rfl, rfl, er, z5, z11, z10, z17, zw⟩, rfl⟩
    · rw [selT]
      exact ⟨(_, _, _, y5), ⟨rfl, rfl, rfl, hR⟩, rfl⟩
  · intro f s hs
    obtain ⟨y2, y3, y4, y5⟩ := s
    obtain ⟨e2, e3, e4, hR⟩ := hs
    refine ⟨y5, ?_, hR⟩
    show f_X13_fights_v_b17 _ _ _ _ _ _ _ _ _ _ _ = _
    unfold f_X13_fights_v_b17
    rw [if_pos (nI_le (Nat.le_refl _) (by omega))]
    rw [show y2 = nI (fgN a d).2.1 from e2, show y3 = nI (fgN a d).2.2.1 from e3, show y4 = nI (fgN a d).2.2.2.1 from e4]
end BC
