/-! BD: many battles -/
theorem bd9_s {α A B C D E F G H I : Type} (x1 : A) (x2 : B) (x3 : C) (x4 : D) (x5 : E) (x6 : F) (x7 : G) (x8 : H) (x9 : I) (k : A → B → C → D → E → F → G → H → I → Option α) : bd9 (some (x1, x2, x3, x4, x5, x6, x7, x8, x9)) k = k x1 x2 x3 x4 x5 x6 x7 x8 x9 := rfl
theorem bd8_s {α A B C D E F G H : Type} (x1 : A) (x2 : B) (x3 : C) (x4 : D) (x5 : E) (x6 : F) (x7 : G) (x8 : H) (k : A → B → C → D → E → F → G → H → Option α) : bd8 (some (x1, x2, x3, x4, x5, x6, x7, x8)) k = k x1 x2 x3 x4 x5 x6 x7 x8 := rfl
theorem bd6_s {α A B C D E F : Type} (x1 : A) (x2 : B) (x3 : C) (x4 : D) (x5 : E) (x6 : F) (k : A → B → C → D → E → F → Option α) : bd6 (some (x1, x2, x3, x4, x5, x6)) k = k x1 x2 x3 x4 x5 x6 := rfl
/-- many battles: drawn, harm to the foe, to its own, won, across -/
abbrev MS : Type := Nat × Nat × Nat × Nat × (Nat → Nat)
def mnyS (a : AS) (_ : Nat) (s : MS) : MS := ((fgN a s.1).1, s.2.1 + (fgN a s.1).2.1, s.2.2.1 + (fgN a s.1).2.2.1, s.2.2.2.1 + (if (fgN a s.1).2.1 ≤ (fgN a s.1).2.2.1 then 0 else 1), fun b => s.2.2.2.2 b + (fgN a s.1).2.2.2.1 / 2 ^ b % 2)
def mnyI (a : AS) (d i : Nat) : MS := itN (mnyS a) i 0 (d, 0, 0, 0, fun _ => 0)
theorem mnyI_s (a : AS) (d i : Nat) : mnyI a d (i + 1) = mnyS a i (mnyI a d i) := by unfold mnyI; rw [it_snoc, Nat.zero_add]
theorem mny_ok {a : AS} (ok : okA a) {d : Nat} (hd : d < 65537) : ∀ i, (mnyI a d i).1 < 65537 := by
  intro i
  induction i with
  | zero => exact hd
  | succ i ih => rw [mnyI_s]; exact (fg_ok ok ih (a 0 2) (Nat.le_refl _)).1
section BD
variable {a : AS} {wh kd md st wd at' wh' kd' md' v : Nat → Int32}
theorem manyC (ok : okA a) (rc : rCl a wh kd md st wd) (ra : rI (a 0 2) at' (a 5)) {d n : Nat} (hd : d < 65537) (hn : n ≤ 90) (x1 x2 x3 x4 x5 x6 x7 : Int32) (fl cr : Nat → Int32) : ∃ z1 z2 z3 z4 zl zc, f_X0_fightMany (nI (a 0 1)) (nI (a 0 2)) wh kd md (nI (a 0 3)) (nI (a 0 4)) st at' wd x1 x2 x3 x4 x5 x6 x7 fl cr (nI d) (nI n) = some (z1, z2, z3, z4, nI (mnyI a d n).2.1, nI (mnyI a d n).2.2.1, nI (mnyI a d n).2.2.2.1, zl, zc) ∧ ∀ b, b < a 0 2 → zc b = nI ((mnyI a d n).2.2.2.2 b) := by
  have h1 := ok.1
  have hp := pow32 ok
  have step2 : ∀ cr : Nat → Int32, (∀ b, b < a 0 2 → cr b = nI 0) → ∃ z1 z2 z3 z4 zl zc, f_X0_fightMany_L48 (nI (a 0 1)) (nI (a 0 2)) wh kd md (nI (a 0 3)) (nI (a 0 4)) st at' wd (nI n) fuelN 0 (nI d) x2 x3 x4 0 0 0 fl cr = some (z1, z2, z3, z4, nI (mnyI a d n).2.1, nI (mnyI a d n).2.2.1, nI (mnyI a d n).2.2.2.1, zl, zc) ∧ ∀ b, b < a 0 2 → zc b = nI ((mnyI a d n).2.2.2.2 b) := by
    intro cr hcr
    refine loopR (fun f i (s : Int32 × Int32 × Int32 × Int32 × Int32 × Int32 × Int32 × (Nat → Int32) × (Nat → Int32)) => f_X0_fightMany_L48 (nI (a 0 1)) (nI (a 0 2)) wh kd md (nI (a 0 3)) (nI (a 0 4)) st at' wd (nI n) f (nI i) s.1 s.2.1 s.2.2.1 s.2.2.2.1 s.2.2.2.2.1 s.2.2.2.2.2.1 s.2.2.2.2.2.2.1 s.2.2.2.2.2.2.2.1 s.2.2.2.2.2.2.2.2) n (fun i s => s.1 = nI (mnyI a d i).1 ∧ s.2.2.2.2.1 = nI (mnyI a d i).2.1 ∧ s.2.2.2.2.2.1 = nI (mnyI a d i).2.2.1 ∧ s.2.2.2.2.2.2.1 = nI (mnyI a d i).2.2.2.1 ∧ ∀ b, b < a 0 2 → s.2.2.2.2.2.2.2.2 b = nI ((mnyI a d i).2.2.2.2 b)) (fun o => ∃ z1 z2 z3 z4 zl zc, o = some (z1, z2, z3, z4, nI (mnyI a d n).2.1, nI (mnyI a d n).2.2.1, nI (mnyI a d n).2.2.2.1, zl, zc) ∧ ∀ b, b < a 0 2 → zc b = nI ((mnyI a d n).2.2.2.2 b)) ?_ ?_ n 0 (nI d, x2, x3, x4, 0, 0, 0, fl, cr) fuelN (by omega) ⟨rfl, rfl, rfl, rfl, hcr⟩ (fuel_gt (by omega))
    · intro f i s hi hs
      obtain ⟨y1, y2, y3, y4, y5, y6, y7, y8, y9⟩ := s
      obtain ⟨e1, e2, e3, e4, e5⟩ := hs
      have e1 : y1 = nI (mnyI a d i).1 := e1
      have e2 : y5 = nI (mnyI a d i).2.1 := e2
      have e3 : y6 = nI (mnyI a d i).2.2.1 := e3
      have e4 : y7 = nI (mnyI a d i).2.2.2.1 := e4
      have e5 : ∀ b, b < a 0 2 → y9 b = nI ((mnyI a d i).2.2.2.2 b) := e5
      subst e1; subst e2; subst e3; subst e4
      have hmd := mny_ok ok hd i
      rw [mnyI_s]
      generalize mnyI a d i = m at *
      obtain ⟨fl', ef, -⟩ := fightC ok rc ra hmd (nI m.1) y2 y3 y4 y8
      obtain ⟨-, g2, g3, g4, -⟩ := fg_ok ok hmd (a 0 2) (Nat.le_refl _)
      have g2 : (fgN a m.1).2.1 ≤ 60 * a 0 2 := g2
      have g3 : (fgN a m.1).2.2.1 ≤ 60 * a 0 2 := g3
      have g4 : (fgN a m.1).2.2.2.1 < 2 ^ a 0 2 := g4
      show ∃ s' : Int32 × Int32 × Int32 × Int32 × Int32 × Int32 × Int32 × (Nat → Int32) × (Nat → Int32), _ ∧ f_X0_fightMany_b48 (nI (a 0 1)) (nI (a 0 2)) wh kd md (nI (a 0 3)) (nI (a 0 4)) st at' wd (nI n) (f_X0_fightMany_L48 (nI (a 0 1)) (nI (a 0 2)) wh kd md (nI (a 0 3)) (nI (a 0 4)) st at' wd (nI n) f) (nI i) (nI m.1) y2 y3 y4 (nI m.2.1) (nI m.2.2.1) (nI m.2.2.2.1) y8 y9 = _
      unfold f_X0_fightMany_b48
      rw [if_neg (nI_ge hi (by omega)), ef, bd5_s]
      have key : ∀ t : Nat, (t = if (fgN a m.1).2.1 ≤ (fgN a m.1).2.2.1 then 0 else 1) → ∃ s' : Int32 × Int32 × Int32 × Int32 × Int32 × Int32 × Int32 × (Nat → Int32) × (Nat → Int32), (s'.1 = nI (mnyS a i m).1 ∧ s'.2.2.2.2.1 = nI (mnyS a i m).2.1 ∧ s'.2.2.2.2.2.1 = nI (mnyS a i m).2.2.1 ∧ s'.2.2.2.2.2.2.1 = nI (mnyS a i m).2.2.2.1 ∧ ∀ b, b < a 0 2 → s'.2.2.2.2.2.2.2.2 b = nI ((mnyS a i m).2.2.2.2 b)) ∧ f_X0_fightMany_B108 (f_X0_fightMany_L48 (nI (a 0 1)) (nI (a 0 2)) wh kd md (nI (a 0 3)) (nI (a 0 4)) st at' wd (nI n) f) (nI (a 0 1)) (nI (a 0 2)) wh kd md (nI (a 0 3)) (nI (a 0 4)) st at' wd (nI n) (nI i) (nI m.2.2.2.1) (nI t) (nI (fgN a m.1).1) (nI (fgN a m.1).2.1) (nI (fgN a m.1).2.2.1) (nI (fgN a m.1).2.2.2.1) (nI m.2.1 + nI (fgN a m.1).2.1) (nI m.2.2.1 + nI (fgN a m.1).2.2.1) (nI m.2.2.2.1) fl' y9 = f_X0_fightMany_L48 (nI (a 0 1)) (nI (a 0 2)) wh kd md (nI (a 0 3)) (nI (a 0 4)) st at' wd (nI n) f (nI (i + 1)) s'.1 s'.2.1 s'.2.2.1 s'.2.2.2.1 s'.2.2.2.2.1 s'.2.2.2.2.2.1 s'.2.2.2.2.2.2.1 s'.2.2.2.2.2.2.2.1 s'.2.2.2.2.2.2.2.2 := by
        intro t ht
        unfold f_X0_fightMany_B108
        rw [nI_add, nI_add, nI_add]
        refine loopR (fun f' j w => f_X0_fightMany_L115 (f_X0_fightMany_L48 (nI (a 0 1)) (nI (a 0 2)) wh kd md (nI (a 0 3)) (nI (a 0 4)) st at' wd (nI n) f) (nI (a 0 1)) (nI (a 0 2)) wh kd md (nI (a 0 3)) (nI (a 0 4)) st at' wd (nI n) (nI i) (nI (fgN a m.1).1) (nI (fgN a m.1).2.1) (nI (fgN a m.1).2.2.1) (nI (fgN a m.1).2.2.2.1) (nI (m.2.1 + (fgN a m.1).2.1)) (nI (m.2.2.1 + (fgN a m.1).2.2.1)) (nI (m.2.2.2.1 + t)) fl' f' (nI j) w) (a 0 2) (fun j w => (∀ b, b < j → w b = nI (m.2.2.2.2 b + (fgN a m.1).2.2.2.1 / 2 ^ b % 2)) ∧ ∀ b, j ≤ b → b < a 0 2 → w b = nI (m.2.2.2.2 b)) (fun o => ∃ s' : Int32 × Int32 × Int32 × Int32 × Int32 × Int32 × Int32 × (Nat → Int32) × (Nat → Int32), (s'.1 = nI (mnyS a i m).1 ∧ s'.2.2.2.2.1 = nI (mnyS a i m).2.1 ∧ s'.2.2.2.2.2.1 = nI (mnyS a i m).2.2.1 ∧ s'.2.2.2.2.2.2.1 = nI (mnyS a i m).2.2.2.1 ∧ ∀ b, b < a 0 2 → s'.2.2.2.2.2.2.2.2 b = nI ((mnyS a i m).2.2.2.2 b)) ∧ o = f_X0_fightMany_L48 (nI (a 0 1)) (nI (a 0 2)) wh kd md (nI (a 0 3)) (nI (a 0 4)) st at' wd (nI n) f (nI (i + 1)) s'.1 s'.2.1 s'.2.2.1 s'.2.2.2.1 s'.2.2.2.2.1 s'.2.2.2.2.2.1 s'.2.2.2.2.2.2.1 s'.2.2.2.2.2.2.2.1 s'.2.2.2.2.2.2.2.2) ?_ ?_ (a 0 2) 0 y9 fuelN (by omega) ⟨by intro b hb; omega, fun b _ hb => e5 b hb⟩ (fuel_gt (by omega))
        · intro f' j w hj hw
          refine ⟨upd w j (nI (m.2.2.2.2 j + (fgN a m.1).2.2.2.1 / 2 ^ j % 2)), ⟨?_, ?_⟩, ?_⟩
          · intro b hb
            by_cases q : b = j
            · subst q; exact pk_us
            · rw [pk_un q]; exact hw.1 b (by omega)
          · intro b hb hb2
            rw [pk_un (by omega)]; exact hw.2 b (by omega) hb2
          · show f_X0_fightMany_b115 _ _ _ _ _ _ _ _ _ _ _ _ _ _ _ _ _ _ _ _ _ _ _ _ = _
            unfold f_X0_fightMany_b115
            rw [if_neg (nI_ge hj (by omega)), gI (by omega) (by decide), gI (by omega) (by decide), nI_1, nI_clamp (by omega), hw.2 j (Nat.le_refl _) hj, bitN (by omega) (by omega), nI_add]
        · intro f' w hw
          refine ⟨(nI (fgN a m.1).1, nI (fgN a m.1).2.1, nI (fgN a m.1).2.2.1, nI (fgN a m.1).2.2.2.1, nI (m.2.1 + (fgN a m.1).2.1), nI (m.2.2.1 + (fgN a m.1).2.2.1), nI (m.2.2.2.1 + t), fl', w), ⟨rfl, rfl, rfl, by rw [ht]; rfl, hw.1⟩, ?_⟩
          show f_X0_fightMany_b115 _ _ _ _ _ _ _ _ _ _ _ _ _ _ _ _ _ _ _ _ _ _ _ _ = _
          unfold f_X0_fightMany_b115 f_X0_fightMany_B152
          rw [if_pos (nI_le (Nat.le_refl _) (by omega)), nI_1]
      have el : nI (fgN a m.1).2.1 ≤ nI (fgN a m.1).2.2.1 ↔ (fgN a m.1).2.1 ≤ (fgN a m.1).2.2.1 := nI_leI (by omega) (by omega)
      by_cases q : (fgN a m.1).2.1 ≤ (fgN a m.1).2.2.1
      · rw [if_pos (el.mpr q)]
        exact key 0 (by rw [if_pos q])
      · rw [if_neg (fun h => q (el.mp h))]
        exact key 1 (by rw [if_neg q])
    · intro f s hs
      obtain ⟨y1, y2, y3, y4, y5, y6, y7, y8, y9⟩ := s
      obtain ⟨e1, e2, e3, e4, e5⟩ := hs
      refine ⟨y1, y2, y3, y4, y8, y9, ?_, e5⟩
      show f_X0_fightMany_b48 _ _ _ _ _ _ _ _ _ _ _ _ _ _ _ _ _ _ _ _ _ _ = _
      unfold f_X0_fightMany_b48
      rw [if_pos (nI_le (Nat.le_refl _) (by omega))]
      rw [show y5 = nI (mnyI a d n).2.1 from e2, show y6 = nI (mnyI a d n).2.2.1 from e3, show y7 = nI (mnyI a d n).2.2.2.1 from e4]
  unfold f_X0_fightMany
  refine loopR (fun f i s => f_X0_fightMany_L17 (nI (a 0 1)) (nI (a 0 2)) wh kd md (nI (a 0 3)) (nI (a 0 4)) st at' wd (nI d) (nI n) x1 x2 x3 x4 0 0 0 fl f (nI i) s) (a 0 2) (fun i s => ∀ b, b < i → s b = nI 0) (fun o => ∃ z1 z2 z3 z4 zl zc, o = some (z1, z2, z3, z4, nI (mnyI a d n).2.1, nI (mnyI a d n).2.2.1, nI (mnyI a d n).2.2.2.1, zl, zc) ∧ ∀ b, b < a 0 2 → zc b = nI ((mnyI a d n).2.2.2.2 b)) ?_ ?_ (a 0 2) 0 cr fuelN (by omega) (by intro b hb; omega) (fuel_gt (by omega))
  · intro f i s hi hs
    refine ⟨upd s i 0, ?_, ?_⟩
    · intro b hb
      by_cases q : b = i
      · subst q; exact pk_us
      · rw [pk_un q]; exact hs b (by omega)
    · show f_X0_fightMany_b17 _ _ _ _ _ _ _ _ _ _ _ _ _ _ _ _ _ _ _ _ _ _ _ = _
      unfold f_X0_fightMany_b17
      rw [if_neg (nI_ge hi (by omega)), gI (by omega) (by decide), nI_1, nI_clamp (by omega)]
  · intro f s hs
    obtain ⟨z1, z2, z3, z4, zl, zc, e, hz⟩ := step2 s hs
    refine ⟨z1, z2, z3, z4, zl, zc, ?_, hz⟩
    show f_X0_fightMany_b17 _ _ _ _ _ _ _ _ _ _ _ _ _ _ _ _ _ _ _ _ _ _ _ = _
    unfold f_X0_fightMany_b17 f_X0_fightMany_B41
    rw [if_pos (nI_le (Nat.le_refl _) (by omega))]
    exact e
theorem triesM (v x : Nat → Int32) : ∃ g, f_X13_tries v x = some g ∧ ∀ j, j < 19 → g j = v j := by
  unfold f_X13_tries
  refine loopR (fun f i s => f_X13_tries_L2 v f (nI i) s) 19 (fun i s => ∀ b, b < i → s b = v b) (fun o => ∃ g, o = some g ∧ ∀ j, j < 19 → g j = v j) ?_ ?_ 19 0 x fuelN (by omega) (by intro b hb; omega) (fuel_gt (by omega))
  · intro f i s hi hs
    refine ⟨upd s i (v i), ?_, ?_⟩
    · intro b hb
      by_cases q : b = i
      · subst q; exact pk_us
      · rw [pk_un q]; exact hs b (by omega)
    · show f_X13_tries_b2 _ _ _ _ = _
      unfold f_X13_tries_b2
      rw [if_neg (show ¬ (19 : Int32) ≤ nI i from nI_ge (b := 19) hi (by decide)), gI hi (by decide), gI hi (by decide), nI_1, nI_clamp (by omega)]
  · intro f s hs
    refine ⟨s, ?_, hs⟩
    show f_X13_tries_b2 _ _ _ _ = _
    unfold f_X13_tries_b2
    rw [if_pos (by decide)]
theorem manyM (ok : okA a) (rm : rMo a wh' kd' md' v) {d n p : Nat} (hd : d < 65537) (hn : n ≤ 90) (hp : p < a 0 2) (x1 x2 x3 x4 x5 x6 x7 : Int32) (x : Nat → Int32) : ∃ z1 z2 z3 zx, f_X13_fightsAll x1 x2 x3 x4 x5 x6 x7 v x (nI (a 0 1)) (nI (a 0 2)) wh' kd' md' (nI d) (nI n) (nI p) = some (z1, z2, z3, nI (mnyI a d n).2.1, nI (mnyI a d n).2.2.1, nI (mnyI a d n).2.2.2.1, nI ((mnyI a d n).2.2.2.2 p), zx) := by
  have h1 := ok.1
  have h32 := pow32 ok
  obtain ⟨rw', rk, rmo, rv⟩ := rm
  unfold f_X13_fightsAll
  refine loopR (fun f i (s : Int32 × Int32 × Int32 × Int32 × Int32 × Int32 × Int32 × Int32 × (Nat → Int32)) => f_X13_fightsAll_L26 v (nI (a 0 1)) (nI (a 0 2)) wh' kd' md' (nI n) (nI p) f s.1 (nI i) s.2.1 s.2.2.1 s.2.2.2.1 s.2.2.2.2.1 s.2.2.2.2.2.1 s.2.2.2.2.2.2.1 s.2.2.2.2.2.2.2.1 s.2.2.2.2.2.2.2.2) n (fun i s => s.1 = nI (mnyI a d i).1 ∧ s.2.2.2.2.1 = nI (mnyI a d i).2.1 ∧ s.2.2.2.2.2.1 = nI (mnyI a d i).2.2.1 ∧ s.2.2.2.2.2.2.1 = nI (mnyI a d i).2.2.2.1 ∧ s.2.2.2.2.2.2.2.1 = nI ((mnyI a d i).2.2.2.2 p)) (fun o => ∃ z1 z2 z3 zx, o = some (z1, z2, z3, nI (mnyI a d n).2.1, nI (mnyI a d n).2.2.1, nI (mnyI a d n).2.2.2.1, nI ((mnyI a d n).2.2.2.2 p), zx)) ?_ ?_ n 0 (nI d, x1, x2, x3, 0, 0, 0, 0, x) fuelN (by omega) ⟨rfl, rfl, rfl, rfl, rfl⟩ (fuel_gt (by omega))
  · intro f i s hi hs
    obtain ⟨y1, y2, y3, y4, y5, y6, y7, y8, y9⟩ := s
    obtain ⟨e1, e2, e3, e4, e5⟩ := hs
    have e1 : y1 = nI (mnyI a d i).1 := e1
    have e2 : y5 = nI (mnyI a d i).2.1 := e2
    have e3 : y6 = nI (mnyI a d i).2.2.1 := e3
    have e4 : y7 = nI (mnyI a d i).2.2.2.1 := e4
    have e5 : y8 = nI ((mnyI a d i).2.2.2.2 p) := e5
    subst e1; subst e2; subst e3; subst e4; subst e5
    have hmd := mny_ok ok hd i
    rw [mnyI_s]
    generalize mnyI a d i = m at *
    obtain ⟨g, eg, hg⟩ := triesM v y9
    obtain ⟨row', ef, er, -⟩ := fightMM ok rw' rk rmo rv hmd y2 y3 y4 (row := upd g 18 (nI m.1)) ⟨pk_us, fun j hj => by rw [pk_un (by omega), hg j (by omega)]; exact rv.2.2.2.1 j hj, fun l hl => by rw [pk_un (by omega), hg _ (by omega)]; exact rv.2.2.2.2.2 l hl⟩
    obtain ⟨-, g2, g3, g4, -⟩ := fg_ok ok hmd (a 0 2) (Nat.le_refl _)
    have g2 : (fgN a m.1).2.1 ≤ 60 * a 0 2 := g2
    have g3 : (fgN a m.1).2.2.1 ≤ 60 * a 0 2 := g3
    have g4 : (fgN a m.1).2.2.2.1 < 2 ^ a 0 2 := g4
    show ∃ s' : Int32 × Int32 × Int32 × Int32 × Int32 × Int32 × Int32 × Int32 × (Nat → Int32), _ ∧ f_X13_fightsAll_b26 _ _ _ _ _ _ _ _ _ _ _ _ _ _ _ _ _ _ _ = _
    unfold f_X13_fightsAll_b26
    rw [if_neg (nI_ge hi (by omega)), eg, bd1_s, c18, ef, bd4_s]
    have el : nI (fgN a m.1).2.1 ≤ nI (fgN a m.1).2.2.1 ↔ (fgN a m.1).2.1 ≤ (fgN a m.1).2.2.1 := nI_leI (by omega) (by omega)
    have er : row' 18 = nI (fgN a m.1).1 := er
    unfold f_X13_fightsAll_B109 f_X13_fightsAll_B134
    rw [er, bitM (by omega) (by omega), bd1_s, nI_1, nI_add, nI_add]
    refine ⟨(nI (fgN a m.1).1, nI (fgN a m.1).2.1, nI (fgN a m.1).2.2.1, nI (fgN a m.1).2.2.2.1, nI (m.2.1 + (fgN a m.1).2.1), nI (m.2.2.1 + (fgN a m.1).2.2.1), nI (m.2.2.2.1 + (if (fgN a m.1).2.1 ≤ (fgN a m.1).2.2.1 then 0 else 1)), nI (m.2.2.2.2 p + (fgN a m.1).2.2.2.1 / 2 ^ p % 2), row'), ⟨rfl, rfl, rfl, rfl, rfl⟩, ?_⟩
    rw [bit_mod]
    by_cases q : (fgN a m.1).2.1 ≤ (fgN a m.1).2.2.1
    · rw [if_pos (el.mpr q), if_pos q]
      cases bit (fgN a m.1).2.2.2.1 p
      · rw [selF, show (0 : Int32) = nI 0 from rfl, nI_add, nI_add]; rfl
      · rw [selT, show (0 : Int32) = nI 0 from rfl, show (1 : Int32) = nI 1 from rfl, nI_add, nI_add]; rfl
    · rw [if_neg (fun h => q (el.mp h)), if_neg q, bd1_s]
      cases bit (fgN a m.1).2.2.2.1 p
      · rw [selF, show (0 : Int32) = nI 0 from rfl, show (1 : Int32) = nI 1 from rfl, nI_add, nI_add]; rfl
      · rw [selT, show (1 : Int32) = nI 1 from rfl, nI_add, nI_add]; rfl
  · intro f s hs
    obtain ⟨y1, y2, y3, y4, y5, y6, y7, y8, y9⟩ := s
    obtain ⟨e1, e2, e3, e4, e5⟩ := hs
    refine ⟨y2, y3, y4, y9, ?_⟩
    show f_X13_fightsAll_b26 _ _ _ _ _ _ _ _ _ _ _ _ _ _ _ _ _ _ _ = _
    unfold f_X13_fightsAll_b26
    rw [if_pos (nI_le (Nat.le_refl _) (by omega))]
    rw [show y5 = nI (mnyI a d n).2.1 from e2, show y6 = nI (mnyI a d n).2.2.1 from e3, show y7 = nI (mnyI a d n).2.2.2.1 from e4, show y8 = nI ((mnyI a d n).2.2.2.2 p) from e5]
/-- are battles refused -/
theorem batT (x y : Int32) : (f_X11_battlesTrouble 1 x y = some 2 ∧ f_X13_refusesBattles 1 x y = some 2) ∨ ∃ d n, d < 65537 ∧ n ≤ 90 ∧ x = nI d ∧ y = nI n ∧ f_X11_battlesTrouble 1 x y = some 0 ∧ f_X13_refusesBattles 1 x y = some 0 := by
  unfold f_X11_battlesTrouble f_X13_refusesBattles f_X11_battlesTrouble_B27
  rw [if_neg (by decide), if_neg (by decide)]
  rcases outIn x 0 65536 with ⟨e1, e2, h3, h4⟩ | ⟨e1, e2⟩
  · obtain ⟨d, hd, rfl⟩ := nI_of2 (M := 65536) (n := 65536) rfl h3 h4
    rw [e1, e2, bd1_s, bd1_s, if_pos rfl, if_neg (by decide)]
    rcases outIn y 1 90 with ⟨f1, f2, g3, g4⟩ | ⟨f1, f2⟩
    · have g0 : ¬ y < 0 := fun h => g3 (Int32.lt_trans h (by decide))
      obtain ⟨n, hn, rfl⟩ := nI_of2 (M := 90) (n := 90) rfl g0 g4
      rw [f1, f2, bd1_s, bd1_s]
      exact Or.inr ⟨d, n, by omega, hn, rfl, rfl, rfl, rfl⟩
    · rw [f1, f2, bd1_s, bd1_s]
      exact Or.inl ⟨rfl, rfl⟩
  · rw [e1, e2, bd1_s, bd1_s]
    exact Or.inl ⟨rfl, rfl⟩
theorem q_battles (ok : okA a) (rc : rCl a wh kd md st wd) (ra : rI (a 0 2) at' (a 5)) (rm : rMo a wh' kd' md' v) (p1 p2 : Int32) (own : Bool) (rf x1 x2 x3 x4 x5 x6 x7 : Int32) (fl cr : Nat → Int32) (th tr wr w1 w2 w3 w4 w5 w6 w7 : Int32) (xx : Nat → Int32) : ∃ r t y1 y2 y3 y4 y5 y6 y7 y8 y9 z1 z2 z3 z4 z5 z6 z7 z8, f_X11_battles rf (nI (a 0 0)) (nI (a 0 1)) (nI (a 0 2)) wh kd md (nI (a 0 3)) (nI (a 0 4)) st at' wd x1 x2 x3 x4 x5 x6 x7 fl cr p1 p2 (if own then 1 else 0) = some (r, t, y1, y2, y3, y4, y5, y6, y7, y8, y9) ∧ f_X13_battles th tr wr w1 w2 w3 w4 w5 w6 w7 v xx (nI (a 0 1)) (nI (a 0 2)) wh' kd' md' p1 p2 (if own then 1 else 0) = some (r, 0, t, -1, z1, z2, z3, z4, z5, z6, z7, z8) ∧ ¬ t = 4 := by
  have h1 := ok.1
  unfold f_X11_battles f_X13_battles f_X13_battles_B60
  rw [(warT (n := a 0 0) (by omega) (by omega)).2, bd1_s]
  rcases batT p1 p2 with ⟨e1, e2⟩ | ⟨d, n, hd, hn, rfl, rfl, e1, e2⟩
  · rw [e1, e2, bd1_s, bd1_s]
    exact ⟨-1, 2, _, _, _, _, _, _, _, _, _, _, _, _, _, _, _, _, _, rfl, rfl, by decide⟩
  · obtain ⟨z1, z2, z3, z4, zl, zc, ec, hz⟩ := manyC ok rc ra hd hn x1 x2 x3 x4 x5 x6 x7 fl cr
    obtain ⟨u1, u2, u3, ux, em⟩ := manyM (p := 0) ok rm hd hn (by omega) w1 w2 w3 w4 w5 w6 w7 xx
    rw [e1, e2, bd1_s, bd1_s, refF, bd2_s, if_pos rfl, if_pos (show (0 : Int32) ≤ 0 by decide), ec, bd9_s, show (0 : Int32) = nI 0 from rfl, em, bd8_s, show nI 0 = (0 : Int32) from rfl]
    cases own
    · exact ⟨_, 0, _, _, _, _, _, _, _, _, _, _, _, _, _, _, _, _, _, rfl, rfl, by decide⟩
    · exact ⟨_, 0, _, _, _, _, _, _, _, _, _, _, _, _, _, _, _, _, _, rfl, rfl, by decide⟩
theorem q_won (ok : okA a) (rc : rCl a wh kd md st wd) (ra : rI (a 0 2) at' (a 5)) (rm : rMo a wh' kd' md' v) (p1 p2 : Int32) (rf x1 x2 x3 x4 x5 x6 x7 : Int32) (fl cr : Nat → Int32) (th tr wr w1 w2 w3 w4 w5 w6 w7 : Int32) (xx : Nat → Int32) : ∃ r t y1 y2 y3 y4 y5 y6 y7 y8 y9 z1 z2 z3 z4 z5 z6 z7 z8, f_X11_won rf (nI (a 0 0)) (nI (a 0 1)) (nI (a 0 2)) wh kd md (nI (a 0 3)) (nI (a 0 4)) st at' wd x1 x2 x3 x4 x5 x6 x7 fl cr p1 p2 = some (r, t, y1, y2, y3, y4, y5, y6, y7, y8, y9) ∧ f_X13_won th tr wr w1 w2 w3 w4 w5 w6 w7 v xx (nI (a 0 1)) (nI (a 0 2)) wh' kd' md' p1 p2 = some (r, 0, t, -1, z1, z2, z3, z4, z5, z6, z7, z8) ∧ ¬ t = 4 := by
  have h1 := ok.1
  unfold f_X11_won f_X13_won
  rw [(warT (n := a 0 0) (by omega) (by omega)).2, bd1_s]
  rcases batT p1 p2 with ⟨e1, e2⟩ | ⟨d, n, hd, hn, rfl, rfl, e1, e2⟩
  · rw [e1, e2, bd1_s, bd1_s]
    exact ⟨-1, 2, _, _, _, _, _, _, _, _, _, _, _, _, _, _, _, _, _, rfl, rfl, by decide⟩
  · obtain ⟨z1, z2, z3, z4, zl, zc, ec, hz⟩ := manyC ok rc ra hd hn x1 x2 x3 x4 x5 x6 x7 fl cr
    obtain ⟨u1, u2, u3, ux, em⟩ := manyM (p := 0) ok rm hd hn (by omega) w1 w2 w3 w4 w5 w6 w7 xx
    rw [e1, e2, bd1_s, bd1_s, refF, bd2_s, if_pos rfl, if_pos (show (0 : Int32) ≤ 0 by decide), ec, bd9_s, show (0 : Int32) = nI 0 from rfl, em, bd8_s, show nI 0 = (0 : Int32) from rfl]
    exact ⟨_, 0, _, _, _, _, _, _, _, _, _, _, _, _, _, _, _, _, _, rfl, rfl, by decide⟩
theorem q_acrossIn (ok : okA a) (rc : rCl a wh kd md st wd) (ra : rI (a 0 2) at' (a 5)) (rm : rMo a wh' kd' md' v) (p1 p2 p3 : Int32) (rf x1 x2 x3 x4 x5 x6 x7 : Int32) (fl cr : Nat → Int32) (th tr wr w1 w2 w3 w4 w5 w6 w7 : Int32) (xx : Nat → Int32) : ∃ r t y1 y2 y3 y4 y5 y6 y7 y8 y9 z1 z2 z3 z4 z5 z6 z7 z8, f_X11_acrossIn rf (nI (a 0 1)) (nI (a 0 2)) wh kd md (nI (a 0 3)) (nI (a 0 4)) st at' wd x1 x2 x3 x4 x5 x6 x7 fl cr p1 p2 p3 = some (r, t, y1, y2, y3, y4, y5, y6, y7, y8, y9) ∧ f_X13_acrossIn th tr wr w1 w2 w3 w4 w5 w6 w7 v xx (nI (a 0 1)) (nI (a 0 2)) wh' kd' md' p1 p2 p3 = some (r, 0, t, -1, z1, z2, z3, z4, z5, z6, z7, z8) ∧ ¬ t = 4 := by
  have h1 := ok.1
  unfold f_X11_acrossIn f_X13_acrossIn
  rcases ix2 p1 (n := a 0 2) (by omega) with h | ⟨j, hj, rfl⟩
  · have := hbN h
    rw [this.1, this.2.2.2.1, bd1_s, bd1_s]
    exact ⟨-1, 1, _, _, _, _, _, _, _, _, _, _, _, _, _, _, _, _, _, rfl, rfl, by decide⟩
  · have hx := hbY (n := a 0 2) (by omega) hj
    rw [hx.1, hx.2.2.2.1, bd1_s, bd1_s]
    rcases batT p2 p3 with ⟨e1, e2⟩ | ⟨d, n, hd, hn, rfl, rfl, e1, e2⟩
    · rw [e1, e2, bd1_s, bd1_s]
      exact ⟨-1, 2, _, _, _, _, _, _, _, _, _, _, _, _, _, _, _, _, _, rfl, rfl, by decide⟩
    · obtain ⟨z1, z2, z3, z4, zl, zc, ec, hz⟩ := manyC ok rc ra hd hn x1 x2 x3 x4 x5 x6 x7 fl cr
      obtain ⟨u1, u2, u3, ux, em⟩ := manyM (p := j) ok rm hd hn hj w1 w2 w3 w4 w5 w6 w7 xx
      rw [e1, e2, bd1_s, bd1_s, refF, bd2_s, if_pos rfl, if_pos (show (0 : Int32) ≤ 0 by decide), ec, bd9_s, em, bd8_s, gI (by omega) (by decide), nI_clamp (by omega), hz j hj]
      exact ⟨_, 0, _, _, _, _, _, _, _, _, _, _, _, _, _, _, _, _, _, rfl, rfl, by decide⟩
end BD
