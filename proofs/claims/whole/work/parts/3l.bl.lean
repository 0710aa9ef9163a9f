/-! BL: reach, feed -/
def fbyte (x s : Int32) : Int32 := vp_nar .byte ((x >>> (s &&& 31)).toInt8.toInt32)
def fsel (p1 p2 p3 p4 p5 : Int32) (k : Nat) : Int32 := if k < 4 then p1 else if k < 8 then p2 else if k < 12 then p3 else if k < 16 then p4 else p5
def fdS (p1 p2 p3 p4 p5 : Int32) (n k : Nat) (tp : Nat → Int32) : Nat → Int32 := upd tp (n + k) (fbyte (fsel p1 p2 p3 p4 p5 k) (nI (24 - 8 * (k % 4))))
theorem appC {n : Nat} (hn : n + 4 ≤ 900) (tp : Nat → Int32) (x : Int32) : f_X11_append (nI n) tp x = some (nI (n + 4), upd (upd (upd (upd tp n (fbyte x 24)) (n + 1) (fbyte x 16)) (n + 2) (fbyte x 8)) (n + 3) (fbyte x 0)) := by
  unfold f_X11_append
  obtain ⟨f, hf⟩ : ∃ f, fuelN = f + 5 := ⟨fuelN - 5, by have := fuelN_ge; omega⟩
  rw [hf]
  have st : ∀ g (s : Int32) (m : Nat) (tp : Nat → Int32), ¬ s < 0 → m < 900 → f_X11_append_L3 x (g + 1) s (nI m) tp = f_X11_append_L3 x g (s + (-8)) (nI (m + 1)) (upd tp m (fbyte x s)) := by
    intro g s m tp hs hm
    show f_X11_append_b3 _ _ _ _ _ = _
    unfold f_X11_append_b3 f_X11_append_B42
    rw [if_neg hs, if_neg (show ¬ (900 : Int32) ≤ nI m from nI_ge (b := 900) hm (by decide)), gI hm (by decide), nI_1, nI_clamp (by omega)]
    rfl
  rw [st (f + 4) 24 n tp (by decide) (by omega), show (24 : Int32) + (-8) = 16 from rfl, st (f + 3) 16 (n + 1) _ (by decide) (by omega), show (16 : Int32) + (-8) = 8 from rfl, st (f + 2) 8 (n + 1 + 1) _ (by decide) (by omega), show (8 : Int32) + (-8) = 0 from rfl, st (f + 1) 0 (n + 1 + 1 + 1) _ (by decide) (by omega)]
  show f_X11_append_b3 _ _ _ _ _ = _
  unfold f_X11_append_b3
  rw [if_pos (by decide)]
theorem q_feed {n : Nat} (hn : n ≤ 900) (tp : Nat → Int32) (p1 p2 p3 p4 p5 th : Int32) : ∃ r n' tp', n' ≤ 900 ∧ f_X11_feed (nI n) tp p1 p2 p3 p4 p5 = some (r, nI n', tp') ∧ f_X13_feed th (nI n) tp p1 p2 p3 p4 p5 = some (r, 0, nI n', tp') := by
  unfold f_X11_feed f_X13_feed
  have e : nI n + 20 ≤ 900 ↔ n + 20 ≤ 900 := by
    rw [show (20 : Int32) = nI 20 from rfl, nI_add]
    exact nI_leI (b := 900) (by omega) (by decide)
  by_cases q : n + 20 ≤ 900
  · rw [if_pos (e.mpr q), if_pos (e.mpr q), appC (by omega), bd2_s, appC (by omega), bd2_s, appC (by omega), bd2_s, appC (by omega), bd2_s, appC (by omega), bd2_s]
    refine ⟨nI (n + 20), n + 20, itN (fdS p1 p2 p3 p4 p5 n) 20 0 tp, q, rfl, ?_⟩
    refine (loopN (fun f k tp => f_X13_feed_L23 p1 p2 p3 p4 p5 0 f (nI k) (nI (n + k)) tp) 20 (fdS p1 p2 p3 p4 p5 n) (fun _ _ => True) (fun tp => some (nI (n + 20), 0, nI (n + 20), tp)) ?_ ?_ 20 0 tp fuelN (by omega) trivial (fuel_gt (by omega))).1
    · intro f k tp hk _
      refine ⟨trivial, ?_⟩
      have sh : ∀ k, k < 20 → (24 : Int32) - 8 * (nI k - nI k / 4 * 4) = nI (24 - 8 * (k % 4)) := by decide +kernel
      show f_X13_feed_b23 _ _ _ _ _ _ _ _ _ _ = _
      unfold f_X13_feed_b23 f_X13_feed_B76 fdS fsel fbyte
      have g9 : ∀ {α : Type} (x : Option α), gIn (nI (n + k)) 900 x = x := fun x => gI (by omega) (by decide)
      simp only [g9]
      rw [if_neg (show ¬ (20 : Int32) ≤ nI k from nI_ge (b := 20) hk (by decide)), nI_clamp (show n + k < 2 ^ 31 by omega), nI_1, nI_1, sh k hk]
      have c4 : (4 : Int32) ≤ nI k ↔ 4 ≤ k := nI_leI (a := 4) (by decide) (by omega)
      have c8 : (8 : Int32) ≤ nI k ↔ 8 ≤ k := nI_leI (a := 8) (by decide) (by omega)
      have c12 : (12 : Int32) ≤ nI k ↔ 12 ≤ k := nI_leI (a := 12) (by decide) (by omega)
      have c16 : (16 : Int32) ≤ nI k ↔ 16 ≤ k := nI_leI (a := 16) (by decide) (by omega)
      by_cases q4 : 4 ≤ k
      · rw [if_pos (c4.mpr q4), if_neg (show ¬ k < 4 by omega)]
        by_cases q8 : 8 ≤ k
        · rw [if_pos (c8.mpr q8), if_neg (show ¬ k < 8 by omega)]
          by_cases q12 : 12 ≤ k
          · rw [if_pos (c12.mpr q12), if_neg (show ¬ k < 12 by omega)]
            by_cases q16 : 16 ≤ k
            · rw [if_pos (c16.mpr q16), if_neg (show ¬ k < 16 by omega)]; rfl
            · rw [if_neg (fun h => q16 (c16.mp h)), if_pos (show k < 16 by omega)]; rfl
          · rw [if_neg (fun h => q12 (c12.mp h)), if_pos (show k < 12 by omega)]; rfl
        · rw [if_neg (fun h => q8 (c8.mp h)), if_pos (show k < 8 by omega)]; rfl
      · rw [if_neg (fun h => q4 (c4.mp h)), if_pos (show k < 4 by omega)]; rfl
    · intro f tp _
      show f_X13_feed_b23 _ _ _ _ _ _ _ _ _ _ = _
      unfold f_X13_feed_b23
      rw [if_pos (by decide)]
  · rw [if_neg (fun h => q (e.mp h)), if_neg (fun h => q (e.mp h))]
    exact ⟨-1, n, tp, hn, rfl, rfl⟩
/-- neighbours -/
def nbS (q : Nat → Nat) (c x s : Nat) : Nat := s ||| (if q (6 * c + x) = 0 then 0 else 2 ^ x)
def rnS (C : Nat) (q : Nat → Nat) (c s : Nat) : Nat := if bit s c then itN (nbS q c) C 0 s else s
def rnN (C : Nat) (q : Nat → Nat) (s : Nat) : Nat := itN (rnS C q) C 0 s
theorem nb_or {q : Nat → Nat} {c : Nat} : ∀ k i s t, itN (nbS q c) k i (s ||| t) = s ||| itN (nbS q c) k i t := by
  intro k
  induction k with
  | zero => intro i s t; rfl
  | succ k ih =>
    intro i s t
    show itN (nbS q c) k (i + 1) (nbS q c i (s ||| t)) = s ||| itN (nbS q c) k (i + 1) (nbS q c i t)
    rw [show nbS q c i (s ||| t) = s ||| nbS q c i t by unfold nbS; rw [Nat.or_assoc], ih]
theorem rn_sub {C : Nat} {q : Nat → Nat} {s c : Nat} : ∃ t, rnS C q c s = s ||| t := by
  unfold rnS
  split
  · refine ⟨itN (nbS q c) C 0 0, ?_⟩
    have := nb_or (q := q) (c := c) C 0 s 0
    rw [Nat.or_zero] at this
    exact this
  · exact ⟨0, (Nat.or_zero s).symm⟩
theorem rnN_sub {C : Nat} {q : Nat → Nat} : ∀ k i s, ∃ t, itN (rnS C q) k i s = s ||| t := by
  intro k
  induction k with
  | zero => intro i s; exact ⟨0, (Nat.or_zero s).symm⟩
  | succ k ih =>
    intro i s
    obtain ⟨t, ht⟩ := rn_sub (C := C) (q := q) (s := s) (c := i)
    obtain ⟨u, hu⟩ := ih (i + 1) (rnS C q i s)
    exact ⟨t ||| u, by show itN (rnS C q) k (i + 1) (rnS C q i s) = _; rw [hu, ht, Nat.or_assoc]⟩
theorem nb_lt {C : Nat} {q : Nat → Nat} {c : Nat} : ∀ k i s, i + k ≤ C → s < 2 ^ C → itN (nbS q c) k i s < 2 ^ C := by
  intro k i s hi hs
  refine it_inv (P := fun s => s < 2 ^ C) (n := C) ?_ k i s hi hs
  intro x s hx hs
  unfold nbS
  split
  · rw [Nat.or_zero]; exact hs
  · exact Nat.or_lt_two_pow hs (Nat.pow_lt_pow_right (by decide) hx)
theorem rn_lt {C : Nat} {q : Nat → Nat} : ∀ k i s, s < 2 ^ C → itN (rnS C q) k i s < 2 ^ C := by
  intro k i s hs
  refine it_inv (P := fun s => s < 2 ^ C) (n := i + k) ?_ k i s (Nat.le_refl _) hs
  intro x s _ hs
  unfold rnS
  split
  · exact nb_lt C 0 s (by omega) hs
  · exact hs
theorem popM' : ∀ s, s < 64 → ∀ t, t < 64 → s ||| t = s ∨ popN s < popN (s ||| t) := by decide +kernel
def rpt (C : Nat) (q : Nat → Nat) : Nat → Nat → Nat
  | 0, s => s
  | k + 1, s => rpt C q k (rnN C q s)
theorem rpt_fix {C : Nat} {q : Nat → Nat} : ∀ k s, rnN C q s = s → rpt C q k s = s := by
  intro k
  induction k with
  | zero => intro s _; rfl
  | succ k ih => intro s h; show rpt C q k (rnN C q s) = s; rw [h]; exact ih s h
theorem rpt_pop {C : Nat} {q : Nat → Nat} (hC : C ≤ 6) : ∀ k s, s < 2 ^ C → rnN C q (rpt C q k s) = rpt C q k s ∨ popN s + k < popN (rnN C q (rpt C q k s)) := by
  have h2 := p2C hC
  intro k
  induction k with
  | zero =>
    intro s hs
    show rnN C q s = s ∨ popN s + 0 < popN (rnN C q s)
    obtain ⟨t, ht⟩ := rnN_sub (C := C) (q := q) C 0 s
    have hl := rn_lt (C := C) (q := q) C 0 s hs
    have e : rnN C q s = s ||| t := ht
    have tl : s ||| t < 64 := by have : itN (rnS C q) C 0 s < 64 := by omega
                                 rw [ht] at this; exact this
    have t64 : t < 64 := Nat.lt_of_le_of_lt Nat.right_le_or tl
    rw [e]
    rcases popM' s (by omega) t t64 with h | h
    · exact Or.inl h
    · exact Or.inr (by omega)
  | succ k ih =>
    intro s hs
    show rnN C q (rpt C q k (rnN C q s)) = rpt C q k (rnN C q s) ∨ popN s + (k + 1) < popN (rnN C q (rpt C q k (rnN C q s)))
    have hl : rnN C q s < 2 ^ C := rn_lt C 0 s hs
    rcases ih (rnN C q s) hl with h | h
    · exact Or.inl h
    · obtain ⟨t, ht⟩ := rnN_sub (C := C) (q := q) C 0 s
      have e : rnN C q s = s ||| t := ht
      have t64 : t < 64 := Nat.lt_of_le_of_lt Nat.right_le_or (by rw [← e]; omega)
      rcases popM' s (by omega) t t64 with g | g
      · left
        have fx : rnN C q s = s := by rw [e, g]
        rw [fx, rpt_fix k s fx, fx]
      · right
        rw [← e] at g
        omega
theorem rpt_all {C : Nat} {q : Nat → Nat} (hC : C ≤ 6) {s : Nat} (hs : s < 2 ^ C) (h1 : 1 ≤ popN s) : rpt C q 6 s = rpt C q C s := by
  have h2 := p2C hC
  have key : ∀ m k s, rpt C q (k + m) s = rpt C q m (rpt C q k s) := by
    intro m k
    induction k with
    | zero => intro s; rw [Nat.zero_add]; rfl
    | succ k ih => intro s; rw [show k + 1 + m = (k + m) + 1 by omega]; show rpt C q (k + m) (rnN C q s) = _; rw [ih]; rfl
  have lt : ∀ k s, s < 2 ^ C → rpt C q k s < 2 ^ C := by
    intro k
    induction k with
    | zero => intro s h; exact h
    | succ k ih => intro s h; exact ih _ (rn_lt C 0 s h)
  have fx : rnN C q (rpt C q C s) = rpt C q C s := by
    rcases rpt_pop hC C s hs with h | h
    · exact h
    · have l := rn_lt (C := C) (q := q) C 0 (rpt C q C s) (lt C s hs)
      have := popL C (by omega) (rnN C q (rpt C q C s)) (by show itN (rnS C q) C 0 (rpt C q C s) < 64; omega) l
      omega
  rw [show 6 = C + (6 - C) by omega, key, rpt_fix _ _ fx]
section BL
variable {C : Nat} {q : Nat → Nat} {pb lo : Nat → Int32}
theorem nbC (h : rCi C q pb lo) {c : Nat} (hc : c < C) : f_X3_neighboursOf (nI C) pb (nI c) = some (nI (itN (nbS q c) C 0 0)) := by
  have hC := h.1
  unfold f_X3_neighboursOf
  refine (loopN (fun f x s => f_X3_neighboursOf_L4 (nI C) pb (nI c) f (nI s) (nI x)) C (nbS q c) (fun _ _ => True) (fun s => some (nI s)) ?_ ?_ C 0 0 fuelN (by omega) trivial (fuel_gt (by omega))).1
  · intro f x s hx _
    refine ⟨trivial, ?_⟩
    have em := m1_iff (h.2 c x hc hx).1
    show f_X3_neighboursOf_b4 _ _ _ _ _ _ = _
    unfold f_X3_neighboursOf_b4 f_X3_neighboursOf_B36 nbS
    rw [if_neg (nI_ge hx (by omega)), lossC h hc hx, bd1_s, shlN (by omega), nI_1, nI_or]
    by_cases q0 : q (6 * c + x) = 0
    · rw [if_pos (em.mpr q0), if_pos q0, show (0 : Int32) = nI 0 from rfl, nI_or]
    · rw [if_neg (fun e => q0 (em.mp e)), if_neg q0]
  · intro f s _
    show f_X3_neighboursOf_b4 _ _ _ _ _ _ = _
    unfold f_X3_neighboursOf_b4
    rw [if_pos (nI_le (Nat.le_refl _) (by omega))]
theorem reachC (h : rCi C q pb lo) : ∀ k i f s, i + k = C → k < f → s < 2 ^ C → f_X3_citiesFrom_L6 (nI C) pb f (nI s) (nI i) = some (nI (rpt C q k s)) := by
  have hC := h.1
  have h2 := p2C hC
  intro k
  induction k with
  | zero =>
    intro i f s hi hf _
    obtain ⟨f, rfl⟩ : ∃ g, f = g + 1 := ⟨f - 1, by omega⟩
    show f_X3_citiesFrom_b6 _ _ _ _ _ = _
    unfold f_X3_citiesFrom_b6
    rw [if_pos (nI_le (by omega) (by omega))]
    rfl
  | succ k ih =>
    intro i f s hi hf hs
    obtain ⟨f, rfl⟩ : ∃ g, f = g + 1 := ⟨f - 1, by omega⟩
    show f_X3_citiesFrom_b6 _ _ _ _ _ = _
    unfold f_X3_citiesFrom_b6
    rw [if_neg (nI_ge (show i < C by omega) (by omega))]
    have := (loopN (fun f' x s => f_X3_citiesFrom_L20 (f_X3_citiesFrom_L6 (nI C) pb f) (nI C) pb (nI i) f' (nI s) (nI x)) C (rnS C q) (fun _ s => s < 2 ^ C) (fun s => f_X3_citiesFrom_L6 (nI C) pb f (nI s) (nI (i + 1))) ?_ ?_ C 0 s fuelN (by omega) hs (fuel_gt (by omega))).1
    · refine (show f_X3_citiesFrom_L20 (f_X3_citiesFrom_L6 (nI C) pb f) (nI C) pb (nI i) fuelN (nI s) 0 = _ from this).trans ?_
      exact ih (i + 1) f _ (by omega) (by omega) (rn_lt C 0 s hs)
    · intro f' x s hx hs
      refine ⟨?_, ?_⟩
      · unfold rnS
        split
        · exact nb_lt C 0 s (by omega) hs
        · exact hs
      · show f_X3_citiesFrom_b20 _ _ _ _ _ _ _ = _
        unfold f_X3_citiesFrom_b20 f_X3_citiesFrom_B53 rnS
        rw [if_neg (nI_ge hx (by omega)), bitN (by omega) (by omega), bit_mod, nbC h hx, bd1_s, nI_or, nI_1]
        cases bit s x with
        | true =>
          rw [if_pos (by decide), if_pos rfl]
          have := nb_or (q := q) (c := x) C 0 s 0
          rw [Nat.or_zero] at this
          rw [this]
        | false =>
          rw [if_neg (by decide), if_neg (by decide), show (0 : Int32) = nI 0 from rfl, nI_or, Nat.or_zero]
    · intro f' s _
      show f_X3_citiesFrom_b20 _ _ _ _ _ _ _ = _
      unfold f_X3_citiesFrom_b20 f_X3_citiesFrom_B61
      rw [if_pos (nI_le (Nat.le_refl _) (by omega)), nI_1]
/-- one step of the reference's round: the pair k -/
def rkS (C : Nat) (q : Nat → Nat) (k s : Nat) : Nat := if k / 6 < C ∧ k % 6 < C ∧ bit s (k / 6) = true ∧ q k ≠ 0 then s ||| 2 ^ (k % 6) else s
theorem rk_row (hC : C ≤ 6) {c : Nat} (hc : c < 6) : ∀ m x s, x + m = 6 → itN (rkS C q) m (6 * c + x) s = if c < C then (if bit s c then itN (nbS q c) (C - x) x s else s) else s := by
  intro m
  induction m with
  | zero =>
    intro x s hx
    rw [show C - x = 0 by omega]
    show s = _
    split
    · split <;> rfl
    · rfl
  | succ m ih =>
    intro x s hx
    show itN (rkS C q) m (6 * c + x + 1) (rkS C q (6 * c + x) s) = _
    rw [show 6 * c + x + 1 = 6 * c + (x + 1) by omega, ih (x + 1) _ (by omega)]
    have d1 : (6 * c + x) / 6 = c := by omega
    have d2 : (6 * c + x) % 6 = x := by omega
    unfold rkS
    rw [d1, d2]
    by_cases qc : c < C
    · rw [if_pos qc, if_pos qc]
      cases hb : bit s c with
      | false =>
        rw [if_neg (show ¬ (c < C ∧ x < C ∧ false = true ∧ q (6 * c + x) ≠ 0) from fun h => by cases h.2.2.1), hb, if_neg (show ¬ false = true by decide)]; rfl
      | true =>
        rw [if_pos rfl]
        by_cases qx : x < C
        · rw [show C - x = (C - (x + 1)) + 1 by omega]
          show _ = itN (nbS q c) (C - (x + 1)) (x + 1) (nbS q c x s)
          unfold nbS
          by_cases q0 : q (6 * c + x) = 0
          · rw [if_neg (show ¬ (c < C ∧ x < C ∧ true = true ∧ q (6 * c + x) ≠ 0) from fun h => h.2.2.2 q0), if_pos q0, Nat.or_zero, hb, if_pos rfl]
          · rw [if_pos (show c < C ∧ x < C ∧ true = true ∧ q (6 * c + x) ≠ 0 from ⟨qc, qx, rfl, q0⟩), if_neg q0, bit_or, hb, Bool.true_or, if_pos rfl]
        · rw [if_neg (show ¬ (c < C ∧ x < C ∧ true = true ∧ q (6 * c + x) ≠ 0) from fun h => qx h.2.1), hb, if_pos rfl, show C - x = 0 by omega, show C - (x + 1) = 0 by omega]
          rfl
    · rw [if_neg qc, if_neg qc, if_neg (fun h => qc h.1)]
theorem rk_all (hC : C ≤ 6) (s : Nat) : itN (rkS C q) 36 0 s = rnN C q s := by
  have row : ∀ c s, c < 6 → itN (rkS C q) 6 (6 * c) s = if c < C then rnS C q c s else s := by
    intro c s hc
    have := rk_row (q := q) hC hc 6 0 s (by omega)
    rw [Nat.add_zero, Nat.sub_zero] at this
    exact this
  have key : ∀ m c s, c + m = 6 → itN (rkS C q) (6 * m) (6 * c) s = itN (fun c s => if c < C then rnS C q c s else s) m c s := by
    intro m
    induction m with
    | zero => intro c s _; rfl
    | succ m ih =>
      intro c s hc
      rw [show 6 * (m + 1) = 6 + 6 * m by omega, it_split, row c s (by omega), show 6 * c + 6 = 6 * (c + 1) by omega, ih (c + 1) _ (by omega)]
      rfl
  have := key 6 0 s (by omega)
  rw [show (36 : Nat) = 6 * 6 from rfl, show (0 : Nat) = 6 * 0 from rfl]
  rw [this]
  unfold rnN
  rw [show 6 = C + (6 - C) by omega, it_split, Nat.zero_add]
  rw [it_skip (6 - C) C _ (fun j s' h1 _ => if_neg (by omega))]
  have cg : ∀ k i s, i + k ≤ C → itN (fun c s => if c < C then rnS C q c s else s) k i s = itN (rnS C q) k i s := by
    intro k
    induction k with
    | zero => intro i s _; rfl
    | succ k ih =>
      intro i s hi
      show itN (fun c s => if c < C then rnS C q c s else s) k (i + 1) (if i < C then rnS C q i s else s) = itN (rnS C q) k (i + 1) (rnS C q i s)
      rw [if_pos (by omega), ih (i + 1) _ (by omega)]
  exact cg C 0 s (by omega)
theorem reachM (h : rCi C q pb lo) (tr wr : Int32) : ∀ k i f s, i + k = 6 → k < f → s < 2 ^ C → f_X13_reach_L25 (nI C) lo 0 tr wr f (nI s) (nI i) = some (nI (rpt C q k s), 0, 0, -1) := by
  have hC := h.1
  have h2 := p2C hC
  intro k
  induction k with
  | zero =>
    intro i f s hi hf _
    obtain ⟨f, rfl⟩ : ∃ g, f = g + 1 := ⟨f - 1, by omega⟩
    have : i = 6 := by omega
    subst this
    show f_X13_reach_b25 _ _ _ _ _ _ _ _ = _
    unfold f_X13_reach_b25 f_X13_reach_B121 f_X13_good
    rw [if_pos (by decide), bd3_s]
    rfl
  | succ k ih =>
    intro i f s hi hf hs
    obtain ⟨f, rfl⟩ : ∃ g, f = g + 1 := ⟨f - 1, by omega⟩
    show f_X13_reach_b25 _ _ _ _ _ _ _ _ = _
    unfold f_X13_reach_b25
    rw [if_neg (show ¬ (6 : Int32) ≤ nI i from nI_ge (b := 6) (by omega) (by decide))]
    have := (loopN (fun f' x s => f_X13_reach_L34 (f_X13_reach_L25 (nI C) lo 0 tr wr f) (nI C) lo (nI i) 0 tr wr f' (nI s) (nI x)) 36 (rkS C q) (fun _ s => s < 2 ^ C) (fun s => f_X13_reach_L25 (nI C) lo 0 tr wr f (nI s) (nI (i + 1))) ?_ ?_ 36 0 s fuelN (by omega) hs (fuel_gt (by omega))).1
    · refine (show f_X13_reach_L34 (f_X13_reach_L25 (nI C) lo 0 tr wr f) (nI C) lo (nI i) 0 tr wr fuelN (nI s) 0 = _ from this).trans ?_
      rw [rk_all hC]
      exact ih (i + 1) f _ (by omega) (by omega) (rn_lt C 0 s hs)
    · intro f' x s hx hs
      refine ⟨?_, ?_⟩
      · unfold rkS
        split
        · next hh => exact Nat.or_lt_two_pow hs (Nat.pow_lt_pow_right (by decide) hh.2.1)
        · exact hs
      · show f_X13_reach_b34 _ _ _ _ _ _ _ _ _ _ = _
        unfold f_X13_reach_b34 f_X13_reach_B109 rkS
        rw [if_neg (show ¬ (36 : Int32) ≤ nI x from nI_ge (b := 36) hx (by decide)), show (6 : Int32) = nI 6 from rfl, pk_rem (by omega) (by decide) (by decide), pk_div (by omega) (by decide) (by decide), bitM (by omega) (by omega), bd1_s, gI (by omega) (by decide), nI_clamp (by omega), shlN (by omega), nI_or, nI_1]
        have e1 : nI C ≤ nI (x / 6) ↔ C ≤ x / 6 := nI_leI (by omega) (by omega)
        have e2 : nI C ≤ nI (x % 6) ↔ C ≤ x % 6 := nI_leI (by omega) (by omega)
        by_cases q1 : C ≤ x / 6
        · rw [if_pos (e1.mpr q1), if_neg (fun h => by have := h.1; omega)]
        · rw [if_neg (fun e => q1 (e1.mp e))]
          by_cases q2 : C ≤ x % 6
          · rw [if_pos (e2.mpr q2), if_neg (fun h => by have := h.2.1; omega)]
          · rw [if_neg (fun e => q2 (e2.mp e))]
            have hq := h.2 (x / 6) (x % 6) (by omega) (by omega)
            rw [show 6 * (x / 6) + x % 6 = x by omega] at hq
            have em := m1_iff hq.1
            cases hb : bit s (x / 6) with
            | false => rw [selF, if_neg (fun h => by cases h.2.2.1)]
            | true =>
              rw [selT, hq.2.2]
              by_cases q0 : q x = 0
              · rw [if_pos (em.mpr q0), if_neg (fun h => h.2.2.2 q0)]
              · rw [if_neg (fun e => q0 (em.mp e)), if_pos ⟨by omega, by omega, rfl, q0⟩]
    · intro f' s _
      show f_X13_reach_b34 _ _ _ _ _ _ _ _ _ _ = _
      unfold f_X13_reach_b34 f_X13_reach_B115
      rw [if_pos (by decide), nI_1]
theorem q_reach (h : rCi C q pb lo) (p1 rf th tr wr : Int32) : ∃ r t, f_X11_reach rf (nI C) pb p1 = some (r, t) ∧ f_X13_reach th tr wr (nI C) lo p1 = some (r, 0, t, -1) ∧ ¬ t = 4 := by
  have hC := h.1
  unfold f_X11_reach f_X13_reach f_X11_cityTrouble f_X3_citiesFrom
  rcases ix2 p1 (n := C) (by omega) with hx | ⟨c, hc, rfl⟩
  · have := hbN hx
    rw [this.2.2.1, this.2.2.2.2.2, bd1_s, bd1_s]
    exact ⟨-1, 1, rfl, rfl, by decide⟩
  · have := hbY (n := C) (by omega) hc
    have hs : 2 ^ c < 2 ^ C := Nat.pow_lt_pow_right (by decide) hc
    refine ⟨nI (rpt C q C (2 ^ c)), 0, ?_, ?_, by decide⟩
    · rw [this.2.2.1, bd1_s, if_neg (by decide), bd1_s, refF, bd2_s, if_pos rfl, shlN (by omega), show f_X3_citiesFrom_L6 (nI C) pb fuelN (nI (2 ^ c)) 0 = _ from reachC h C 0 fuelN (2 ^ c) (by omega) (fuel_gt (by omega)) hs, bd1_s]
    · rw [this.2.2.2.2.2, bd1_s, if_neg (by decide), shlN (by omega), ← rpt_all hC hs (by rw [pop1 c (by omega)]; exact Nat.le_refl _)]
      exact reachM h tr wr 6 0 fuelN (2 ^ c) (by omega) (fuel_gt (by omega)) hs
end BL
