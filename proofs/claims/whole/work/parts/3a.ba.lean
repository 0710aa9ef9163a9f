/-! BA: sale, saleOver, lane, beast, size, seed, turnedBy -/
def popN (n : Nat) : Nat := n % 2 + n / 2 % 2 + n / 4 % 2 + n / 8 % 2 + n / 16 % 2 + n / 32 % 2
theorem popC : ∀ n, n < 64 → f_J6_bitCount_0f7a4 (nI n) = some (nI (popN n)) := by decide +kernel
theorem bits_mono : ∀ f x y r, f_X13_bits_L4 f x y = some r → f_X13_bits_L4 (f + 1) x y = some r := by
  intro f
  induction f with
  | zero => intro x y r h; exact absurd h (by intro e; cases e)
  | succ f ih =>
    intro x y r h
    have h' : f_X13_bits_b4 (f_X13_bits_L4 f) x y = some r := h
    show f_X13_bits_b4 (f_X13_bits_L4 (f + 1)) x y = some r
    unfold f_X13_bits_b4 at h' ⊢
    by_cases q : y = 0
    · rw [if_pos q] at h' ⊢; exact h'
    · rw [if_neg q] at h' ⊢; exact ih _ _ _ h'
theorem bits8 : ∀ n, n < 64 → f_X13_bits_L4 8 0 (nI n) = some (nI (popN n)) := by decide +kernel
theorem popM {n : Nat} (hn : n < 64) : f_X13_bits (nI n) = some (nI (popN n)) := by
  unfold f_X13_bits
  have : ∀ k, f_X13_bits_L4 (8 + k) 0 (nI n) = some (nI (popN n)) := by
    intro k
    induction k with
    | zero => exact bits8 n hn
    | succ k ih => exact bits_mono _ _ _ _ ih
  have e := fuelN_ge
  have := this (fuelN - 8)
  rwa [show 8 + (fuelN - 8) = fuelN by omega] at this
theorem pop_le : ∀ n, n < 32 → popN n < 6 := by decide +kernel
theorem outIn (x lo hi : Int32) : (f_X11_outside x lo hi = some 0 ∧ f_X13_in x lo hi = some 1 ∧ ¬ x < lo ∧ x ≤ hi) ∨ (f_X11_outside x lo hi = some 1 ∧ f_X13_in x lo hi = some 0) := by
  unfold f_X11_outside f_X13_in f_X11_outside_B10
  by_cases q : x < lo
  · rw [if_pos q, if_pos q]; exact Or.inr ⟨rfl, rfl⟩
  · rw [if_neg q, if_neg q]
    by_cases q2 : x ≤ hi
    · rw [if_pos q2, if_neg (Int32.not_lt.mpr q2)]; exact Or.inl ⟨rfl, rfl, q, q2⟩
    · rw [if_neg q2, if_pos (Int32.not_le.mp q2)]; exact Or.inr ⟨rfl, rfl⟩
theorem it_id {S : Type} {step : Nat → S → S} (h : ∀ j s, step j s = s) : ∀ k i s, itN step k i s = s := by
  intro k
  induction k with
  | zero => intro i s; rfl
  | succ k ih => intro i s; unfold itN; rw [ih, h]
section BA
variable {a : AS} {wh kd md st wd at' pr wh' kd' md' pr' v : Nat → Int32}
def prS (a : AS) (x j s : Nat) : Nat := s + (if bit x j then a 3 j else 0)
def priceN (a : AS) (x : Nat) : Nat := itN (prS a x) (a 0 2) 0 0
theorem price_b (ok : okA a) (x : Nat) : ∀ k i s, i + k = a 0 2 → s ≤ 99 * i → itN (prS a x) k i s ≤ 99 * a 0 2 := by
  intro k
  induction k with
  | zero => intro i s hi h; unfold itN; rw [← hi]; simpa using h
  | succ k ih =>
    intro i s hi h
    have h2 := ok.2.1 i (by omega)
    unfold itN
    refine ih (i + 1) _ (by omega) ?_
    unfold prS
    split <;> omega
theorem price_lt (ok : okA a) (x : Nat) : priceN a x ≤ 495 := by
  have := price_b ok x (a 0 2) 0 0 (by omega) (by omega)
  have h1 := ok.1
  unfold priceN; omega
theorem priceC (ok : okA a) (rp : rI (a 0 2) pr (a 3)) {x : Nat} (hx : x < 2 ^ 31) : f_X11_priceOf (nI (a 0 2)) pr (nI x) = some (nI (priceN a x)) := by
  have h1 := ok.1
  unfold f_X11_priceOf
  refine (loopN (fun f i s => f_X11_priceOf_L4 (nI (a 0 2)) pr (nI x) f (nI s) (nI i)) (a 0 2) (prS a x) (fun _ _ => True) (fun s => some (nI s)) ?_ ?_ (a 0 2) 0 0 fuelN (by omega) trivial (fuel_gt (by omega))).1
  · intro f i s hi _
    refine ⟨trivial, ?_⟩
    show f_X11_priceOf_b4 _ _ _ _ _ _ = _
    unfold f_X11_priceOf_b4 f_X11_priceOf_B38 prS bit
    rw [if_neg (nI_ge hi (by omega)), bitN hx (by omega), gI (by omega) (by decide), nI_1, nI_clamp (by omega), rp i hi, show (0 : Int32) = nI 0 from rfl, nI_add, nI_add]
    rcases Nat.mod_two_eq_zero_or_one (x / 2 ^ i) with h | h <;> rw [h] <;> rfl
  · intro f s _
    show f_X11_priceOf_b4 _ _ _ _ _ _ = _
    unfold f_X11_priceOf_b4
    rw [if_pos (nI_le (Nat.le_refl _) (by omega))]
theorem priceM (ok : okA a) (rp : rI (a 0 2) pr (a 3)) {x : Nat} (hx : x < 2 ^ 31) : f_X13_priceOf (nI (a 0 2)) pr (nI x) = some (nI (priceN a x)) := by
  have h1 := ok.1
  unfold f_X13_priceOf
  refine (loopN (fun f i s => f_X13_priceOf_L4 (nI (a 0 2)) pr (nI x) f (nI s) (nI i)) (a 0 2) (prS a x) (fun _ _ => True) (fun s => some (nI s)) ?_ ?_ (a 0 2) 0 0 fuelN (by omega) trivial (fuel_gt (by omega))).1
  · intro f i s hi _
    refine ⟨trivial, ?_⟩
    show f_X13_priceOf_b4 _ _ _ _ _ _ = _
    unfold f_X13_priceOf_b4 f_X13_priceOf_B37 prS
    rw [if_neg (nI_ge hi (by omega)), bitM hx (by omega), bd1_s, gI (by omega) (by decide), nI_1, nI_clamp (by omega), rp i hi]
    cases bit x i
    · rw [selF, show (0 : Int32) = nI 0 from rfl, nI_add]; rfl
    · rw [selT, nI_add]; rfl
  · intro f s _
    show f_X13_priceOf_b4 _ _ _ _ _ _ = _
    unfold f_X13_priceOf_b4
    rw [if_pos (nI_le (Nat.le_refl _) (by omega))]
def sellOK (a : AS) (m x : Nat) : Bool := decide (x &&& a 0 3 = 0) && decide (m ≤ priceN a x)
def fewB (x : Nat) (s : Option Nat) : Bool := match s with | none => true | some b => decide (popN x < popN b)
def sellS (a : AS) (m x : Nat) (s : Option Nat) : Option Nat := if sellOK a m x && fewB x s then some x else s
def sellN (a : AS) (m : Nat) : Option Nat := itN (sellS a m) (2 ^ a 0 2) 0 none
def setI (s : Option Nat) : Int32 := match s with | none => -2 | some b => nI b
def fewI (s : Option Nat) : Int32 := match s with | none => 6 | some b => nI (popN b)
theorem pow32 (ok : okA a) : 2 ^ a 0 2 ≤ 32 := Nat.pow_le_pow_right (n := 2) (by decide) (show a 0 2 ≤ 5 from ok.1.2.2.2.2.2.1)
theorem andI {x d : Nat} (hx : x < 2 ^ 31) : nI x &&& nI d = 0 ↔ x &&& d = 0 := by
  rw [nI_and]
  exact nI_eq (b := 0) (Nat.lt_of_le_of_lt Nat.and_le_left hx) (by decide)
theorem sellI {m : Nat} : ∀ i (s : Option Nat), (∀ b, s = some b → b < i) → ∀ b, sellS a m i s = some b → b < i + 1 := by
  intro i s h b e
  unfold sellS at e
  cases hc : (sellOK a m i && fewB i s)
  · rw [hc, if_neg (by decide)] at e
    have := h b e; omega
  · rw [hc, if_pos rfl] at e
    have := Option.some.inj e; omega
theorem sellC (ok : okA a) (rp : rI (a 0 2) pr (a 3)) {m : Nat} (hm : m ≤ 500) : f_X11_fewestToSell (nI (a 0 2)) pr (nI (a 0 3)) (nI m) = some (setI (sellN a m)) ∧ ∀ b, sellN a m = some b → b < 2 ^ a 0 2 := by
  have h1 := ok.1
  have hp := pow32 ok
  unfold f_X11_fewestToSell
  refine loopN (fun f i s => f_X11_fewestToSell_L9 (nI (a 0 2)) pr (nI (a 0 3)) (nI m) f (setI s) (fewI s) (nI i)) (2 ^ a 0 2) (sellS a m) (fun i s => ∀ b, s = some b → b < i) (fun s => some (setI s)) ?_ ?_ (2 ^ a 0 2) 0 none fuelN (by omega) (by intro b e; cases e) (fuel_gt (by omega))
  · intro f i s hi hs
    refine ⟨sellI i s hs, ?_⟩
    show f_X11_fewestToSell_b9 _ _ _ _ _ _ _ _ = _
    unfold f_X11_fewestToSell_b9 f_X11_fewestToSell_B65
    have pl := price_lt ok i
    have pi := pop_le i (by omega)
    rw [shlN (by omega), if_neg (nI_ge hi (by omega)), popC i (by omega), bd1_s, priceC ok rp (by omega), bd1_s, nI_1]
    have key : fewI s ≤ nI (popN i) ↔ ¬ fewB i s = true := by
      cases s with
      | none =>
        refine ⟨fun e => absurd e (nI_ge (b := 6) pi (by decide)), fun e => absurd rfl e⟩
      | some b =>
        have hb := hs b rfl
        have pb := pop_le b (by omega)
        show nI (popN b) ≤ nI (popN i) ↔ _
        rw [nI_leI (by omega) (by omega)]
        unfold fewB
        simp
    have ha : nI i &&& nI (a 0 3) = 0 ↔ i &&& a 0 3 = 0 := andI (by omega)
    have hq : nI (priceN a i) < nI m ↔ priceN a i < m := nI_ltI (by omega) (by omega)
    unfold sellS sellOK
    cases hc : fewB i s
    · rw [if_pos (key.mpr (by rw [hc]; decide)), Bool.and_false]; rfl
    · rw [if_neg (fun e => absurd hc (key.mp e))]
      by_cases q : i &&& a 0 3 = 0
      · rw [if_pos (ha.mpr q), decide_eq_true q]
        by_cases q2 : m ≤ priceN a i
        · rw [if_neg (fun e => by have := hq.mp e; omega), decide_eq_true q2]; rfl
        · rw [if_pos (hq.mpr (by omega)), decide_eq_false q2]; rfl
      · rw [if_neg (fun e => q (ha.mp e)), decide_eq_false q]; rfl
  · intro f s _
    show f_X11_fewestToSell_b9 _ _ _ _ _ _ _ _ = _
    unfold f_X11_fewestToSell_b9
    rw [shlN (by omega), if_pos (nI_le (Nat.le_refl _) (by omega))]
theorem setI_n {s : Option Nat} (h : ∀ b, s = some b → b < 32) : setI s = -2 ↔ s = none := by
  cases s with
  | none => exact ⟨fun _ => rfl, fun _ => rfl⟩
  | some b =>
    refine ⟨fun e => ?_, fun e => by cases e⟩
    have := nI_pos (n := b) (by have := h b rfl; omega)
    rw [show nI b = (-2 : Int32) from e] at this
    exact absurd (show (-2 : Int32) < 0 by decide) this
theorem sellM (ok : okA a) (rp : rI (a 0 2) pr (a 3)) (hv : v 10 = nI (a 0 3)) {m : Nat} (hm : m ≤ 500) : f_X13_sold v (nI (a 0 2)) pr (nI m) = some (setI (sellN a m)) := by
  have h1 := ok.1
  have hp := pow32 ok
  unfold f_X13_sold
  refine (loopN (fun f i s => f_X13_sold_L5 v (nI (a 0 2)) pr (nI m) f (setI s) (nI i)) (2 ^ a 0 2) (sellS a m) (fun i s => ∀ b, s = some b → b < i) (fun s => some (setI s)) ?_ ?_ (2 ^ a 0 2) 0 none fuelN (by omega) (by intro b e; cases e) (fuel_gt (by omega))).1
  · intro f i s hi hs
    refine ⟨sellI i s hs, ?_⟩
    show f_X13_sold_b5 _ _ _ _ _ _ _ = _
    unfold f_X13_sold_b5 f_X13_sold_B56 f_X13_sold_B58
    have pl := price_lt ok i
    have pi := pop_le i (by omega)
    have ha : nI i &&& nI (a 0 3) = 0 ↔ i &&& a 0 3 = 0 := andI (by omega)
    have hq : nI (priceN a i) < nI m ↔ priceN a i < m := nI_ltI (by omega) (by omega)
    rw [shlN (by omega), if_neg (nI_ge hi (by omega)), c10, hv, priceM ok rp (by omega), bd1_s, nI_1]
    unfold sellS sellOK
    by_cases q : i &&& a 0 3 = 0
    · rw [if_pos (ha.mpr q), decide_eq_true q]
      by_cases q2 : m ≤ priceN a i
      · rw [if_neg (fun e => by have := hq.mp e; omega), decide_eq_true q2]
        cases s with
        | none => rw [if_pos (show setI none = -2 from rfl)]; rfl
        | some b =>
          have hb := hs b rfl
          have pb := pop_le b (by omega)
          have e5 : nI (popN b) ≤ nI (popN i) ↔ popN b ≤ popN i := nI_leI (by omega) (by omega)
          rw [if_neg (fun e => by have := (setI_n (s := some b) (by intro c h; cases h; omega)).mp e; cases this), popM (by omega), bd1_s, show setI (some b) = nI b from rfl, popM (by omega), bd1_s]
          by_cases q3 : popN b ≤ popN i
          · rw [if_pos (e5.mpr q3), show fewB i (some b) = false from decide_eq_false (by omega)]; rfl
          · rw [if_neg (fun e => q3 (e5.mp e)), show fewB i (some b) = true from decide_eq_true (by omega)]; rfl
      · rw [if_pos (hq.mpr (by omega)), decide_eq_false q2]; rfl
    · rw [if_neg (fun e => q (ha.mp e)), decide_eq_false q]; rfl
  · intro f s _
    show f_X13_sold_b5 _ _ _ _ _ _ _ = _
    unfold f_X13_sold_b5
    rw [shlN (by omega), if_pos (nI_le (Nat.le_refl _) (by omega))]
theorem saleT (ok : okA a) (x : Int32) : (f_X11_saleTrouble (nI (a 0 0)) x = some 2 ∧ f_X13_in x 0 500 = some 0) ∨ ∃ m, m ≤ 500 ∧ x = nI m ∧ f_X11_saleTrouble (nI (a 0 0)) x = some 0 ∧ f_X13_in x 0 500 = some 1 := by
  have h1 := ok.1
  unfold f_X11_saleTrouble
  rw [(warT (n := a 0 0) (by omega) (by omega)).2, bd1_s]
  rcases outIn x 0 500 with ⟨e1, e2, h3, h4⟩ | ⟨e1, e2⟩
  · obtain ⟨m, hm, rfl⟩ := nI_of2 (M := 500) (n := 500) rfl h3 h4
    exact Or.inr ⟨m, hm, rfl, by rw [e1, bd1_s]; rfl, e2⟩
  · exact Or.inl ⟨by rw [e1, bd1_s]; rfl, e2⟩
theorem q_sale (ok : okA a) (rp : rI (a 0 2) pr (a 3)) (rp' : rI (a 0 2) pr' (a 3)) (hv : v 10 = nI (a 0 3)) (p1 rf th tr wr : Int32) : ∃ r t, f_X11_sale rf (nI (a 0 0)) (nI (a 0 2)) pr (nI (a 0 3)) p1 = some (r, t) ∧ f_X13_sale th tr wr v (nI (a 0 2)) pr' p1 = some (r, 0, t, -1) ∧ ¬ t = 4 := by
  unfold f_X11_sale f_X13_sale
  rcases saleT ok p1 with ⟨e1, e2⟩ | ⟨m, hm, rfl, e1, e2⟩
  · refine ⟨-1, 2, ?_, ?_, by decide⟩
    · rw [e1, bd1_s]; rfl
    · rw [e2, bd1_s]; rfl
  · refine ⟨setI (sellN a m), 0, ?_, ?_, by decide⟩
    · rw [e1, bd1_s, refF, bd2_s, if_pos rfl, (sellC ok rp hm).1, bd1_s]
    · rw [e2, bd1_s, if_neg (by decide), sellM ok rp' hv hm, bd1_s]; rfl
theorem q_saleOver (ok : okA a) (rp : rI (a 0 2) pr (a 3)) (rp' : rI (a 0 2) pr' (a 3)) (hv : v 10 = nI (a 0 3)) (p1 rf th tr wr : Int32) : ∃ r t, f_X11_saleOver rf (nI (a 0 0)) (nI (a 0 2)) pr (nI (a 0 3)) p1 = some (r, t) ∧ f_X13_saleOver th tr wr v (nI (a 0 2)) pr' p1 = some (r, 0, t, -1) ∧ ¬ t = 4 := by
  have hp := pow32 ok
  unfold f_X11_saleOver f_X13_saleOver f_X11_saleOver_B33
  rcases saleT ok p1 with ⟨e1, e2⟩ | ⟨m, hm, rfl, e1, e2⟩
  · refine ⟨-1, 2, ?_, ?_, by decide⟩
    · rw [e1, bd1_s]; rfl
    · rw [e2, bd1_s]; rfl
  · obtain ⟨ec, hb⟩ := sellC ok rp hm
    have em := sellM ok rp' hv hm
    have hn := setI_n (s := sellN a m) (fun b h => by have := hb b h; omega)
    cases hs : sellN a m with
    | none =>
      refine ⟨-1, 6, ?_, ?_, by decide⟩
      · rw [e1, bd1_s, refF, bd2_s, if_pos rfl, ec, bd1_s, if_pos (hn.mpr hs)]; rfl
      · rw [e2, bd1_s, if_neg (by decide), em, bd1_s, if_pos (hn.mpr hs)]; rfl
    | some b =>
      have hbl := hb b hs
      refine ⟨nI (priceN a b) - nI m, 0, ?_, ?_, by decide⟩
      · rw [e1, bd1_s, refF, bd2_s, if_pos rfl, ec, bd1_s, if_neg (fun e => by rw [hn.mp e] at hs; cases hs), refF, bd2_s, if_pos rfl, hs, show setI (some b) = nI b from rfl, priceC ok rp (by omega), bd1_s]
      · rw [e2, bd1_s, if_neg (by decide), em, bd1_s, if_neg (fun e => by rw [hn.mp e] at hs; cases hs), hs, show setI (some b) = nI b from rfl, priceM ok rp' (by omega), bd1_s]; rfl
/-- who lives in lane l -/
def liveS (a : AS) (l j : Nat) (s : Int32) : Int32 := if a 5 j = l ∧ aD a j = false then s ||| ((1 : Int32) <<< (nI j &&& 31)) else s
def liveN (a : AS) (l : Nat) : Int32 := itN (liveS a l) (a 0 2) 0 0
theorem liveC (ok : okA a) (ra : rI (a 0 2) at' (a 5)) {l : Nat} (hl : l < a 0 0) : f_X8_livingIn (nI (a 0 3)) at' (nI l) (nI (a 0 2)) = some (liveN a l) := by
  have h1 := ok.1
  unfold f_X8_livingIn
  refine (loopN (fun f i s => f_X8_livingIn_L5 (nI (a 0 3)) at' (nI l) (nI (a 0 2)) f s (nI i)) (a 0 2) (liveS a l) (fun _ _ => True) (fun s => some s) ?_ ?_ (a 0 2) 0 0 fuelN (by omega) trivial (fuel_gt (by omega))).1
  · intro f i s hi _
    refine ⟨trivial, ?_⟩
    have h5 := (ok.2.1 i hi).2.2.2.2.1
    show f_X8_livingIn_b5 _ _ _ _ _ _ _ = _
    unfold f_X8_livingIn_b5 f_X8_livingIn_B44 liveS
    rw [if_neg (nI_ge hi (by omega)), if_neg (show ¬ (5 : Int32) ≤ nI i from nI_ge (b := 5) (by omega) (by decide)), gI (by omega) (by decide), nI_clamp (by omega), ra i hi, isDeadN ok.d (by omega), bd1_s, nI_1]
    by_cases q : a 5 i = l
    · rw [if_pos ((nI_eq (by omega) (by omega)).mpr q)]
      show (if (if aD a i = true then (1 : Int32) else 0) = 0 then _ else _) = _
      cases hd : aD a i
      · rw [selF, if_pos ⟨q, rfl⟩]
      · rw [selT, if_neg (by intro h; cases h.2)]
    · rw [if_neg (fun e => q ((nI_eq (by omega) (by omega)).mp e)), if_neg (fun h => q h.1)]
  · intro f s _
    show f_X8_livingIn_b5 _ _ _ _ _ _ _ = _
    unfold f_X8_livingIn_b5
    rw [if_pos (nI_le (Nat.le_refl _) (by omega))]
theorem liveM (ok : okA a) (rv : rV a v) {l : Nat} (hl : l < a 0 0) (tr wr : Int32) : f_X13_lane_L68 v (nI (a 0 0)) (nI (a 0 2)) wh' (nI l) 0 tr wr fuelN 0 0 = some (liveN a l, 0, 0, -1) := by
  have h1 := ok.1
  refine (loopN (fun f i s => f_X13_lane_L68 v (nI (a 0 0)) (nI (a 0 2)) wh' (nI l) 0 tr wr f s (nI i)) (a 0 2) (liveS a l) (fun _ _ => True) (fun s => some (s, 0, 0, -1)) ?_ ?_ (a 0 2) 0 0 fuelN (by omega) trivial (fuel_gt (by omega))).1
  · intro f i s hi _
    refine ⟨trivial, ?_⟩
    have h5 := (ok.2.1 i hi).2.2.2.2.1
    have e : v i = nI (a 5 i) := rv.2.2.2.1 i hi
    show f_X13_lane_b68 _ _ _ _ _ _ _ _ _ _ _ = _
    unfold f_X13_lane_b68 f_X13_lane_B110 f_X13_lane_B111 liveS
    rw [if_neg (nI_ge hi (by omega)), n0, gI (by omega) (by decide), nI_clamp (by omega), e, isDeadM rv.1 ok.d (by omega), bd1_s, nI_1, Int32.or_zero]
    by_cases q : a 5 i = l
    · rw [if_pos ((nI_eq (by omega) (by omega)).mpr q)]
      show (if (if aD a i = true then (1 : Int32) else 0) = 0 then _ else _) = _
      cases hd : aD a i
      · rw [selF, if_pos ⟨q, rfl⟩]
      · rw [selT, if_neg (by intro h; cases h.2)]
    · rw [if_neg (fun e => q ((nI_eq (by omega) (by omega)).mp e)), if_neg (fun h => q h.1)]
  · intro f s _
    show f_X13_lane_b68 _ _ _ _ _ _ _ _ _ _ _ = _
    unfold f_X13_lane_b68 f_X13_lane_B119 f_X13_good
    rw [if_pos (nI_le (Nat.le_refl _) (by omega)), bd3_s]
theorem q_lane (ok : okA a) (rw : rI (a 0 0) wh (a 4)) (rs : rI (a 0 0) st (a 7)) (ra : rI (a 0 2) at' (a 5)) (rw' : rI (a 0 0) wh' (a 4)) (rv : rV a v) (p1 p2 rf th tr wr : Int32) : ∃ r t, f_X11_lane rf (nI (a 0 0)) (nI (a 0 2)) wh (nI (a 0 3)) st at' p1 p2 = some (r, t) ∧ f_X13_lane th tr wr v (nI (a 0 0)) (nI (a 0 2)) wh' p1 p2 = some (r, 0, t, -1) ∧ ¬ t = 4 := by
  have h1 := ok.1
  unfold f_X11_lane f_X13_lane f_X11_lane_B21 f_X11_lane_B26 f_X13_lane_B22 f_X13_lane_B59
  rcases ix2 p1 (n := a 0 0) (by omega) with h | ⟨l, hl, rfl⟩
  · have := hbN h
    refine ⟨-1, 1, ?_, ?_, by decide⟩
    · rw [this.2.1, bd1_s]; rfl
    · rw [this.2.2.2.2.1, bd1_s]; rfl
  · have hx := hbY (n := a 0 0) (by omega) hl
    have e11 : v (11 + l) = nI (a 7 l) := rv.2.2.2.2.2 l hl
    rcases outIn p2 0 2 with ⟨e1, e2, h3, h4⟩ | ⟨e1, e2⟩
    · obtain ⟨m, hm, rfl⟩ := nI_of2 (M := 2) (n := 2) rfl h3 h4
      rw [hx.2.1, hx.2.2.2.2.1, bd1_s, bd1_s, if_neg (by decide), if_neg (by decide), e1, e2, bd1_s, bd1_s, if_pos rfl, if_neg (by decide), refF, bd2_s, if_pos rfl]
      rcases (show m = 0 ∨ m = 1 ∨ m = 2 by omega) with rfl | rfl | rfl
      · refine ⟨nI (a 4 l), 0, ?_, ?_, by decide⟩
        · rw [if_pos (by decide), gI (by omega) (by decide), nI_clamp (by omega), rw l hl]
        · rw [if_neg (by decide), if_pos (by decide), gI (by omega) (by decide), nI_clamp (by omega), rw' l hl]; rfl
      · refine ⟨nI (a 7 l), 0, ?_, ?_, by decide⟩
        · rw [if_neg (by decide), if_pos (by decide), gI (by omega) (by decide), nI_clamp (by omega), rs l hl]
        · rw [if_neg (by decide), if_neg (by decide), n11, gI (by omega) (by decide), nI_clamp (by omega), e11]; rfl
      · refine ⟨liveN a l, 0, ?_, ?_, by decide⟩
        · rw [if_neg (by decide), if_neg (by decide), liveC ok ra hl, bd1_s]
        · rw [if_pos (by decide)]; exact liveM ok rv hl tr wr
    · refine ⟨-1, 1, ?_, ?_, by decide⟩
      · rw [hx.2.1, bd1_s, if_neg (by decide), e1, bd1_s]; rfl
      · rw [hx.2.2.2.2.1, bd1_s, if_neg (by decide), e2, bd1_s]; rfl
theorem q_beast (ok : okA a) (rc : rCl a wh kd md st wd) (rp : rI (a 0 2) pr (a 3)) (ra : rI (a 0 2) at' (a 5)) (rm : rMo a wh' kd' md' v) (rp' : rI (a 0 2) pr' (a 3)) (p1 p2 rf th tr wr : Int32) : ∃ r t, f_X11_beast rf (nI (a 0 2)) kd md pr (nI (a 0 3)) (nI (a 0 4)) at' wd p1 p2 = some (r, t) ∧ f_X13_beast th tr wr v (nI (a 0 2)) kd' md' pr' p1 p2 = some (r, 0, t, -1) ∧ ¬ t = 4 := by
  have h1 := ok.1
  obtain ⟨rc1, rk, rmo, rs, rwd⟩ := rc
  obtain ⟨rm1, rk', rmo', rv⟩ := rm
  unfold f_X11_beast f_X13_beast f_X11_beast_B22 f_X11_beast_B27 f_X13_beast_B23 f_X13_beast_B174
  rcases ix2 p1 (n := a 0 2) (by omega) with h | ⟨l, hl, rfl⟩
  · have := hbN h
    refine ⟨-1, 1, ?_, ?_, by decide⟩
    · rw [this.1, bd1_s]; rfl
    · rw [this.2.2.2.1, bd1_s]; rfl
  · have hx := hbY (n := a 0 2) (by omega) hl
    have h2 := ok.2.1 l hl
    have e0 : v l = nI (a 5 l) := rv.2.2.2.1 l hl
    have e5 : v (5 + l) = nI (a 6 l) := rv.2.2.2.2.1 l hl
    rcases outIn p2 0 7 with ⟨e1, e2, h3, h4⟩ | ⟨e1, e2⟩
    · obtain ⟨m, hm, rfl⟩ := nI_of2 (M := 7) (n := 7) rfl h3 h4
      rw [hx.1, hx.2.2.2.1, bd1_s, bd1_s, if_neg (by decide), if_neg (by decide), e1, e2, bd1_s, bd1_s, if_pos rfl, if_neg (by decide), refF, bd2_s, if_pos rfl]
      have g5 : ∀ {α : Type} (x : Option α), gIn (nI l) 5 x = x := fun x => gI (by omega) (by decide)
      have g19 : ∀ {α : Type} (x : Option α), gIn (nI l) 19 x = x := fun x => gI (by omega) (by decide)
      have g19' : ∀ {α : Type} (x : Option α), gIn (nI (5 + l)) 19 x = x := fun x => gI (by omega) (by decide)
      rw [n0, n5, nI_clamp (show l < 2 ^ 31 by omega), nI_clamp (show 5 + l < 2 ^ 31 by omega)]
      simp only [g5, g19, g19']
      rcases (show m = 0 ∨ m = 1 ∨ m = 2 ∨ m = 3 ∨ m = 4 ∨ m = 5 ∨ m = 6 ∨ m = 7 by omega) with rfl | rfl | rfl | rfl | rfl | rfl | rfl | rfl
      · refine ⟨nI (a 1 l), 0, ?_, ?_, by decide⟩
        · rw [if_pos (by decide), rk l hl]
        · rw [if_pos (by decide), rk' l hl]; rfl
      · refine ⟨nI (a 5 l), 0, ?_, ?_, by decide⟩
        · rw [if_neg (by decide), if_pos (by decide), ra l hl]
        · rw [if_neg (by decide), if_pos (by decide), e0]; rfl
      · refine ⟨nI (a 2 l), 0, ?_, ?_, by decide⟩
        · rw [if_neg (by decide), if_neg (by decide), if_pos (by decide), rmo l hl]
        · rw [if_neg (by decide), if_neg (by decide), if_pos (by decide), rmo' l hl]; rfl
      · refine ⟨nI (a 3 l), 0, ?_, ?_, by decide⟩
        · rw [if_neg (by decide), if_neg (by decide), if_neg (by decide), if_pos (by decide), rp l hl]
        · rw [if_neg (by decide), if_neg (by decide), if_neg (by decide), if_pos (by decide), rp' l hl]; rfl
      · refine ⟨nI (aF a l), 0, ?_, ?_, by decide⟩
        · rw [if_neg (by decide), if_neg (by decide), if_neg (by decide), if_neg (by decide), if_pos (by decide), forceC ok.d (by omega) (rk l hl) h2.1 (rwd l hl) (by omega), bd1_s]
        · rw [if_neg (by decide), if_neg (by decide), if_neg (by decide), if_neg (by decide), if_pos (by decide), forceM rv.1 ok.d (by omega) (rk' l hl) h2.1 e5 (by omega), bd1_s]; rfl
      · refine ⟨nI (aH a l), 0, ?_, ?_, by decide⟩
        · rw [if_neg (by decide), if_neg (by decide), if_neg (by decide), if_neg (by decide), if_neg (by decide), if_pos (by decide), holdC (by omega) (rk l hl) h2.1 (rmo l hl) (by omega) h1.2.2.2.2.2.2.2.1, bd1_s]
        · rw [if_neg (by decide), if_neg (by decide), if_neg (by decide), if_neg (by decide), if_neg (by decide), if_pos (by decide), holdM (by omega) (rk' l hl) h2.1 (rmo' l hl) (by omega) rv.2.1 h1.2.2.2.2.2.2.2.1, bd1_s]; rfl
      · refine ⟨nI (a 6 l), 0, ?_, ?_, by decide⟩
        · rw [if_neg (by decide), if_neg (by decide), if_neg (by decide), if_neg (by decide), if_neg (by decide), if_neg (by decide), if_pos (by decide), rwd l hl]
        · rw [if_neg (by decide), if_neg (by decide), if_neg (by decide), if_neg (by decide), if_neg (by decide), if_neg (by decide), if_pos (by decide), e5]; rfl
      · rw [isDeadN ok.d (by omega), isDeadM rv.1 ok.d (by omega), bd1_s, bd1_s]
        refine ⟨(if bit (a 0 3) l then 1 else 0), 0, ?_, ?_, by decide⟩
        · rw [if_neg (by decide), if_neg (by decide), if_neg (by decide), if_neg (by decide), if_neg (by decide), if_neg (by decide), if_neg (by decide)]
          cases bit (a 0 3) l <;> rfl
        · rw [if_neg (by decide), if_neg (by decide), if_neg (by decide), if_neg (by decide), if_neg (by decide), if_neg (by decide), if_neg (by decide)]
          cases bit (a 0 3) l <;> rfl
    · refine ⟨-1, 1, ?_, ?_, by decide⟩
      · rw [hx.1, bd1_s, if_neg (by decide), e1, bd1_s]; rfl
      · rw [hx.2.2.2.1, bd1_s, if_neg (by decide), e2, bd1_s]; rfl
theorem q_size (rv : rV a v) (hw : a 0 4 < 2) {T U : Nat} (hT : T < 64) (hU : U < 64) (by' ci pa ac ma p1 th : Int32) : ∃ r, f_X11_size by' (nI (a 0 0)) (nI (a 0 1)) (nI T) (nI (a 0 2)) ci pa (nI U) (nI (a 0 4)) (nI (a 0 5)) ac ma p1 = some r ∧ f_X13_size th by' ac ma v (nI (a 0 0)) (nI (a 0 1)) (nI (popN T)) (nI (a 0 2)) ci pa (nI U) p1 = some (r, 0) := by
  unfold f_X11_size f_X13_size
  rw [popC T hT, popC U hU, popM hU, bd1_s, bd1_s, bd1_s, c17, c18, rv.2.1, rv.2.2.1]
  have n11' : ∀ k : Int32, p1 = 11 → ¬ k = 11 → ¬ p1 = k := fun k e n e2 => n (e2.symm.trans e)
  by_cases q : p1 = 11
  · refine ⟨by', ?_, ?_⟩
    · rw [q]; rfl
    · rw [if_pos q]
  · rcases outIn p1 0 10 with ⟨-, e2, h3, h4⟩ | ⟨-, e2⟩
    · obtain ⟨m, hm, rfl⟩ := nI_of2 (M := 10) (n := 10) rfl h3 h4
      rw [e2, bd1_s, if_neg (show ¬ (1 : Int32) = 0 by decide)]
      rcases (show m = 0 ∨ m = 1 ∨ m = 2 ∨ m = 3 ∨ m = 4 ∨ m = 5 ∨ m = 6 ∨ m = 7 ∨ m = 8 ∨ m = 9 ∨ m = 10 by omega) with rfl | rfl | rfl | rfl | rfl | rfl | rfl | rfl | rfl | rfl | rfl
      · exact ⟨_, rfl, rfl⟩
      · exact ⟨_, rfl, rfl⟩
      · exact ⟨_, rfl, rfl⟩
      · exact ⟨_, rfl, rfl⟩
      · exact ⟨_, rfl, rfl⟩
      · exact ⟨_, rfl, rfl⟩
      · exact ⟨_, rfl, rfl⟩
      · rcases (show a 0 4 = 0 ∨ a 0 4 = 1 by omega) with h | h <;> rw [h] <;> exact ⟨_, rfl, rfl⟩
      · exact ⟨_, rfl, rfl⟩
      · exact ⟨_, rfl, rfl⟩
      · exact ⟨_, rfl, rfl⟩
    · rw [e2, bd1_s, if_pos (show (0 : Int32) = 0 from rfl)]
      have key : ∀ k, k < 11 → ¬ p1 = nI k := by
        intro k hk e
        subst e
        have : ∀ k, k < 11 → f_X13_in (nI k) 0 10 = some 1 := by decide +kernel
        rw [this k hk] at e2
        exact absurd e2 (by decide)
      refine ⟨-1, ?_, if_neg q⟩
      rw [if_neg (show ¬ p1 = (0 : Int32) from key 0 (by decide)), if_neg (show ¬ p1 = (1 : Int32) from key 1 (by decide)), if_neg (show ¬ p1 = (2 : Int32) from key 2 (by decide)), if_neg (show ¬ p1 = (3 : Int32) from key 3 (by decide)), if_neg (show ¬ p1 = (4 : Int32) from key 4 (by decide)), if_neg (show ¬ p1 = (5 : Int32) from key 5 (by decide)), if_neg (show ¬ p1 = (6 : Int32) from key 6 (by decide)), if_neg (show ¬ p1 = (7 : Int32) from key 7 (by decide)), if_neg (show ¬ p1 = (8 : Int32) from key 8 (by decide)), if_neg (show ¬ p1 = (9 : Int32) from key 9 (by decide)), if_neg (show ¬ p1 = (10 : Int32) from key 10 (by decide)), if_neg q]
theorem q_seed (ok : okA a) (p1 rf th tr wr dr : Int32) : (∃ n, n ≤ 65536 ∧ p1 = nI n ∧ f_X11_seed rf (nI (a 0 0)) dr p1 = some (1, 0, nI n) ∧ f_X13_seed th tr wr v p1 = some (1, 0, 0, -1, upd v 18 (nI n))) ∨ (f_X11_seed rf (nI (a 0 0)) dr p1 = some (0, 2, dr) ∧ f_X13_seed th tr wr v p1 = some (0, 0, 2, -1, v)) := by
  have h1 := ok.1
  unfold f_X11_seed f_X13_seed f_X11_seed_B31
  rw [(warT (n := a 0 0) (by omega) (by omega)).2, bd1_s, if_neg (by decide)]
  rcases outIn p1 0 65536 with ⟨e1, e2, h3, h4⟩ | ⟨e1, e2⟩
  · obtain ⟨n, hn, rfl⟩ := nI_of2 (M := 65536) (n := 65536) rfl h3 h4
    exact Or.inl ⟨n, hn, rfl, by rw [e1, bd1_s]; rfl, by rw [e2, bd1_s, c18]; rfl⟩
  · exact Or.inr ⟨by rw [e1, bd1_s]; rfl, by rw [e2, bd1_s]; rfl⟩
/-- whom a trumpet of b turns -/
def near (x y : Nat) : Bool := decide (x ≤ y + 1) && decide (y ≤ x + 1)
theorem nearC : ∀ x, x < 6 → ∀ y, y < 6 → ((1 : Int32) < (if 0 ≤ nI x - nI y then nI x - nI y else 0 - (nI x - nI y)) ↔ near x y = false) := by decide +kernel
theorem nearM : ∀ x, x < 6 → ∀ y, y < 6 → (((nI x - nI y) < -1 ∨ 1 < nI x - nI y) ↔ near x y = false) := by decide +kernel
def turnP (a : AS) (b k : Nat) : Bool := near (a 5 k) (a 5 b) && (!aD a k && decide (aH a k < 50))
def turnS (a : AS) (b k : Nat) (s : Int32) : Int32 := if !aD a b && turnP a b k then s ||| ((1 : Int32) <<< (nI k &&& 31)) else s
def turnN (a : AS) (b : Nat) : Int32 := itN (turnS a b) (a 0 2) 0 0
theorem turnByC (ok : okA a) (rk : rI (a 0 2) kd (a 1)) (rmo : rI (a 0 2) md (a 2)) (ra : rI (a 0 2) at' (a 5)) {b : Nat} (hb : b < a 0 2) : f_X10_turnBy (nI (a 0 2)) kd md (nI (a 0 3)) (nI (a 0 4)) at' (nI b) = some (turnN a b) := by
  have h1 := ok.1
  unfold f_X10_turnBy
  rw [isDeadN ok.d (by omega), bd1_s]
  show (if (if aD a b = true then (1 : Int32) else 0) = 0 then _ else _) = _
  cases hd : aD a b
  · rw [selF]
    refine (loopN (fun f i s => f_X10_turnBy_L17 (nI (a 0 2)) kd md (nI (a 0 3)) (nI (a 0 4)) at' (nI b) f s (nI i)) (a 0 2) (turnS a b) (fun _ _ => True) (fun s => some s) ?_ ?_ (a 0 2) 0 0 fuelN (by omega) trivial (fuel_gt (by omega))).1
    · intro f i s hi _
      refine ⟨trivial, ?_⟩
      have h2 := ok.2.1 i hi
      have h5 := h2.2.2.2.2.1
      have h5b := (ok.2.1 b hb).2.2.2.2.1
      have hh := aH_le ok hi
      show f_X10_turnBy_b17 _ _ _ _ _ _ _ _ _ _ = _
      unfold f_X10_turnBy_b17 f_X10_turnBy_B88 turnS turnP
      rw [if_neg (nI_ge hi (by omega)), gI (by omega) (by decide), gI (by omega) (by decide), nI_clamp (show i < 2 ^ 31 by omega), nI_clamp (show b < 2 ^ 31 by omega), ra i hi, ra b hb, isDeadN ok.d (by omega), bd1_s, holdC (by omega) (rk i hi) h2.1 (rmo i hi) (by omega) h1.2.2.2.2.2.2.2.1, bd1_s, nI_1, hd]
      have e := nearC (a 5 i) (by omega) (a 5 b) (by omega)
      have e50 : (50 : Int32) ≤ nI (aH a i) ↔ 50 ≤ aH a i := nI_leI (a := 50) (by decide) (by omega)
      by_cases q : near (a 5 i) (a 5 b) = false
      · rw [if_pos (e.mpr q), q]; rfl
      · rw [if_neg (fun h => q (e.mp h)), show near (a 5 i) (a 5 b) = true by cases hq : near (a 5 i) (a 5 b); exact absurd hq q; rfl]
        show (if (if aD a i = true then (1 : Int32) else 0) = 0 then _ else _) = _
        cases aD a i
        · rw [selF]
          by_cases q2 : aH a i < 50
          · rw [if_neg (fun h => by have := e50.mp h; omega), decide_eq_true q2]; rfl
          · rw [if_pos (e50.mpr (by omega)), decide_eq_false q2]; rfl
        · rw [selT]; rfl
    · intro f s _
      show f_X10_turnBy_b17 _ _ _ _ _ _ _ _ _ _ = _
      unfold f_X10_turnBy_b17
      rw [if_pos (nI_le (Nat.le_refl _) (by omega))]
  · rw [selT]
    unfold turnN
    rw [it_id (fun j s => by unfold turnS; rw [hd]; rfl)]
theorem turnOfM (ok : okA a) (rm : rMo a wh' kd' md' v) {b : Nat} (hb : b < a 0 2) : f_X13_turnedOf v (nI (a 0 2)) kd' md' (nI b) = some (turnN a b) := by
  have h1 := ok.1
  obtain ⟨r1, rk, rmo, rv⟩ := rm
  unfold f_X13_turnedOf
  refine (loopN (fun f i s => f_X13_turnedOf_L4 v (nI (a 0 2)) kd' md' (nI b) f s (nI i)) (a 0 2) (turnS a b) (fun _ _ => True) (fun s => some s) ?_ ?_ (a 0 2) 0 0 fuelN (by omega) trivial (fuel_gt (by omega))).1
  · intro f i s hi _
    refine ⟨trivial, ?_⟩
    have h2 := ok.2.1 i hi
    have h5 := h2.2.2.2.2.1
    have h5b := (ok.2.1 b hb).2.2.2.2.1
    have hh := aH_le ok hi
    have ei : v i = nI (a 5 i) := rv.2.2.2.1 i hi
    have eb : v b = nI (a 5 b) := rv.2.2.2.1 b hb
    show f_X13_turnedOf_b4 _ _ _ _ _ _ _ _ = _
    unfold f_X13_turnedOf_b4 f_X13_turnedOf_B78 turnS turnP
    rw [if_neg (nI_ge hi (by omega)), n0, n0, gI (by omega) (by decide), gI (by omega) (by decide), nI_clamp (show i < 2 ^ 31 by omega), nI_clamp (show b < 2 ^ 31 by omega), ei, eb, isDeadM rv.1 ok.d (by omega), bd1_s, isDeadM rv.1 ok.d (by omega), bd1_s, holdM (by omega) (rk i hi) h2.1 (rmo i hi) (by omega) rv.2.1 h1.2.2.2.2.2.2.2.1, bd1_s, nI_1]
    have e := nearM (a 5 i) (by omega) (a 5 b) (by omega)
    have e50 : (50 : Int32) ≤ nI (aH a i) ↔ 50 ≤ aH a i := nI_leI (a := 50) (by decide) (by omega)
    show (if (if aD a b = true then (1 : Int32) else 0) = 0 then (if (if aD a i = true then (1 : Int32) else 0) = 0 then _ else _) else _) = _
    cases aD a b
    · rw [selF]
      cases aD a i
      · rw [selF]
        by_cases q : near (a 5 i) (a 5 b) = false
        · rw [q]
          rcases e.mpr q with h | h
          · rw [if_pos h]; rfl
          · by_cases q3 : (nI (a 5 i) - nI (a 5 b)) < -1
            · rw [if_pos q3]; rfl
            · rw [if_neg q3, if_pos h]; rfl
        · rw [if_neg (fun h => q (e.mp (Or.inl h))), if_neg (fun h => q (e.mp (Or.inr h))), show near (a 5 i) (a 5 b) = true by cases hq : near (a 5 i) (a 5 b); exact absurd hq q; rfl]
          by_cases q2 : aH a i < 50
          · rw [if_neg (fun h => by have := e50.mp h; omega), decide_eq_true q2]; rfl
          · rw [if_pos (e50.mpr (by omega)), decide_eq_false q2]; rfl
      · rw [selT, Bool.not_true, Bool.false_and, Bool.and_false, Bool.and_false]; rfl
    · rw [selT]; rfl
  · intro f s _
    show f_X13_turnedOf_b4 _ _ _ _ _ _ _ _ = _
    unfold f_X13_turnedOf_b4
    rw [if_pos (nI_le (Nat.le_refl _) (by omega))]
theorem q_turnedBy (ok : okA a) (rc : rCl a wh kd md st wd) (ra : rI (a 0 2) at' (a 5)) (rm : rMo a wh' kd' md' v) (p1 rf th tr wr : Int32) : ∃ r t, f_X11_turnedBy rf (nI (a 0 2)) kd md (nI (a 0 3)) (nI (a 0 4)) at' p1 = some (r, t) ∧ f_X13_turnedBy th tr wr v (nI (a 0 2)) kd' md' p1 = some (r, 0, t, -1) ∧ ¬ t = 4 := by
  have h1 := ok.1
  unfold f_X11_turnedBy f_X13_turnedBy
  rcases beastT (n := a 0 2) (by omega) p1 with ⟨-, e1, e2⟩ | ⟨j, hj, rfl, e1, e2⟩
  · refine ⟨-1, 1, ?_, ?_, by decide⟩
    · rw [e1, bd1_s, ref1, bd2_s]; rfl
    · rw [e2, bd1_s]; rfl
  · refine ⟨turnN a j, 0, ?_, ?_, by decide⟩
    · rw [e1, bd1_s, refF, bd2_s, if_pos rfl, turnByC ok rc.2.1 rc.2.2.1 ra hj, bd1_s]
    · rw [e2, bd1_s, if_neg (by decide), turnOfM ok rm hj, bd1_s]; rfl
end BA
