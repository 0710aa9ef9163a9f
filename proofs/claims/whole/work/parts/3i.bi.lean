/-! BI: marches: the class -/
theorem it_skip {S : Type} {step : Nat → S → S} : ∀ k i s, (∀ j s', i ≤ j → j < i + k → step j s' = s') → itN step k i s = s := by
  intro k
  induction k with
  | zero => intro i s _; rfl
  | succ k ih =>
    intro i s h
    show itN step k (i + 1) (step i s) = s
    rw [h i s (Nat.le_refl _) (by omega)]
    exact ih (i + 1) s (fun j s' h1 h2 => h j s' (by omega) (by omega))
theorem it_split {S : Type} (step : Nat → S → S) : ∀ m n i s, itN step (m + n) i s = itN step n (i + m) (itN step m i s) := by
  intro m
  induction m with
  | zero => intro n i s; rw [Nat.zero_add]; rfl
  | succ m ih =>
    intro n i s
    rw [show m + 1 + n = (m + n) + 1 by omega]
    show itN step (m + n) (i + 1) (step i s) = itN step n (i + (m + 1)) (itN step m (i + 1) (step i s))
    rw [ih n (i + 1) (step i s), show i + 1 + m = i + (m + 1) by omega]
/-- how many are left behind a pass that loses y in a hundred -/
def ovN (m y : Nat) : Nat := m - (m * y + 99) / 100
theorem ov_le (m y : Nat) : ovN m y ≤ m := Nat.sub_le _ _
theorem ov_eq {m y : Nat} (hy : y ≤ 99) : m * (100 - y) / 100 = ovN m y := by
  unfold ovN
  have h : m * (100 - y) = 100 * m - m * y := by rw [Nat.mul_sub, Nat.mul_comm m 100]
  have h2 : m * y ≤ m * 99 := Nat.mul_le_mul_left m hy
  rw [h]
  generalize m * y = p at h2 ⊢
  omega
theorem ov_mono {m m' y : Nat} (hy : y ≤ 99) (h : m ≤ m') : ovN m y ≤ ovN m' y := by
  rw [← ov_eq hy, ← ov_eq hy]
  exact Nat.div_le_div_right (Nat.mul_le_mul_right _ h)
theorem lost_le {m y : Nat} (hy : y ≤ 99) : (m * y + 99) / 100 ≤ m := by
  have h2 : m * y ≤ m * 99 := Nat.mul_le_mul_left m hy
  generalize m * y = p at h2 ⊢
  omega
/-- most that come so far, how many cities on that way, the way -/
abbrev MW : Type := Option Nat × Nat × (Nat → Nat)
def bett (m : Nat) (c : Option Nat) : Bool := match c with | none => true | some x => decide (x < m)
def keepW (m len : Nat) (p : Nat → Nat) (s : MW) : MW := if bett m s.1 then (some m, len, p) else s
def wlk (C to : Nat) (q : Nat → Nat) : Nat → Nat → Nat → Nat → Nat → (Nat → Nat) → MW → MW
  | 0, _, _, _, _, _, s => s
  | k + 1, c, m, d, T, p, s => if c = to then keepW m (d + 1) p s else itN (fun x s => if q (6 * c + x) ≠ 0 ∧ bit T x = false then wlk C to q k x (ovN m (q (6 * c + x) - 1)) (d + 1) (T ||| 2 ^ x) (updN p (d + 1) x) s else s) C 0 s
/-- a child of city c -/
def stW (C to : Nat) (q : Nat → Nat) (k c m d T : Nat) (p : Nat → Nat) (x : Nat) (s : MW) : MW := if q (6 * c + x) ≠ 0 ∧ bit T x = false then wlk C to q k x (ovN m (q (6 * c + x) - 1)) (d + 1) (T ||| 2 ^ x) (updN p (d + 1) x) s else s
theorem wlk_s (C to : Nat) (q : Nat → Nat) (k c m d T : Nat) (p : Nat → Nat) (s : MW) : wlk C to q (k + 1) c m d T p s = if c = to then keepW m (d + 1) p s else itN (stW C to q k c m d T p) C 0 s := rfl
def gW (C : Nat) (q : Nat → Nat) (s : MW) : Prop := s.2.1 ≤ 6 ∧ (∀ x, s.1 = some x → x ≤ 999 ∧ 1 ≤ s.2.1) ∧ (s.1 = none → s.2.1 = 0) ∧ (∀ j, j < s.2.1 → s.2.2 j < C) ∧ ∀ j, j + 1 < s.2.1 → q (6 * s.2.2 j + s.2.2 (j + 1)) ≠ 0
def gP (C : Nat) (q : Nat → Nat) (d : Nat) (p : Nat → Nat) : Prop := (∀ j, j ≤ d → p j < C) ∧ ∀ j, j < d → q (6 * p j + p (j + 1)) ≠ 0
theorem popX : ∀ T, T < 64 → ∀ x, x < 6 → bit T x = false → popN (T ||| 2 ^ x) = popN T + 1 := by decide +kernel
theorem popL : ∀ C, C < 7 → ∀ T, T < 64 → T < 2 ^ C → popN T ≤ C := by decide +kernel
theorem popF0 : ∀ C, C < 7 → ∀ T, T < 64 → ∀ x, x < 6 → (T < 2 ^ C ∧ popN T = C ∧ x < C) → bit T x = true := by decide +kernel
theorem popF (C : Nat) (hC : C < 7) (T : Nat) (hT : T < 64) (h1 : T < 2 ^ C) (h2 : popN T = C) (x : Nat) (hx : x < 6) (h3 : x < C) : bit T x = true := popF0 C hC T hT x hx ⟨h1, h2, h3⟩
theorem pop1 : ∀ x, x < 6 → popN (2 ^ x) = 1 := by decide +kernel
theorem clrI : ∀ T, T < 64 → ∀ x, x < 6 → bit T x = false → nI (T ||| 2 ^ x) &&& (((1 : Int32) <<< (nI x &&& 31)) ^^^ (-1)) = nI T := by decide +kernel
theorem gP_up {C : Nat} {q : Nat → Nat} {d x : Nat} {p : Nat → Nat} (h : gP C q d p) (hx : x < C) (hq : q (6 * p d + x) ≠ 0) : gP C q (d + 1) (updN p (d + 1) x) := by
  refine ⟨fun j hj => ?_, fun j hj => ?_⟩
  · by_cases e : j = d + 1
    · rw [e, upd_eq]; exact hx
    · rw [show updN p (d + 1) x j = p j from if_neg e]; exact h.1 j (by omega)
  · rw [show updN p (d + 1) x j = p j from if_neg (by omega)]
    by_cases e : j = d
    · rw [e, upd_eq]; exact hq
    · rw [show updN p (d + 1) x (j + 1) = p (j + 1) from if_neg (by omega)]; exact h.2 j (by omega)
theorem gW_keep {C m d : Nat} {q p : Nat → Nat} {s : MW} (hm : m ≤ 999) (hd : d ≤ 5) (hp : gP C q d p) (h : gW C q s) : gW C q (keepW m (d + 1) p s) := by
  unfold keepW
  split
  · refine ⟨by show d + 1 ≤ 6; omega, fun x hx => ?_, fun hx => (by cases hx), fun j hj => hp.1 j (by have : j < d + 1 := hj; omega), fun j hj => hp.2 j (by have : j + 1 < d + 1 := hj; omega)⟩
    have : m = x := Option.some.inj hx
    exact ⟨by omega, by show 1 ≤ d + 1; omega⟩
  · exact h
theorem p2C {C : Nat} (hC : C ≤ 6) : 2 ^ C ≤ 64 := Nat.pow_le_pow_right (n := 2) (by decide) hC
theorem wlk_g {C to : Nat} {q : Nat → Nat} (hC : C ≤ 6) : ∀ k c m d T p s, m ≤ 999 → T < 2 ^ C → popN T = d + 1 → gP C q d p → p d = c → gW C q s → gW C q (wlk C to q k c m d T p s) := by
  have h2 := p2C hC
  intro k
  induction k with
  | zero => intro c m d T p s _ _ _ _ _ h; exact h
  | succ k ih =>
    intro c m d T p s hm hT hd hp hc h
    have hl := popL C (by omega) T (by omega) hT
    rw [wlk_s]
    split
    · exact gW_keep hm (by omega) hp h
    · refine it_inv (P := gW C q) (n := C) ?_ C 0 s (by omega) h
      intro x s' hx hs'
      unfold stW
      split
      · next hq =>
        exact ih x _ (d + 1) _ _ s' (Nat.le_trans (ov_le _ _) hm) (Nat.or_lt_two_pow hT (Nat.pow_lt_pow_right (by decide) hx)) (by rw [popX T (by omega) x (by omega) hq.2, hd]) (gP_up hp hx (by rw [hc]; exact hq.1)) (upd_eq _ _ _) hs'
      · exact hs'
/-- the tables of passes of both sides: q k: 0 no pass, else one more than it loses -/
def rCi (C : Nat) (q : Nat → Nat) (pb lo : Nat → Int32) : Prop := C ≤ 6 ∧ ∀ i j, i < C → j < C → q (6 * i + j) ≤ 100 ∧ pb (6 * i + j) = nI (q (6 * i + j)) ∧ lo (6 * i + j) = nI (q (6 * i + j)) - 1
theorem m1_iff {x : Nat} (hx : x ≤ 100) : nI x - 1 = -1 ↔ x = 0 := by
  cases x with
  | zero => exact ⟨fun _ => rfl, fun _ => rfl⟩
  | succ y =>
    rw [nI_pred]
    refine ⟨fun e => ?_, fun e => by omega⟩
    have := nI_pos (n := y) (by omega)
    rw [e] at this
    exact absurd (show (-1 : Int32) < 0 by decide) this
theorem i6 (i j : Nat) : nI i * 6 + nI j = nI (6 * i + j) := by rw [show (6 : Int32) = nI 6 from rfl, pk_mul, nI_add, Nat.mul_comm i 6]
theorem i6' (i j : Nat) : 6 * nI i + nI j = nI (6 * i + j) := by rw [show (6 : Int32) = nI 6 from rfl, pk_mul, nI_add]
theorem setI_lt {c : Option Nat} {m : Nat} (hc : ∀ x, c = some x → x ≤ 999) (hm : m ≤ 999) : (setI c < nI m ↔ bett m c = true) ∧ (nI m ≤ setI c ↔ bett m c = false) := by
  cases c with
  | none =>
    have h1 : (-2 : Int32) < nI m := Int32.lt_of_lt_of_le (show (-2 : Int32) < 0 by decide) (nI_pos' (by omega))
    exact ⟨⟨fun _ => rfl, fun _ => h1⟩, ⟨fun e => absurd h1 (Int32.not_lt.mpr e), fun e => by cases e⟩⟩
  | some x =>
    have := hc x rfl
    unfold bett
    refine ⟨?_, ?_⟩
    · show nI x < nI m ↔ decide (x < m) = true
      rw [nI_ltI (by omega) (by omega)]
      simp
    · show nI m ≤ nI x ↔ decide (x < m) = false
      rw [nI_leI (by omega) (by omega)]
      simp
section BI
variable {C to : Nat} {q : Nat → Nat} {pb lo : Nat → Int32}
theorem lossC (h : rCi C q pb lo) {i j : Nat} (hi : i < C) (hj : j < C) : f_X2_lossBetween (nI C) pb (nI i) (nI j) = some (nI (q (6 * i + j)) - 1) := by
  have hC := h.1
  unfold f_X2_lossBetween
  rw [(hbY (n := C) (by omega) hi).2.2.1, bd1_s, if_neg (by decide), (hbY (n := C) (by omega) hj).2.2.1, bd1_s, if_neg (by decide), i6, gI (by omega) (by decide), nI_clamp (by omega), (h.2 i j hi hj).2.1]
theorem lostC {m x : Nat} (hm : m ≤ 999) (h0 : x ≠ 0) (hx : x ≤ 100) : f_X3_lostOn (nI m) (nI x - 1) = some (nI ((m * (x - 1) + 99) / 100)) := by
  unfold f_X3_lostOn
  obtain ⟨y, rfl⟩ : ∃ y, x = y + 1 := ⟨x - 1, by omega⟩
  have h2 : m * y ≤ 999 * 99 := Nat.mul_le_mul hm (by omega)
  rw [nI_pred, pk_mul, show (99 : Int32) = nI 99 from rfl, nI_add, show (100 : Int32) = nI 100 from rfl, pk_div (by omega) (by decide) (by decide), Nat.add_sub_cancel]
theorem overM {m x : Nat} (hm : m ≤ 999) (h0 : x ≠ 0) (hx : x ≤ 100) : f_X13_over (nI m) (nI x - 1) = some (nI (ovN m (x - 1))) := by
  unfold f_X13_over
  obtain ⟨y, rfl⟩ : ∃ y, x = y + 1 := ⟨x - 1, by omega⟩
  have h2 : m * (100 - y) ≤ 999 * 100 := Nat.mul_le_mul hm (by omega)
  rw [nI_pred, show (100 : Int32) = nI 100 from rfl, pk_sub (show y ≤ 100 by omega), pk_mul, pk_div (by omega) (by decide) (by decide), Nat.add_sub_cancel, ov_eq (by omega)]
theorem keepC' {m d : Nat} {p : Nat → Nat} {s : MW} {wk way : Nat → Int32} (hm : m ≤ 999) (hd : d ≤ 5) (hg : gW C q s) (hw : ∀ j, j < d + 1 → wk j = nI (p j)) (hy : ∀ j, j < s.2.1 → way j = nI (s.2.2 j)) : ∃ way', f_X3_keepIfBetter (nI s.2.1) (setI s.1) wk way (nI m) (nI (d + 1)) = some (nI (keepW m (d + 1) p s).2.1, setI (keepW m (d + 1) p s).1, way') ∧ ∀ j, j < (keepW m (d + 1) p s).2.1 → way' j = nI ((keepW m (d + 1) p s).2.2 j) := by
  have e := setI_lt (c := s.1) (m := m) (fun x hx => (hg.2.1 x hx).1) hm
  unfold f_X3_keepIfBetter keepW
  cases hb : bett m s.1 with
  | false =>
    rw [if_pos (e.2.mpr hb), if_neg (by decide)]
    exact ⟨way, rfl, hy⟩
  | true =>
    rw [if_neg (fun h => by have := e.2.mp h; rw [hb] at this; cases this), if_pos rfl, if_neg (show ¬ (6 : Int32) < nI (d + 1) from nI_nlt (b := d + 1) (a := 6) (by omega) (by decide)), nI_clamp (by omega)]
    refine ⟨va_cpy wk way 0 0 (d + 1), ?_, ?_⟩
    · unfold gCp
      rw [if_neg]
      · rfl
      · rw [nI_clamp (by omega)]
        intro h
        rcases h with h | h
        · exact absurd h (nI_pos (by omega))
        · omega
    · intro j hj
      have hj : j < d + 1 := hj
      rw [pk_cpy_in (by omega) (by omega), show 0 + (j - 0) = j by omega]
      exact hw j hj
theorem walkC (h : rCi C q pb lo) (hto : to < C) : ∀ k c m d T p s (wk way : Nat → Int32), d + k = 6 → c < C → m ≤ 999 → T < 2 ^ C → popN T = d + 1 → gP C q d p → p d = c → gW C q s → (∀ j, j < d → wk j = nI (p j)) → (∀ j, j < s.2.1 → way j = nI (s.2.2 j)) → ∃ wk' way', f_X3_walk (k + 1) (nI C) pb (nI s.2.1) (setI s.1) wk way (nI c) (nI to) (nI m) (nI d) (nI T) = some (nI (wlk C to q (k + 1) c m d T p s).2.1, setI (wlk C to q (k + 1) c m d T p s).1, wk', way') ∧ (∀ j, j < d → wk' j = nI (p j)) ∧ ∀ j, j < (wlk C to q (k + 1) c m d T p s).2.1 → way' j = nI ((wlk C to q (k + 1) c m d T p s).2.2 j) := by
  have hC := h.1
  have h2 := p2C hC
  intro k
  induction k with
  | zero =>
    intro c m d T p s wk way hd hc hm hT hT1
    have hl := popL C (by omega) T (by omega) hT
    omega
  | succ k ih =>
    intro c m d T p s wk way hd hc hm hT hT1 hp hpc hg hw hy
    have hl := popL C (by omega) T (by omega) hT
    have hw' : ∀ j, j < d + 1 → upd wk d (nI c) j = nI (p j) := by
      intro j hj
      by_cases e : j = d
      · rw [e, pk_us, hpc]
      · rw [pk_un e]; exact hw j (by omega)
    have ect : nI c = nI to ↔ c = to := nI_eq (by omega) (by omega)
    show ∃ wk' way', f_X3_walk_r (f_X3_walk (k + 1)) (nI C) pb (nI s.2.1) (setI s.1) wk way (nI c) (nI to) (nI m) (nI d) (nI T) = _ ∧ _
    unfold f_X3_walk_r
    rw [if_pos (show nI d < 6 from nI_lt (b := 6) (by omega) (by decide)), gI (by omega) (by decide), nI_clamp (by omega), wlk_s]
    by_cases qc : c = to
    · rw [if_pos (ect.mpr qc), if_pos qc, nI_1]
      obtain ⟨way', e, hy'⟩ := keepC' (p := p) hm (show d ≤ 5 by omega) hg hw' hy
      rw [e, bd3_s]
      exact ⟨_, way', rfl, fun j hj => hw' j (by omega), hy'⟩
    · rw [if_neg (fun e => qc (ect.mp e)), if_neg qc]
      refine loopR (fun f x (y : Int32 × Int32 × (Nat → Int32) × (Nat → Int32)) => f_X3_walk_L34 (f_X3_walk (k + 1)) (nI C) pb (nI c) (nI to) (nI m) (nI d) (nI T) f (nI x) y.1 y.2.1 y.2.2.1 y.2.2.2) C (fun x y => y.1 = nI (itN (stW C to q (k + 1) c m d T p) x 0 s).2.1 ∧ y.2.1 = setI (itN (stW C to q (k + 1) c m d T p) x 0 s).1 ∧ gW C q (itN (stW C to q (k + 1) c m d T p) x 0 s) ∧ (∀ j, j < d + 1 → y.2.2.1 j = nI (p j)) ∧ ∀ j, j < (itN (stW C to q (k + 1) c m d T p) x 0 s).2.1 → y.2.2.2 j = nI ((itN (stW C to q (k + 1) c m d T p) x 0 s).2.2 j)) (fun o => ∃ wk' way', o = some (nI (itN (stW C to q (k + 1) c m d T p) C 0 s).2.1, setI (itN (stW C to q (k + 1) c m d T p) C 0 s).1, wk', way') ∧ (∀ j, j < d → wk' j = nI (p j)) ∧ ∀ j, j < (itN (stW C to q (k + 1) c m d T p) C 0 s).2.1 → way' j = nI ((itN (stW C to q (k + 1) c m d T p) C 0 s).2.2 j)) ?_ ?_ C 0 (nI s.2.1, setI s.1, upd wk d (nI c), way) fuelN (by omega) ⟨rfl, rfl, hg, hw', hy⟩ (fuel_gt (by omega))
      · intro f x y hx hy
        obtain ⟨y1, y2, y3, y4⟩ := y
        obtain ⟨e1, e2, e3, e4, e5⟩ := hy
        have e1 : y1 = nI (itN (stW C to q (k + 1) c m d T p) x 0 s).2.1 := e1
        have e2 : y2 = setI (itN (stW C to q (k + 1) c m d T p) x 0 s).1 := e2
        have e4 : ∀ j, j < d + 1 → y3 j = nI (p j) := e4
        have e5 : ∀ j, j < (itN (stW C to q (k + 1) c m d T p) x 0 s).2.1 → y4 j = nI ((itN (stW C to q (k + 1) c m d T p) x 0 s).2.2 j) := e5
        subst e1; subst e2
        rw [it_snoc, Nat.zero_add]
        generalize itN (stW C to q (k + 1) c m d T p) x 0 s = s1 at *
        have hqx := (h.2 c x hc hx).1
        have em := m1_iff hqx
        show ∃ y' : Int32 × Int32 × (Nat → Int32) × (Nat → Int32), _ ∧ f_X3_walk_b34 (f_X3_walk (k + 1)) (nI C) pb (nI c) (nI to) (nI m) (nI d) (nI T) (f_X3_walk_L34 (f_X3_walk (k + 1)) (nI C) pb (nI c) (nI to) (nI m) (nI d) (nI T) f) (nI x) (nI s1.2.1) (setI s1.1) y3 y4 = _
        unfold f_X3_walk_b34 f_X3_walk_B100 stW
        rw [if_neg (nI_ge hx (by omega)), lossC h hc hx, bd1_s, bitN (by omega) (by omega), bit_mod, nI_1]
        by_cases q0 : q (6 * c + x) = 0
        · rw [if_pos (em.mpr q0), if_neg (fun e => e.1 q0)]
          exact ⟨(_, _, y3, y4), ⟨rfl, rfl, e3, e4, e5⟩, rfl⟩
        · rw [if_neg (fun e => q0 (em.mp e))]
          cases hb : bit T x with
          | true =>
            rw [if_neg (show ¬ nI (if true = true then 1 else 0) = 0 by decide), if_neg (fun e => by cases e.2)]
            exact ⟨(_, _, y3, y4), ⟨rfl, rfl, e3, e4, e5⟩, rfl⟩
          | false =>
            rw [if_pos (show nI (if false = true then 1 else 0) = 0 by decide), if_pos ⟨q0, rfl⟩, lostC hm q0 hqx, bd1_s, pk_sub (lost_le (by omega)), shlN (by omega), nI_or, nI_1]
            have hg2 := wlk_g (to := to) (q := q) hC (k + 1) x (ovN m (q (6 * c + x) - 1)) (d + 1) (T ||| 2 ^ x) (updN p (d + 1) x) s1 (Nat.le_trans (ov_le _ _) hm) (Nat.or_lt_two_pow hT (Nat.pow_lt_pow_right (by decide) hx)) (by rw [popX T (by omega) x (by omega) hb, hT1]) (gP_up hp hx (by rw [hpc]; exact q0)) (upd_eq _ _ _) e3
            obtain ⟨wk', way', ew, gw, gy⟩ := ih x (ovN m (q (6 * c + x) - 1)) (d + 1) (T ||| 2 ^ x) (updN p (d + 1) x) s1 y3 y4 (by omega) hx (Nat.le_trans (ov_le _ _) hm) (Nat.or_lt_two_pow hT (Nat.pow_lt_pow_right (by decide) hx)) (by rw [popX T (by omega) x (by omega) hb, hT1]) (gP_up hp hx (by rw [hpc]; exact q0)) (upd_eq _ _ _) e3 (fun j hj => by rw [upd_lt hj]; exact e4 j hj) e5
            have ew : f_X3_walk (k + 1) (nI C) pb (nI s1.2.1) (setI s1.1) y3 y4 (nI x) (nI to) (nI (m - (m * (q (6 * c + x) - 1) + 99) / 100)) (nI (d + 1)) (nI (T ||| 2 ^ x)) = _ := ew
            rw [ew, bd4_s]
            exact ⟨(_, _, wk', way'), ⟨rfl, rfl, hg2, fun j hj => (show wk' j = nI (p j) by rw [gw j hj, upd_lt hj]), gy⟩, rfl⟩
      · intro f y hy
        obtain ⟨y1, y2, y3, y4⟩ := y
        obtain ⟨e1, e2, e3, e4, e5⟩ := hy
        refine ⟨y3, y4, ?_, fun j hj => e4 j (by omega), e5⟩
        show f_X3_walk_b34 _ _ _ _ _ _ _ _ _ _ _ _ _ _ = _
        unfold f_X3_walk_b34
        rw [if_pos (nI_le (Nat.le_refl _) (by omega))]
        rw [show y1 = _ from e1, show y2 = _ from e2]
/-- the march of m from c to to -/
def mrN (C : Nat) (q : Nat → Nat) (c to m : Nat) : MW := wlk C to q 7 c m 0 (2 ^ c) (fun _ => c) (none, 0, fun _ => 0)
theorem mr_g (hC : C ≤ 6) {c m : Nat} (hc : c < C) (hm : m ≤ 999) : gW C q (mrN C q c to m) :=
  wlk_g hC 7 c m 0 (2 ^ c) (fun _ => c) (none, 0, fun _ => 0) hm (Nat.pow_lt_pow_right (by decide) hc) (pop1 c (by omega)) ⟨fun _ _ => hc, fun j hj => by omega⟩ rfl ⟨by decide, fun x hx => (by cases hx), fun _ => rfl, fun j hj => by have : j < 0 := hj; omega, fun j hj => by have : j + 1 < 0 := hj; omega⟩
theorem comeC (h : rCi C q pb lo) {c m : Nat} (hc : c < C) (hto : to < C) (hm : m ≤ 999) (x1 x2 : Int32) (wk way : Nat → Int32) : ∃ wk' way', f_X3_mostThatCome (nI C) pb x1 x2 wk way (nI c) (nI to) (nI m) = some (setI (mrN C q c to m).1, nI (mrN C q c to m).2.1, setI (mrN C q c to m).1, wk', way') ∧ ∀ j, j < (mrN C q c to m).2.1 → way' j = nI ((mrN C q c to m).2.2 j) := by
  have hC := h.1
  obtain ⟨wk', way', e, -, hy⟩ := walkC h hto 6 c m 0 (2 ^ c) (fun _ => c) (none, 0, fun _ => 0) wk way (by omega) hc hm (Nat.pow_lt_pow_right (by decide) hc) (pop1 c (by omega)) ⟨fun _ _ => hc, fun j hj => by omega⟩ rfl ⟨by decide, fun x hx => (by cases hx), fun _ => rfl, fun j hj => by have : j < 0 := hj; omega, fun j hj => by have : j + 1 < 0 := hj; omega⟩ (fun j hj => by omega) (fun j hj => by have : j < 0 := hj; omega)
  refine ⟨wk', way', ?_, hy⟩
  unfold f_X3_mostThatCome
  rw [shlN (by omega)]
  have e : f_X3_walk 7 (nI C) pb 0 (-2) wk way (nI c) (nI to) (nI m) (0 : Int32) (nI (2 ^ c)) = _ := e
  rw [e, bd4_s]
  rfl
end BI
