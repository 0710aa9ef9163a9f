/-! BK: march, marchAt, worstPass, setOut -/
section BK
variable {C : Nat} {q : Nat → Nat} {pb lo : Nat → Int32}
theorem marT (hC : C ≤ 6) (x y z : Int32) : (∃ t : Int32, (t = 1 ∨ t = 2) ∧ f_X11_marchTrouble (nI C) x y z = some t ∧ f_X13_refusesMarch (nI C) x y z = some t) ∨ ∃ c d m, c < C ∧ d < C ∧ m ≤ 999 ∧ x = nI c ∧ y = nI d ∧ z = nI m ∧ f_X11_marchTrouble (nI C) x y z = some 0 ∧ f_X13_refusesMarch (nI C) x y z = some 0 := by
  unfold f_X11_marchTrouble f_X13_refusesMarch f_X13_refusesMarch_B16
  rcases ix2 x (n := C) (by omega) with hx | ⟨c, hc, rfl⟩
  · have := hbN hx
    rw [this.2.2.1, this.2.2.2.2.2, bd1_s, bd1_s]
    exact Or.inl ⟨1, Or.inl rfl, rfl, rfl⟩
  · have := hbY (n := C) (by omega) hc
    rw [this.2.2.1, this.2.2.2.2.2, bd1_s, bd1_s, if_neg (by decide), if_neg (by decide)]
    rcases ix2 y (n := C) (by omega) with hx | ⟨d, hd, rfl⟩
    · have := hbN hx
      rw [this.2.2.1, this.2.2.2.2.2, bd1_s, bd1_s]
      exact Or.inl ⟨1, Or.inl rfl, rfl, rfl⟩
    · have := hbY (n := C) (by omega) hd
      rw [this.2.2.1, this.2.2.2.2.2, bd1_s, bd1_s, if_neg (by decide), if_neg (by decide)]
      rcases outIn z 0 999 with ⟨e1, e2, h3, h4⟩ | ⟨e1, e2⟩
      · obtain ⟨m, hm, rfl⟩ := nI_of2 (M := 999) (n := 999) rfl h3 h4
        rw [e1, e2, bd1_s, bd1_s]
        exact Or.inr ⟨c, d, m, hc, hd, hm, rfl, rfl, rfl, rfl, rfl⟩
      · rw [e1, e2, bd1_s, bd1_s]
        exact Or.inl ⟨2, Or.inr rfl, rfl, rfl⟩
theorem refX {t : Int32} (h : t = 1 ∨ t = 2) (r tr wr : Int32) : f_X11_isRefused r t = some (1, t) ∧ f_X13_refused tr wr t = some (-1, t, -1) ∧ ¬ t ≤ 0 ∧ ¬ t = 4 := by
  rcases h with rfl | rfl <;> exact ⟨rfl, rfl, by decide, by decide⟩
theorem q_march (h : rCi C q pb lo) (p1 p2 p3 rf th tr wr x1 x2 y1 y2 : Int32) (wk way row best lf : Nat → Int32) : ∃ r t a1 a2 a3 a4 b1 b2 b3 b4 b5, f_X11_march rf (nI C) pb x1 x2 wk way p1 p2 p3 = some (r, t, a1, a2, a3, a4) ∧ f_X13_march th tr wr y1 y2 row best lf (nI C) lo p1 p2 p3 = some (r, 0, t, -1, b1, b2, b3, b4, b5) ∧ ¬ t = 4 := by
  unfold f_X11_march f_X13_march
  rcases marT h.1 p1 p2 p3 with ⟨t, ht, e1, e2⟩ | ⟨c, d, m, hc, hd, hm, rfl, rfl, rfl, e1, e2⟩
  · have rx := refX ht rf tr wr
    rw [e1, e2, bd1_s, bd1_s, rx.1, bd2_s, if_neg (by decide), if_neg rx.2.2.1, rx.2.1, bd3_s]
    exact ⟨_, t, _, _, _, _, _, _, _, _, _, rfl, rfl, rx.2.2.2⟩
  · obtain ⟨wk', way', ec, -⟩ := comeC h hc hd hm x1 x2 wk way
    obtain ⟨row', best', lf', em, -⟩ := marchM h hc hd hm y1 y2 row best lf
    rw [e1, e2, bd1_s, bd1_s, refF, bd2_s, if_pos rfl, if_pos (by decide), ec, bd5_s, em, bd5_s]
    exact ⟨_, 0, _, _, _, _, _, _, _, _, _, rfl, rfl, by decide⟩
theorem q_marchAt (h : rCi C q pb lo) (p1 p2 p3 p4 rf th tr wr x1 x2 y1 y2 : Int32) (wk way row best lf : Nat → Int32) : ∃ r t a1 a2 a3 a4 b1 b2 b3 b4 b5, f_X11_marchAt rf (nI C) pb x1 x2 wk way p1 p2 p3 p4 = some (r, t, a1, a2, a3, a4) ∧ f_X13_marchAt th tr wr y1 y2 row best lf (nI C) lo p1 p2 p3 p4 = some (r, 0, t, -1, b1, b2, b3, b4, b5) ∧ ¬ t = 4 := by
  unfold f_X11_marchAt f_X13_marchAt f_X11_marchAt_B51 f_X13_marchAt_B61 f_X3_citiesOnWay f_X3_cityOnWay f_X11_outside f_X11_outside_B10
  rcases marT h.1 p1 p2 p3 with ⟨t, ht, e1, e2⟩ | ⟨c, d, m, hc, hd, hm, rfl, rfl, rfl, e1, e2⟩
  · have rx := refX ht rf tr wr
    rw [e1, e2, bd1_s, bd1_s, rx.1, bd2_s, if_neg (by decide), if_neg rx.2.2.1, rx.2.1, bd3_s]
    exact ⟨_, t, _, _, _, _, _, _, _, _, _, rfl, rfl, rx.2.2.2⟩
  · obtain ⟨wk', way', ec, hy⟩ := comeC h hc hd hm x1 x2 wk way
    obtain ⟨row', best', lf', em, hb⟩ := marchM h hc hd hm y1 y2 row best lf
    have hg := mr_g (to := d) (q := q) h.1 hc hm
    rw [e1, e2, bd1_s, bd1_s, refF, bd2_s, if_pos rfl, if_pos (by decide), ec, bd5_s, em, bd5_s, bd1_s]
    generalize mrN C q c d m = S at *
    have h6 := hg.1
    by_cases q0 : p4 < 0
    · simp only [if_pos q0, bd1_s]
      exact ⟨-1, 1, _, _, _, _, _, _, _, _, _, rfl, rfl, by decide⟩
    · obtain ⟨i, hi, rfl⟩ := nI_of q0
      simp only [if_neg q0]
      have ei : nI S.2.1 ≤ nI i ↔ S.2.1 ≤ i := nI_leI (by omega) hi
      by_cases q1 : S.2.1 ≤ i
      · have e3 : ¬ nI i ≤ nI S.2.1 - 1 := by
          intro e
          cases hS : S.2.1 with
          | zero => rw [hS] at e; exact absurd (Int32.lt_of_le_of_lt e (show nI 0 - 1 < 0 by decide)) (nI_pos hi)
          | succ n => rw [hS, nI_pred] at e; exact absurd e (nI_ge (by omega) hi)
        simp only [if_neg e3, if_pos (ei.mpr q1), bd1_s]
        exact ⟨-1, 1, _, _, _, _, _, _, _, _, _, rfl, rfl, by decide⟩
      · have e3 : nI i ≤ nI S.2.1 - 1 := by
          obtain ⟨n, hn⟩ : ∃ n, S.2.1 = n + 1 := ⟨S.2.1 - 1, by omega⟩
          rw [hn, nI_pred]
          exact nI_le (by omega) (by omega)
        have hli : i < S.2.1 := by omega
        simp only [if_pos e3, if_neg (fun e => q1 (ei.mp e)), bd1_s, if_true, refF, bd2_s]
        rw [gI (by omega) (by decide), bd1_s, gI (by omega) (by decide), nI_clamp hi, hy i hli, hb i hli]
        exact ⟨_, 0, _, _, _, _, _, _, _, _, _, rfl, rfl, by decide⟩
/-- the pass that loses most -/
def wpS (q : Nat → Nat) (w : Nat → Nat) (i : Nat) (s : Int32 × Nat × Nat) : Int32 × Nat × Nat := (if (s.2.2 * (q (6 * w i + w (i + 1)) - 1) + 99) / 100 ≤ s.2.1 then s.1 else 10 * nI (w i) + nI (w (i + 1)), if (s.2.2 * (q (6 * w i + w (i + 1)) - 1) + 99) / 100 ≤ s.2.1 then s.2.1 else (s.2.2 * (q (6 * w i + w (i + 1)) - 1) + 99) / 100, ovN s.2.2 (q (6 * w i + w (i + 1)) - 1))
theorem q_worstPass (h : rCi C q pb lo) (p1 p2 p3 rf th tr wr x1 x2 y1 y2 : Int32) (wk way row best lf : Nat → Int32) : ∃ r t a1 a2 a3 a4 b1 b2 b3 b4 b5, f_X11_worstPass rf (nI C) pb x1 x2 wk way p1 p2 p3 = some (r, t, a1, a2, a3, a4) ∧ f_X13_worstPass th tr wr y1 y2 row best lf (nI C) lo p1 p2 p3 = some (r, 0, t, -1, b1, b2, b3, b4, b5) ∧ ¬ t = 4 := by
  have hC := h.1
  unfold f_X11_worstPass f_X13_worstPass f_X3_dearestPass
  rcases marT h.1 p1 p2 p3 with ⟨t, ht, e1, e2⟩ | ⟨c, d, m, hc, hd, hm, rfl, rfl, rfl, e1, e2⟩
  · have rx := refX ht rf tr wr
    rw [e1, e2, bd1_s, bd1_s, rx.1, bd2_s, if_neg (by decide), if_neg rx.2.2.1, rx.2.1, bd3_s]
    exact ⟨_, t, _, _, _, _, _, _, _, _, _, rfl, rfl, rx.2.2.2⟩
  · obtain ⟨wk', way', ec, hy⟩ := comeC h hc hd hm x1 x2 wk way
    obtain ⟨row', best', lf', em, hb⟩ := marchM h hc hd hm y1 y2 row best lf
    have hg := mr_g (to := d) (q := q) h.1 hc hm
    rw [e1, e2, bd1_s, bd1_s, refF, bd2_s, if_pos rfl, if_pos (by decide), ec, bd5_s, em, bd5_s]
    generalize mrN C q c d m = S at *
    obtain ⟨g1, g2, g3, g4, g5⟩ := hg
    have inv : ∀ (s : Int32 × Nat × Nat) i, i + 1 < S.2.1 → s.2.1 ≤ 999 ∧ s.2.2 ≤ 999 → (wpS q S.2.2 i s).2.1 ≤ 999 ∧ (wpS q S.2.2 i s).2.2 ≤ 999 := by
      intro s i hi hs
      have hq := (h.2 (S.2.2 i) (S.2.2 (i + 1)) (g4 i (by omega)) (g4 (i + 1) hi)).1
      have hl := lost_le (m := s.2.2) (y := q (6 * S.2.2 i + S.2.2 (i + 1)) - 1) (by omega)
      unfold wpS
      refine ⟨?_, Nat.le_trans (ov_le _ _) hs.2⟩
      show (if _ then s.2.1 else _) ≤ 999
      split
      · exact hs.1
      · exact Nat.le_trans hl hs.2
    have cls : f_X3_dearestPass_L21 (nI C) pb (nI S.2.1) (setI S.1) wk' way' fuelN (-2) 0 (nI m) 0 = some ((itN (wpS q S.2.2) (S.2.1 - 1) 0 (-2, 0, m)).1, nI S.2.1, setI S.1, wk', way') := by
      by_cases q0 : S.2.1 = 0
      · obtain ⟨f, hf⟩ : ∃ f, fuelN = f + 1 := ⟨fuelN - 1, by have := fuelN_ge; omega⟩
        rw [q0, hf]
        show f_X3_dearestPass_b21 _ _ _ _ _ _ _ _ _ _ _ = _
        unfold f_X3_dearestPass_b21
        rw [if_pos (by decide)]
        rfl
      · refine (loopN (fun f i (s : Int32 × Nat × Nat) => f_X3_dearestPass_L21 (nI C) pb (nI S.2.1) (setI S.1) wk' way' f s.1 (nI s.2.1) (nI s.2.2) (nI i)) (S.2.1 - 1) (wpS q S.2.2) (fun _ s => s.2.1 ≤ 999 ∧ s.2.2 ≤ 999) (fun s => some (s.1, nI S.2.1, setI S.1, wk', way')) ?_ ?_ (S.2.1 - 1) 0 (-2, 0, m) fuelN (by omega) ⟨(by show (0 : Nat) ≤ 999; decide), hm⟩ (fuel_gt (by omega))).1
        · intro f i s hi hs
          have hi1 : i + 1 < S.2.1 := by omega
          have w0 := g4 i (by omega)
          have w1 := g4 (i + 1) hi1
          have hq := (h.2 _ _ w0 w1).1
          have hq0 := g5 i hi1
          have hl := lost_le (m := s.2.2) (y := q (6 * S.2.2 i + S.2.2 (i + 1)) - 1) (by omega)
          refine ⟨inv s i hi1 hs, ?_⟩
          show f_X3_dearestPass_b21 _ _ _ _ _ _ _ _ _ _ _ = _
          unfold f_X3_dearestPass_b21 f_X3_dearestPass_B95 wpS
          rw [nI_1, if_neg (nI_ge hi1 (by omega)), gI (by omega) (by decide), gI (by omega) (by decide), nI_clamp (show i < 2 ^ 31 by omega), nI_clamp (show i + 1 < 2 ^ 31 by omega), hy i (by omega), hy (i + 1) hi1, lossC h w0 w1, bd1_s, lostC hs.2 hq0 hq, bd1_s, gI (by omega) (by decide), gI (by omega) (by decide), pk_sub hl]
          have el : nI ((s.2.2 * (q (6 * S.2.2 i + S.2.2 (i + 1)) - 1) + 99) / 100) ≤ nI s.2.1 ↔ (s.2.2 * (q (6 * S.2.2 i + S.2.2 (i + 1)) - 1) + 99) / 100 ≤ s.2.1 := nI_leI (by omega) (by omega)
          by_cases q1 : (s.2.2 * (q (6 * S.2.2 i + S.2.2 (i + 1)) - 1) + 99) / 100 ≤ s.2.1
          · rw [if_pos (el.mpr q1), if_pos q1, if_pos q1]; rfl
          · rw [if_neg (fun e => q1 (el.mp e)), if_neg q1, if_neg q1]; rfl
        · intro f s _
          show f_X3_dearestPass_b21 _ _ _ _ _ _ _ _ _ _ _ = _
          unfold f_X3_dearestPass_b21
          rw [nI_1, if_pos (nI_le (by omega) (by omega))]
    have mod : f_X13_worstPass_L46 (nI C) lo 0 tr wr (nI S.2.1) (setI S.1) row' best' lf' fuelN (-2) 0 (nI m) 1 = some ((itN (wpS q S.2.2) (S.2.1 - 1) 0 (-2, 0, m)).1, 0, 0, -1, nI S.2.1, setI S.1, row', best', lf') := by
      by_cases q0 : S.2.1 = 0
      · obtain ⟨f, hf⟩ : ∃ f, fuelN = f + 1 := ⟨fuelN - 1, by have := fuelN_ge; omega⟩
        rw [q0, hf]
        show f_X13_worstPass_b46 _ _ _ _ _ _ _ _ _ _ _ _ _ _ _ = _
        unfold f_X13_worstPass_b46 f_X13_worstPass_B139
        rw [if_pos (by decide)]
        rfl
      · refine (loopN (fun f i (s : Int32 × Nat × Nat) => f_X13_worstPass_L46 (nI C) lo 0 tr wr (nI S.2.1) (setI S.1) row' best' lf' f s.1 (nI s.2.1) (nI s.2.2) (nI (i + 1))) (S.2.1 - 1) (wpS q S.2.2) (fun _ s => s.2.1 ≤ 999 ∧ s.2.2 ≤ 999) (fun s => some (s.1, 0, 0, -1, nI S.2.1, setI S.1, row', best', lf')) ?_ ?_ (S.2.1 - 1) 0 (-2, 0, m) fuelN (by omega) ⟨(by show (0 : Nat) ≤ 999; decide), hm⟩ (fuel_gt (by omega))).1
        · intro f i s hi hs
          have hi1 : i + 1 < S.2.1 := by omega
          have w0 := g4 i (by omega)
          have w1 := g4 (i + 1) hi1
          have hq := (h.2 _ _ w0 w1)
          have hq0 := g5 i hi1
          have hl := lost_le (m := s.2.2) (y := q (6 * S.2.2 i + S.2.2 (i + 1)) - 1) (by omega)
          refine ⟨inv s i hi1 hs, ?_⟩
          have e5 : nI s.2.2 - nI (ovN s.2.2 (q (6 * S.2.2 i + S.2.2 (i + 1)) - 1)) = nI ((s.2.2 * (q (6 * S.2.2 i + S.2.2 (i + 1)) - 1) + 99) / 100) := by
            rw [pk_sub (ov_le _ _)]
            unfold ovN
            congr 1
            omega
          show f_X13_worstPass_b46 _ _ _ _ _ _ _ _ _ _ _ _ _ _ _ = _
          unfold f_X13_worstPass_b46 f_X13_worstPass_B129 wpS
          rw [if_neg (nI_ge hi1 (by omega)), nI_pred, gI (by omega) (by decide), gI (by omega) (by decide), nI_clamp (show i < 2 ^ 31 by omega), nI_clamp (show i + 1 < 2 ^ 31 by omega), hb i (by omega), hb (i + 1) hi1, i6', gI (by omega) (by decide), nI_clamp (by omega), hq.2.2, overM hs.2 hq0 hq.1, bd1_s, gI (by omega) (by decide), gI (by omega) (by decide), e5, nI_1]
          have el : nI ((s.2.2 * (q (6 * S.2.2 i + S.2.2 (i + 1)) - 1) + 99) / 100) ≤ nI s.2.1 ↔ (s.2.2 * (q (6 * S.2.2 i + S.2.2 (i + 1)) - 1) + 99) / 100 ≤ s.2.1 := nI_leI (by omega) (by omega)
          by_cases q1 : (s.2.2 * (q (6 * S.2.2 i + S.2.2 (i + 1)) - 1) + 99) / 100 ≤ s.2.1
          · rw [if_pos (el.mpr q1), if_pos q1, if_pos q1]
          · rw [if_neg (fun e => q1 (el.mp e)), if_neg q1, if_neg q1]
        · intro f s _
          show f_X13_worstPass_b46 _ _ _ _ _ _ _ _ _ _ _ _ _ _ _ = _
          unfold f_X13_worstPass_b46 f_X13_worstPass_B139 f_X13_good
          rw [if_pos (nI_le (by omega) (by omega)), bd3_s]
    rw [cls, mod, bd5_s]
    exact ⟨_, 0, _, _, _, _, _, _, _, _, _, rfl, rfl, by decide⟩
/-- more set out, no fewer come -/
def oLe (c c' : Option Nat) : Prop := ∀ x, c = some x → ∃ y, c' = some y ∧ x ≤ y
theorem keep_mono {m m' l : Nat} {p : Nat → Nat} {s s' : MW} (hm : m ≤ m') (h : oLe s.1 s'.1) : oLe (keepW m l p s).1 (keepW m' l p s').1 := by
  unfold keepW
  have key : ∀ x, x ≤ m' → ∃ y, (if bett m' s'.1 = true then (some m', l, p) else s').1 = some y ∧ x ≤ y := by
    intro x hx
    cases hb : bett m' s'.1 with
    | true => rw [if_pos rfl]; exact ⟨m', rfl, hx⟩
    | false =>
      rw [if_neg (by decide)]
      unfold bett at hb
      cases hc : s'.1 with
      | none => rw [hc] at hb; cases hb
      | some y =>
        rw [hc] at hb
        have : ¬ y < m' := of_decide_eq_false hb
        exact ⟨y, rfl, by omega⟩
  intro x hx
  cases hb : bett m s.1 with
  | true =>
    rw [hb, if_pos rfl] at hx
    have : m = x := Option.some.inj hx
    exact key x (by omega)
  | false =>
    rw [hb, if_neg (by decide)] at hx
    obtain ⟨y, hy, hxy⟩ := h x hx
    cases hb' : bett m' s'.1 with
    | true =>
      rw [if_pos rfl]
      unfold bett at hb'
      rw [hy] at hb'
      have : y < m' := of_decide_eq_true hb'
      exact ⟨m', rfl, by omega⟩
    | false => rw [if_neg (by decide)]; exact ⟨y, hy, hxy⟩
theorem it_mono {step step' : Nat → MW → MW} {n : Nat} (hs : ∀ j s s', j < n → oLe s.1 s'.1 → oLe (step j s).1 (step' j s').1) : ∀ k i s s', i + k ≤ n → oLe s.1 s'.1 → oLe (itN step k i s).1 (itN step' k i s').1 := by
  intro k
  induction k with
  | zero => intro i s s' _ h; exact h
  | succ k ih =>
    intro i s s' hi h
    show oLe (itN step k (i + 1) (step i s)).1 (itN step' k (i + 1) (step' i s')).1
    exact ih (i + 1) _ _ (by omega) (hs i s s' (by omega) h)
theorem wlk_mono {to : Nat} (hq : ∀ i j, i < C → j < C → q (6 * i + j) ≤ 100) : ∀ k c m m' d T p s s', c < C → m ≤ m' → oLe s.1 s'.1 → oLe (wlk C to q k c m d T p s).1 (wlk C to q k c m' d T p s').1 := by
  intro k
  induction k with
  | zero => intro c m m' d T p s s' _ _ h; exact h
  | succ k ih =>
    intro c m m' d T p s s' hc hm h
    rw [wlk_s, wlk_s]
    by_cases qc : c = to
    · rw [if_pos qc, if_pos qc]; exact keep_mono hm h
    · rw [if_neg qc, if_neg qc]
      refine it_mono (n := C) ?_ C 0 s s' (by omega) h
      intro x s s' hx hs
      unfold stW
      by_cases hv : q (6 * c + x) ≠ 0 ∧ bit T x = false
      · rw [if_pos hv, if_pos hv]
        exact ih x _ _ (d + 1) _ _ s s' hx (ov_mono (by have := hq c x hc hx; omega) hm) hs
      · rw [if_neg hv, if_neg hv]; exact hs
theorem mr_mono {c to m m' : Nat} (hq : ∀ i j, i < C → j < C → q (6 * i + j) ≤ 100) (hc : c < C) (hm : m ≤ m') : oLe (mrN C q c to m).1 (mrN C q c to m').1 := wlk_mono hq 7 c m m' 0 _ _ _ _ hc hm (fun x hx => by cases hx)
def soM (w : Nat) (c : Option Nat) : Bool := match c with | none => false | some x => decide (w ≤ x)
def soB (C : Nat) (q : Nat → Nat) (c to w n : Nat) : Bool := soM w (mrN C q c to n).1
theorem so_mono {c to w n n' : Nat} (hq : ∀ i j, i < C → j < C → q (6 * i + j) ≤ 100) (hc : c < C) (hn : n ≤ n') (h : soB C q c to w n = true) : soB C q c to w n' = true := by
  unfold soB at h ⊢
  cases hx : (mrN C q c to n).1 with
  | none => rw [hx] at h; cases h
  | some x =>
    rw [hx] at h
    have : w ≤ x := of_decide_eq_true h
    obtain ⟨y, hy, hxy⟩ := mr_mono (to := to) hq hc hn x hx
    rw [hy]
    exact decide_eq_true (by omega)
theorem so_I {c : Option Nat} {w : Nat} (hc : ∀ x, c = some x → x ≤ 999) (hw : w ≤ 999) : (setI c < nI w ↔ soM w c = false) := by
  have := (setI_lt hc hw).1
  rw [this]
  unfold bett
  cases c with
  | none => exact ⟨fun _ => rfl, fun _ => rfl⟩
  | some x =>
    show decide (x < w) = true ↔ decide (w ≤ x) = false
    rw [decide_eq_true_iff, decide_eq_false_iff_not]
    omega
def soN (C : Nat) (q : Nat → Nat) (c to w : Nat) : Int32 := match findN (soB C q c to w) 1000 0 with | some n => nI n | none => -2
theorem q_setOut (h : rCi C q pb lo) (p1 p2 p3 rf th tr wr x1 x2 y1 y2 : Int32) (wk way row best lf : Nat → Int32) : ∃ r t a1 a2 a3 a4 b1 b2 b3 b4 b5, f_X11_setOut rf (nI C) pb x1 x2 wk way p1 p2 p3 = some (r, t, a1, a2, a3, a4) ∧ f_X13_setOut th tr wr y1 y2 row best lf (nI C) lo p1 p2 p3 = some (r, 0, t, -1, b1, b2, b3, b4, b5) ∧ ¬ t = 4 := by
  have hC := h.1
  have hq : ∀ i j, i < C → j < C → q (6 * i + j) ≤ 100 := fun i j hi hj => (h.2 i j hi hj).1
  unfold f_X11_setOut f_X13_setOut f_X3_leastThatSetOut
  rcases marT h.1 p1 p2 p3 with ⟨t, ht, e1, e2⟩ | ⟨c, d, w, hc, hd, hw, rfl, rfl, rfl, e1, e2⟩
  · have rx := refX ht rf tr wr
    rw [e1, e2, bd1_s, bd1_s, rx.1, bd2_s, if_neg (by decide), if_neg rx.2.2.1, rx.2.1, bd3_s]
    exact ⟨_, t, _, _, _, _, _, _, _, _, _, rfl, rfl, rx.2.2.2⟩
  · have hlt : ∀ n, n ≤ 999 → (setI (mrN C q c d n).1 < nI w ↔ soB C q c d w n = false) := fun n hn => so_I (fun x hx => ((mr_g (to := d) (q := q) h.1 hc hn).2.1 x hx).1) hw
    have mod : ∃ b1 b2 b3 b4 b5, f_X13_setOut_L29 (nI C) lo (nI c) (nI d) (nI w) 0 tr wr fuelN 0 y1 y2 row best lf = some (soN C q c d w, 0, 0, -1, b1, b2, b3, b4, b5) := by
      have key : ∀ k i f (y1 y2 : Int32) (row best lf : Nat → Int32), i + k = 1000 → k < f → ∃ b1 b2 b3 b4 b5, f_X13_setOut_L29 (nI C) lo (nI c) (nI d) (nI w) 0 tr wr f (nI i) y1 y2 row best lf = some ((match findN (soB C q c d w) k i with | some n => nI n | none => -2), 0, 0, -1, b1, b2, b3, b4, b5) := by
        intro k
        induction k with
        | zero =>
          intro i f y1 y2 row best lf hi hf
          obtain ⟨f, rfl⟩ : ∃ g, f = g + 1 := ⟨f - 1, by omega⟩
          have : i = 1000 := by omega
          subst this
          refine ⟨y1, y2, row, best, lf, ?_⟩
          show f_X13_setOut_b29 _ _ _ _ _ _ _ _ _ _ _ _ _ _ _ = _
          unfold f_X13_setOut_b29 f_X13_setOut_B73
          rw [if_pos (by decide)]
          rfl
        | succ k ih =>
          intro i f y1 y2 row best lf hi hf
          obtain ⟨f, rfl⟩ : ∃ g, f = g + 1 := ⟨f - 1, by omega⟩
          obtain ⟨row', best', lf', em, -⟩ := marchM h hc hd (show i ≤ 999 by omega) y1 y2 row best lf
          have hg := mr_g (to := d) (q := q) h.1 hc (show i ≤ 999 by omega)
          have hl := hlt i (by omega)
          obtain ⟨b1, b2, b3, b4, b5, e⟩ := ih (i + 1) f (nI (mrN C q c d i).2.1) (setI (mrN C q c d i).1) row' best' lf' (by omega) (by omega)
          show ∃ b1 b2 b3 b4 b5, f_X13_setOut_b29 (nI C) lo (nI c) (nI d) (nI w) 0 tr wr (f_X13_setOut_L29 (nI C) lo (nI c) (nI d) (nI w) 0 tr wr f) (nI i) y1 y2 row best lf = _
          unfold f_X13_setOut_b29 f_X13_setOut_B67
          rw [if_neg (show ¬ (999 : Int32) < nI i from nI_nlt (b := i) (a := 999) (by omega) (by decide)), em, bd5_s, nI_1, e]
          rw [show findN (soB C q c d w) (k + 1) i = if soB C q c d w i = true then some i else findN (soB C q c d w) k (i + 1) from rfl]
          cases hs : soB C q c d w i with
          | true =>
            have hne : ¬ (mrN C q c d i).2.1 ≤ 0 := by
              intro e0
              unfold soB at hs
              cases hx : (mrN C q c d i).1 with
              | none => rw [hx] at hs; cases hs
              | some x => have := (hg.2.1 x hx).2; omega
            rw [if_neg (show ¬ nI (mrN C q c d i).2.1 ≤ (0 : Int32) from fun e0 => hne ((nI_leI (b := 0) (by have := hg.1; omega) (by decide)).mp e0)), if_neg (fun e0 => by have := hl.mp e0; rw [hs] at this; cases this), if_pos rfl]
            exact ⟨_, _, _, _, _, rfl⟩
          | false =>
            rw [if_neg (show ¬ false = true by decide), if_pos (hl.mpr hs)]
            by_cases q0 : nI (mrN C q c d i).2.1 ≤ 0
            · rw [if_pos q0]; exact ⟨_, _, _, _, _, rfl⟩
            · rw [if_neg q0]; exact ⟨_, _, _, _, _, rfl⟩
      exact key 1000 0 fuelN y1 y2 row best lf (by omega) (fuel_gt (by omega))
    obtain ⟨b1, b2, b3, b4, b5, em⟩ := mod
    obtain ⟨wk1, way1, e9, -⟩ := comeC h hc hd (show 999 ≤ 999 by omega) x1 x2 wk way
    have l9 := hlt 999 (by omega)
    have cls : ∃ a1 a2 a3 a4, (bd5 (f_X3_mostThatCome (nI C) pb x1 x2 wk way (nI c) (nI d) (999 : Int32)) fun r_1 ma_cities_2 ma_come_3 ma_walked_4 ma_way_5 => (if nI w ≤ r_1 then f_X3_leastThatSetOut_L27 (nI C) pb (nI c) (nI d) (nI w) fuelN 0 999 0 ma_cities_2 ma_come_3 ma_walked_4 ma_way_5 else some ((-2), ma_cities_2, ma_come_3, ma_walked_4, ma_way_5))) = some (soN C q c d w, a1, a2, a3, a4) := by
      rw [show f_X3_mostThatCome (nI C) pb x1 x2 wk way (nI c) (nI d) (999 : Int32) = _ from e9, bd5_s]
      cases hs : soB C q c d w 999 with
      | false =>
        have : soN C q c d w = -2 := by
          unfold soN
          rw [find_no]
          intro m _ hm
          cases hm2 : soB C q c d w m with
          | false => rfl
          | true => rw [so_mono hq hc (show m ≤ 999 by omega) hm2] at hs; cases hs
        rw [if_neg (Int32.not_le.mpr (l9.mpr hs)), this]
        exact ⟨_, _, _, _, rfl⟩
      | true =>
        rw [if_pos (Int32.not_lt.mp (fun e => by have := l9.mp e; rw [hs] at this; cases this))]
        have key : ∀ n f (lo' hi' r : Nat) (x1 x2 : Int32) (wk way : Nat → Int32), hi' ≤ 999 → lo' ≤ hi' → (hi' - lo') + r ≤ 999 → r + n = 999 → n < f → soB C q c d w hi' = true → (∀ x, x < lo' → soB C q c d w x = false) → ∃ a1 a2 a3 a4, f_X3_leastThatSetOut_L27 (nI C) pb (nI c) (nI d) (nI w) f (nI lo') (nI hi') (nI r) x1 x2 wk way = some (soN C q c d w, a1, a2, a3, a4) := by
          intro n
          induction n with
          | zero =>
            intro f lo' hi' r x1 x2 wk way h1 h2 h3 h4 h5 h6 h7
            obtain ⟨f, rfl⟩ : ∃ g, f = g + 1 := ⟨f - 1, by omega⟩
            have : r = 999 := by omega
            subst this
            have e : soN C q c d w = nI hi' := by
              unfold soN
              rw [find_is (j := hi') (Nat.zero_le _) (by omega) h6 (fun m _ hm => h7 m (by omega))]
            rw [e]
            refine ⟨x1, x2, wk, way, ?_⟩
            show f_X3_leastThatSetOut_b27 _ _ _ _ _ _ _ _ _ _ _ _ _ = _
            unfold f_X3_leastThatSetOut_b27
            rw [if_pos (by decide)]
          | succ n ih =>
            intro f lo' hi' r x1 x2 wk way h1 h2 h3 h4 h5 h6 h7
            obtain ⟨f, rfl⟩ : ∃ g, f = g + 1 := ⟨f - 1, by omega⟩
            have el : nI hi' ≤ nI lo' ↔ hi' ≤ lo' := nI_leI (by omega) (by omega)
            show ∃ a1 a2 a3 a4, f_X3_leastThatSetOut_b27 (nI C) pb (nI c) (nI d) (nI w) (f_X3_leastThatSetOut_L27 (nI C) pb (nI c) (nI d) (nI w) f) (nI lo') (nI hi') (nI r) x1 x2 wk way = _
            unfold f_X3_leastThatSetOut_b27 f_X3_leastThatSetOut_B76
            rw [if_neg (show ¬ (999 : Int32) ≤ nI r from nI_ge (b := 999) (by omega) (by decide))]
            by_cases q0 : hi' ≤ lo'
            · have e : soN C q c d w = nI hi' := by
                unfold soN
                rw [find_is (j := hi') (Nat.zero_le _) (by omega) h6 (fun m _ hm => h7 m (by omega))]
              rw [if_pos (el.mpr q0), e]
              exact ⟨x1, x2, wk, way, rfl⟩
            · have hmid : (lo' + hi') / 2 ≤ 999 := by omega
              obtain ⟨wk', way', ec, -⟩ := comeC h hc hd hmid x1 x2 wk way
              have lm := hlt ((lo' + hi') / 2) hmid
              rw [if_neg (fun e => q0 (el.mp e)), nI_add, show (2 : Int32) = nI 2 from rfl, pk_div (by omega) (by decide) (by decide), ec, bd5_s, nI_1, nI_1]
              cases hb : soB C q c d w ((lo' + hi') / 2) with
              | true =>
                rw [if_neg (fun e => by have := lm.mp e; rw [hb] at this; cases this)]
                exact ih f lo' ((lo' + hi') / 2) (r + 1) _ _ wk' way' (by omega) (by omega) (by omega) (by omega) (by omega) hb h7
              | false =>
                rw [if_pos (lm.mpr hb)]
                refine ih f ((lo' + hi') / 2 + 1) hi' (r + 1) _ _ wk' way' h1 (by omega) (by omega) (by omega) (by omega) h6 ?_
                intro x hx
                cases hx2 : soB C q c d w x with
                | false => rfl
                | true => rw [so_mono hq hc (show x ≤ (lo' + hi') / 2 by omega) hx2] at hb; cases hb
        exact key 999 fuelN 0 999 0 _ _ wk1 way1 (by omega) (by omega) (by omega) (by omega) (fuel_gt (by omega)) hs (by intro x hx; omega)
    obtain ⟨a1, a2, a3, a4, ec⟩ := cls
    rw [e1, e2, bd1_s, bd1_s, refF, bd2_s, if_pos rfl, if_pos (by decide), ec, bd5_s, em]
    exact ⟨_, 0, _, _, _, _, _, _, _, _, _, rfl, rfl, by decide⟩
end BK
