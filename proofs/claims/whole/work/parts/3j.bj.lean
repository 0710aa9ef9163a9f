/-! BJ: marches: the reference -/
def bnd : Nat → Nat
  | 0 => 7
  | r + 1 => 6 * (1 + bnd r) + 1
theorem bnd_v : bnd 0 = 7 ∧ bnd 1 = 49 ∧ bnd 2 = 301 ∧ bnd 3 = 1813 ∧ bnd 4 = 10885 := by decide
def vaW (q : Nat → Nat) (c T x : Nat) : Bool := decide (q (6 * c + x) ≠ 0) && !bit T x
def fsW (C : Nat) (q : Nat → Nat) (c T i : Nat) : Nat := (findN (vaW q c T) (C - i) i).getD C
theorem fsW_s {C i : Nat} {q : Nat → Nat} {c T : Nat} (hi : i < C) : fsW C q c T i = if vaW q c T i then i else fsW C q c T (i + 1) := by
  unfold fsW
  rw [show C - i = (C - (i + 1)) + 1 by omega]
  show (if vaW q c T i = true then some i else findN (vaW q c T) (C - (i + 1)) (i + 1)).getD C = _
  cases vaW q c T i <;> rfl
theorem fsW_e {C : Nat} {q : Nat → Nat} {c T : Nat} : fsW C q c T C = C := by
  unfold fsW
  rw [Nat.sub_self]
  rfl
theorem st_no {C to k c m d T x : Nat} {q p : Nat → Nat} {s : MW} (h : vaW q c T x = false) : stW C to q k c m d T p x s = s := by
  unfold stW
  rw [if_neg]
  intro e
  unfold vaW at h
  rw [decide_eq_true e.1, e.2] at h
  cases h
/-- the fold over children from i on: none is left, or the first that is there, then the rest -/
theorem fold_fs {C to k c m d T i : Nat} {q p : Nat → Nat} {s : MW} (hi : i ≤ C) : (fsW C q c T i = C ∧ itN (stW C to q k c m d T p) (C - i) i s = s) ∨ (i ≤ fsW C q c T i ∧ fsW C q c T i < C ∧ vaW q c T (fsW C q c T i) = true ∧ itN (stW C to q k c m d T p) (C - i) i s = itN (stW C to q k c m d T p) (C - (fsW C q c T i + 1)) (fsW C q c T i + 1) (stW C to q k c m d T p (fsW C q c T i) s)) := by
  cases hf : findN (vaW q c T) (C - i) i with
  | none =>
    left
    refine ⟨by unfold fsW; rw [hf]; rfl, ?_⟩
    exact it_skip _ _ _ (fun j s' h1 h2 => st_no (find_n _ _ hf j h1 h2))
  | some x =>
    right
    obtain ⟨g1, g2, g3, g4⟩ := find_s _ _ _ hf
    have e : fsW C q c T i = x := by unfold fsW; rw [hf]; rfl
    rw [e]
    refine ⟨g1, by omega, g3, ?_⟩
    rw [show C - i = (x - i) + ((C - (x + 1)) + 1) by omega, it_split, it_skip (x - i) i s (fun j s' h1 h2 => st_no (g4 j h1 (by omega))), show i + (x - i) = x by omega]
    rfl
section BJ
variable {C to : Nat} {q : Nat → Nat} {pb lo : Nat → Int32}
noncomputable abbrev L51m (C to : Nat) (lo : Nat → Int32) : Nat → Int32 → Int32 → Int32 → Int32 → (Nat → Int32) → (Nat → Int32) → (Nat → Int32) → Option (Int32 × Int32 × (Nat → Int32) × (Nat → Int32) × (Nat → Int32)) := f_X13_marches_L51 (nI C) lo (nI to)
theorem comesM {m d : Nat} {p : Nat → Nat} {s : MW} {row best lf : Nat → Int32} (hm : m ≤ 999) (hd : d ≤ 5) (hg : gW C q s) (hw : ∀ j, j < d + 1 → row j = nI (p j)) (hl : lf d = nI m) (hy : ∀ j, j < s.2.1 → best j = nI (s.2.2 j)) : ∃ best', f_X13_comes (nI s.2.1) (setI s.1) row best lf (nI (d + 1)) = some (nI (keepW m (d + 1) p s).2.1, setI (keepW m (d + 1) p s).1, best') ∧ ∀ j, j < (keepW m (d + 1) p s).2.1 → best' j = nI ((keepW m (d + 1) p s).2.2 j) := by
  have e := setI_lt (c := s.1) (m := m) (fun x hx => (hg.2.1 x hx).1) hm
  unfold f_X13_comes keepW
  rw [nI_pred, gI (by omega) (by decide), gI (by omega) (by decide), nI_clamp (by omega), hl]
  cases hb : bett m s.1 with
  | false =>
    rw [if_neg (fun h => by have := e.1.mp h; rw [hb] at this; cases this), if_neg (by decide)]
    exact ⟨best, rfl, hy⟩
  | true =>
    rw [if_pos (e.1.mpr hb), if_pos rfl]
    refine loopR (fun f i y => f_X13_comes_L35 row lf (nI (d + 1)) (nI (d + 1)) (nI m) f (nI i) y) (d + 1) (fun i y => ∀ j, j < i → y j = nI (p j)) (fun o => ∃ best', o = some (nI (d + 1), nI m, best') ∧ ∀ j, j < d + 1 → best' j = nI (p j)) ?_ ?_ (d + 1) 0 best fuelN (by omega) (by intro j hj; omega) (fuel_gt (by omega))
    · intro f i y hi hy
      refine ⟨upd y i (row i), ?_, ?_⟩
      · intro j hj
        by_cases q : j = i
        · subst q; rw [pk_us]; exact hw j hi
        · rw [pk_un q]; exact hy j (by omega)
      · show f_X13_comes_b35 _ _ _ _ _ _ _ _ = _
        unfold f_X13_comes_b35
        rw [if_neg (nI_ge hi (by omega)), gI (by omega) (by decide), gI (by omega) (by decide), nI_1, nI_clamp (by omega)]
    · intro f y hy
      refine ⟨y, ?_, hy⟩
      show f_X13_comes_b35 _ _ _ _ _ _ _ _ = _
      unfold f_X13_comes_b35
      rw [if_pos (nI_le (Nat.le_refl _) (by omega))]
/-- the next child is looked for -/
theorem srchM (h : rCi C q pb lo) {c T e : Nat} (hc : c < C) (hT : T < 2 ^ C) (he : e + 1 < 6) : ∀ n i f (row : Nat → Int32), i + n = C → row (e + 1) = nI i → row e = nI c → n < f → ∃ row', row' (e + 1) = nI (fsW C q c T i) ∧ (∀ j, j ≠ e + 1 → row' j = row j) ∧ ∀ (kk : Int32 → Int32 → Int32 → Int32 → (Nat → Int32) → (Nat → Int32) → (Nat → Int32) → Option (Int32 × Int32 × (Nat → Int32) × (Nat → Int32) × (Nat → Int32))) (x1 x2 : Int32) (best lf : Nat → Int32), f_X13_marches_L94 kk (nI C) lo (nI to) (nI T) (nI (e + 1)) x1 x2 best lf f row = f_X13_marches_B172 kk (nI C) lo (nI to) (nI T) (nI (e + 1)) x1 x2 row' best lf := by
  have hC := h.1
  have h2 := p2C hC
  intro n
  induction n with
  | zero =>
    intro i f row hi hr hr2 hf
    obtain ⟨f, rfl⟩ : ∃ g, f = g + 1 := ⟨f - 1, by omega⟩
    have hi : i = C := by omega
    subst hi
    refine ⟨row, by rw [fsW_e]; exact hr, fun _ _ => rfl, fun kk x1 x2 best lf => ?_⟩
    show f_X13_marches_b94 _ _ _ _ _ _ _ _ _ _ _ _ = _
    unfold f_X13_marches_b94
    rw [gI he (by decide), nI_clamp (show e + 1 < 2 ^ 31 by omega), hr, if_pos (nI_le (Nat.le_refl _) (by omega))]
  | succ n ih =>
    intro i f row hi hr hr2 hf
    obtain ⟨f, rfl⟩ : ∃ g, f = g + 1 := ⟨f - 1, by omega⟩
    have hiC : i < C := by omega
    have hx := h.2 c i hc hiC
    have em := m1_iff hx.1
    obtain ⟨row', g1, g2, g3⟩ := ih (i + 1) f (upd row (e + 1) (nI (i + 1))) (by omega) pk_us (by rw [pk_un (by omega)]; exact hr2) (by omega)
    have base : ∀ (kk : Int32 → Int32 → Int32 → Int32 → (Nat → Int32) → (Nat → Int32) → (Nat → Int32) → Option (Int32 × Int32 × (Nat → Int32) × (Nat → Int32) × (Nat → Int32))) (x1 x2 : Int32) (best lf : Nat → Int32), f_X13_marches_L94 kk (nI C) lo (nI to) (nI T) (nI (e + 1)) x1 x2 best lf (f + 1) row = if vaW q c T i then f_X13_marches_B172 kk (nI C) lo (nI to) (nI T) (nI (e + 1)) x1 x2 row best lf else f_X13_marches_L94 kk (nI C) lo (nI to) (nI T) (nI (e + 1)) x1 x2 best lf f (upd row (e + 1) (nI (i + 1))) := by
      intro kk x1 x2 best lf
      show f_X13_marches_b94 _ _ _ _ _ _ _ _ _ _ _ _ = _
      unfold f_X13_marches_b94 f_X13_marches_B158
      rw [gI he (by decide), gI he (by decide), gI he (by decide), gI he (by decide), gI he (by decide), nI_pred, gI (show e < 6 by omega) (by decide), nI_clamp (show e + 1 < 2 ^ 31 by omega), nI_clamp (show e < 2 ^ 31 by omega), hr, hr2, if_neg (nI_ge hiC (by omega)), bitM (by omega) (by omega), bd1_s, i6', gI (by omega) (by decide), nI_clamp (by omega), hx.2.2, nI_1]
      unfold vaW
      cases hb : bit T i with
      | true => rw [selT, Bool.not_true, Bool.and_false, if_neg (by decide)]
      | false =>
        rw [selF, Bool.not_false, Bool.and_true]
        by_cases q0 : q (6 * c + i) = 0
        · rw [if_pos (em.mpr q0), decide_eq_false (fun e => e q0), if_neg (by decide)]
        · rw [if_neg (fun e => q0 (em.mp e)), decide_eq_true q0, if_pos rfl]
    rw [fsW_s hiC]
    cases hv : vaW q c T i with
    | true =>
      refine ⟨row, by rw [if_pos rfl]; exact hr, fun _ _ => rfl, fun kk x1 x2 best lf => ?_⟩
      rw [base, hv, if_pos rfl]
    | false =>
      refine ⟨row', by rw [if_neg (by decide)]; exact g1, fun j hj => by rw [g2 j hj, pk_un hj], fun kk x1 x2 best lf => ?_⟩
      rw [base, hv, if_neg (by decide)]
      exact g3 kk x1 x2 best lf
def marP (C to : Nat) (q : Nat → Nat) (lo : Nat → Int32) (r : Nat) : Prop := ∀ e k, e + r + 2 = C → e + k = 5 → ∀ c m T p, p e = c → c < C → m ≤ 999 → T < 2 ^ C → popN T = e + 1 → gP C q e p → ∀ n i, i + n = C → ∀ used s (row best lf : Nat → Int32), ((i = 0 ∧ used = T) ∨ ∃ c0, i = c0 + 1 ∧ c0 < C ∧ used = T ||| 2 ^ c0 ∧ bit T c0 = false) → row (e + 1) = nI i - 1 → (∀ j, j < e + 1 → row j = nI (p j)) → lf e = nI m → gW C q s → (∀ j, j < s.2.1 → best j = nI (s.2.2 j)) → ∃ N row' best' lf', N ≤ n * (1 + bnd r) + 1 ∧ (∀ j, j < e + 1 → row' j = nI (p j)) ∧ (∀ j, j < e + 1 → lf' j = lf j) ∧ (∀ j, j < (itN (stW C to q (k + 1) c m e T p) n i s).2.1 → best' j = nI ((itN (stW C to q (k + 1) c m e T p) n i s).2.2 j)) ∧ ∀ f, L51m C to lo (f + N) (nI used) (nI (e + 1)) (nI s.2.1) (setI s.1) row best lf = L51m C to lo f (nI T) (nI e) (nI (itN (stW C to q (k + 1) c m e T p) n i s).2.1) (setI (itN (stW C to q (k + 1) c m e T p) n i s).1) row' best' lf'
theorem mar_step (h : rCi C q pb lo) (hto : to < C) (r : Nat) (hch : ∀ r', r = r' + 1 → marP C to q lo r') : marP C to q lo r := by
  have hC := h.1
  have h2 := p2C hC
  intro e k her hek c m T p hpc hc hm hT hT1 hp n
  induction n using Nat.strongRecOn with
  | _ n ihn =>
    intro i hin used s row best lf hu hrow hrp hlf hg hb
    have he : e + 1 < 6 := by omega
    have g6 : ∀ {α : Type} (x : Option α), gIn (nI (e + 1)) 6 x = x := fun x => gI he (by decide)
    have g6' : ∀ {α : Type} (x : Option α), gIn (nI e) 6 x = x := fun x => gI (by omega) (by decide)
    have hT6 : T < 64 := by omega
    have hn : n = C - i := by omega
    subst hn
    have head : ∀ f (x1 x2 : Int32), L51m C to lo (f + 1) (nI used) (nI (e + 1)) x1 x2 row best lf = f_X13_marches_L94 (L51m C to lo f) (nI C) lo (nI to) (nI T) (nI (e + 1)) x1 x2 best lf fuelN (upd row (e + 1) (nI i)) := by
      intro f x1 x2
      have er : nI i - 1 + 1 = nI i := Int32.sub_add_cancel _ _
      show f_X13_marches_b51 _ _ _ _ _ _ _ _ _ _ _ = _
      unfold f_X13_marches_b51 f_X13_marches_B83
      rw [if_neg (nI_nle (by omega) (by omega))]
      simp only [g6]
      rw [nI_clamp (show e + 1 < 2 ^ 31 by omega), hrow, er]
      rcases hu with ⟨hi, hu⟩ | ⟨c0, hi, hc0, hu, hb0⟩
      · subst hi; subst hu
        rw [if_pos (by decide)]
      · subst hi; subst hu
        have en : ¬ nI c0 = -1 := fun e => absurd (show (-1 : Int32) < 0 by decide) (by rw [← e]; exact nI_pos (by omega))
        rw [nI_pred, if_neg en, clrI T hT6 c0 (by omega) hb0]
    obtain ⟨row1, w1, w2, w3⟩ := srchM (to := to) h hc hT he (C - i) i fuelN (upd row (e + 1) (nI i)) (by omega) pk_us (by rw [pk_un (by omega), hrp e (by omega), hpc]) (fuel_gt (by omega))
    have w4 : ∀ j, j < e + 1 → row1 j = nI (p j) := fun j hj => by rw [w2 j (by omega), pk_un (by omega)]; exact hrp j hj
    rcases fold_fs (C := C) (to := to) (k := k + 1) (c := c) (m := m) (d := e) (T := T) (i := i) (q := q) (p := p) (s := s) (by omega) with ⟨z1, z2⟩ | ⟨z0, z1, z2, z3⟩
    · rw [z2]
      refine ⟨1, row1, best, lf, by omega, w4, fun _ _ => rfl, hb, fun f => ?_⟩
      rw [head, w3]
      unfold f_X13_marches_B172
      rw [gI he (by decide), nI_clamp (show e + 1 < 2 ^ 31 by omega), w1, z1, if_neg (nI_nlt (Nat.le_refl _) (by omega)), pk_m1]
    · generalize hx : fsW C q c T i = x at *
      have hv : q (6 * c + x) ≠ 0 ∧ bit T x = false := by
        unfold vaW at z2
        cases hb : bit T x with
        | true => rw [hb, Bool.not_true, Bool.and_false] at z2; cases z2
        | false =>
          refine ⟨fun e => ?_, rfl⟩
          rw [decide_eq_false (fun g => g e)] at z2
          cases z2
      have hq := h.2 c x hc z1
      have hm' : ovN m (q (6 * c + x) - 1) ≤ 999 := Nat.le_trans (ov_le _ _) hm
      have hTx : T ||| 2 ^ x < 2 ^ C := Nat.or_lt_two_pow hT (Nat.pow_lt_pow_right (by decide) z1)
      have hTp : popN (T ||| 2 ^ x) = e + 1 + 1 := by rw [popX T hT6 x (by omega) hv.2, hT1]
      have hgp := gP_up hp z1 (by rw [hpc]; exact hv.1)
      have est : stW C to q (k + 1) c m e T p x s = wlk C to q (k + 1) x (ovN m (q (6 * c + x) - 1)) (e + 1) (T ||| 2 ^ x) (updN p (e + 1) x) s := by unfold stW; rw [if_pos hv]
      have hgs : gW C q (stW C to q (k + 1) c m e T p x s) := by
        rw [est]
        exact wlk_g hC (k + 1) x _ (e + 1) _ _ s hm' hTx hTp hgp (upd_eq _ _ _) hg
      have hK : (C - (x + 1)) * (1 + bnd r) + (1 + bnd r) ≤ (C - i) * (1 + bnd r) := by
        rw [← Nat.succ_mul]
        exact Nat.mul_le_mul_right _ (by omega)
      -- what comes behind the child
      have fin : ∀ (row3 best3 lf3 : Nat → Int32) (N1 : Nat), N1 ≤ bnd r → row3 (e + 1) = nI x → (∀ j, j < e + 1 → row3 j = nI (p j)) → (∀ j, j < e + 1 → lf3 j = lf j) → (∀ j, j < (stW C to q (k + 1) c m e T p x s).2.1 → best3 j = nI ((stW C to q (k + 1) c m e T p x s).2.2 j)) → (∀ f, L51m C to lo (f + N1 + 1) (nI used) (nI (e + 1)) (nI s.2.1) (setI s.1) row best lf = L51m C to lo f (nI (T ||| 2 ^ x)) (nI (e + 1)) (nI (stW C to q (k + 1) c m e T p x s).2.1) (setI (stW C to q (k + 1) c m e T p x s).1) row3 best3 lf3) → ∃ N row' best' lf', N ≤ (C - i) * (1 + bnd r) + 1 ∧ (∀ j, j < e + 1 → row' j = nI (p j)) ∧ (∀ j, j < e + 1 → lf' j = lf j) ∧ (∀ j, j < (itN (stW C to q (k + 1) c m e T p) (C - i) i s).2.1 → best' j = nI ((itN (stW C to q (k + 1) c m e T p) (C - i) i s).2.2 j)) ∧ ∀ f, L51m C to lo (f + N) (nI used) (nI (e + 1)) (nI s.2.1) (setI s.1) row best lf = L51m C to lo f (nI T) (nI e) (nI (itN (stW C to q (k + 1) c m e T p) (C - i) i s).2.1) (setI (itN (stW C to q (k + 1) c m e T p) (C - i) i s).1) row' best' lf' := by
        intro row3 best3 lf3 N1 hN1 k1 k2 k3 k4 k5
        obtain ⟨N2, row', best', lf', g1, g2, g3, g4, g5⟩ := ihn (C - (x + 1)) (by omega) (x + 1) (by omega) (T ||| 2 ^ x) (stW C to q (k + 1) c m e T p x s) row3 best3 lf3 (Or.inr ⟨x, rfl, z1, rfl, hv.2⟩) (by rw [nI_pred]; exact k1) k2 (by rw [k3 e (by omega)]; exact hlf) hgs k4
        rw [z3]
        refine ⟨N2 + N1 + 1, row', best', lf', by omega, g2, fun j hj => by rw [g3 j hj, k3 j hj], g4, fun f => ?_⟩
        rw [show f + (N2 + N1 + 1) = (f + N2) + N1 + 1 by omega, k5 (f + N2), g5 f]
      have body : ∀ f, L51m C to lo (f + 1) (nI used) (nI (e + 1)) (nI s.2.1) (setI s.1) row best lf = (if nI x = nI to then bd3 (f_X13_comes (nI s.2.1) (setI s.1) row1 best (upd lf (e + 1) (nI (ovN m (q (6 * c + x) - 1)))) (nI (e + 1 + 1))) fun a1 a2 a3 => L51m C to lo f (nI (T ||| 2 ^ x)) (nI (e + 1)) a1 a2 row1 a3 (upd lf (e + 1) (nI (ovN m (q (6 * c + x) - 1)))) else if nI C ≤ nI (e + 1 + 1) then L51m C to lo f (nI (T ||| 2 ^ x)) (nI (e + 1)) (nI s.2.1) (setI s.1) row1 best (upd lf (e + 1) (nI (ovN m (q (6 * c + x) - 1)))) else gIn (nI (e + 1 + 1)) 6 (L51m C to lo f (nI (T ||| 2 ^ x)) (nI (e + 1 + 1)) (nI s.2.1) (setI s.1) (upd row1 (nI (e + 1 + 1)).toNatClampNeg (-1)) best (upd lf (e + 1) (nI (ovN m (q (6 * c + x) - 1)))))) := by
        intro f
        rw [head, w3]
        unfold f_X13_marches_B172
        rw [nI_pred]
        simp only [g6, g6']
        rw [nI_clamp (show e + 1 < 2 ^ 31 by omega), nI_clamp (show e < 2 ^ 31 by omega), w1, w4 e (by omega), hpc, if_pos (nI_lt z1 (by omega)), i6', gI (by omega) (by decide), nI_clamp (show 6 * c + x < 2 ^ 31 by omega), hq.2.2, hlf, overM hm hv.1 hq.1, bd1_s, shlN (by omega), nI_or, nI_1]
      have ext : nI x = nI to ↔ x = to := nI_eq (by omega) (by omega)
      have eCe : nI C ≤ nI (e + 1 + 1) ↔ C ≤ e + 1 + 1 := nI_leI (by omega) (by omega)
      have hpx : ∀ j, j < e + 1 + 1 → row1 j = nI (updN p (e + 1) x j) := by
        intro j hj
        by_cases ej : j = e + 1
        · rw [ej, upd_eq]; exact w1
        · rw [upd_lt (by omega)]; exact w4 j (by omega)
      by_cases qt : x = to
      · obtain ⟨best', ec, hb'⟩ := comesM (C := C) (q := q) (m := ovN m (q (6 * c + x) - 1)) (d := e + 1) (p := updN p (e + 1) x) (s := s) (row := row1) (best := best) (lf := upd lf (e + 1) (nI (ovN m (q (6 * c + x) - 1)))) hm' (by omega) hg hpx pk_us hb
        have es : stW C to q (k + 1) c m e T p x s = keepW (ovN m (q (6 * c + x) - 1)) (e + 1 + 1) (updN p (e + 1) x) s := by rw [est, wlk_s, if_pos qt]
        refine fin row1 best' (upd lf (e + 1) (nI (ovN m (q (6 * c + x) - 1)))) 0 (Nat.zero_le _) w1 w4 (fun j hj => pk_un (by omega)) (by rw [es]; exact hb') (fun f => ?_)
        rw [Nat.add_zero, body f, if_pos (ext.mpr qt), ec, bd3_s, es]
      · by_cases qC : C ≤ e + 1 + 1
        · have es : stW C to q (k + 1) c m e T p x s = s := by
            rw [est, wlk_s, if_neg qt]
            refine it_skip _ _ _ (fun j s' _ hj => st_no ?_)
            unfold vaW
            rw [popF C (by omega) (T ||| 2 ^ x) (by omega) hTx (by omega) j (by omega) (by omega), Bool.not_true, Bool.and_false]
          refine fin row1 best (upd lf (e + 1) (nI (ovN m (q (6 * c + x) - 1)))) 0 (Nat.zero_le _) w1 w4 (fun j hj => pk_un (by omega)) (by rw [es]; exact hb) (fun f => ?_)
          rw [Nat.add_zero, body f, if_neg (fun e => qt (ext.mp e)), if_pos (eCe.mpr qC), es]
        · obtain ⟨r', hr'⟩ : ∃ r', r = r' + 1 := ⟨r - 1, by omega⟩
          obtain ⟨k', hk'⟩ : ∃ k', k = k' + 1 := ⟨k - 1, by omega⟩
          subst hr'; subst hk'
          have es : stW C to q (k' + 1 + 1) c m e T p x s = itN (stW C to q (k' + 1) x (ovN m (q (6 * c + x) - 1)) (e + 1) (T ||| 2 ^ x) (updN p (e + 1) x)) C 0 s := by rw [est, wlk_s, if_neg qt]
          obtain ⟨N1, row3, best3, lf3, g1, g2, g3, g4, g5⟩ := hch r' rfl (e + 1) k' (by omega) (by omega) x (ovN m (q (6 * c + x) - 1)) (T ||| 2 ^ x) (updN p (e + 1) x) (upd_eq _ _ _) z1 hm' hTx hTp hgp C 0 (by omega) (T ||| 2 ^ x) s (upd row1 (e + 1 + 1) (-1)) best (upd lf (e + 1) (nI (ovN m (q (6 * c + x) - 1)))) (Or.inl ⟨rfl, rfl⟩) (by rw [pk_us]; rfl) (fun j hj => by rw [pk_un (by omega)]; exact hpx j hj) pk_us hg hb
          refine fin row3 best3 lf3 N1 ?_ (by rw [g2 (e + 1) (by omega), upd_eq]) (fun j hj => by rw [g2 j (by omega), upd_lt (by omega)]) (fun j hj => by rw [g3 j (by omega), pk_un (by omega)]) (by rw [es]; exact g4) (fun f => ?_)
          · show N1 ≤ 6 * (1 + bnd r') + 1
            have : C * (1 + bnd r') ≤ 6 * (1 + bnd r') := Nat.mul_le_mul_right _ hC
            omega
          · rw [body (f + N1), if_neg (fun e => qt (ext.mp e)), if_neg (fun e => qC (eCe.mp e)), gI (by omega) (by decide), nI_clamp (by omega), es]
            exact g5 f
theorem marM (h : rCi C q pb lo) (hto : to < C) : ∀ r, marP C to q lo r := by
  intro r
  induction r with
  | zero => exact mar_step h hto 0 (fun r' e => by omega)
  | succ r ih => exact mar_step h hto (r + 1) (fun r' e => by have h0 : r = r' := (by omega); subst h0; exact ih)
theorem marchM (h : rCi C q pb lo) {c m : Nat} (hc : c < C) (hto : to < C) (hm : m ≤ 999) (x1 x2 : Int32) (row best lf : Nat → Int32) : ∃ row' best' lf', f_X13_marches x1 x2 row best lf (nI C) lo (nI c) (nI to) (nI m) = some (nI (mrN C q c to m).2.1, setI (mrN C q c to m).1, row', best', lf') ∧ ∀ j, j < (mrN C q c to m).2.1 → best' j = nI ((mrN C q c to m).2.2 j) := by
  have hC := h.1
  have hfu := fuelN_ge
  have ect : nI c = nI to ↔ c = to := nI_eq (by omega) (by omega)
  have g0 : gW C q (none, 0, fun _ => 0) := ⟨by decide, fun x hx => (by cases hx), fun _ => rfl, fun j hj => by have : j < 0 := hj; omega, fun j hj => by have : j + 1 < 0 := hj; omega⟩
  unfold f_X13_marches
  by_cases qc : c = to
  · have es : mrN C q c to m = keepW m 1 (fun _ => c) (none, 0, fun _ => 0) := by
      unfold mrN
      rw [wlk_s, if_pos qc]
    obtain ⟨best', ec, hb'⟩ := comesM (C := C) (q := q) (m := m) (d := 0) (p := fun _ => c) (s := (none, 0, fun _ => 0)) (row := upd row 0 (nI c)) (best := best) (lf := upd lf 0 (nI m)) hm (by omega) g0 (fun j hj => by have h0 : j = 0 := (by omega); subst h0; exact pk_us) pk_us (fun j hj => by have : j < 0 := hj; omega)
    rw [if_pos (ect.mpr qc), es]
    have ec : f_X13_comes 0 (-2) (upd row ((0 : Int32).toNatClampNeg) (nI c)) best (upd lf ((0 : Int32).toNatClampNeg) (nI m)) (1 : Int32) = _ := ec
    rw [ec, bd3_s]
    exact ⟨_, best', _, rfl, hb'⟩
  · rw [if_neg (fun e => qc (ect.mp e)), shlN (by omega)]
    obtain ⟨r, hr⟩ : ∃ r, C = r + 2 := ⟨C - 2, by omega⟩
    have es : mrN C q c to m = itN (stW C to q 6 c m 0 (2 ^ c) (fun _ => c)) C 0 (none, 0, fun _ => 0) := by
      unfold mrN
      rw [wlk_s, if_neg qc]
    obtain ⟨N, row', best', lf', w1, w2, w3, w4, w5⟩ := marM h hto r 0 5 (by omega) (by omega) c m (2 ^ c) (fun _ => c) rfl hc hm (Nat.pow_lt_pow_right (by decide) hc) (pop1 c (by omega)) ⟨fun _ _ => hc, fun j hj => by omega⟩ C 0 (by omega) (2 ^ c) (none, 0, fun _ => 0) (upd (upd row 0 (nI c)) 1 (-1)) best (upd lf 0 (nI m)) (Or.inl ⟨rfl, rfl⟩) (by rw [pk_us]; rfl) (fun j hj => by have h0 : j = 0 := (by omega); subst h0; rw [pk_un (by decide), pk_us]) pk_us g0 (fun j hj => by have : j < 0 := hj; omega)
    have hb : bnd r ≤ 10885 := by
      have hv := bnd_v
      rcases (show r = 0 ∨ r = 1 ∨ r = 2 ∨ r = 3 ∨ r = 4 by omega) with e | e | e | e | e <;> rw [e] <;> omega
    have hCb : C * (1 + bnd r) ≤ 6 * (1 + bnd r) := Nat.mul_le_mul_right _ hC
    obtain ⟨f0, hf0⟩ : ∃ f0, fuelN = f0 + 1 + N := ⟨fuelN - 1 - N, by omega⟩
    rw [← es] at w4 w5
    refine ⟨row', best', lf', ?_, w4⟩
    rw [hf0]
    refine (show f_X13_marches_L51 (nI C) lo (nI to) (f0 + 1 + N) (nI (2 ^ c)) 1 0 (-2) (upd (upd row ((0 : Int32).toNatClampNeg) (nI c)) ((1 : Int32).toNatClampNeg) (-1)) best (upd lf ((0 : Int32).toNatClampNeg) (nI m)) = _ from w5 (f0 + 1)).trans ?_
    show f_X13_marches_b51 _ _ _ _ _ _ _ _ _ _ _ = _
    unfold f_X13_marches_b51
    rw [if_pos (by decide)]
end BJ
