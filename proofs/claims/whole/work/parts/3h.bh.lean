/-! BH: placing: both ways agree -/
def cdB (a : AS) (T l : Nat) : Bool := decide (l = a 0 0) || !bit T l
def cdC (a : AS) (k b T l : Nat) : Int := if l = a 0 0 then plM a k (b + 1) T else aW a b l + plM a k (b + 1) (T ||| 2 ^ l)
/-- behind the lanes below i of beast b -/
def plI (a : AS) (k b : Nat) (P : Nat → Nat) (z : Int) (B : Nat → Int32) (i : Nat) (z1 : Int) (B1 : Nat → Int32) : Prop := match pfT (a 0 0) P b with
  | none => z1 = z ∧ B1 = B
  | some T => (∀ l, l < i → cdB a T l = true → pfS a P b + cdC a k b T l ≤ z1) ∧ z ≤ z1 ∧ ((z1 = z ∧ B1 = B) ∨ ∃ l, l < i ∧ cdB a T l = true ∧ z1 = pfS a P b + cdC a k b T l ∧ z < z1 ∧ B1 = (fun j => nI (if j < b + 1 then updN P b l j else plG a k (b + 1) (plT (a 0 0) T l) j)) ∧ ∀ l', l' < l → cdB a T l' = true → pfS a P b + cdC a k b T l' < z1)
section BH
variable {a : AS} {wh' kd' md' v : Nat → Int32}
theorem plI_0 (k b : Nat) (P : Nat → Nat) (z : Int) (B : Nat → Int32) : plI a k b P z B 0 z B := by
  unfold plI
  cases pfT (a 0 0) P b with
  | none => exact ⟨rfl, rfl⟩
  | some T => exact ⟨fun l hl => by omega, Int.le_refl _, Or.inl ⟨rfl, rfl⟩⟩
theorem upd_lt {P : Nat → Nat} {b x j : Nat} (h : j < b) : updN P b x j = P j := if_neg (by omega)
theorem upd_eq (P : Nat → Nat) (b x : Nat) : updN P b x b = x := if_pos rfl
theorem plI_s {k b : Nat} {P : Nat → Nat} {z : Int} {B : Nat → Int32} {i : Nat} {z1 : Int} {B1 : Nat → Int32} (hi : i ≤ a 0 0) (h : plI a k b P z B i z1 B1) : plI a k b P z B (i + 1) (plR a k (b + 1) (updN P b i) z1 B1).1 (plR a k (b + 1) (updN P b i) z1 B1).2 := by
  have eT : pfT (a 0 0) (updN P b i) b = pfT (a 0 0) P b := pf_cong b (fun j hj => upd_lt hj)
  have eS : pfS a (updN P b i) (b + 1) = pfS a P b + (if i = a 0 0 then 0 else aW a b i) := by
    show pfS a (updN P b i) b + pfV a (updN P b i) b = _
    rw [pfS_cong b (fun j hj => upd_lt hj)]
    unfold pfV
    rw [upd_eq]
  have eT1 : pfT (a 0 0) (updN P b i) (b + 1) = match pfT (a 0 0) P b with | none => none | some T => if i = a 0 0 then some T else if bit T i then none else some (T ||| 2 ^ i) := by
    show (match pfT (a 0 0) (updN P b i) b with | none => none | some T => if updN P b i b = a 0 0 then some T else if bit T (updN P b i b) then none else some (T ||| 2 ^ updN P b i b)) = _
    rw [eT, upd_eq]
  unfold plR
  rw [eT1, eS]
  unfold plI at h ⊢
  cases hT : pfT (a 0 0) P b with
  | none =>
    rw [hT] at h
    exact h
  | some T =>
    rw [hT] at h
    obtain ⟨h1, h2, h3⟩ := h
    by_cases hc : cdB a T i = true
    · have ec : (if i = a 0 0 then some T else if bit T i = true then none else some (T ||| 2 ^ i)) = some (plT (a 0 0) T i) := by
        unfold plT
        by_cases q : i = a 0 0
        · rw [if_pos q, if_pos q]
        · rw [if_neg q, if_neg q]
          unfold cdB at hc
          rw [decide_eq_false q, Bool.false_or] at hc
          cases hb : bit T i with
          | true => rw [hb] at hc; cases hc
          | false => rfl
      have ev : pfS a P b + (if i = a 0 0 then 0 else aW a b i) + plM a k (b + 1) (plT (a 0 0) T i) = pfS a P b + cdC a k b T i := by
        unfold cdC plT
        by_cases q : i = a 0 0
        · rw [if_pos q, if_pos q, if_pos q, Int.add_zero]
        · rw [if_neg q, if_neg q, if_neg q, Int.add_assoc]
      dsimp only
      rw [ec]
      dsimp only
      rw [ev]
      by_cases q : z1 < pfS a P b + cdC a k b T i
      · rw [if_pos q]
        refine ⟨fun l hl hcl => ?_, ?_, Or.inr ⟨i, by omega, hc, rfl, ?_, rfl, fun l' hl' hcl' => ?_⟩⟩
        · show _ ≤ pfS a P b + cdC a k b T i
          by_cases ql : l = i
          · rw [ql]; exact Int.le_refl _
          · have := h1 l (by omega) hcl; omega
        · show z ≤ pfS a P b + cdC a k b T i
          omega
        · show z < pfS a P b + cdC a k b T i
          omega
        · show _ < pfS a P b + cdC a k b T i
          have := h1 l' hl' hcl'
          omega
      · rw [if_neg q]
        refine ⟨fun l hl hcl => ?_, h2, ?_⟩
        · show _ ≤ z1
          by_cases ql : l = i
          · rw [ql]; omega
          · exact h1 l (by omega) hcl
        · rcases h3 with h3 | ⟨l, g1, g2, g3, g4, g5, g6⟩
          · exact Or.inl h3
          · exact Or.inr ⟨l, by omega, g2, g3, g4, g5, g6⟩
    · have ec : (if i = a 0 0 then some T else if bit T i = true then none else some (T ||| 2 ^ i)) = none := by
        unfold cdB at hc
        by_cases q : i = a 0 0
        · rw [decide_eq_true q] at hc; exact absurd rfl hc
        · rw [decide_eq_false q, Bool.false_or] at hc
          rw [if_neg q]
          cases hb : bit T i with
          | true => rfl
          | false => rw [hb] at hc; exact absurd rfl hc
      dsimp only
      rw [ec]
      refine ⟨fun l hl hcl => ?_, h2, ?_⟩
      · show _ ≤ z1
        by_cases ql : l = i
        · rw [ql] at hcl; exact absurd hcl hc
        · exact h1 l (by omega) hcl
      · rcases h3 with h3 | ⟨l, g1, g2, g3, g4, g5, g6⟩
        · exact Or.inl h3
        · exact Or.inr ⟨l, by omega, g2, g3, g4, g5, g6⟩
theorem plI_e {k b : Nat} {P : Nat → Nat} {z : Int} {B : Nat → Int32} {z1 : Int} {B1 : Nat → Int32} (hd : aD a b = false) (h : plI a k b P z B (a 0 0 + 1) z1 B1) : z1 = (plR a (k + 1) b P z B).1 ∧ ∀ j, B1 j = (plR a (k + 1) b P z B).2 j := by
  unfold plI at h
  unfold plR
  cases hT : pfT (a 0 0) P b with
  | none =>
    rw [hT] at h
    exact ⟨h.1, fun j => by rw [h.2]⟩
  | some T =>
    rw [hT] at h
    obtain ⟨h1, h2, h3⟩ := h
    have fr : ∀ l, freeB a b l T = !bit T l := fun l => by unfold freeB; rw [hd]; rfl
    have sp := mx_spec (fun l => freeB a b l T) (fun l => aW a b l + plM a k (b + 1) (T ||| 2 ^ l)) (a 0 0) 0 (plM a k (b + 1) T)
    have eM : itN (mxL (fun l => freeB a b l T) (fun l => aW a b l + plM a k (b + 1) (T ||| 2 ^ l))) (a 0 0) 0 (plM a k (b + 1) T) = plM a (k + 1) b T := rfl
    rw [eM] at sp
    obtain ⟨s1, s2, s3⟩ := sp
    have cL : cdC a k b T (a 0 0) = plM a k (b + 1) T := by unfold cdC; rw [if_pos rfl]
    have cl : ∀ l, l < a 0 0 → cdC a k b T l = aW a b l + plM a k (b + 1) (T ||| 2 ^ l) := fun l hl => by unfold cdC; rw [if_neg (by omega)]
    have bL : cdB a T (a 0 0) = true := by unfold cdB; rw [decide_eq_true rfl]; rfl
    have bl : ∀ l, l < a 0 0 → cdB a T l = !bit T l := fun l hl => by unfold cdB; rw [decide_eq_false (by omega), Bool.false_or]
    have le : ∀ l, l ≤ a 0 0 → cdB a T l = true → cdC a k b T l ≤ plM a (k + 1) b T := by
      intro l hl hc
      by_cases q : l = a 0 0
      · rw [q, cL]; exact s1
      · rw [cl l (by omega)]
        exact s2 l (Nat.zero_le _) (by omega) (by rw [fr l, ← bl l (by omega)]; exact hc)
    have at' : ∃ l, l ≤ a 0 0 ∧ cdB a T l = true ∧ cdC a k b T l = plM a (k + 1) b T := by
      rcases s3 with h | ⟨l, _, g2, g3, g4⟩
      · exact ⟨a 0 0, Nat.le_refl _, bL, by rw [cL, h]⟩
      · have g2 : l < a 0 0 := by omega
        refine ⟨l, by omega, ?_, by rw [cl l g2, g4]⟩
        rw [bl l g2, ← fr l]; exact g3
    obtain ⟨l0, e1, e2, e3⟩ := at'
    have h10 := h1 l0 (by omega) e2
    rw [e3] at h10
    dsimp only
    rcases h3 with ⟨g1, g2⟩ | ⟨l, g1, g2, g3, g4, g5, g6⟩
    · rw [if_neg (by omega)]
      exact ⟨g1, fun j => by rw [g2]⟩
    · have lel := le l (by omega) g2
      have eq : cdC a k b T l = plM a (k + 1) b T := by omega
      rw [if_pos (by omega)]
      refine ⟨by show z1 = pfS a P b + plM a (k + 1) b T; omega, fun j => ?_⟩
      have eF : plF a k b T = l := by
        unfold plF
        by_cases q : l = a 0 0
        · rw [find_no]
          · exact q.symm
          · intro m _ hm
            have hm : m < a 0 0 := by omega
            unfold plP
            cases hf : freeB a b m T with
            | false => rfl
            | true =>
              have := g6 m (by omega) (by rw [bl m hm, ← fr m]; exact hf)
              rw [cl m hm] at this
              rw [Bool.true_and]
              exact decide_eq_false (by omega)
        · have hl : l < a 0 0 := by omega
          rw [find_is (j := l) (Nat.zero_le _) (by omega) ?_ ?_]
          · rfl
          · unfold plP
            rw [fr l, ← bl l hl, g2, Bool.true_and]
            exact decide_eq_true (by rw [← cl l hl]; exact eq)
          · intro m _ hm
            unfold plP
            cases hf : freeB a b m T with
            | false => rfl
            | true =>
              have := g6 m (by omega) (by rw [bl m (by omega), ← fr m]; exact hf)
              rw [cl m (by omega)] at this
              rw [Bool.true_and]
              exact decide_eq_false (by omega)
      rw [g5]
      show nI (if j < b + 1 then updN P b l j else plG a k (b + 1) (plT (a 0 0) T l) j) = nI (if j < b then P j else if j = b then plF a k b T else plG a k (b + 1) (plT (a 0 0) T (plF a k b T)) j)
      rw [eF]
      congr 1
      by_cases q1 : j < b
      · rw [if_pos q1, if_pos (by omega), upd_lt q1]
      · rw [if_neg q1]
        by_cases q2 : j = b
        · rw [if_pos q2, if_pos (by omega), q2, upd_eq]
        · rw [if_neg q2, if_neg (by omega)]
theorem plR_b (ok : okA a) {k b : Nat} {P : Nat → Nat} {z : Int} {B : Nat → Int32} (hb : b + k = a 0 2) (hP : ∀ j, j < a 0 2 → P j ≤ a 0 0) (hz : -(2 ^ 63) ≤ z ∧ z < 2 ^ 60) : -(2 ^ 63) ≤ (plR a k b P z B).1 ∧ (plR a k b P z B).1 < 2 ^ 60 := by
  unfold plR
  have s := pfS_b ok hP (show b ≤ a 0 2 by omega)
  cases pfT (a 0 0) P b with
  | none => exact hz
  | some T =>
    have m := plM_s (k := k) (b := b) (T := T) ok (by omega)
    dsimp only
    split
    · show -(2 ^ 63) ≤ pfS a P b + plM a k b T ∧ pfS a P b + plM a k b T < 2 ^ 60
      omega
    · exact hz
theorem plR_d {k b : Nat} {P : Nat → Nat} {z : Int} {B : Nat → Int32} (hd : aD a b = true) (hPb : P b = a 0 0) : (plR a (k + 1) b P z B).1 = (plR a k (b + 1) P z B).1 ∧ ∀ j, (plR a (k + 1) b P z B).2 j = (plR a k (b + 1) P z B).2 j := by
  have fr : ∀ T l, freeB a b l T = false := fun T l => by unfold freeB; rw [hd]; rfl
  have eM : ∀ T, plM a (k + 1) b T = plM a k (b + 1) T := by
    intro T
    show itN (mxL (fun l => freeB a b l T) (fun l => aW a b l + plM a k (b + 1) (T ||| 2 ^ l))) (a 0 0) 0 (plM a k (b + 1) T) = _
    exact it_id (fun j s => if_neg (show ¬ freeB a b j T = true by rw [fr T j]; decide)) _ _ _
  have eF : ∀ T, plF a k b T = a 0 0 := by
    intro T
    unfold plF
    rw [find_no (fun m _ _ => by unfold plP; rw [fr T m]; rfl)]
    rfl
  have eT : pfT (a 0 0) P (b + 1) = pfT (a 0 0) P b := by
    show (match pfT (a 0 0) P b with | none => none | some T => if P b = a 0 0 then some T else if bit T (P b) then none else some (T ||| 2 ^ P b)) = _
    cases pfT (a 0 0) P b with
    | none => rfl
    | some T => exact if_pos hPb
  have eS : pfS a P (b + 1) = pfS a P b := by
    show pfS a P b + pfV a P b = _
    unfold pfV
    rw [if_pos hPb, Int.add_zero]
  unfold plR
  rw [eT, eS]
  cases hT : pfT (a 0 0) P b with
  | none => exact ⟨rfl, fun _ => rfl⟩
  | some T =>
    dsimp only
    rw [eM T]
    by_cases q : z < pfS a P b + plM a k (b + 1) T
    · rw [if_pos q, if_pos q]
      refine ⟨rfl, fun j => ?_⟩
      show nI (if j < b then P j else if j = b then plF a k b T else plG a k (b + 1) (plT (a 0 0) T (plF a k b T)) j) = nI (if j < b + 1 then P j else plG a k (b + 1) T j)
      rw [eF T]
      congr 1
      unfold plT
      rw [if_pos rfl]
      by_cases q1 : j < b
      · rw [if_pos q1, if_pos (by omega)]
      · rw [if_neg q1]
        by_cases q2 : j = b
        · rw [if_pos q2, if_pos (by omega), q2, hPb]
        · rw [if_neg q2, if_neg (by omega)]
    · rw [if_neg q, if_neg q]
      exact ⟨rfl, fun _ => rfl⟩
noncomputable abbrev LPm (a : AS) (wh' kd' md' v : Nat → Int32) (f : Nat) (x : Int32) (s : Int64) (p q : Nat → Int32) : Option (Int64 × (Nat → Int32) × (Nat → Int32)) := f_X13_places_L58 v (nI (a 0 0)) (nI (a 0 1)) (nI (a 0 2)) wh' kd' md' f x s p q
noncomputable abbrev CRm (a : AS) (v : Nat → Int32) (g b : Nat) (p : Nat → Int32) : Option (Int32 × (Nat → Int32)) := f_X13_nextPut_L10 v (nI (a 0 0)) (nI (a 0 2)) g (nI b + (-1)) p
theorem nextM (ok : okA a) (p : Nat → Int32) : f_X13_nextPut v p (nI (a 0 0)) (nI (a 0 2)) = CRm a v fuelN (a 0 2) p := by
  have h1 := ok.1
  obtain ⟨n, hn⟩ : ∃ n, a 0 2 = n + 1 := ⟨a 0 2 - 1, by omega⟩
  have em : nI (a 0 2) - 1 = nI (a 0 2) + (-1) := by rw [hn, nI_pred, pk_m1]
  unfold f_X13_nextPut
  rw [em]
theorem plcM (ok : okA a) (rm : rMo a wh' kd' md' v) : ∀ k b, b + k = a 0 2 → ∀ (P : Nat → Nat) (B put bp : Nat → Int32) (z : Int), rI 5 put P → (∀ j, j < 5 → P j ≤ a 0 0) → (∀ j, b ≤ j → j < a 0 2 → P j = if aD a j then a 0 0 else 0) → rB (a 0 2) bp B → (-(2 ^ 63) ≤ z ∧ z < 2 ^ 60) → ∃ N put2 bp2, N ≤ 7 ^ k ∧ rI 5 put2 P ∧ rB (a 0 2) bp2 (plR a k b P z B).2 ∧ ∀ f, LPm a wh' kd' md' v (f + N) 1 (iL z) put bp = bd2 (CRm a v (fuelN - k) b put2) fun r p' => LPm a wh' kd' md' v f r (iL (plR a k b P z B).1) p' bp2 := by
  have h1 := ok.1
  have hfu := fuelN_ge
  intro k
  induction k with
  | zero =>
    intro b hb P B put bp z hr hP hS hB hz
    have hb : b = a 0 2 := by omega
    subst hb
    cases hT : pfT (a 0 0) P (a 0 2) with
    | none =>
      have e : plR a 0 (a 0 2) P z B = (z, B) := by unfold plR; rw [hT]
      refine ⟨1, put, bp, by decide, hr, by rw [e]; exact hB, fun f => ?_⟩
      rw [e]
      show f_X13_places_b58 _ _ _ _ _ _ _ _ _ _ _ _ = _
      unfold f_X13_places_b58 f_X13_places_B73
      rw [if_neg (by decide), unlikeM ok hr hP, bd1_s, hT]
      show (if (if false = true then (1 : Int32) else 0) = 0 then _ else _) = _
      rw [selF, nextM ok]
      rfl
    | some T =>
      have e : plR a 0 (a 0 2) P z B = if z < pfS a P (a 0 2) then (pfS a P (a 0 2), fun j => nI (if j < a 0 2 then P j else plG a 0 (a 0 2) T j)) else (z, B) := by
        unfold plR
        rw [hT]
        show (if z < pfS a P (a 0 2) + 0 then (pfS a P (a 0 2) + 0, fun j => nI (if j < a 0 2 then P j else plG a 0 (a 0 2) T j)) else (z, B)) = _
        rw [Int.add_zero]
      obtain ⟨bp2, et, hb2⟩ := takeM ok rm hr hP hB hz
      have e1 : (plR a 0 (a 0 2) P z B).1 = if z < pfS a P (a 0 2) then pfS a P (a 0 2) else z := by rw [e]; split <;> rfl
      refine ⟨1, put, bp2, by decide, hr, ?_, fun f => ?_⟩
      · rw [e]
        by_cases q : z < pfS a P (a 0 2)
        · rw [if_pos q] at hb2 ⊢
          intro j hj
          rw [hb2 j hj]
          show _ = nI (if j < a 0 2 then P j else _)
          rw [if_pos hj]
        · rw [if_neg q] at hb2 ⊢
          exact hb2
      · rw [e1]
        show f_X13_places_b58 _ _ _ _ _ _ _ _ _ _ _ _ = _
        unfold f_X13_places_b58 f_X13_places_B73
        rw [if_neg (by decide), unlikeM ok hr hP, bd1_s, hT]
        show (if (if true = true then (1 : Int32) else 0) = 0 then _ else _) = _
        rw [selT, et, bd2_s, nextM ok]
        rfl
  | succ k ih =>
    intro b hb P B put bp z hr hP hS hB hz
    have hbn : b < a 0 2 := by omega
    have hg : fuelN - k = (fuelN - (k + 1)) + 1 := by omega
    have h7 : 7 ^ (k + 1) = 7 * 7 ^ k := by rw [Nat.pow_succ, Nat.mul_comm]
    cases hd : aD a b with
    | true =>
      have hPb : P b = a 0 0 := by rw [hS b (Nat.le_refl _) hbn, hd]; rfl
      obtain ⟨N, put2, bp2, hN, h2, h3, h4⟩ := ih (b + 1) (by omega) P B put bp z hr hP (fun j h1 h2 => hS j (by omega) h2) hB hz
      have eR := plR_d (k := k) (z := z) (B := B) hd hPb
      have cr := carM (g := fuelN - (k + 1)) ok rm.2.2.2 hbn h2 hP
      rw [hd, if_pos rfl] at cr
      refine ⟨N, put2, bp2, by omega, h2, fun j hj => by rw [eR.2 j]; exact h3 j hj, fun f => ?_⟩
      rw [h4 f, eR.1, hg]
      show bd2 (f_X13_nextPut_L10 v (nI (a 0 0)) (nI (a 0 2)) (fuelN - (k + 1) + 1) (nI (b + 1) + (-1)) put2) _ = _
      rw [cr]
    | false =>
      have hPb : P b = 0 := by rw [hS b (Nat.le_refl _) hbn, hd]; rfl
      have hPu : ∀ i, i ≤ a 0 0 → ∀ j, j < 5 → updN P b i j ≤ a 0 0 := by
        intro i hi j hj
        unfold updN
        split
        · exact hi
        · exact hP j hj
      have step : ∀ i, i ≤ a 0 0 → ∀ (z1 : Int) (B1 : Nat → Int32) (put1 bp1 : Nat → Int32), rI 5 put1 (updN P b i) → rB (a 0 2) bp1 B1 → (-(2 ^ 63) ≤ z1 ∧ z1 < 2 ^ 60) → ∃ N put2 bp2, N ≤ 7 ^ k ∧ rI 5 put2 (updN P b i) ∧ rB (a 0 2) bp2 (plR a k (b + 1) (updN P b i) z1 B1).2 ∧ ∀ f, LPm a wh' kd' md' v (f + N) 1 (iL z1) put1 bp1 = if i < a 0 0 then LPm a wh' kd' md' v f 1 (iL (plR a k (b + 1) (updN P b i) z1 B1).1) (upd put2 b (nI (i + 1))) bp2 else bd2 (CRm a v (fuelN - (k + 1)) b (upd (upd put2 b (nI (i + 1))) b 0)) fun r p' => LPm a wh' kd' md' v f r (iL (plR a k (b + 1) (updN P b i) z1 B1).1) p' bp2 := by
        intro i hi z1 B1 put1 bp1 hr1 hb1 hz1
        obtain ⟨N, put2, bp2, hN, h2, h3, h4⟩ := ih (b + 1) (by omega) (updN P b i) B1 put1 bp1 z1 hr1 (hPu i hi) (fun j h1 h2 => by
          rw [show updN P b i j = P j from if_neg (by omega)]
          exact hS j (by omega) h2) hb1 hz1
        have cr := carM (g := fuelN - (k + 1)) ok rm.2.2.2 hbn h2 (hPu i hi)
        rw [hd, if_neg (by decide), upd_eq] at cr
        refine ⟨N, put2, bp2, hN, h2, h3, fun f => ?_⟩
        rw [h4 f, hg]
        show bd2 (f_X13_nextPut_L10 v (nI (a 0 0)) (nI (a 0 2)) (fuelN - (k + 1) + 1) (nI (b + 1) + (-1)) put2) _ = _
        rw [cr]
        by_cases q : i < a 0 0
        · rw [if_pos q, if_pos q, bd2_s]
        · rw [if_neg q, if_neg q]
      have lanes : ∀ i, i ≤ a 0 0 → ∃ N put1 bp1 z1 B1, N ≤ i * 7 ^ k ∧ rI 5 put1 (updN P b i) ∧ rB (a 0 2) bp1 B1 ∧ (-(2 ^ 63) ≤ z1 ∧ z1 < 2 ^ 60) ∧ plI a k b P z B i z1 B1 ∧ ∀ f, LPm a wh' kd' md' v (f + N) 1 (iL z) put bp = LPm a wh' kd' md' v f 1 (iL z1) put1 bp1 := by
        intro i
        induction i with
        | zero =>
          intro _
          refine ⟨0, put, bp, z, B, Nat.zero_le _, ?_, hB, hz, plI_0 k b P z B, fun f => rfl⟩
          intro j hj
          unfold updN
          by_cases q : j = b
          · rw [if_pos q, hr j hj, q, hPb]
          · rw [if_neg q]; exact hr j hj
        | succ i ihi =>
          intro hi
          obtain ⟨N, put1, bp1, z1, B1, hN, g1, g2, g3, g4, g5⟩ := ihi (by omega)
          obtain ⟨N2, put2, bp2, hN2, k1, k2, k3⟩ := step i (by omega) z1 B1 put1 bp1 g1 g2 g3
          refine ⟨N2 + N, upd put2 b (nI (i + 1)), bp2, _, _, ?_, ?_, k2, plR_b ok (by omega) (fun j hj => hPu i (by omega) j (by omega)) g3, plI_s (by omega) g4, fun f => ?_⟩
          · rw [Nat.succ_mul]; omega
          · intro j hj
            by_cases q : j = b
            · subst q; rw [pk_us, upd_eq]
            · rw [pk_un q, k1 j hj]
              unfold updN
              rw [if_neg q, if_neg q]
          · rw [← Nat.add_assoc, g5 (f + N2), k3 f, if_pos (by omega)]
      obtain ⟨N, put1, bp1, z1, B1, hN, g1, g2, g3, g4, g5⟩ := lanes (a 0 0) (Nat.le_refl _)
      obtain ⟨N2, put2, bp2, hN2, k1, k2, k3⟩ := step (a 0 0) (Nat.le_refl _) z1 B1 put1 bp1 g1 g2 g3
      have ee := plI_e hd (plI_s (Nat.le_refl _) g4)
      refine ⟨N2 + N, upd (upd put2 b (nI (a 0 0 + 1))) b 0, bp2, ?_, ?_, ?_, fun f => ?_⟩
      · rw [h7]
        have : a 0 0 * 7 ^ k ≤ 6 * 7 ^ k := Nat.mul_le_mul_right _ h1.2.1
        omega
      · intro j hj
        by_cases q : j = b
        · subst q; rw [pk_us, hPb]; rfl
        · rw [pk_un q, pk_un q, k1 j hj]
          unfold updN
          rw [if_neg q]
      · intro j hj
        rw [← ee.2 j]
        exact k2 j hj
      · rw [← Nat.add_assoc, g5 (f + N2), k3 f, if_neg (Nat.lt_irrefl _), ee.1]
theorem placesM (ok : okA a) (rm : rMo a wh' kd' md' v) (s : Int64) (put bp : Nat → Int32) : ∃ put2 bp2, f_X13_places s v put bp (nI (a 0 0)) (nI (a 0 1)) (nI (a 0 2)) wh' kd' md' = some (iL (plM a (a 0 2) 0 0), put2, bp2) ∧ ∀ j, j < a 0 2 → bp2 j = nI (plG a (a 0 2) 0 0 j) := by
  have h1 := ok.1
  have hfu := fuelN_ge
  have rv := rm.2.2.2
  unfold f_X13_places
  refine loopR (fun f i p => f_X13_places_L9 v (nI (a 0 0)) (nI (a 0 1)) (nI (a 0 2)) wh' kd' md' (-9223372036854775808) bp f (nI i) p) 5 (fun i p => ∀ j, j < i → p j = nI (if j < a 0 2 ∧ aD a j = false then 0 else a 0 0)) (fun o => ∃ put2 bp2, o = some (iL (plM a (a 0 2) 0 0), put2, bp2) ∧ ∀ j, j < a 0 2 → bp2 j = nI (plG a (a 0 2) 0 0 j)) ?_ ?_ 5 0 put fuelN (by omega) (by intro j hj; omega) (fuel_gt (by omega))
  · intro f i p hi hs
    refine ⟨upd p i (nI (if i < a 0 2 ∧ aD a i = false then 0 else a 0 0)), ?_, ?_⟩
    · intro j hj
      by_cases q : j = i
      · subst q; exact pk_us
      · rw [pk_un q]; exact hs j (by omega)
    · show f_X13_places_b9 _ _ _ _ _ _ _ _ _ _ _ _ = _
      unfold f_X13_places_b9 f_X13_places_B42 f_X13_places_B49
      rw [if_neg (show ¬ (5 : Int32) ≤ nI i from nI_ge (b := 5) hi (by decide)), gI hi (by decide), gI hi (by decide), nI_clamp (by omega), nI_1]
      have e : nI (a 0 2) ≤ nI i ↔ a 0 2 ≤ i := nI_leI (by omega) (by omega)
      by_cases q : i < a 0 2
      · rw [if_neg (fun h => by have := e.mp h; omega), isDeadM rv.1 ok.d (by omega), bd1_s]
        show (if (if aD a i = true then (1 : Int32) else 0) = 0 then _ else _) = _
        cases hd : aD a i
        · rw [selF, if_pos ⟨q, rfl⟩]; rfl
        · rw [selT, if_neg (fun h => by cases h.2)]
      · rw [if_pos (e.mpr (by omega)), if_neg (fun h => q h.1)]
  · intro f p hs
    have zl : iL (-9223372036854775808) = -9223372036854775808 := rfl
    have key : ∃ put2 bp2, f_X13_places_B56 v (nI (a 0 0)) (nI (a 0 1)) (nI (a 0 2)) wh' kd' md' (-9223372036854775808) p bp = some (iL (plM a (a 0 2) 0 0), put2, bp2) ∧ ∀ j, j < a 0 2 → bp2 j = nI (plG a (a 0 2) 0 0 j) := by
      obtain ⟨N, put2, bp2, hN, g1, g2, g3⟩ := plcM ok rm (a 0 2) 0 (by omega) (fun j => if j < a 0 2 ∧ aD a j = false then 0 else a 0 0) bp p bp (-9223372036854775808) hs (by intro j _; show (if _ then 0 else a 0 0) ≤ a 0 0; split <;> omega) (by
        intro j _ hj
        show (if j < a 0 2 ∧ aD a j = false then 0 else a 0 0) = _
        cases hd : aD a j
        · rw [if_pos ⟨hj, rfl⟩]; rfl
        · rw [if_neg (fun h => by cases h.2)]; rfl) (fun j _ => rfl) (by decide)
      have ps := plM_s (k := a 0 2) (b := 0) (T := 0) ok (by omega)
      have e : plR a (a 0 2) 0 (fun j => if j < a 0 2 ∧ aD a j = false then 0 else a 0 0) (-9223372036854775808) bp = (plM a (a 0 2) 0 0, fun j => nI (plG a (a 0 2) 0 0 j)) := by
        show (if (-9223372036854775808 : Int) < 0 + plM a (a 0 2) 0 0 then ((0 : Int) + plM a (a 0 2) 0 0, fun j => nI (if j < 0 then _ else plG a (a 0 2) 0 0 j)) else _) = _
        rw [if_pos (by omega), Int.zero_add]
        rfl
      have h75 : 7 ^ a 0 2 ≤ 7 ^ 5 := Nat.pow_le_pow_right (by decide) h1.2.2.2.2.2.1
      have h75 : 7 ^ a 0 2 ≤ 16807 := h75
      obtain ⟨f0, hf0⟩ : ∃ f0, fuelN = f0 + 1 + N := ⟨fuelN - 1 - N, by omega⟩
      obtain ⟨g0, hg0⟩ : ∃ g0, fuelN - a 0 2 = g0 + 1 := ⟨fuelN - a 0 2 - 1, by omega⟩
      rw [e] at g2 g3
      refine ⟨put2, bp2, ?_, g2⟩
      unfold f_X13_places_B56
      rw [hf0]
      have := g3 (f0 + 1)
      rw [zl] at this
      refine (show f_X13_places_L58 v (nI (a 0 0)) (nI (a 0 1)) (nI (a 0 2)) wh' kd' md' (f0 + 1 + N) 1 (-9223372036854775808) p bp = _ from this).trans ?_
      rw [hg0]
      have cz : f_X13_nextPut_L10 v (nI (a 0 0)) (nI (a 0 2)) (g0 + 1) (nI 0 + (-1)) put2 = some (0, put2) := by
        show f_X13_nextPut_b10 _ _ _ _ _ _ = _
        unfold f_X13_nextPut_b10
        rw [if_pos (by decide)]
      show bd2 (f_X13_nextPut_L10 v (nI (a 0 0)) (nI (a 0 2)) (g0 + 1) (nI 0 + (-1)) put2) _ = _
      rw [cz, bd2_s]
      show f_X13_places_b58 _ _ _ _ _ _ _ _ _ _ _ _ = _
      unfold f_X13_places_b58
      rw [if_pos rfl]
    obtain ⟨put2, bp2, e, h⟩ := key
    refine ⟨put2, bp2, ?_, h⟩
    rw [← e]
    show f_X13_places_b9 _ _ _ _ _ _ _ _ _ _ _ _ = _
    unfold f_X13_places_b9
    rw [if_pos (by decide)]
theorem q_place {wh kd md st wd : Nat → Int32} (ok : okA a) (rc : rCl a wh kd md st wd) (rm : rMo a wh' kd' md' v) (p1 rf th tr wr : Int32) (ws most : Nat → Int64) (ln : Nat → Int32) (s : Int64) (put bp : Nat → Int32) : ∃ r t x1 x2 x3 y1 y2 y3, f_X11_place rf (nI (a 0 0)) (nI (a 0 1)) (nI (a 0 2)) wh kd md (nI (a 0 3)) (nI (a 0 4)) st wd ws most ln p1 = some (r, t, x1, x2, x3) ∧ f_X13_place th tr wr s v put bp (nI (a 0 0)) (nI (a 0 1)) (nI (a 0 2)) wh' kd' md' p1 = some (r, 0, t, -1, y1, y2, y3) ∧ ¬ t = 4 := by
  have h1 := ok.1
  unfold f_X11_place f_X13_place f_X13_place_B51
  rcases beastT (n := a 0 2) (by omega) p1 with ⟨-, e1, e2⟩ | ⟨j, hj, rfl, e1, e2⟩
  · refine ⟨-1, 1, ws, most, ln, s, put, bp, ?_, ?_, by decide⟩
    · rw [e1, bd1_s, ref1, bd2_s]; rfl
    · rw [e2, bd1_s]; rfl
  · obtain ⟨ws2, most2, ln2, ec, -, hl⟩ := settleC ok rc ws most ln
    obtain ⟨put2, bp2, em, hb⟩ := placesM ok rm s put bp
    have eg : plG a (a 0 2) 0 0 j = plF a (a 0 2 - (j + 1)) j (plQ a j) := plG_eq a (a 0 2) 0 j (by omega) (Nat.zero_le _) hj
    have gl := plF_le a (a 0 2 - (j + 1)) j (plQ a j)
    refine ⟨laneV (a 0 0) (plF a (a 0 2 - (j + 1)) j (plQ a j)), 0, ws2, most2, ln2, iL (plM a (a 0 2) 0 0), put2, bp2, ?_, ?_, by decide⟩
    · unfold f_X6_laneFor
      rw [e1, bd1_s, refF, bd2_s, if_pos rfl, ec, bd3_s, (hbY (n := a 0 2) (by omega) hj).1, bd1_s, if_neg (by decide), gI (by omega) (by decide), bd1_s, nI_clamp (by omega), hl j hj]
    · rw [e2, bd1_s, if_neg (by decide), em, bd3_s, gI (by omega) (by decide), gI (by omega) (by decide), nI_clamp (by omega), hb j hj, eg]
      have e : nI (plF a (a 0 2 - (j + 1)) j (plQ a j)) = nI (a 0 0) ↔ plF a (a 0 2 - (j + 1)) j (plQ a j) = a 0 0 := nI_eq (by omega) (by omega)
      unfold laneV
      by_cases q : plF a (a 0 2 - (j + 1)) j (plQ a j) = a 0 0
      · rw [if_pos (e.mpr q), if_pos q]; rfl
      · rw [if_neg (fun h => q (e.mp h)), if_neg q]; rfl
theorem q_placed {wh kd md st wd : Nat → Int32} (ok : okA a) (rc : rCl a wh kd md st wd) (rm : rMo a wh' kd' md' v) (lo : Bool) (rf th tr wr : Int32) (ws most : Nat → Int64) (ln : Nat → Int32) (s : Int64) (put bp : Nat → Int32) : ∃ r t x1 x2 x3 y1 y2 y3, f_X11_placed rf (nI (a 0 0)) (nI (a 0 1)) (nI (a 0 2)) wh kd md (nI (a 0 3)) (nI (a 0 4)) st wd ws most ln (if lo then 1 else 0) = some (r, t, x1, x2, x3) ∧ f_X13_placed th tr wr s v put bp (nI (a 0 0)) (nI (a 0 1)) (nI (a 0 2)) wh' kd' md' (if lo then 1 else 0) = some (r, 0, t, -1, y1, y2, y3) ∧ ¬ t = 4 := by
  have h1 := ok.1
  have ps := plM_s (k := a 0 2) (b := 0) (T := 0) ok (by omega)
  obtain ⟨ws2, most2, ln2, ec, hm, -⟩ := settleC ok rc ws most ln
  obtain ⟨put2, bp2, em, -⟩ := placesM ok rm s put bp
  refine ⟨toldZ (a 0 1) (plM a (a 0 2) 0 0) lo, 0, ws2, most2, ln2, iL (plM a (a 0 2) 0 0), put2, bp2, ?_, ?_, by decide⟩
  · unfold f_X11_placed f_X6_greatestSum
    rw [(warT (n := a 0 0) (by omega) (by omega)).1, bd1_s, refF, bd2_s, if_pos rfl, ec, bd3_s, bd1_s, show most2 (0 : Int32).toNatClampNeg = iL (plM a (a 0 2) 0 0) from hm, toldC h1.2.2.2.1 (by omega) (by omega), bd1_s]
  · unfold f_X13_placed
    rw [em, bd3_s, wholeM (by omega), bd1_s, fracM h1.2.2.2.1 (by omega) (by omega), bd3_s]
def outS (a : AS) (j : Nat) (s : Nat) : Nat := if aD a j = false ∧ plF a (a 0 2 - (j + 1)) j (plQ a j) = a 0 0 then s + 1 else s
theorem q_out {wh kd md st wd : Nat → Int32} (ok : okA a) (rc : rCl a wh kd md st wd) (rm : rMo a wh' kd' md' v) (rf th tr wr : Int32) (ws most : Nat → Int64) (ln : Nat → Int32) (s : Int64) (put bp : Nat → Int32) : ∃ r t x1 x2 x3 y1 y2 y3, f_X11_out rf (nI (a 0 0)) (nI (a 0 1)) (nI (a 0 2)) wh kd md (nI (a 0 3)) (nI (a 0 4)) st wd ws most ln = some (r, t, x1, x2, x3) ∧ f_X13_out th tr wr s v put bp (nI (a 0 0)) (nI (a 0 1)) (nI (a 0 2)) wh' kd' md' = some (r, 0, t, -1, y1, y2, y3) ∧ ¬ t = 4 := by
  have h1 := ok.1
  have rv := rm.2.2.2
  obtain ⟨ws2, most2, ln2, ec, -, hl⟩ := settleC ok rc ws most ln
  obtain ⟨put2, bp2, em, hb⟩ := placesM ok rm s put bp
  refine ⟨nI (itN (outS a) (a 0 2) 0 0), 0, ws2, most2, ln2, iL (plM a (a 0 2) 0 0), put2, bp2, ?_, ?_, by decide⟩
  · have : f_X6_livingLeftOut (nI (a 0 2)) (nI (a 0 3)) ln2 = some (nI (itN (outS a) (a 0 2) 0 0)) := by
      unfold f_X6_livingLeftOut
      refine (loopN (fun f i s => f_X6_livingLeftOut_L4 (nI (a 0 2)) (nI (a 0 3)) ln2 f (nI s) (nI i)) (a 0 2) (outS a) (fun _ _ => True) (fun s => some (nI s)) ?_ ?_ (a 0 2) 0 0 fuelN (by omega) trivial (fuel_gt (by omega))).1
      · intro f i s hi _
        refine ⟨trivial, ?_⟩
        have gl := plF_le a (a 0 2 - (i + 1)) i (plQ a i)
        have en := laneV_n (L := a 0 0) (x := plF a (a 0 2 - (i + 1)) i (plQ a i)) (by omega)
        show f_X6_livingLeftOut_b4 _ _ _ _ _ _ = _
        unfold f_X6_livingLeftOut_b4 f_X6_livingLeftOut_B42 f_X6_livingLeftOut_B43 outS
        rw [if_neg (nI_ge hi (by omega)), gI (by omega) (by decide), nI_clamp (by omega), hl i hi, isDeadN ok.d (by omega), bd1_s, nI_1]
        show (if _ then (if (if aD a i = true then (1 : Int32) else 0) = 0 then _ else _) else _) = _
        by_cases q : plF a (a 0 2 - (i + 1)) i (plQ a i) = a 0 0
        · rw [if_pos (en.mpr q)]
          cases hd : aD a i
          · rw [selF, if_pos ⟨rfl, q⟩, nI_1]
          · rw [selT, if_neg (fun h => by cases h.1), show (0 : Int32) = nI 0 from rfl, nI_add, Nat.add_zero, nI_1]
        · rw [if_neg (fun e => q (en.mp e)), if_neg (fun h => q h.2), show (0 : Int32) = nI 0 from rfl, nI_add, Nat.add_zero, nI_1]
      · intro f s _
        show f_X6_livingLeftOut_b4 _ _ _ _ _ _ = _
        unfold f_X6_livingLeftOut_b4
        rw [if_pos (nI_le (Nat.le_refl _) (by omega))]
    unfold f_X11_out
    rw [(warT (n := a 0 0) (by omega) (by omega)).1, bd1_s, refF, bd2_s, if_pos rfl, ec, bd3_s, this, bd1_s]
  · unfold f_X13_out
    rw [em, bd3_s]
    refine (loopN (fun f i s' => f_X13_out_L26 v (nI (a 0 0)) (nI (a 0 1)) (nI (a 0 2)) wh' kd' md' 0 tr wr (iL (plM a (a 0 2) 0 0)) put2 bp2 f (nI s') (nI i)) (a 0 2) (outS a) (fun _ _ => True) (fun s' => some (nI s', 0, 0, -1, iL (plM a (a 0 2) 0 0), put2, bp2)) ?_ ?_ (a 0 2) 0 0 fuelN (by omega) trivial (fuel_gt (by omega))).1
    · intro f i s' hi _
      refine ⟨trivial, ?_⟩
      have eg : plG a (a 0 2) 0 0 i = plF a (a 0 2 - (i + 1)) i (plQ a i) := plG_eq a (a 0 2) 0 i (by omega) (Nat.zero_le _) hi
      have gl := plF_le a (a 0 2 - (i + 1)) i (plQ a i)
      have e : nI (plF a (a 0 2 - (i + 1)) i (plQ a i)) = nI (a 0 0) ↔ plF a (a 0 2 - (i + 1)) i (plQ a i) = a 0 0 := nI_eq (by omega) (by omega)
      show f_X13_out_b26 _ _ _ _ _ _ _ _ _ _ _ _ _ _ _ _ = _
      unfold f_X13_out_b26 f_X13_out_B66 f_X13_out_B67 outS
      rw [if_neg (nI_ge hi (by omega)), isDeadM rv.1 ok.d (by omega), bd1_s, gI (by omega) (by decide), nI_clamp (by omega), hb i hi, eg, nI_1]
      show (if (if aD a i = true then (1 : Int32) else 0) = 0 then _ else _) = _
      cases hd : aD a i
      · rw [selF]
        by_cases q : plF a (a 0 2 - (i + 1)) i (plQ a i) = a 0 0
        · rw [if_pos (e.mpr q), if_pos ⟨rfl, q⟩, nI_1]
        · rw [if_neg (fun h => q (e.mp h)), if_neg (fun h => q h.2), show (0 : Int32) = nI 0 from rfl, nI_add, Nat.add_zero, nI_1]
      · rw [selT, if_neg (fun h => by cases h.1), show (0 : Int32) = nI 0 from rfl, nI_add, Nat.add_zero, nI_1]
    · intro f s' _
      show f_X13_out_b26 _ _ _ _ _ _ _ _ _ _ _ _ _ _ _ _ = _
      unfold f_X13_out_b26 f_X13_out_B75 f_X13_good
      rw [if_pos (nI_le (Nat.le_refl _) (by omega)), bd3_s]
end BH
