/-! BN: words, names, and the steps of both readers -/
theorem outN {v lo hi : Nat} (h1 : v < 2 ^ 31) (h2 : lo < 2 ^ 31) (h3 : hi < 2 ^ 31) : f_X11_outside (nI v) (nI lo) (nI hi) = some (if lo ≤ v ∧ v ≤ hi then 0 else 1) ∧ f_X13_in (nI v) (nI lo) (nI hi) = some (if lo ≤ v ∧ v ≤ hi then 1 else 0) := by
  unfold f_X11_outside f_X13_in f_X11_outside_B10
  have e1 : nI v < nI lo ↔ v < lo := nI_ltI h1 h2
  have e2 : nI v ≤ nI hi ↔ v ≤ hi := nI_leI h1 h3
  have e3 : nI hi < nI v ↔ hi < v := nI_ltI h3 h1
  by_cases q : v < lo
  · rw [if_pos (e1.mpr q), if_pos (e1.mpr q), if_neg (fun h => by omega), if_neg (fun h => by omega)]
    exact ⟨rfl, rfl⟩
  · rw [if_neg (fun h => q (e1.mp h)), if_neg (fun h => q (e1.mp h))]
    by_cases q2 : v ≤ hi
    · rw [if_pos (e2.mpr q2), if_neg (show ¬ nI hi < nI v from fun h => by have := e3.mp h; omega), if_pos (show lo ≤ v ∧ v ≤ hi from ⟨by omega, q2⟩), if_pos (show lo ≤ v ∧ v ≤ hi from ⟨by omega, q2⟩)]
      exact ⟨rfl, rfl⟩
    · rw [if_neg (fun h => q2 (e2.mp h)), if_pos (e3.mpr (by omega)), if_neg (fun h => q2 h.2), if_neg (fun h => q2 h.2)]
      exact ⟨rfl, rfl⟩
def isWf (T : Nat → Int32) (s p i : Nat) : Bool := decide (∀ j, j < lenT.getD p 0 → i ≤ j → T (s + j) = sch p j)
def isW (T : Nat → Int32) (s E p : Nat) : Bool := decide (E - s = lenT.getD p 0) && isWf T s p 0
def twB (T : Nat → Int32) (n e p : Nat) : Bool := decide (tkK T n e = 1) && isW T (tkS T n e) (tkE T n e) p
theorem len_b : ∀ p, p < 21 → lenT.getD p 0 ≤ 18 := by decide +kernel
theorem len_w : ∀ p, p < 21 → 1 ≤ p → lenT.getD p 0 ≤ 8 := by decide +kernel
theorem sch_w : ∀ p, p < 21 → 1 ≤ p → ∀ j, j < lenT.getD p 0 → 1 ≤ ltv (sch p j) ∧ ltv (sch p j) ≤ 26 ∧ ((sch p j) - 97 + 1).toInt64 = lN (ltv (sch p j)) ∧ sch p j = nI (ltv (sch p j) + 96) := by decide +kernel
section BN
variable {T : Nat → Int32} {n : Nat}
theorem isWL {s E p : Nat} (hE : s ≤ E) (hE9 : E ≤ 900) (hl : E - s = lenT.getD p 0) (so : Int32) : ∀ k i f, i + k = lenT.getD p 0 → k < f → f_X9_isWord_L28 p T (nI s) (nI E) so f (nI i) = some (if isWf T s p i = true then 1 else 0) := by
  intro k
  induction k with
  | zero =>
    intro i f hi hf
    obtain ⟨f, rfl⟩ : ∃ g, f = g + 1 := ⟨f - 1, by omega⟩
    show f_X9_isWord_b28 p T (nI s) (nI E) so _ (nI i) = _
    unfold f_X9_isWord_b28
    rw [if_pos (nI_le (by omega) (by omega)), show isWf T s p i = true from decide_eq_true (fun j h1 h2 => by omega)]
    rfl
  | succ k ih =>
    intro i f hi hf
    obtain ⟨f, rfl⟩ : ∃ g, f = g + 1 := ⟨f - 1, by omega⟩
    show f_X9_isWord_b28 p T (nI s) (nI E) so _ (nI i) = _
    unfold f_X9_isWord_b28
    rw [if_neg (nI_ge (show i < lenT.getD p 0 by omega) (by omega)), nI_add, gI (show s + i < 900 by omega) (by decide), gI (show i < lenT.getD p 0 by omega) (by omega), nI_clamp (show s + i < 2 ^ 31 by omega), nI_clamp (show i < 2 ^ 31 by omega), nI_1, ih (i + 1) f (by omega) (by omega)]
    by_cases q : T (s + i) = sch p i
    · rw [if_pos q]
      have : isWf T s p (i + 1) = isWf T s p i := by
        unfold isWf
        refine decide_eq_decide.mpr ⟨fun h j h1 h2 => ?_, fun h j h1 h2 => h j h1 (by omega)⟩
        by_cases e : j = i
        · rw [e]; exact q
        · exact h j h1 (by omega)
      rw [this]
    · rw [if_neg q, show isWf T s p i = false from decide_eq_false (fun h => q (h i (by omega) (Nat.le_refl _)))]
      rfl
theorem isWC {s E p : Nat} (hE : s ≤ E) (hE9 : E ≤ 900) (hp : p < 21) : f_X9_isWord T (nI s) (nI E) 1 p = some (if isW T s E p = true then 1 else 0) := by
  have hl := len_b p hp
  unfold f_X9_isWord isW
  rw [if_pos rfl, pk_sub hE]
  have e : nI (E - s) = nI (lenT.getD p 0) ↔ E - s = lenT.getD p 0 := nI_eq (by omega) (by omega)
  by_cases q : E - s = lenT.getD p 0
  · rw [if_pos (e.mpr q), decide_eq_true q, Bool.true_and]
    exact isWL hE hE9 q 1 (lenT.getD p 0) 0 fuelN (by omega) (fuel_gt (by omega))
  · rw [if_neg (fun h => q (e.mp h)), decide_eq_false q]
    rfl
theorem twC (hn : n ≤ 900) {e : Nat} (he : e ≤ n) {p : Nat} (hp : p < 21) : f_X9_isWord T (nI (tkS T n e)) (nI (tkE T n e)) (nI (tkK T n e)) p = some (if twB T n e p = true then 1 else 0) := by
  have hb := tkE_b (T := T) he
  unfold twB
  by_cases q : tkK T n e = 1
  · rw [q, decide_eq_true (show (1 : Nat) = 1 from rfl), Bool.true_and]
    exact isWC hb.2.1 (by omega) hp
  · rw [decide_eq_false q]
    unfold f_X9_isWord
    rw [if_neg (show ¬ nI (tkK T n e) = 1 from fun h => q ((nI_eq (b := 1) (by have := tkK_le T n e; omega) (by decide)).mp h))]
    rfl
theorem packM {p : Nat} (hp : p < 21) (h1 : 1 ≤ p) : f_X13_packed p = some (lN (pkN (fun j => ltv (sch p j)) (lenT.getD p 0))) := by
  have hl := len_b p hp
  have key : ∀ k c f, c + k = lenT.getD p 0 → k < f → f_X13_packed_L4 p f (lN (pkN (fun j => ltv (sch p j)) c)) (nI c) = some (lN (pkN (fun j => ltv (sch p j)) (lenT.getD p 0))) := by
    intro k
    induction k with
    | zero =>
      intro c f hc hf
      obtain ⟨f, rfl⟩ : ∃ g, f = g + 1 := ⟨f - 1, by omega⟩
      show f_X13_packed_b4 p _ _ (nI c) = _
      unfold f_X13_packed_b4
      rw [if_pos (nI_le (by omega) (by omega)), show c = lenT.getD p 0 by omega]
    | succ k ih =>
      intro c f hc hf
      obtain ⟨f, rfl⟩ : ∃ g, f = g + 1 := ⟨f - 1, by omega⟩
      show f_X13_packed_b4 p _ _ (nI c) = _
      unfold f_X13_packed_b4
      rw [if_neg (nI_ge (show c < lenT.getD p 0 by omega) (by omega)), gI (show c < lenT.getD p 0 by omega) (by omega), nI_clamp (by omega), nI_1, (sch_w p hp h1 c (by omega)).2.2.1, show (32 : Int64) = lN 32 from rfl, lN_mul, lN_add]
      exact ih (c + 1) f (by omega) (by omega)
  exact key (lenT.getD p 0) 0 fuelN (by omega) (fuel_gt (by omega))
theorem ltF (hT : ∀ j, j < 900 → byt (T j)) {j : Nat} (hj : j < 900) (h : isLt (T j) = true) : 1 ≤ ltv (T j) ∧ ltv (T j) ≤ 26 ∧ T j = nI (ltv (T j) + 96) := by
  obtain ⟨z, hz, ez⟩ := hT j hj
  have b3 := byF3 z hz
  rw [← ez] at b3
  exact ⟨(b3 h).2.1, (b3 h).2.2.1, (b3 h).2.2.2.1⟩
theorem dgF (hT : ∀ j, j < 900 → byt (T j)) {j : Nat} (hj : j < 900) (h : isDg (T j) = true) : dgv (T j) ≤ 9 ∧ T j = nI (dgv (T j) + 48) := by
  obtain ⟨z, hz, ez⟩ := hT j hj
  have b4 := byF4 z hz
  rw [← ez] at b4
  exact ⟨(b4 h).2.1, (b4 h).2.2.1⟩
theorem p40 {g : Nat → Nat} {c : Nat} (hc : c ≤ 8) (h : ∀ j, j < c → g j ≤ 26) : pkN g c < 2 ^ 63 := by
  have h1 := pkN_lt c h
  have h2 : 32 ^ c ≤ 32 ^ 8 := Nat.pow_le_pow_right (by decide) hc
  omega
/-- a range of letters -/
def wrd (T : Nat → Int32) (n s E : Nat) : Prop := s < E ∧ E ≤ n ∧ E - s ≤ 8 ∧ ∀ j, s ≤ j → j < E → isLt (T j) = true
theorem wrd.l (hn : n ≤ 900) (hT : ∀ j, j < 900 → byt (T j)) {s E : Nat} (h : wrd T n s E) : ∀ j, j < E - s → 1 ≤ lts T s j ∧ lts T s j ≤ 26 ∧ T (s + j) = nI (lts T s j + 96) := by
  intro j hj
  obtain ⟨h1, h2, h3, h4⟩ := h
  exact ltF hT (by omega) (h4 (s + j) (by omega) (by omega))
/-- two words are one just when their packed numbers are -/
theorem wrd_eq (hn : n ≤ 900) (hT : ∀ j, j < 900 → byt (T j)) {s E s' E' : Nat} (h : wrd T n s E) (h' : wrd T n s' E') : lN (pkN (lts T s') (E' - s')) = lN (pkN (lts T s) (E - s)) ↔ E - s = E' - s' ∧ ∀ j, j < E - s → T (s + j) = T (s' + j) := by
  have l1 := h.l hn hT
  have l2 := h'.l hn hT
  rw [pk_lEQ (p40 h'.2.2.1 (fun j hj => (l2 j hj).2.1)) (p40 h.2.2.1 (fun j hj => (l1 j hj).2.1))]
  constructor
  · intro e
    obtain ⟨e1, e2⟩ := pkN_inj _ _ (fun j hj => ⟨(l1 j hj).1, (l1 j hj).2.1⟩) (fun j hj => ⟨(l2 j hj).1, (l2 j hj).2.1⟩) e.symm
    refine ⟨e1, fun j hj => ?_⟩
    rw [(l1 j hj).2.2, (l2 j (by omega)).2.2, e2 j hj]
  · intro ⟨e1, e2⟩
    rw [← e1]
    refine pkN_cong _ (fun j hj => ?_)
    unfold lts
    rw [e2 j hj]
theorem tkw {e : Nat} (he : e ≤ n) (h : tkK T n e = 1) : wrd T n (tkS T n e) (tkE T n e) := by
  have h1 := tk1 h
  exact ⟨h1.2.1, (tkE_b he).2.2, h1.2.2.1, h1.2.2.2.2.2.2⟩
theorem mso_i {k : Nat} (h : k ≤ 4) : (nI (mso k) = 1 ↔ k = 0) ∧ (nI (mso k) = 2 ↔ k = 1) ∧ (nI (mso k) = 3 ↔ k = 2) ∧ (nI (mso k) = 4 ↔ k = 3) := by
  rcases (show k = 0 ∨ k = 1 ∨ k = 2 ∨ k = 3 ∨ k = 4 by omega) with rfl | rfl | rfl | rfl | rfl <;> decide
theorem twM (hn : n ≤ 900) (hT : ∀ j, j < 900 → byt (T j)) {e : Nat} (he : e ≤ n) {sp so pl nu : Int32} {wo : Int64} (m : MT T n e sp so pl nu wo) {p : Nat} (hp : p < 21) (h1 : 1 ≤ p) : f_X13_isWord so wo p = some (if twB T n e p = true then 1 else 0) := by
  have ms := mso_i (tkK_le T n e)
  unfold f_X13_isWord twB isW
  rw [m.2.1]
  by_cases q : tkK T n e = 1
  · have w := tkw he q
    have l1 := w.l hn hT
    have sw := sch_w p hp h1
    have lw := len_w p hp h1
    rw [if_pos (ms.2.1.mpr q), packM hp h1, bd1_s, m.2.2.2.1 q, decide_eq_true q, Bool.true_and]
    have key : lN (pkN (lts T (tkS T n e)) (tkE T n e - tkS T n e)) = lN (pkN (fun j => ltv (sch p j)) (lenT.getD p 0)) ↔ (decide (tkE T n e - tkS T n e = lenT.getD p 0) && isWf T (tkS T n e) p 0) = true := by
      rw [pk_lEQ (p40 w.2.2.1 (fun j hj => (l1 j hj).2.1)) (p40 lw (fun j hj => (sw j hj).2.1)), Bool.and_eq_true, decide_eq_true_iff]
      unfold isWf
      rw [decide_eq_true_iff]
      constructor
      · intro e0
        obtain ⟨e1, e2⟩ := pkN_inj _ _ (fun j hj => ⟨(l1 j hj).1, (l1 j hj).2.1⟩) (fun j hj => ⟨(sw j hj).1, (sw j hj).2.1⟩) e0
        refine ⟨e1, fun j hj _ => ?_⟩
        have e3 : lts T (tkS T n e) j = ltv (sch p j) := e2 j (by omega)
        rw [(l1 j (by omega)).2.2, e3]
        exact ((sw j hj).2.2.2).symm
      · intro ⟨e1, e2⟩
        rw [e1]
        refine pkN_cong _ (fun j hj => ?_)
        unfold lts
        rw [e2 j hj (Nat.zero_le _)]
    by_cases k : (decide (tkE T n e - tkS T n e = lenT.getD p 0) && isWf T (tkS T n e) p 0) = true
    · rw [if_pos (key.mpr k), if_pos k]
    · rw [if_neg (fun h => k (key.mp h)), if_neg k]
  · rw [if_neg (fun h => q (ms.2.1.mp h)), decide_eq_false q]
    rfl
/-- does a line begin here -/
def blB (T : Nat → Int32) (n e : Nat) : Bool := twB T n e 1 || (twB T n e 2 || (twB T n e 3 || (twB T n e 4 || (twB T n e 5 || twB T n e 6))))
theorem blC (hn : n ≤ 900) {e : Nat} (he : e ≤ n) : f_X9_beginsLine T (nI (tkS T n e)) (nI (tkE T n e)) (nI (tkK T n e)) = some (if blB T n e = true then 1 else 0) := by
  unfold f_X9_beginsLine f_X9_beginsLine_B54 blB
  rw [twC hn he (p := 1) (by decide), bd1_s]
  cases twB T n e 1
  · rw [selF, twC hn he (p := 2) (by decide), bd1_s]
    cases twB T n e 2
    · rw [selF, twC hn he (p := 3) (by decide), bd1_s]
      cases twB T n e 3
      · rw [selF, twC hn he (p := 4) (by decide), bd1_s]
        cases twB T n e 4
        · rw [selF, twC hn he (p := 5) (by decide), bd1_s]
          cases twB T n e 5
          · rw [selF, twC hn he (p := 6) (by decide), bd1_s]
            cases twB T n e 6
            · rw [selF]; rfl
            · rw [selT]; rfl
          · rw [selT]; rfl
        · rw [selT]; rfl
      · rw [selT]; rfl
    · rw [selT]; rfl
  · rw [selT]; rfl
def nmB (T : Nat → Int32) (n e : Nat) : Bool := decide (tkK T n e = 1) && !blB T n e
theorem nameM (hn : n ≤ 900) (hT : ∀ j, j < 900 → byt (T j)) {e : Nat} (he : e ≤ n) {sp so pl nu : Int32} {wo : Int64} (m : MT T n e sp so pl nu wo) : f_X13_isName so wo = some (if nmB T n e = true then 1 else 0) := by
  have ms := mso_i (tkK_le T n e)
  unfold f_X13_isName nmB
  by_cases q : tkK T n e = 1
  · rw [if_pos (by rw [m.2.1]; exact ms.2.1.mpr q), decide_eq_true q, Bool.true_and]
    unfold blB
    rw [twM hn hT he m (p := 1) (by decide) (by decide), bd1_s]
    cases twB T n e 1
    · rw [selF, twM hn hT he m (p := 2) (by decide) (by decide), bd1_s]
      cases twB T n e 2
      · rw [selF, twM hn hT he m (p := 3) (by decide) (by decide), bd1_s]
        cases twB T n e 3
        · rw [selF, twM hn hT he m (p := 4) (by decide) (by decide), bd1_s]
          cases twB T n e 4
          · rw [selF, twM hn hT he m (p := 5) (by decide) (by decide), bd1_s]
            cases twB T n e 5
            · rw [selF, twM hn hT he m (p := 6) (by decide) (by decide), bd1_s]
              cases twB T n e 6
              · rw [selF]; rfl
              · rw [selT]; rfl
            · rw [selT]; rfl
          · rw [selT]; rfl
        · rw [selT]; rfl
      · rw [selT]; rfl
    · rw [selT]; rfl
  · rw [if_neg (by rw [m.2.1]; exact fun h => q (ms.2.1.mp h)), decide_eq_false q]
    rfl
/-- the value of digits -/
theorem valC (hn : n ≤ 900) (hT : ∀ j, j < 900 → byt (T j)) {s E : Nat} (hs : s ≤ E) (hE : E ≤ n) (hd : ∀ j, s ≤ j → j < E → isDg (T j) = true) : f_X9_value T (nI s) (nI E) = some (nI (nuN (dgs T s) (E - s))) := by
  have key : ∀ k c f, s + c + k = E → k < f → f_X9_value_L7 T (nI s) (nI E) f (nI (nuN (dgs T s) c)) (nI (s + c)) = some (nI (nuN (dgs T s) (E - s))) := by
    intro k
    induction k with
    | zero =>
      intro c f hc hf
      obtain ⟨f, rfl⟩ : ∃ g, f = g + 1 := ⟨f - 1, by omega⟩
      show f_X9_value_b7 T (nI s) (nI E) _ _ (nI (s + c)) = _
      unfold f_X9_value_b7
      rw [if_pos (nI_le (by omega) (by omega)), show E - s = c by omega]
    | succ k ih =>
      intro c f hc hf
      obtain ⟨f, rfl⟩ : ∃ g, f = g + 1 := ⟨f - 1, by omega⟩
      show f_X9_value_b7 T (nI s) (nI E) _ _ (nI (s + c)) = _
      unfold f_X9_value_b7
      rw [if_neg (nI_ge (show s + c < E by omega) (by omega)), gI (show s + c < 900 by omega) (by decide), nI_clamp (by omega), nI_1]
      have e1 : T (s + c) = nI (dgs T s c + 48) := (dgF hT (by omega) (hd (s + c) (by omega) (by omega))).2
      have et : (10 : Int32) * nI (nuN (dgs T s) c) + T (s + c) - 48 = nI (nuN (dgs T s) (c + 1)) := by
        rw [e1, show (10 : Int32) = nI 10 from rfl, pk_mul, nI_add, show (48 : Int32) = nI 48 from rfl, pk_sub (by omega)]
        show nI (10 * nuN (dgs T s) c + (dgs T s c + 48) - 48) = nI (10 * nuN (dgs T s) c + dgs T s c)
        congr 1
      rw [et]
      exact ih (c + 1) f (by omega) (by omega)
  exact key (E - s) 0 fuelN (by omega) (fuel_gt (by omega))
/-- a whole between bounds: both sides -/
theorem rdJ (hn : n ≤ 900) (hT : ∀ j, j < 900 → byt (T j)) {e : Nat} (he : e ≤ n) {sp so pl nu : Int32} {wo : Int64} (m : MT T n e sp so pl nu wo) {lo hi : Nat} (hlo : lo ≤ 999) (hhi : hi ≤ 999) :
    (∃ v, lo ≤ v ∧ v ≤ hi ∧ (∀ ff fa x y : Int32, f_X7_readWhole T ff fa (nI n) x (nI e) y (nI lo) (nI hi) = some (nI v, ff, fa, nI (tkS T n e), nI (tkE T n e), nI (tkK T n e))) ∧ ∀ fl wr : Int32, f_X13_bounded so pl nu fl wr (nI lo) (nI hi) = some (nI v, so, fl, wr)) ∨
    (∃ k, 1 ≤ k ∧ k ≤ 6 ∧ (∀ ff fa x y : Int32, f_X7_readWhole T ff fa (nI n) x (nI e) y (nI lo) (nI hi) = some (-1, nI k, nI (tkS T n e), nI (tkS T n e), nI (tkE T n e), nI (tkK T n e))) ∧ ∀ fl wr : Int32, f_X13_bounded so pl nu fl wr (nI lo) (nI hi) = some (nI lo, 5, nI k, nI (tkS T n e))) := by
  have hk := tkK_le T n e
  have ms := mso_i hk
  have hb := tkE_b (T := T) he
  have n5 := m.n5
  by_cases q : tkK T n e = 2
  · have h2 := tk2 q
    have hv := valC hn hT hb.2.1 hb.2.2 h2.2.2.2.2.2.2
    have hl : nuN (dgs T (tkS T n e)) (tkE T n e - tkS T n e) < 1000 := by
      have h3 := nuN_lt (g := dgs T (tkS T n e)) (tkE T n e - tkS T n e) (fun j hj => (dgF hT (by omega) (h2.2.2.2.2.2.2 _ (by omega) (by omega))).1)
      have h4 : 10 ^ (tkE T n e - tkS T n e) ≤ 10 ^ 3 := Nat.pow_le_pow_right (by decide) h2.2.1
      omega
    have hnu := m.2.2.2.2 q
    have hso : so = 3 := by rw [m.2.1]; exact ms.2.2.1.mpr q
    generalize nuN (dgs T (tkS T n e)) (tkE T n e - tkS T n e) = v at hv hl hnu
    obtain ⟨o1, o2⟩ := outN (v := v) (lo := lo) (hi := hi) (by omega) (by omega) (by omega)
    by_cases q2 : lo ≤ v ∧ v ≤ hi
    · rw [if_pos q2] at o1 o2
      refine Or.inl ⟨v, q2.1, q2.2, fun ff fa x y => ?_, fun fl wr => ?_⟩
      · unfold f_X7_readWhole
        rw [stepC hn hT he, bd3_s, if_pos (show nI (tkK T n e) = 2 by rw [q]; rfl), hv, bd1_s, o1, bd1_s, if00]
      · unfold f_X13_bounded f_X13_bounded_B33
        rw [hso, if_pos rfl, hnu, o2, bd1_s, if10, if_neg (by decide)]
    · rw [if_neg q2] at o1 o2
      refine Or.inr ⟨4, by decide, by decide, fun ff fa x y => ?_, fun fl wr => ?_⟩
      · unfold f_X7_readWhole f_X7_fail
        rw [stepC hn hT he, bd3_s, if_pos (show nI (tkK T n e) = 2 by rw [q]; rfl), hv, bd1_s, o1, bd1_s, if10, bd3_s]
        rfl
      · unfold f_X13_bounded f_X13_bounded_B33 f_X13_flaw
        rw [hso, if_pos rfl, hnu, o2, bd1_s, if00, if_neg (show ¬ (3 : Int32) = 5 by decide), bd3_s, if_pos rfl, m.2.2.1]
        rfl
  · refine Or.inr ⟨1, by decide, by decide, fun ff fa x y => ?_, fun fl wr => ?_⟩
    · unfold f_X7_readWhole f_X7_fail
      rw [stepC hn hT he, bd3_s, if_neg (show ¬ nI (tkK T n e) = 2 from fun h => q ((nI_eq (b := 2) (by omega) (by decide)).mp h)), bd3_s]
      rfl
    · unfold f_X13_bounded f_X13_bounded_B33 f_X13_flaw
      rw [if_neg (show ¬ so = 3 from fun h => q (ms.2.2.1.mp (by rw [← m.2.1]; exact h))), if_neg n5, bd3_s, if_pos rfl, m.2.2.1]
      rfl
theorem go5 (sz sp pl nu : Int32) (wo : Int64) : f_X13_goesOn sz sp 5 pl nu wo T = some (sp, 5, pl, nu, wo) := by
  unfold f_X13_goesOn; rw [if_pos rfl]
theorem fl5 (pl fl wr k : Int32) : f_X13_flaw 5 pl fl wr k = some (5, fl, wr) := by
  unfold f_X13_flaw; rw [if_pos rfl]
theorem flN {so : Int32} (h : ¬ so = 5) (pl fl wr k : Int32) : f_X13_flaw so pl fl wr k = some (5, k, pl) := by
  unfold f_X13_flaw; rw [if_neg h]
theorem iw5 (wo : Int64) (p : Nat) : f_X13_isWord 5 wo p = some 0 := by
  unfold f_X13_isWord; rw [if_neg (by decide)]
theorem in5 (wo : Int64) : f_X13_isName 5 wo = some 0 := by
  unfold f_X13_isName; rw [if_neg (by decide)]
theorem bo5 (pl nu fl wr lo hi : Int32) : f_X13_bounded 5 pl nu fl wr lo hi = some (lo, 5, fl, wr) := by
  unfold f_X13_bounded f_X13_bounded_B33
  rw [if_neg (by decide), fl5, bd3_s, if_pos rfl]
theorem ne5 (sz sp pl nu fl wr : Int32) (wo : Int64) (p : Nat) : f_X13_needs sz sp 5 pl nu fl wr wo T p = some (sp, 5, pl, nu, fl, wr, wo) := by
  unfold f_X13_needs f_X13_needs_B13
  rw [iw5, bd1_s, if00, fl5, bd3_s, go5, bd5_s]
theorem rw5 (sz sp pl nu fl wr : Int32) (wo : Int64) (lo hi : Int32) : f_X13_readWhole sz sp 5 pl nu fl wr wo T lo hi = some (lo, sp, 5, pl, nu, fl, wr, wo) := by
  unfold f_X13_readWhole
  rw [bo5, bd4_s, go5, bd5_s]
theorem rpt5 (sz sp pl nu fl wr : Int32) (wo : Int64) (p : Nat) (lo hi : Int32) : f_X13_readPart sz sp 5 pl nu fl wr wo T p lo hi = some (lo, sp, 5, pl, nu, fl, wr, wo) := by
  unfold f_X13_readPart
  rw [ne5, bd7_s, rw5, bd8_s]
/-- a whole, and the next token -/
theorem rwJ (hn : n ≤ 900) (hT : ∀ j, j < 900 → byt (T j)) {e : Nat} (he : e ≤ n) {sp so pl nu : Int32} {wo : Int64} (m : MT T n e sp so pl nu wo) {lo hi : Nat} (hlo : lo ≤ 999) (hhi : hi ≤ 999) :
    (∃ v sp2 so2 pl2 nu2 wo2, lo ≤ v ∧ v ≤ hi ∧ (∀ ff fa x y : Int32, f_X7_readWhole T ff fa (nI n) x (nI e) y (nI lo) (nI hi) = some (nI v, ff, fa, nI (tkS T n e), nI (tkE T n e), nI (tkK T n e))) ∧ MT T n (tkE T n e) sp2 so2 pl2 nu2 wo2 ∧ ∀ fl wr : Int32, f_X13_readWhole (nI n) sp so pl nu fl wr wo T (nI lo) (nI hi) = some (nI v, sp2, so2, pl2, nu2, fl, wr, wo2)) ∨
    (∃ k, 1 ≤ k ∧ k ≤ 6 ∧ (∀ ff fa x y : Int32, f_X7_readWhole T ff fa (nI n) x (nI e) y (nI lo) (nI hi) = some (-1, nI k, nI (tkS T n e), nI (tkS T n e), nI (tkE T n e), nI (tkK T n e))) ∧ ∀ fl wr : Int32, f_X13_readWhole (nI n) sp so pl nu fl wr wo T (nI lo) (nI hi) = some (nI lo, sp, 5, pl, nu, nI k, nI (tkS T n e), wo)) := by
  have hb := tkE_b (T := T) he
  rcases rdJ hn hT he m hlo hhi with ⟨v, h1, h2, hc, hm⟩ | ⟨k, h1, h2, hc, hm⟩
  · obtain ⟨sp2, so2, pl2, nu2, wo2, eg, m2⟩ := goM hn hT hb.2.2 so pl nu wo m.n5
    refine Or.inl ⟨v, sp2, so2, pl2, nu2, wo2, h1, h2, hc, m2, fun fl wr => ?_⟩
    unfold f_X13_readWhole
    rw [hm, bd4_s, m.1, eg, bd5_s]
  · refine Or.inr ⟨k, h1, h2, hc, fun fl wr => ?_⟩
    unfold f_X13_readWhole
    rw [hm, bd4_s, go5, bd5_s]
/-- a text that must stand here -/
theorem neJ (hn : n ≤ 900) (hT : ∀ j, j < 900 → byt (T j)) {e : Nat} (he : e ≤ n) {sp so pl nu : Int32} {wo : Int64} (m : MT T n e sp so pl nu wo) {p : Nat} (hp : p < 21) (h1 : 1 ≤ p) :
    (∃ sp2 so2 pl2 nu2 wo2, (∀ ff fa x y : Int32, f_X7_readWord T ff fa (nI n) x (nI e) y p = some (1, ff, fa, nI (tkS T n e), nI (tkE T n e), nI (tkK T n e))) ∧ MT T n (tkE T n e) sp2 so2 pl2 nu2 wo2 ∧ ∀ fl wr : Int32, f_X13_needs (nI n) sp so pl nu fl wr wo T p = some (sp2, so2, pl2, nu2, fl, wr, wo2)) ∨
    ((∀ ff fa x y : Int32, f_X7_readWord T ff fa (nI n) x (nI e) y p = some (0, 1, nI (tkS T n e), nI (tkS T n e), nI (tkE T n e), nI (tkK T n e))) ∧ ∀ fl wr : Int32, f_X13_needs (nI n) sp so pl nu fl wr wo T p = some (sp, 5, pl, nu, 1, nI (tkS T n e), wo)) := by
  have hb := tkE_b (T := T) he
  have tc := twC (T := T) hn he hp
  have tm := twM hn hT he m hp h1
  cases hw : twB T n e p
  · rw [hw] at tc tm
    refine Or.inr ⟨fun ff fa x y => ?_, fun fl wr => ?_⟩
    · unfold f_X7_readWord f_X7_fail
      rw [stepC hn hT he, bd3_s, tc, bd1_s, selF, bd3_s, if00]
    · unfold f_X13_needs f_X13_needs_B13
      rw [tm, bd1_s, selF, flN m.n5, bd3_s, go5, bd5_s, m.2.2.1]
  · rw [hw] at tc tm
    obtain ⟨sp2, so2, pl2, nu2, wo2, eg, m2⟩ := goM hn hT hb.2.2 so pl nu wo m.n5
    refine Or.inl ⟨sp2, so2, pl2, nu2, wo2, fun ff fa x y => ?_, m2, fun fl wr => ?_⟩
    · unfold f_X7_readWord f_X7_readWord_B26
      rw [stepC hn hT he, bd3_s, tc, bd1_s, selT]
    · unfold f_X13_needs f_X13_needs_B13
      rw [tm, bd1_s, selT, m.1, eg, bd5_s]
/-- a text and a whole behind it -/
theorem rpJ (hn : n ≤ 900) (hT : ∀ j, j < 900 → byt (T j)) {e : Nat} (he : e ≤ n) {sp so pl nu : Int32} {wo : Int64} (m : MT T n e sp so pl nu wo) {p : Nat} (hp : p < 21) (h1 : 1 ≤ p) {lo hi : Nat} (hlo : lo ≤ 999) (hhi : hi ≤ 999) :
    (∃ v e2 x2 y2 x3 y3 sp2 so2 pl2 nu2 wo2, lo ≤ v ∧ v ≤ hi ∧ e ≤ e2 ∧ e2 ≤ n ∧ (∀ ff fa x y : Int32, f_X7_readWord T ff fa (nI n) x (nI e) y p = some (1, ff, fa, x2, nI (tkE T n e), y2)) ∧ (∀ ff fa : Int32, f_X7_readWhole T ff fa (nI n) x2 (nI (tkE T n e)) y2 (nI lo) (nI hi) = some (nI v, ff, fa, x3, nI e2, y3)) ∧ MT T n e2 sp2 so2 pl2 nu2 wo2 ∧ ∀ fl wr : Int32, f_X13_readPart (nI n) sp so pl nu fl wr wo T p (nI lo) (nI hi) = some (nI v, sp2, so2, pl2, nu2, fl, wr, wo2)) ∨
    (∃ k a x2 y2 z2 r sp2 pl2 nu2 wo2, 1 ≤ k ∧ k ≤ 6 ∧ (∀ ff fa x y : Int32, f_X7_readWord T ff fa (nI n) x (nI e) y p = some (0, nI k, nI a, x2, y2, z2)) ∧ ∀ fl wr : Int32, f_X13_readPart (nI n) sp so pl nu fl wr wo T p (nI lo) (nI hi) = some (r, sp2, 5, pl2, nu2, nI k, nI a, wo2)) ∨
    (∃ k a x2 y2 x3 y3 z3 r sp2 pl2 nu2 wo2, 1 ≤ k ∧ k ≤ 6 ∧ (∀ ff fa x y : Int32, f_X7_readWord T ff fa (nI n) x (nI e) y p = some (1, ff, fa, x2, nI (tkE T n e), y2)) ∧ (∀ ff fa : Int32, f_X7_readWhole T ff fa (nI n) x2 (nI (tkE T n e)) y2 (nI lo) (nI hi) = some (-1, nI k, nI a, x3, y3, z3)) ∧ ∀ fl wr : Int32, f_X13_readPart (nI n) sp so pl nu fl wr wo T p (nI lo) (nI hi) = some (r, sp2, 5, pl2, nu2, nI k, nI a, wo2)) := by
  have hb := tkE_b (T := T) he
  rcases neJ hn hT he m hp h1 with ⟨sp1, so1, pl1, nu1, wo1, hc, m1, hm⟩ | ⟨hc, hm⟩
  · have hb2 := tkE_b (T := T) hb.2.2
    rcases rwJ hn hT hb.2.2 m1 hlo hhi with ⟨v, sp2, so2, pl2, nu2, wo2, g1, g2, gc, m2, gm⟩ | ⟨k, g1, g2, gc, gm⟩
    · refine Or.inl ⟨v, tkE T n (tkE T n e), _, _, _, _, sp2, so2, pl2, nu2, wo2, g1, g2, by omega, hb2.2.2, hc, fun ff fa => gc ff fa _ _, m2, fun fl wr => ?_⟩
      unfold f_X13_readPart
      rw [hm, bd7_s, gm, bd8_s]
    · refine Or.inr (Or.inr ⟨k, tkS T n (tkE T n e), _, _, _, _, _, nI lo, sp1, pl1, nu1, wo1, g1, g2, hc, fun ff fa => gc ff fa _ _, fun fl wr => ?_⟩)
      unfold f_X13_readPart
      rw [hm, bd7_s, gm, bd8_s]
  · refine Or.inr (Or.inl ⟨1, tkS T n e, _, _, _, nI lo, sp, pl, nu, wo, by decide, by decide, hc, fun fl wr => ?_⟩)
    unfold f_X13_readPart
    rw [hm, bd7_s, rw5, bd8_s]
    rfl
/-- names that were told: N of them -/
def NR (T : Nat → Int32) (n N : Nat) (ns ne : Nat → Int32) (nm : Nat → Int64) : Prop := N ≤ 11 ∧ ∀ k, k < N → ∃ s E, ns k = nI s ∧ ne k = nI E ∧ wrd T n s E ∧ nm k = lN (pkN (lts T s) (E - s))
def nmF (N : Nat) (nm : Nat → Int64) (wo : Int64) : Option Nat := findN (fun k => decide (nm k = wo)) N 0
def optI (r : Option Nat) : Int32 := match r with | none => -1 | some i => nI i
theorem findN_lt {p : Nat → Bool} : ∀ k i j, findN p k i = some j → i ≤ j ∧ j < i + k ∧ p j = true := by
  intro k
  induction k with
  | zero => intro i j h; cases h
  | succ k ih =>
    intro i j h
    unfold findN at h
    cases hp : p i
    · rw [hp, if_neg (by decide)] at h
      have := ih (i + 1) j h
      exact ⟨by omega, by omega, this.2.2⟩
    · rw [hp, if_pos rfl] at h
      have := Option.some.inj h
      subst this
      exact ⟨Nat.le_refl _, by omega, hp⟩
theorem sameC (hn : n ≤ 900) {s E s' E' : Nat} (h1 : s ≤ E) (h2 : E ≤ n) (h3 : s' ≤ E') (h4 : E' ≤ n) : f_X9_isSameAs T (nI n) (nI s) (nI E) (nI s') (nI E') = some (if E - s = E' - s' ∧ ∀ j, j < E - s → T (s + j) = T (s' + j) then 1 else 0) := by
  unfold f_X9_isSameAs
  rw [pk_sub h1, pk_sub h3]
  have e0 : nI (E - s) = nI (E' - s') ↔ E - s = E' - s' := nI_eq (by omega) (by omega)
  by_cases q : E - s = E' - s'
  · rw [if_pos (e0.mpr q), if_neg (nI_pos (by omega)), if_pos (nI_le h4 (by omega))]
    have key : ∀ k i f, i + k = E - s → k < f → f_X9_isSameAs_L31 T (nI n) (nI s) (nI E) (nI s') f (nI i) = some (if ∀ j, j < E - s → i ≤ j → T (s + j) = T (s' + j) then 1 else 0) := by
      intro k
      induction k with
      | zero =>
        intro i f hi hf
        obtain ⟨f, rfl⟩ : ∃ g, f = g + 1 := ⟨f - 1, by omega⟩
        show f_X9_isSameAs_b31 T (nI n) (nI s) (nI E) (nI s') _ (nI i) = _
        unfold f_X9_isSameAs_b31
        rw [pk_sub h1, if_pos (nI_le (by omega) (by omega)), if_pos (fun j a b => by omega)]
      | succ k ih =>
        intro i f hi hf
        obtain ⟨f, rfl⟩ : ∃ g, f = g + 1 := ⟨f - 1, by omega⟩
        show f_X9_isSameAs_b31 T (nI n) (nI s) (nI E) (nI s') _ (nI i) = _
        unfold f_X9_isSameAs_b31
        rw [pk_sub h1, if_neg (nI_ge (show i < E - s by omega) (by omega)), nI_add, nI_add, gI (show s + i < 900 by omega) (by decide), gI (show s' + i < 900 by omega) (by decide), nI_clamp (show s + i < 2 ^ 31 by omega), nI_clamp (show s' + i < 2 ^ 31 by omega), nI_1, ih (i + 1) f (by omega) (by omega)]
        by_cases q2 : T (s + i) = T (s' + i)
        · rw [if_pos q2]
          by_cases q3 : ∀ j, j < E - s → i ≤ j → T (s + j) = T (s' + j)
          · rw [if_pos q3, if_pos (fun j a b => q3 j a (by omega))]
          · rw [if_neg q3, if_neg (fun h => q3 (fun j a b => ?_))]
            by_cases e : j = i
            · rw [e]; exact q2
            · exact h j a (by omega)
        · rw [if_neg q2, if_neg (fun h => q2 (h i (by omega) (Nat.le_refl _)))]
    refine (show f_X9_isSameAs_L31 T (nI n) (nI s) (nI E) (nI s') fuelN 0 = _ from key (E - s) 0 fuelN (by omega) (fuel_gt (by omega))).trans ?_
    by_cases q3 : ∀ j, j < E - s → T (s + j) = T (s' + j)
    · rw [if_pos (fun j a _ => q3 j a), if_pos ⟨q, q3⟩]
    · rw [if_neg (fun h => q3 (fun j a => h j a (Nat.zero_le _))), if_neg (fun h => q3 h.2)]
  · rw [if_neg (fun h => q (e0.mp h)), if_neg (fun h => q h.1)]
theorem idxC (hn : n ≤ 900) (hT : ∀ j, j < 900 → byt (T j)) {N : Nat} {ns ne : Nat → Int32} {nm : Nat → Int64} (h : NR T n N ns ne nm) {e : Nat} (he : e ≤ n) (h1 : tkK T n e = 1) : f_X7_indexOfName T (nI N) ns ne (nI n) (nI (tkS T n e)) (nI (tkE T n e)) = some (optI (nmF N nm (lN (pkN (lts T (tkS T n e)) (tkE T n e - tkS T n e))))) := by
  have w := tkw he h1
  have hb := tkE_b (T := T) he
  have hN := h.1
  have key : ∀ k i f, i + k = N → k < f → f_X7_indexOfName_L2 T (nI N) ns ne (nI n) (nI (tkS T n e)) (nI (tkE T n e)) f (nI i) = some (optI (findN (fun k => decide (nm k = lN (pkN (lts T (tkS T n e)) (tkE T n e - tkS T n e)))) k i)) := by
    intro k
    induction k with
    | zero =>
      intro i f hi hf
      obtain ⟨f, rfl⟩ : ∃ g, f = g + 1 := ⟨f - 1, by omega⟩
      show f_X7_indexOfName_b2 T (nI N) ns ne (nI n) (nI (tkS T n e)) (nI (tkE T n e)) _ (nI i) = _
      unfold f_X7_indexOfName_b2
      rw [if_pos (nI_le (by omega) (by omega))]
      rfl
    | succ k ih =>
      intro i f hi hf
      obtain ⟨f, rfl⟩ : ∃ g, f = g + 1 := ⟨f - 1, by omega⟩
      obtain ⟨s, E, e1, e2, w', e3⟩ := h.2 i (by omega)
      show f_X7_indexOfName_b2 T (nI N) ns ne (nI n) (nI (tkS T n e)) (nI (tkE T n e)) _ (nI i) = _
      unfold f_X7_indexOfName_b2
      rw [if_neg (nI_ge (show i < N by omega) (by omega)), if_neg (show ¬ (11 : Int32) ≤ nI i from nI_ge (b := 11) (by omega) (by decide)), gI (show i < 11 by omega) (by decide), gI (show i < 11 by omega) (by decide), nI_clamp (by omega), e1, e2, sameC hn hb.2.1 hb.2.2 (Nat.le_of_lt w'.1) w'.2.1, bd1_s, nI_1, ih (i + 1) f (by omega) (by omega)]
      have we := wrd_eq hn hT w w'
      rw [show findN (fun k => decide (nm k = lN (pkN (lts T (tkS T n e)) (tkE T n e - tkS T n e)))) (k + 1) i = if decide (nm i = lN (pkN (lts T (tkS T n e)) (tkE T n e - tkS T n e))) = true then some i else findN (fun k => decide (nm k = lN (pkN (lts T (tkS T n e)) (tkE T n e - tkS T n e)))) k (i + 1) from rfl, e3]
      by_cases q : tkE T n e - tkS T n e = E - s ∧ ∀ j, j < tkE T n e - tkS T n e → T (tkS T n e + j) = T (s + j)
      · rw [if_pos q, if10, if_pos (decide_eq_true (we.mpr q))]
        rfl
      · rw [if_neg q, if00, if_neg (fun hh => q (we.mp (of_decide_eq_true hh)))]
  exact key N 0 fuelN (by omega) (fuel_gt (by omega))
theorem fndM {N : Nat} (hN : N ≤ 11) (nm : Nat → Int64) (wo : Int64) : f_X12_find (nI N) nm wo = some (optI (nmF N nm wo)) := by
  have key : ∀ k i f, i + k = N → k < f → f_X12_find_L2 (nI N) nm wo f (nI i) = some (optI (findN (fun k => decide (nm k = wo)) k i)) := by
    intro k
    induction k with
    | zero =>
      intro i f hi hf
      obtain ⟨f, rfl⟩ : ∃ g, f = g + 1 := ⟨f - 1, by omega⟩
      show f_X12_find_b2 (nI N) nm wo _ (nI i) = _
      unfold f_X12_find_b2
      rw [if_pos (nI_le (by omega) (by omega))]
      rfl
    | succ k ih =>
      intro i f hi hf
      obtain ⟨f, rfl⟩ : ∃ g, f = g + 1 := ⟨f - 1, by omega⟩
      show f_X12_find_b2 (nI N) nm wo _ (nI i) = _
      unfold f_X12_find_b2
      rw [if_neg (nI_ge (show i < N by omega) (by omega)), gI (show i < 11 by omega) (by decide), nI_clamp (by omega), nI_1, ih (i + 1) f (by omega) (by omega)]
      rw [show findN (fun k => decide (nm k = wo)) (k + 1) i = if decide (nm i = wo) = true then some i else findN (fun k => decide (nm k = wo)) k (i + 1) from rfl]
      by_cases q : nm i = wo
      · rw [if_pos q, if_pos (decide_eq_true q)]
        rfl
      · rw [if_neg q, if_neg (fun hh => q (of_decide_eq_true hh))]
  exact key N 0 fuelN (by omega) (fuel_gt (by omega))
theorem optI_n {r : Option Nat} (h : ∀ i, r = some i → i < 11) : optI r = -1 ↔ r = none := by
  cases r with
  | none => exact ⟨fun _ => rfl, fun _ => rfl⟩
  | some i =>
    refine ⟨fun e => ?_, fun e => by cases e⟩
    have := nI_pos (n := i) (by have := h i rfl; omega)
    rw [show nI i = (-1 : Int32) from e] at this
    exact absurd (show (-1 : Int32) < 0 by decide) this
theorem nmF_lt {N : Nat} {nm : Nat → Int64} {wo : Int64} {i : Nat} (h : nmF N nm wo = some i) : i < N ∧ nm i = wo := by
  have := findN_lt N 0 i h
  exact ⟨by omega, of_decide_eq_true this.2.2⟩
end BN
