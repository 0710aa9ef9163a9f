/-! BO: names and lines, both sides -/
theorem tell0 {B v : Nat} (hB : B < 2 ^ 31) (hv : v < 32) : f_X2_isLaneTold (nI B) (nI v) = some (if bit B v = true then 1 else 0) ∧ f_X2_hasTurned (nI B) (nI v) = some (if bit B v = true then 1 else 0) := by
  unfold f_X2_isLaneTold f_X2_hasTurned bit
  rw [bitN hB hv]
  rcases Nat.mod_two_eq_zero_or_one (B / 2 ^ v) with h | h <;> rw [h] <;> exact ⟨rfl, rfl⟩
theorem nIm1 {v : Nat} (h : v < 2 ^ 31) : ¬ nI v = -1 := fun e => absurd (show (-1 : Int32) < 0 by decide) (by rw [← e]; exact nI_pos h)
/-- lanes -/
def LR (wh fs rwh rst : Nat → Int32) : Prop := ∀ l, l < 6 → ∃ w s, w < 4 ∧ s ≤ 60 ∧ wh l = nI w ∧ rwh l = nI w ∧ fs l = nI s ∧ rst l = nI s
theorem LR.up {wh fs rwh rst : Nat → Int32} (h : LR wh fs rwh rst) (v : Nat) {w s : Nat} (hw : w < 4) (hs : s ≤ 60) : LR (upd wh v (nI w)) (upd fs v (nI s)) (upd rwh v (nI w)) (upd rst v (nI s)) := by
  intro l hl
  by_cases q : l = v
  · subst q; exact ⟨w, s, hw, hs, pk_us, pk_us, pk_us, pk_us⟩
  · obtain ⟨w', s', h1, h2, h3, h4, h5, h6⟩ := h l hl
    exact ⟨w', s', h1, h2, by rw [pk_un q]; exact h3, by rw [pk_un q]; exact h4, by rw [pk_un q]; exact h5, by rw [pk_un q]; exact h6⟩
/-- beasts -/
def BR (L b : Nat) (kd fl md pr rkd rln rmd rpr : Nat → Int32) : Prop := ∀ j, j < b → ∃ k l m q, k < 4 ∧ l < L ∧ m ≤ 100 ∧ 1 ≤ q ∧ q ≤ 99 ∧ kd j = nI k ∧ rkd j = nI k ∧ fl j = nI l ∧ rln j = nI l ∧ md j = nI m ∧ rmd j = nI m ∧ pr j = nI q ∧ rpr j = nI q
theorem BR.up {L b : Nat} {kd fl md pr rkd rln rmd rpr : Nat → Int32} (h : BR L b kd fl md pr rkd rln rmd rpr) {k l m q : Nat} (hk : k < 4) (hl : l < L) (hm : m ≤ 100) (hq : 1 ≤ q) (hq2 : q ≤ 99) : BR L (b + 1) (upd kd b (nI k)) (upd fl b (nI l)) (upd md b (nI m)) (upd pr b (nI q)) (upd rkd b (nI k)) (upd rln b (nI l)) (upd rmd b (nI m)) (upd rpr b (nI q)) := by
  intro j hj
  by_cases e : j = b
  · subst e; exact ⟨k, l, m, q, hk, hl, hm, hq, hq2, pk_us, pk_us, pk_us, pk_us, pk_us, pk_us, pk_us, pk_us⟩
  · obtain ⟨k', l', m', q', h1, h2, h3, h4, h5, h6, h7, h8, h9, h10, h11, h12, h13⟩ := h j (by omega)
    exact ⟨k', l', m', q', h1, h2, h3, h4, h5, by rw [pk_un e]; exact h6, by rw [pk_un e]; exact h7, by rw [pk_un e]; exact h8, by rw [pk_un e]; exact h9, by rw [pk_un e]; exact h10, by rw [pk_un e]; exact h11, by rw [pk_un e]; exact h12, by rw [pk_un e]; exact h13⟩
/-- cities and passes -/
def CR (c : Nat) (pb lo : Nat → Int32) : Prop := c ≤ 6 ∧ ∀ i j, i < 6 → j < 6 → ∃ x, x ≤ 100 ∧ pb (6 * i + j) = nI x ∧ (i < c → j < c → lo (6 * i + j) = nI x - 1) ∧ (¬ (i < c ∧ j < c) → x = 0)
/-- numbers of names -/
def NQ (N b c : Nat) (nn nb rso rno : Nat → Int32) : Prop := ∀ k, k < N → ∃ x t, t < 2 ∧ nn k = nI x ∧ rno k = nI x ∧ nb k = nI t ∧ rso k = nI (1 - t) ∧ (t = 1 → x < b) ∧ (t = 0 → x < c)
theorem NQ.up {N b c : Nat} {nn nb rso rno : Nat → Int32} (h : NQ N b c nn nb rso rno) {b' c' x t : Nat} (hb : b ≤ b') (hc : c ≤ c') (ht : t < 2) (h1 : t = 1 → x < b') (h0 : t = 0 → x < c') : NQ (N + 1) b' c' (upd nn N (nI x)) (upd nb N (nI t)) (upd rso N (nI (1 - t))) (upd rno N (nI x)) := by
  intro k hk
  by_cases e : k = N
  · subst e; exact ⟨x, t, ht, pk_us, pk_us, pk_us, pk_us, h1, h0⟩
  · obtain ⟨x', t', g1, g2, g3, g4, g5, g6, g7⟩ := h k (by omega)
    exact ⟨x', t', g1, by rw [pk_un e]; exact g2, by rw [pk_un e]; exact g3, by rw [pk_un e]; exact g4, by rw [pk_un e]; exact g5, fun q => by have := g6 q; omega, fun q => by have := g7 q; omega⟩
theorem NR.up {T : Nat → Int32} {n N : Nat} {ns ne : Nat → Int32} {nm : Nat → Int64} (h : NR T n N ns ne nm) (hN : N < 11) {s E : Nat} (w : wrd T n s E) : NR T n (N + 1) (upd ns N (nI s)) (upd ne N (nI E)) (vp_updL nm N (lN (pkN (lts T s) (E - s)))) := by
  refine ⟨by omega, fun k hk => ?_⟩
  by_cases e : k = N
  · subst e; exact ⟨s, E, pk_us, pk_us, w, pk_uLs⟩
  · obtain ⟨s', E', g1, g2, g3, g4⟩ := h.2 k (by omega)
    exact ⟨s', E', by rw [pk_un e]; exact g1, by rw [pk_un e]; exact g2, g3, by rw [pk_uLn e]; exact g4⟩
section BO
variable {T : Nat → Int32} {n : Nat}
theorem fr5 {N : Nat} (hN : N ≤ 11) (sz sp pl nu fl wr : Int32) (wo : Int64) (nm : Nat → Int64) : f_X13_readFresh sz sp 5 pl nu fl wr wo T (nI N) nm = some (wo, sp, 5, pl, nu, fl, wr, wo) := by
  unfold f_X13_readFresh f_X13_readFresh_B12 f_X13_readFresh_B32
  rw [in5, bd1_s, if00, fl5, bd3_s, fndM hN, bd1_s, go5, bd5_s]
  by_cases q : optI (nmF N nm wo) = -1
  · rw [if_pos q]
  · rw [if_neg q, fl5, bd3_s, go5, bd5_s]
/-- a new name -/
theorem nnJ (hn : n ≤ 900) (hT : ∀ j, j < 900 → byt (T j)) {e : Nat} (he : e ≤ n) {sp so pl nu : Int32} {wo : Int64} (m : MT T n e sp so pl nu wo) {N : Nat} {ns ne : Nat → Int32} {nm : Nat → Int64} (h : NR T n N ns ne nm) (hN : N < 11) (nn nb : Nat → Int32) (ff fa x y p1 p2 fl wr : Int32) :
    (∃ sp2 so2 pl2 nu2 wo2, wrd T n (tkS T n e) (tkE T n e) ∧ MT T n (tkE T n e) sp2 so2 pl2 nu2 wo2 ∧ f_X7_readNewName T (nI N) ff fa ns ne nn nb (nI n) x (nI e) y p1 p2 = some (1, nI (N + 1), ff, fa, upd ns N (nI (tkS T n e)), upd ne N (nI (tkE T n e)), upd nn N p2, upd nb N (vp_nar .boolean p1), nI (tkS T n e), nI (tkE T n e), nI (tkK T n e)) ∧ f_X13_readFresh (nI n) sp so pl nu fl wr wo T (nI N) nm = some (lN (pkN (lts T (tkS T n e)) (tkE T n e - tkS T n e)), sp2, so2, pl2, nu2, fl, wr, wo2)) ∨
    (∃ k, 1 ≤ k ∧ k ≤ 6 ∧ f_X7_readNewName T (nI N) ff fa ns ne nn nb (nI n) x (nI e) y p1 p2 = some (0, nI N, nI k, nI (tkS T n e), ns, ne, nn, nb, nI (tkS T n e), nI (tkE T n e), nI (tkK T n e)) ∧ f_X13_readFresh (nI n) sp so pl nu fl wr wo T (nI N) nm = some (wo, sp, 5, pl, nu, nI k, nI (tkS T n e), wo)) := by
  have hb := tkE_b (T := T) he
  have hk := tkK_le T n e
  have em := nameM hn hT he m
  have n5 := m.n5
  have e1 : nI (tkK T n e) = 1 ↔ tkK T n e = 1 := nI_eq (b := 1) (by omega) (by decide)
  unfold f_X7_readNewName f_X7_readNewName_B28 f_X7_fail f_X13_readFresh f_X13_readFresh_B12 f_X13_readFresh_B32
  rw [stepC hn hT he, bd3_s, em, bd1_s, blC hn he]
  unfold nmB
  by_cases q : tkK T n e = 1
  · rw [if_pos (e1.mpr q), decide_eq_true q, Bool.true_and, bd1_s]
    cases hbl : blB T n e
    · rw [selF, idxC hn hT h he q, fndM h.1, m.2.2.2.1 q]
      rw [show (!false) = true from rfl, selT]
      have o := optI_n (r := nmF N nm (lN (pkN (lts T (tkS T n e)) (tkE T n e - tkS T n e)))) (fun i hi => by have := nmF_lt hi; omega)
      simp only [bd1_s]
      by_cases q2 : nmF N nm (lN (pkN (lts T (tkS T n e)) (tkE T n e - tkS T n e))) = none
      · obtain ⟨sp2, so2, pl2, nu2, wo2, eg, m2⟩ := goM hn hT hb.2.2 so pl nu (lN (pkN (lts T (tkS T n e)) (tkE T n e - tkS T n e))) n5
        have g11 : ∀ {α : Type} (x : Option α), gIn (nI N) 11 x = x := fun x => gI hN (by decide)
        simp only [if_pos (o.mpr q2), g11]
        rw [if_neg (show ¬ (11 : Int32) ≤ nI N from nI_ge (b := 11) hN (by decide)), nI_1, nI_clamp (by omega), m.1, eg, bd5_s]
        exact Or.inl ⟨sp2, so2, pl2, nu2, wo2, tkw he q, m2, rfl, rfl⟩
      · simp only [if_neg (fun h => q2 (o.mp h)), bd3_s]
        rw [flN n5, bd3_s, go5, bd5_s, m.2.2.1]
        exact Or.inr ⟨3, by decide, by decide, rfl, rfl⟩
    · rw [selT, show (!true) = false from rfl, selF, flN n5, bd3_s, fndM h.1]
      simp only [bd1_s, bd3_s, fl5, go5, bd5_s]
      rw [m.2.2.1]
      refine Or.inr ⟨1, by decide, by decide, rfl, ?_⟩
      split <;> rfl
  · rw [if_neg (fun h => q (e1.mp h)), decide_eq_false q, Bool.false_and, selF, flN n5, bd3_s, fndM h.1]
    simp only [bd1_s, bd3_s, fl5, go5, bd5_s]
    rw [m.2.2.1]
    refine Or.inr ⟨1, by decide, by decide, rfl, ?_⟩
    split <;> rfl
theorem ko5 {N : Nat} (hN : N ≤ 11) (pl fl wr : Int32) (wo : Int64) (nm : Nat → Int64) (rso rno : Nat → Int32) (t : Int32) : f_X13_knownOne 5 pl fl wr wo (nI N) nm rso rno t = some (0, 5, fl, wr) := by
  unfold f_X13_knownOne f_X13_knownOne_B12 f_X13_knownOne_B42 f_X13_knownOne_B47
  rw [in5, bd1_s, if00, fl5, bd3_s, fndM hN, bd1_s]
  cases hr : nmF N nm wo with
  | none => rw [if_pos (show optI none = -1 from rfl), fl5, bd3_s, if_pos rfl]
  | some i =>
    have hi := (nmF_lt hr).1
    rw [if_neg (show ¬ optI (some i) = -1 from nIm1 (by omega)), show optI (some i) = nI i from rfl, gI (show i < 11 by omega) (by decide)]
    split
    · rw [if_pos rfl]
    · rw [fl5, bd3_s, if_pos rfl]
/-- a name that was told -/
theorem knJ (hn : n ≤ 900) (hT : ∀ j, j < 900 → byt (T j)) {e : Nat} (he : e ≤ n) {sp so pl nu : Int32} {wo : Int64} (m : MT T n e sp so pl nu wo) {N b c : Nat} {ns ne nn nb rso rno : Nat → Int32} {nm : Nat → Int64} (h : NR T n N ns ne nm) (g : NQ N b c nn nb rso rno) {t0 : Nat} (ht0 : t0 < 2) (ff fa x y fl wr : Int32) :
    (∃ z, (t0 = 1 → z < b) ∧ (t0 = 0 → z < c) ∧ f_X7_readKnownName T (nI N) ff fa ns ne nn nb (nI n) x (nI e) y (nI t0) = some (nI z, ff, fa, nI (tkS T n e), nI (tkE T n e), nI (tkK T n e)) ∧ f_X13_knownOne so pl fl wr wo (nI N) nm rso rno (nI (1 - t0)) = some (nI z, so, fl, wr)) ∨
    (∃ k, 1 ≤ k ∧ k ≤ 6 ∧ f_X7_readKnownName T (nI N) ff fa ns ne nn nb (nI n) x (nI e) y (nI t0) = some (-1, nI k, nI (tkS T n e), nI (tkS T n e), nI (tkE T n e), nI (tkK T n e)) ∧ f_X13_knownOne so pl fl wr wo (nI N) nm rso rno (nI (1 - t0)) = some (0, 5, nI k, nI (tkS T n e))) := by
  have hb := tkE_b (T := T) he
  have hk := tkK_le T n e
  have hN := h.1
  have em := nameM hn hT he m
  have n5 := m.n5
  have e1 : nI (tkK T n e) = 1 ↔ tkK T n e = 1 := nI_eq (b := 1) (by omega) (by decide)
  have bad1 : f_X13_knownOne_B12 pl wo (nI N) nm rso rno (nI (1 - t0)) 5 1 pl = some (0, 5, 1, pl) := by
    unfold f_X13_knownOne_B12 f_X13_knownOne_B42 f_X13_knownOne_B47
    rw [fndM hN, bd1_s]
    cases hr : nmF N nm wo with
    | none => rw [if_pos (show optI none = -1 from rfl), fl5, bd3_s, if_pos rfl]
    | some i =>
      have hi := (nmF_lt hr).1
      rw [if_neg (show ¬ optI (some i) = -1 from nIm1 (by omega)), show optI (some i) = nI i from rfl, gI (show i < 11 by omega) (by decide)]
      split
      · rw [if_pos rfl]
      · rw [fl5, bd3_s, if_pos rfl]
  unfold f_X7_readKnownName f_X7_readKnownName_B28 f_X7_readKnownName_B56 f_X7_fail f_X13_knownOne
  rw [stepC hn hT he, bd3_s, em, bd1_s, blC hn he]
  unfold nmB
  by_cases q : tkK T n e = 1
  · rw [if_pos (e1.mpr q), decide_eq_true q, Bool.true_and, bd1_s]
    cases hbl : blB T n e
    · rw [selF, idxC hn hT h he q, bd1_s, show (!false) = true from rfl, selT]
      unfold f_X13_knownOne_B12 f_X13_knownOne_B42 f_X13_knownOne_B47
      rw [fndM hN, bd1_s, m.2.2.2.1 q]
      cases hr : nmF N nm (lN (pkN (lts T (tkS T n e)) (tkE T n e - tkS T n e))) with
      | none =>
        rw [if_pos (show optI none = -1 from rfl), if_pos (show optI none = -1 from rfl), bd3_s, flN n5, bd3_s, if_pos rfl, m.2.2.1]
        exact Or.inr ⟨2, by decide, by decide, rfl, rfl⟩
      | some i =>
        have hi := (nmF_lt hr).1
        obtain ⟨z, t, g1, g2, g3, g4, g5, g6, g7⟩ := g i hi
        have hm1 : ¬ optI (some i) = -1 := nIm1 (by omega)
        have g11 : ∀ {α : Type} (x : Option α), gIn (nI i) 11 x = x := fun x => gI (by omega) (by decide)
        rw [if_neg hm1, if_neg hm1, show optI (some i) = nI i from rfl]
        simp only [g11]
        rw [nI_clamp (show i < 2 ^ 31 by omega), g2, g3, g4, g5]
        have et : nI t = nI t0 ↔ t = t0 := nI_eq (by omega) (by omega)
        have et' : nI (1 - t) = nI (1 - t0) ↔ 1 - t = 1 - t0 := nI_eq (by omega) (by omega)
        by_cases qt : t = t0
        · rw [if_pos (et.mpr qt), if_pos (et'.mpr (by omega)), if_neg n5]
          exact Or.inl ⟨z, fun q => g6 (by omega), fun q => g7 (by omega), rfl, rfl⟩
        · rw [if_neg (fun q => qt (et.mp q)), if_neg (fun q => qt (by have := et'.mp q; omega)), bd3_s, flN n5, bd3_s, if_pos rfl, m.2.2.1]
          exact Or.inr ⟨2, by decide, by decide, rfl, rfl⟩
    · rw [selT, bd3_s, show (!true) = false from rfl, selF, flN n5, bd3_s, bad1, m.2.2.1]
      exact Or.inr ⟨1, by decide, by decide, rfl, rfl⟩
  · rw [if_neg (fun h => q (e1.mp h)), bd3_s, decide_eq_false q, Bool.false_and, selF, flN n5, bd3_s, bad1, m.2.2.1]
    exact Or.inr ⟨1, by decide, by decide, rfl, rfl⟩
/-- a line begins -/
theorem lbG (hn : n ≤ 900) (hT : ∀ j, j < 900 → byt (T j)) {e : Nat} (he : e ≤ n) {sp so pl nu : Int32} {wo : Int64} (m : MT T n e sp so pl nu wo) {L : Nat} (hL : 2 ≤ L) (hL6 : L ≤ 6) {p1 p2 : Int32} (hp : ¬ p1 = p2) (fl wr : Int32) : ∃ sp2 so2 pl2 nu2 wo2, MT T n (tkE T n e) sp2 so2 pl2 nu2 wo2 ∧ f_X13_lineBegins (nI n) sp so pl nu fl wr wo T (nI L) p1 p2 = some (sp2, so2, pl2, nu2, fl, wr, wo2) := by
  obtain ⟨sp2, so2, pl2, nu2, wo2, eg, m2⟩ := goM hn hT (tkE_b (T := T) he).2.2 so pl nu wo m.n5
  refine ⟨sp2, so2, pl2, nu2, wo2, m2, ?_⟩
  unfold f_X13_lineBegins f_X13_lineBegins_B10 f_X13_lineBegins_B26
  rw [if_neg hp, if_neg (nI_ne0 (by omega) (by omega)), m.1, eg, bd5_s]
theorem lbB {e : Nat} {sp so pl nu : Int32} {wo : Int64} (m : MT T n e sp so pl nu wo) {L : Nat} (hL : 2 ≤ L) (hL6 : L ≤ 6) (p1 fl wr : Int32) : f_X13_lineBegins (nI n) sp so pl nu fl wr wo T (nI L) p1 p1 = some (sp, 5, pl, nu, 5, nI (tkS T n e), wo) := by
  unfold f_X13_lineBegins f_X13_lineBegins_B10 f_X13_lineBegins_B26
  rw [if_pos rfl, flN m.n5, bd3_s, if_neg (nI_ne0 (by omega) (by omega)), go5, bd5_s, m.2.2.1]
theorem lb0 {e : Nat} {sp so pl nu : Int32} {wo : Int64} (m : MT T n e sp so pl nu wo) {p1 p2 : Int32} (hp : ¬ p1 = p2) (fl wr : Int32) : f_X13_lineBegins (nI n) sp so pl nu fl wr wo T 0 p1 p2 = some (sp, 5, pl, nu, 6, nI (tkS T n e), wo) := by
  unfold f_X13_lineBegins f_X13_lineBegins_B10 f_X13_lineBegins_B26
  rw [if_neg hp, if_pos rfl, flN m.n5, bd3_s, go5, bd5_s, m.2.2.1]
/-! lanes -/
theorem la113 (sz L x1 sp pl nu fl wr mlt rt : Int32) (x2 : Int32) (h2 : ¬ x2 = 2) (h3 : ¬ x2 = 3) (wo : Int64) (rwh rst : Nat → Int32) : f_X13_readLane_B113 sz T L x1 x2 sp 5 pl nu fl wr mlt wo rt rwh rst = some (sp, 5, pl, nu, fl, wr, mlt, wo, rt, rwh, rst) := by
  unfold f_X13_readLane_B113 f_X13_readLane_B148
  rw [go5, bd5_s, if_neg h2, if_neg h3, if_pos rfl]
theorem la45 (sz L x1 sp pl nu fl wr mlt rt : Int32) (wo : Int64) (rwh rst : Nat → Int32) : f_X13_readLane_B45 sz T L x1 sp 5 pl nu fl wr mlt wo rt rwh rst = some (sp, 5, pl, nu, fl, wr, mlt, wo, rt, rwh, rst) := by
  unfold f_X13_readLane_B45
  rw [go5, bd5_s, iw5, bd1_s, if00, iw5, bd1_s, if00, iw5, bd1_s, if00, iw5, bd1_s, if00]
  unfold f_X13_readLane_B102
  rw [if_pos rfl, fl5, bd3_s]
  exact la113 _ _ _ _ _ _ _ _ _ _ _ (by decide) (by decide) _ _ _
theorem tellC {L B v : Nat} (hL : L ≤ 6) (hv : v < L) (wh fs : Nat → Int32) (w s : Int32) : f_X2_tellLane (nI L) (nI B) wh fs (nI v) w s = some (nI (B ||| 2 ^ v), upd wh v w, upd fs v s) := by
  unfold f_X2_tellLane
  have g6 : ∀ {α : Type} (x : Option α), gIn (nI v) 6 x = x := fun x => gI (by omega) (by decide)
  rw [(hbY (n := L) (by omega) hv).2.1, bd1_s, if10]
  simp only [g6]
  rw [shlN (by omega), nI_or, nI_clamp (by omega)]
theorem laneJ (hn : n ≤ 900) (hT : ∀ j, j < 900 → byt (T j)) {e : Nat} (he : e ≤ n) {sp so pl nu : Int32} {wo : Int64} (m : MT T n e sp so pl nu wo) {L B : Nat} (hL : 2 ≤ L) (hL6 : L ≤ 6) (hB : B < 2 ^ L) {wh fs rwh rst : Nat → Int32} (lr : LR wh fs rwh rst) (ff fa x y fl wr : Int32) :
    (∃ e2 x2 y2 sp2 so2 pl2 nu2 wo2 B2 wh2 fs2 rwh2 rst2, tkE T n e ≤ e2 ∧ e2 ≤ n ∧ B2 < 2 ^ L ∧ LR wh2 fs2 rwh2 rst2 ∧ MT T n e2 sp2 so2 pl2 nu2 wo2 ∧ f_X7_readLane T ff fa (nI n) x (nI (tkE T n e)) y (nI L) (nI B) wh fs = some (1, ff, fa, x2, nI e2, y2, nI B2, wh2, fs2) ∧ f_X13_readLane (nI n) sp so pl nu fl wr (nI B) wo T (nI L) (nI (popN B)) rwh rst = some (sp2, so2, pl2, nu2, fl, wr, nI B2, wo2, nI (popN B2), rwh2, rst2)) ∨
    (∃ k a u1 u2 u3 u4 u5 u6 v1 v2 v3 v4 v5 v6 v7 v8, 1 ≤ k ∧ k ≤ 6 ∧ f_X7_readLane T ff fa (nI n) x (nI (tkE T n e)) y (nI L) (nI B) wh fs = some (0, nI k, nI a, u1, u2, u3, u4, u5, u6) ∧ f_X13_readLane (nI n) sp so pl nu fl wr (nI B) wo T (nI L) (nI (popN B)) rwh rst = some (v1, 5, v2, v3, nI k, nI a, v4, v5, v6, v7, v8)) := by
  have hb := tkE_b (T := T) he
  have hb1 := tkE_b (T := T) hb.2.2
  have hb2 := tkE_b (T := T) hb1.2.2
  have h2L : 2 ^ L ≤ 64 := Nat.pow_le_pow_right (n := 2) (by decide) hL6
  have eL : nI L - 1 = nI (L - 1) := pk_sub (b := 1) (by omega)
  obtain ⟨sp1, so1, pl1, nu1, wo1, m1, el⟩ := lbG hn hT he m hL hL6 (show ¬ (0 : Int32) = 1 by decide) fl wr
  unfold f_X7_readLane f_X13_readLane f_X7_fail f_X7_readLane_B93
  rw [el, bd7_s, eL]
  rcases rdJ hn hT hb.2.2 m1 (lo := 0) (hi := L - 1) (by omega) (by omega) with ⟨v, hv0, hv, hc, hm⟩ | ⟨k, hk1, hk2, hc, hm⟩
  · have hc : f_X7_readWhole T ff fa (nI n) x (nI (tkE T n e)) y 0 (nI (L - 1)) = _ := hc ff fa x y
    have hm : f_X13_bounded so1 pl1 nu1 fl wr 0 (nI (L - 1)) = _ := hm fl wr
    obtain ⟨t1, -⟩ := tell0 (B := B) (v := v) (by omega) (by omega)
    rw [hc, bd6_s, hm, bd4_s, if_neg (nIm1 (show v < 2 ^ 31 by omega)), t1, bd1_s, if_neg m1.n5, bitM (by omega) (by omega), bd1_s]
    cases hbit : bit B v
    · rw [selF, selF, stepC hn hT hb1.2.2, bd3_s]
      obtain ⟨sp2, so2, pl2, nu2, wo2, eg, m2⟩ := goM hn hT hb1.2.2 so1 pl1 nu1 wo1 m1.n5
      obtain ⟨sp3, so3, pl3, nu3, wo3, eg3, m3⟩ := goM hn hT hb2.2.2 so2 pl2 nu2 wo2 m2.n5
      have hB2 : B ||| 2 ^ v < 2 ^ L := Nat.or_lt_two_pow hB (Nat.pow_lt_pow_right (by decide) (by omega))
      have hpop : popN (B ||| 2 ^ v) = popN B + 1 := popX B (by omega) v (by omega) hbit
      have g6 : ∀ {α : Type} (x : Option α), gIn (nI v) 6 x = x := fun x => gI (by omega) (by decide)
      unfold f_X7_whoIsTold f_X13_readLane_B45
      rw [m1.1, eg, bd5_s, twC hn hb1.2.2 (p := 9) (by decide), twM hn hT hb1.2.2 m2 (p := 9) (by decide) (by decide), bd1_s, bd1_s]
      cases twB T n (tkE T n (tkE T n e)) 9
      · rw [selF, selF, twC hn hb1.2.2 (p := 10) (by decide), twM hn hT hb1.2.2 m2 (p := 10) (by decide) (by decide), bd1_s, bd1_s]
        cases twB T n (tkE T n (tkE T n e)) 10
        · rw [selF, selF, twC hn hb1.2.2 (p := 11) (by decide), twM hn hT hb1.2.2 m2 (p := 11) (by decide) (by decide), bd1_s, bd1_s]
          cases twB T n (tkE T n (tkE T n e)) 11
          · rw [selF, selF, twC hn hb1.2.2 (p := 12) (by decide), twM hn hT hb1.2.2 m2 (p := 12) (by decide) (by decide), bd1_s, bd1_s]
            cases twB T n (tkE T n (tkE T n e)) 12
            · rw [selF, selF, bd1_s, if_pos rfl, bd3_s]
              unfold f_X13_readLane_B102
              rw [if_pos rfl, flN m2.n5, bd3_s, la113 _ _ _ _ _ _ _ _ _ _ _ (by decide) (by decide), m2.2.2.1]
              exact Or.inr ⟨1, tkS T n (tkE T n (tkE T n e)), _, _, _, _, _, _, _, _, _, _, _, _, _, _, by decide, by decide, rfl, rfl⟩
            · rw [selT, selT, bd1_s, if_neg (show ¬ (3 : Int32) = -1 by decide), if_neg (show ¬ (3 : Int32) = 2 by decide), if_pos (show (3 : Int32) = 3 from rfl)]
              unfold f_X13_readLane_B102 f_X13_readLane_B113 f_X13_readLane_B148
              rw [if_neg (show ¬ (3 : Int32) = -1 by decide), m2.1, eg3, bd5_s, if_neg (show ¬ (3 : Int32) = 2 by decide), if_pos (show (3 : Int32) = 3 from rfl)]
              rcases rwJ hn hT hb2.2.2 m3 (lo := 0) (hi := 30) (by omega) (by omega) with ⟨s, sp4, so4, pl4, nu4, wo4, hs0, hs, gc, m4, gm⟩ | ⟨k, hk1, hk2, gc, gm⟩
              · have gc : f_X7_readWhole T ff fa (nI n) (nI (tkS T n (tkE T n (tkE T n e)))) (nI (tkE T n (tkE T n (tkE T n e)))) (nI (tkK T n (tkE T n (tkE T n e)))) 0 30 = _ := gc ff fa _ _
                have gm : f_X13_readWhole (nI n) sp3 so3 pl3 nu3 fl wr wo3 T 0 30 = _ := gm fl wr
                rw [gc, bd6_s, gm, bd8_s, if_neg (nIm1 (show s < 2 ^ 31 by omega)), tellC hL6 (by omega), bd3_s, if_neg m4.n5]
                simp only [g6]
                rw [shlN (by omega), nI_or, nI_1, nI_clamp (by omega), ← hpop]
                exact Or.inl ⟨tkE T n (tkE T n (tkE T n (tkE T n e))), _, _, sp4, so4, pl4, nu4, wo4, B ||| 2 ^ v, _, _, _, _, by have := (tkE_b (T := T) hb2.2.2); omega, (tkE_b (T := T) hb2.2.2).2.2, hB2, lr.up v (w := 3) (s := s) (by decide) (by omega), m4, rfl, rfl⟩
              · have gc : f_X7_readWhole T ff fa (nI n) (nI (tkS T n (tkE T n (tkE T n e)))) (nI (tkE T n (tkE T n (tkE T n e)))) (nI (tkK T n (tkE T n (tkE T n e)))) 0 30 = _ := gc ff fa _ _
                have gm : f_X13_readWhole (nI n) sp3 so3 pl3 nu3 fl wr wo3 T 0 30 = _ := gm fl wr
                rw [gc, bd6_s, gm, bd8_s, if_pos rfl, if_pos rfl]
                exact Or.inr ⟨k, _, _, _, _, _, _, _, _, _, _, _, _, _, _, _, hk1, hk2, rfl, rfl⟩
          · rw [selT, selT, bd1_s, if_neg (show ¬ (2 : Int32) = -1 by decide), if_pos (show (2 : Int32) = 2 from rfl)]
            unfold f_X13_readLane_B102 f_X13_readLane_B113 f_X13_readLane_B148
            rw [if_neg (show ¬ (2 : Int32) = -1 by decide), m2.1, eg3, bd5_s, if_pos (show (2 : Int32) = 2 from rfl)]
            rcases rwJ hn hT hb2.2.2 m3 (lo := 0) (hi := 60) (by omega) (by omega) with ⟨s, sp4, so4, pl4, nu4, wo4, hs0, hs, gc, m4, gm⟩ | ⟨k, hk1, hk2, gc, gm⟩
            · have gc : f_X7_readWhole T ff fa (nI n) (nI (tkS T n (tkE T n (tkE T n e)))) (nI (tkE T n (tkE T n (tkE T n e)))) (nI (tkK T n (tkE T n (tkE T n e)))) 0 60 = _ := gc ff fa _ _
              have gm : f_X13_readWhole (nI n) sp3 so3 pl3 nu3 fl wr wo3 T 0 60 = _ := gm fl wr
              rw [gc, bd6_s, gm, bd8_s, if_neg (nIm1 (show s < 2 ^ 31 by omega)), tellC hL6 (by omega), bd3_s, if_neg m4.n5]
              simp only [g6]
              rw [shlN (by omega), nI_or, nI_1, nI_clamp (by omega), ← hpop]
              exact Or.inl ⟨tkE T n (tkE T n (tkE T n (tkE T n e))), _, _, sp4, so4, pl4, nu4, wo4, B ||| 2 ^ v, _, _, _, _, by have := (tkE_b (T := T) hb2.2.2); omega, (tkE_b (T := T) hb2.2.2).2.2, hB2, lr.up v (w := 2) (s := s) (by decide) (by omega), m4, rfl, rfl⟩
            · have gc : f_X7_readWhole T ff fa (nI n) (nI (tkS T n (tkE T n (tkE T n e)))) (nI (tkE T n (tkE T n (tkE T n e)))) (nI (tkK T n (tkE T n (tkE T n e)))) 0 60 = _ := gc ff fa _ _
              have gm : f_X13_readWhole (nI n) sp3 so3 pl3 nu3 fl wr wo3 T 0 60 = _ := gm fl wr
              rw [gc, bd6_s, gm, bd8_s, if_pos rfl, if_pos rfl]
              exact Or.inr ⟨k, _, _, _, _, _, _, _, _, _, _, _, _, _, _, _, hk1, hk2, rfl, rfl⟩
        · rw [selT, selT, bd1_s, if_neg (show ¬ (1 : Int32) = -1 by decide), if_neg (show ¬ (1 : Int32) = 2 by decide), if_neg (show ¬ (1 : Int32) = 3 by decide)]
          unfold f_X13_readLane_B102 f_X13_readLane_B113 f_X13_readLane_B148
          rw [if_neg (show ¬ (1 : Int32) = -1 by decide), m2.1, eg3, bd5_s, if_neg (show ¬ (1 : Int32) = 2 by decide), if_neg (show ¬ (1 : Int32) = 3 by decide), if_neg (show ¬ (0 : Int32) = -1 by decide), tellC hL6 (by omega), bd3_s, if_neg m3.n5]
          simp only [g6]
          rw [shlN (by omega), nI_or, nI_1, nI_clamp (by omega), ← hpop]
          exact Or.inl ⟨tkE T n (tkE T n (tkE T n e)), _, _, sp3, so3, pl3, nu3, wo3, B ||| 2 ^ v, _, _, _, _, by omega, hb2.2.2, hB2, lr.up v (w := 1) (s := 0) (by decide) (by omega), m3, rfl, rfl⟩
      · rw [selT, selT, bd1_s, if_neg (show ¬ (0 : Int32) = -1 by decide), if_neg (show ¬ (0 : Int32) = 2 by decide), if_neg (show ¬ (0 : Int32) = 3 by decide)]
        unfold f_X13_readLane_B102 f_X13_readLane_B113 f_X13_readLane_B148
        rw [if_neg (show ¬ (0 : Int32) = -1 by decide), m2.1, eg3, bd5_s, if_neg (show ¬ (0 : Int32) = 2 by decide), if_neg (show ¬ (0 : Int32) = 3 by decide), tellC hL6 (by omega), bd3_s, if_neg m3.n5]
        simp only [g6]
        rw [shlN (by omega), nI_or, nI_1, nI_clamp (by omega), ← hpop]
        exact Or.inl ⟨tkE T n (tkE T n (tkE T n e)), _, _, sp3, so3, pl3, nu3, wo3, B ||| 2 ^ v, _, _, _, _, by omega, hb2.2.2, hB2, lr.up v (w := 0) (s := 0) (by decide) (by omega), m3, rfl, rfl⟩
    · rw [selT, selT, bd3_s, flN m1.n5, bd3_s, la45, m1.2.2.1]
      exact Or.inr ⟨3, tkS T n (tkE T n e), _, _, _, _, _, _, _, _, _, _, _, _, _, _, by decide, by decide, rfl, rfl⟩
  · have hc : f_X7_readWhole T ff fa (nI n) x (nI (tkE T n e)) y 0 (nI (L - 1)) = _ := hc ff fa x y
    have hm : f_X13_bounded so1 pl1 nu1 fl wr 0 (nI (L - 1)) = _ := hm fl wr
    rw [hc, bd6_s, hm, bd4_s, if_pos rfl, if_pos rfl, la45]
    exact Or.inr ⟨k, _, _, _, _, _, _, _, _, _, _, _, _, _, _, _, hk1, hk2, rfl, rfl⟩
/-! beasts -/
theorem be84 (sz L : Int32) (x1 : Int64) (x3 sp pl nu fl wr : Int32) (wo : Int64) (rb rN : Int32) (k1 k2 k3 k4 : Nat → Int32) (nm : Nat → Int64) (rso rno : Nat → Int32) : f_X13_readBeast_B84 sz T L x1 x3 sp 5 pl nu fl wr wo rb rN k1 k2 k3 k4 nm rso rno = some (sp, 5, pl, nu, fl, wr, wo, rb, rN, k1, k2, k3, k4, nm, rso, rno) := by
  unfold f_X13_readBeast_B84
  rw [go5, bd5_s, rpt5, bd8_s, rpt5, bd8_s, rpt5, bd8_s, if_pos rfl]
theorem be73 (sz L : Int32) (x1 : Int64) (x3 sp pl nu fl wr : Int32) (wo : Int64) (rb rN : Int32) (k1 k2 k3 k4 : Nat → Int32) (nm : Nat → Int64) (rso rno : Nat → Int32) : f_X13_readBeast_B73 sz T L x1 x3 sp 5 pl nu fl wr wo rb rN k1 k2 k3 k4 nm rso rno = some (sp, 5, pl, nu, fl, wr, wo, rb, rN, k1, k2, k3, k4, nm, rso, rno) := by
  unfold f_X13_readBeast_B73
  rw [fl5, bd3_s, be84, ite_self]
theorem addC {b : Nat} (hb : b < 5) (k1 k2 k3 k4 : Nat → Int32) (a1 a2 a3 a4 : Int32) : f_X2_addBeast (nI b) k1 k2 k3 k4 a1 a2 a3 a4 = some (nI (b + 1), upd k1 b a1, upd k2 b a2, upd k3 b a3, upd k4 b a4) := by
  unfold f_X2_addBeast
  have g5 : ∀ {α : Type} (x : Option α), gIn (nI b) 5 x = x := fun x => gI hb (by decide)
  simp only [g5]
  rw [if_neg (show ¬ (5 : Int32) ≤ nI b from nI_ge (b := 5) hb (by decide)), nI_1, nI_clamp (by omega)]
theorem namesM {N : Nat} (hN : N < 11) (nm : Nat → Int64) (rso rno : Nat → Int32) (w : Int64) (t x : Int32) : f_X13_names (nI N) nm rso rno w t x = some (nI (N + 1), vp_updL nm N w, upd rso N t, upd rno N x) := by
  unfold f_X13_names
  have g11 : ∀ {α : Type} (x : Option α), gIn (nI N) 11 x = x := fun x => gI hN (by decide)
  simp only [g11]
  rw [nI_1, nI_clamp (by omega)]
/-- behind the kind: place, mood, price -/
theorem beK (hn : n ≤ 900) (hT : ∀ j, j < 900 → byt (T j)) {e : Nat} (he : e ≤ n) {sp so pl nu : Int32} {wo : Int64} (m : MT T n e sp so pl nu wo) {L b N : Nat} (hL : 2 ≤ L) (hL6 : L ≤ 6) (hb : b < 5) (hN : N < 11) (kd fla md pr rkd rln rmd rpr : Nat → Int32) (w : Int64) (k : Nat) (nm : Nat → Int64) (rso rno : Nat → Int32) (N2 : Int32) (ns ne nn nb : Nat → Int32) (ff fa x y fl wr : Int32) :
    (∃ e2 x2 y2 sp2 so2 pl2 nu2 wo2 l mo q, e ≤ e2 ∧ e2 ≤ n ∧ l < L ∧ mo ≤ 100 ∧ 1 ≤ q ∧ q ≤ 99 ∧ MT T n e2 sp2 so2 pl2 nu2 wo2 ∧
      (bd6 (f_X7_readWord T ff fa (nI n) x (nI e) y 17) fun r_20 rd_faultFound_21 rd_faultAt_22 tk_start_23 tk_end_24 tk_sort_25 => (if r_20 = 0 then f_X7_readBeast_B67 T (nI n) (nI L) (nI k) (-1) N2 rd_faultFound_21 rd_faultAt_22 ns ne nn nb tk_start_23 tk_end_24 tk_sort_25 (nI b) kd fla md pr else bd6 (f_X7_readWhole T rd_faultFound_21 rd_faultAt_22 (nI n) tk_start_23 tk_end_24 tk_sort_25 (0 : Int32) (nI L - 1)) fun r_64 rd_faultFound_65 rd_faultAt_66 tk_start_67 tk_end_68 tk_sort_69 => f_X7_readBeast_B67 T (nI n) (nI L) (nI k) r_64 N2 rd_faultFound_65 rd_faultAt_66 ns ne nn nb tk_start_67 tk_end_68 tk_sort_69 (nI b) kd fla md pr)) = some (1, N2, ff, fa, ns, ne, nn, nb, x2, nI e2, y2, nI (b + 1), upd kd b (nI k), upd fla b (nI l), upd md b (nI mo), upd pr b (nI q)) ∧
      (bd8 (f_X13_readPart (nI n) sp so pl nu fl wr wo T 17 (0 : Int32) (nI L - 1)) fun r_36 mo_spot_37 mo_sort_38 mo_place_39 mo_number_40 mo_fault_41 mo_wrongAt_42 mo_word_43 => bd8 (f_X13_readPart (nI n) mo_spot_37 mo_sort_38 mo_place_39 mo_number_40 mo_fault_41 mo_wrongAt_42 mo_word_43 T 18 (0 : Int32) (100 : Int32)) fun r_45 mo_spot_46 mo_sort_47 mo_place_48 mo_number_49 mo_fault_50 mo_wrongAt_51 mo_word_52 => bd8 (f_X13_readPart (nI n) mo_spot_46 mo_sort_47 mo_place_48 mo_number_49 mo_fault_50 mo_wrongAt_51 mo_word_52 T 19 (1 : Int32) (99 : Int32)) fun r_54 mo_spot_55 mo_sort_56 mo_place_57 mo_number_58 mo_fault_59 mo_wrongAt_60 mo_word_61 => (if mo_sort_56 = 5 then some (mo_spot_55, mo_sort_56, mo_place_57, mo_number_58, mo_fault_59, mo_wrongAt_60, mo_word_61, nI b, nI N, rkd, rln, rmd, rpr, nm, rso, rno) else bd4 (f_X13_names (nI N) nm rso rno w (0 : Int32) (nI b)) fun re_names_63 re_name_64 re_nameSort_65 re_numberOf_66 => gIn (nI b) 5 <| gIn (nI b) 5 <| gIn (nI b) 5 <| gIn (nI b) 5 <| some (mo_spot_55, mo_sort_56, mo_place_57, mo_number_58, mo_fault_59, mo_wrongAt_60, mo_word_61, nI b + 1, re_names_63, upd rkd (nI b).toNatClampNeg (nI k), upd rln (nI b).toNatClampNeg r_36, upd rmd (nI b).toNatClampNeg r_45, upd rpr (nI b).toNatClampNeg r_54, re_name_64, re_nameSort_65, re_numberOf_66))) = some (sp2, so2, pl2, nu2, fl, wr, wo2, nI (b + 1), nI (N + 1), upd rkd b (nI k), upd rln b (nI l), upd rmd b (nI mo), upd rpr b (nI q), vp_updL nm N w, upd rso N 0, upd rno N (nI b))) ∨
    (∃ kk a u1 u2 u3 u4 u5 u6 u7 u8 u9 u10 u11 u12 u13 v1 v2 v3 v4 v5 v6 v7 v8 v9 v10 v11 v12 v13, 1 ≤ kk ∧ kk ≤ 6 ∧
      (bd6 (f_X7_readWord T ff fa (nI n) x (nI e) y 17) fun r_20 rd_faultFound_21 rd_faultAt_22 tk_start_23 tk_end_24 tk_sort_25 => (if r_20 = 0 then f_X7_readBeast_B67 T (nI n) (nI L) (nI k) (-1) N2 rd_faultFound_21 rd_faultAt_22 ns ne nn nb tk_start_23 tk_end_24 tk_sort_25 (nI b) kd fla md pr else bd6 (f_X7_readWhole T rd_faultFound_21 rd_faultAt_22 (nI n) tk_start_23 tk_end_24 tk_sort_25 (0 : Int32) (nI L - 1)) fun r_64 rd_faultFound_65 rd_faultAt_66 tk_start_67 tk_end_68 tk_sort_69 => f_X7_readBeast_B67 T (nI n) (nI L) (nI k) r_64 N2 rd_faultFound_65 rd_faultAt_66 ns ne nn nb tk_start_67 tk_end_68 tk_sort_69 (nI b) kd fla md pr)) = some (0, u1, nI kk, nI a, u2, u3, u4, u5, u6, u7, u8, u9, u10, u11, u12, u13) ∧
      (bd8 (f_X13_readPart (nI n) sp so pl nu fl wr wo T 17 (0 : Int32) (nI L - 1)) fun r_36 mo_spot_37 mo_sort_38 mo_place_39 mo_number_40 mo_fault_41 mo_wrongAt_42 mo_word_43 => bd8 (f_X13_readPart (nI n) mo_spot_37 mo_sort_38 mo_place_39 mo_number_40 mo_fault_41 mo_wrongAt_42 mo_word_43 T 18 (0 : Int32) (100 : Int32)) fun r_45 mo_spot_46 mo_sort_47 mo_place_48 mo_number_49 mo_fault_50 mo_wrongAt_51 mo_word_52 => bd8 (f_X13_readPart (nI n) mo_spot_46 mo_sort_47 mo_place_48 mo_number_49 mo_fault_50 mo_wrongAt_51 mo_word_52 T 19 (1 : Int32) (99 : Int32)) fun r_54 mo_spot_55 mo_sort_56 mo_place_57 mo_number_58 mo_fault_59 mo_wrongAt_60 mo_word_61 => (if mo_sort_56 = 5 then some (mo_spot_55, mo_sort_56, mo_place_57, mo_number_58, mo_fault_59, mo_wrongAt_60, mo_word_61, nI b, nI N, rkd, rln, rmd, rpr, nm, rso, rno) else bd4 (f_X13_names (nI N) nm rso rno w (0 : Int32) (nI b)) fun re_names_63 re_name_64 re_nameSort_65 re_numberOf_66 => gIn (nI b) 5 <| gIn (nI b) 5 <| gIn (nI b) 5 <| gIn (nI b) 5 <| some (mo_spot_55, mo_sort_56, mo_place_57, mo_number_58, mo_fault_59, mo_wrongAt_60, mo_word_61, nI b + 1, re_names_63, upd rkd (nI b).toNatClampNeg (nI k), upd rln (nI b).toNatClampNeg r_36, upd rmd (nI b).toNatClampNeg r_45, upd rpr (nI b).toNatClampNeg r_54, re_name_64, re_nameSort_65, re_numberOf_66))) = some (v1, 5, v2, v3, nI kk, nI a, v4, v5, v6, v7, v8, v9, v10, v11, v12, v13)) := by
  have eL : nI L - 1 = nI (L - 1) := pk_sub (b := 1) (by omega)
  have g5 : ∀ {α : Type} (x : Option α), gIn (nI b) 5 x = x := fun x => gI hb (by decide)
  rw [eL]
  rcases rpJ hn hT he m (p := 17) (by decide) (by decide) (lo := 0) (hi := L - 1) (by omega) (by omega) with ⟨l, e1, x1, y1, x1', y1', sp1, so1, pl1, nu1, wo1, hl0, hl, he1, he1n, hw1, hr1, m1, hp1⟩ | ⟨kk, a, x1, y1, z1, r, sp1, pl1, nu1, wo1, hk1, hk2, hw1, hp1⟩ | ⟨kk, a, x1, y1, x2, y2, z2, r, sp1, pl1, nu1, wo1, hk1, hk2, hw1, hr1, hp1⟩
  · have hr1 : f_X7_readWhole T ff fa (nI n) x1 (nI (tkE T n e)) y1 0 (nI (L - 1)) = _ := hr1 ff fa
    have hp1 : f_X13_readPart (nI n) sp so pl nu fl wr wo T 17 0 (nI (L - 1)) = _ := hp1 fl wr
    rw [hw1, bd6_s, if10, hr1, bd6_s, hp1, bd8_s]
    unfold f_X7_readBeast_B67
    rw [if_neg (nIm1 (show l < 2 ^ 31 by omega))]
    rcases rpJ hn hT he1n m1 (p := 18) (by decide) (by decide) (lo := 0) (hi := 100) (by omega) (by omega) with ⟨mo, e2, x2, y2, x2', y2', sp2, so2, pl2, nu2, wo2, hm0, hm, he2, he2n, hw2, hr2, m2, hp2⟩ | ⟨kk, a, x2, y2, z2, r, sp2, pl2, nu2, wo2, hk1, hk2, hw2, hp2⟩ | ⟨kk, a, x2, y2, x3, y3, z3, r, sp2, pl2, nu2, wo2, hk1, hk2, hw2, hr2, hp2⟩
    · have hr2 : f_X7_readWhole T ff fa (nI n) x2 (nI (tkE T n e1)) y2 0 100 = _ := hr2 ff fa
      have hp2 : f_X13_readPart (nI n) sp1 so1 pl1 nu1 fl wr wo1 T 18 0 100 = _ := hp2 fl wr
      rw [hw2, bd6_s, if10, hr2, bd6_s, hp2, bd8_s]
      unfold f_X7_readBeast_B95
      rw [if_neg (nIm1 (show mo < 2 ^ 31 by omega))]
      rcases rpJ hn hT he2n m2 (p := 19) (by decide) (by decide) (lo := 1) (hi := 99) (by omega) (by omega) with ⟨q, e3, x3, y3, x3', y3', sp3, so3, pl3, nu3, wo3, hq0, hq, he3, he3n, hw3, hr3, m3, hp3⟩ | ⟨kk, a, x3, y3, z3, r, sp3, pl3, nu3, wo3, hk1, hk2, hw3, hp3⟩ | ⟨kk, a, x3, y3, x4, y4, z4, r, sp3, pl3, nu3, wo3, hk1, hk2, hw3, hr3, hp3⟩
      · have hr3 : f_X7_readWhole T ff fa (nI n) x3 (nI (tkE T n e2)) y3 1 99 = _ := hr3 ff fa
        have hp3 : f_X13_readPart (nI n) sp2 so2 pl2 nu2 fl wr wo2 T 19 1 99 = _ := hp3 fl wr
        rw [hw3, bd6_s, if10, hr3, bd6_s, hp3, bd8_s]
        unfold f_X7_readBeast_B123
        rw [if_neg (nIm1 (show q < 2 ^ 31 by omega)), addC hb, bd5_s, if_neg m3.n5, namesM hN, bd4_s]
        simp only [g5]
        rw [nI_1, nI_clamp (by omega)]
        exact Or.inl ⟨e3, _, _, sp3, so3, pl3, nu3, wo3, l, mo, q, by omega, he3n, by omega, hm, hq0, hq, m3, rfl, rfl⟩
      · have hp3 : f_X13_readPart (nI n) sp2 so2 pl2 nu2 fl wr wo2 T 19 1 99 = _ := hp3 fl wr
        rw [hw3, bd6_s, if00, hp3, bd8_s]
        unfold f_X7_readBeast_B123
        rw [if_pos rfl, if_pos rfl]
        exact Or.inr ⟨kk, a, _, _, _, _, _, _, _, _, _, _, _, _, _, _, _, _, _, _, _, _, _, _, _, _, _, _, hk1, hk2, rfl, rfl⟩
      · have hr3 : f_X7_readWhole T ff fa (nI n) x3 (nI (tkE T n e2)) y3 1 99 = _ := hr3 ff fa
        have hp3 : f_X13_readPart (nI n) sp2 so2 pl2 nu2 fl wr wo2 T 19 1 99 = _ := hp3 fl wr
        rw [hw3, bd6_s, if10, hr3, bd6_s, hp3, bd8_s]
        unfold f_X7_readBeast_B123
        rw [if_pos rfl, if_pos rfl]
        exact Or.inr ⟨kk, a, _, _, _, _, _, _, _, _, _, _, _, _, _, _, _, _, _, _, _, _, _, _, _, _, _, _, hk1, hk2, rfl, rfl⟩
    · have hp2 : f_X13_readPart (nI n) sp1 so1 pl1 nu1 fl wr wo1 T 18 0 100 = _ := hp2 fl wr
      rw [hw2, bd6_s, if00, hp2, bd8_s, rpt5, bd8_s]
      unfold f_X7_readBeast_B95
      rw [if_pos rfl, if_pos rfl]
      exact Or.inr ⟨kk, a, _, _, _, _, _, _, _, _, _, _, _, _, _, _, _, _, _, _, _, _, _, _, _, _, _, _, hk1, hk2, rfl, rfl⟩
    · have hr2 : f_X7_readWhole T ff fa (nI n) x2 (nI (tkE T n e1)) y2 0 100 = _ := hr2 ff fa
      have hp2 : f_X13_readPart (nI n) sp1 so1 pl1 nu1 fl wr wo1 T 18 0 100 = _ := hp2 fl wr
      rw [hw2, bd6_s, if10, hr2, bd6_s, hp2, bd8_s, rpt5, bd8_s]
      unfold f_X7_readBeast_B95
      rw [if_pos rfl, if_pos rfl]
      exact Or.inr ⟨kk, a, _, _, _, _, _, _, _, _, _, _, _, _, _, _, _, _, _, _, _, _, _, _, _, _, _, _, hk1, hk2, rfl, rfl⟩
  · have hp1 : f_X13_readPart (nI n) sp so pl nu fl wr wo T 17 0 (nI (L - 1)) = _ := hp1 fl wr
    rw [hw1, bd6_s, if00, hp1, bd8_s, rpt5, bd8_s, rpt5, bd8_s]
    unfold f_X7_readBeast_B67
    rw [if_pos rfl, if_pos rfl]
    exact Or.inr ⟨kk, a, _, _, _, _, _, _, _, _, _, _, _, _, _, _, _, _, _, _, _, _, _, _, _, _, _, _, hk1, hk2, rfl, rfl⟩
  · have hr1 : f_X7_readWhole T ff fa (nI n) x1 (nI (tkE T n e)) y1 0 (nI (L - 1)) = _ := hr1 ff fa
    have hp1 : f_X13_readPart (nI n) sp so pl nu fl wr wo T 17 0 (nI (L - 1)) = _ := hp1 fl wr
    rw [hw1, bd6_s, if10, hr1, bd6_s, hp1, bd8_s, rpt5, bd8_s, rpt5, bd8_s]
    unfold f_X7_readBeast_B67
    rw [if_pos rfl, if_pos rfl]
    exact Or.inr ⟨kk, a, _, _, _, _, _, _, _, _, _, _, _, _, _, _, _, _, _, _, _, _, _, _, _, _, _, _, hk1, hk2, rfl, rfl⟩
end BO
