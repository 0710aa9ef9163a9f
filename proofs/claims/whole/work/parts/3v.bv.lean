/-! BV: the class and the reference side by side -/
def JC (rf ft fp tr wr fl : Int32) : Prop := tr = rf ∧ fl = ft ∧ wr = (if rf = 4 then fp else -1)
theorem JC.t {rf ft fp tr wr fl t : Int32} (h : JC rf ft fp tr wr fl) (ht : ¬ t = 4) : JC t ft fp t (-1) fl := ⟨rfl, h.2.1, (if_neg ht).symm⟩
def JE (a : AS) (n L m C B U : Nat) (ps ll ld lo lb lc lp lu la ac mk mac mmk wl wd wt wb wc wp wu : Int32) : Prop := (ll = nI (a 0 0) ∧ ld = nI (a 0 1) ∧ lo = nI B ∧ lb = nI (a 0 2) ∧ lc = nI C ∧ lp = ps ∧ lu = nI U) ∧ (la = nI L ∧ ac = nI n ∧ mk = nI m ∧ mac = nI n ∧ mmk = nI m) ∧ (wl = nI (a 0 0) ∧ wd = nI (a 0 1) ∧ wt = nI (popN B) ∧ wb = nI (a 0 2) ∧ wc = nI C ∧ wp = ps ∧ wu = nI U)
def JI (a : AS) (C : Nat) (q : Nat → Nat) (B U : Nat) (wh kd md pr pb rwh rkd rmd rpr rlo : Nat → Int32) : Prop := (rI (a 0 0) wh (a 4) ∧ rI (a 0 2) kd (a 1) ∧ rI (a 0 2) md (a 2) ∧ rI (a 0 2) pr (a 3)) ∧ (rI (a 0 0) rwh (a 4) ∧ rI (a 0 2) rkd (a 1) ∧ rI (a 0 2) rmd (a 2) ∧ rI (a 0 2) rpr (a 3)) ∧ rCi C q pb rlo ∧ B < 64 ∧ U < 64
def JW (c : Nat) (ll ld lo lb lc lp lu : Int32) (wh kd md pr pb : Nat → Int32) (no : ST) (la ac mk : Int32) (K M : Nat → ST) (mac mmk : Int32) (v past kept : Nat → Int32) (wl wd wt wb wc wp wu : Int32) (rwh rkd rmd rpr rlo : Nat → Int32) : Prop := ∃ (a : AS) (n L m C : Nat) (q : Nat → Nat) (B U : Nat) (ps : Int32), JE a n L m C B U ps ll ld lo lb lc lp lu la ac mk mac mmk wl wd wt wb wc wp wu ∧ JI a C q B U wh kd md pr pb rwh rkd rmd rpr rlo ∧ rNow a c n L m no K M v past kept
def JZ (ll ld lo lb lc lp lu : Int32) (no : ST) (la ac mk : Int32) : Prop := (ll = 0 ∧ ld = 0 ∧ lo = 0 ∧ lb = 0 ∧ lc = 0 ∧ lp = 0 ∧ lu = 0) ∧ (no.2.1 = 0 ∧ no.2.2.1 = 0) ∧ (ac = 0 ∧ mk = 0) ∧ ∃ L, L < 16 ∧ la = nI L
/-- the kept weather -/
def JK (K M : Nat → ST) : Prop := (∀ i, nbv (K i).2.1) ∧ ∀ i, nbv (M i).2.1
theorem nI_nbv {x : Nat} (h : x < 2) : nbv (nI x) := by
  rcases (show x = 0 ∨ x = 1 by omega) with rfl | rfl
  · exact Or.inl rfl
  · exact Or.inr rfl
theorem JK.k {K M : Nat → ST} (h : JK K M) {i : Nat} {S : ST} (hS : nbv S.2.1) : JK (updK K i S) M := by
  refine ⟨fun j => ?_, h.2⟩
  by_cases q : j = i
  · subst q; rw [updK_s]; exact hS
  · rw [updK_n K S q]; exact h.1 j
theorem JK.m {K M : Nat → ST} (h : JK K M) {i : Nat} {S : ST} (hS : nbv S.2.1) : JK K (updK M i S) := by
  refine ⟨h.1, fun j => ?_⟩
  by_cases q : j = i
  · subst q; rw [updK_s]; exact hS
  · rw [updK_n M S q]; exact h.2 j
theorem rI.sw {n n2 : Nat} {f : Nat → Int32} {g g2 : Nat → Nat} (h : rI n f g) (e : n2 = n) (w : ∀ j, g2 j = g j) : rI n2 f g2 := by
  intro j hj
  rw [w j]
  exact h j (by omega)
theorem JI.sw {a a2 : AS} {C : Nat} {q : Nat → Nat} {B U : Nat} {wh kd md pr pb rwh rkd rmd rpr rlo : Nat → Int32} (h : JI a C q B U wh kd md pr pb rwh rkd rmd rpr rlo) (w : sW a a2) : JI a2 C q B U wh kd md pr pb rwh rkd rmd rpr rlo := by
  obtain ⟨⟨h1, h2, h3, h4⟩, ⟨g1, g2, g3, g4⟩, hc⟩ := h
  obtain ⟨w0, w1, w2, w3, w4, w5, w6⟩ := w
  exact ⟨⟨h1.sw w0 w6, h2.sw w2 w3, h3.sw w2 w4, h4.sw w2 w5⟩, ⟨g1.sw w0 w6, g2.sw w2 w3, g3.sw w2 w4, g4.sw w2 w5⟩, hc⟩
theorem JE.sw {a a2 : AS} {n L m C B U n2 L2 m2 : Nat} {ps ll ld lo lb lc lp lu la ac mk mac mmk wl wd wt wb wc wp wu : Int32} (h : JE a n L m C B U ps ll ld lo lb lc lp lu la ac mk mac mmk wl wd wt wb wc wp wu) (w : sW a a2) : JE a2 n2 L2 m2 C B U ps ll ld lo lb lc lp lu (nI L2) (nI n2) (nI m2) (nI n2) (nI m2) wl wd wt wb wc wp wu := by
  obtain ⟨h1, -, h3⟩ := h
  obtain ⟨w0, w1, w2, -⟩ := w
  refine ⟨?_, ⟨rfl, rfl, rfl, rfl, rfl⟩, ?_⟩
  · rw [w0, w1, w2]; exact h1
  · rw [w0, w1, w2]; exact h3
theorem JW.mono {c : Nat} {ll ld lo lb lc lp lu : Int32} {wh kd md pr pb : Nat → Int32} {no : ST} {la ac mk : Int32} {K M : Nat → ST} {mac mmk : Int32} {v past kept : Nat → Int32} {wl wd wt wb wc wp wu : Int32} {rwh rkd rmd rpr rlo : Nat → Int32} {d : Nat} (h : JW c ll ld lo lb lc lp lu wh kd md pr pb no la ac mk K M mac mmk v past kept wl wd wt wb wc wp wu rwh rkd rmd rpr rlo) (q : c ≤ d) : JW d ll ld lo lb lc lp lu wh kd md pr pb no la ac mk K M mac mmk v past kept wl wd wt wb wc wp wu rwh rkd rmd rpr rlo := by
  obtain ⟨a, n, L, m, C, qq, B, U, ps, e, i, r⟩ := h
  exact ⟨a, n, L, m, C, qq, B, U, ps, e, i, r.mono q⟩
theorem JW.wet {c : Nat} {ll ld lo lb lc lp lu : Int32} {wh kd md pr pb : Nat → Int32} {no : ST} {la ac mk : Int32} {K M : Nat → ST} {mac mmk : Int32} {v past kept : Nat → Int32} {wl wd wt wb wc wp wu : Int32} {rwh rkd rmd rpr rlo : Nat → Int32} (h : JW c ll ld lo lb lc lp lu wh kd md pr pb no la ac mk K M mac mmk v past kept wl wd wt wb wc wp wu rwh rkd rmd rpr rlo) : nbv no.2.1 := by
  obtain ⟨a, n, L, m, C, qq, B, U, ps, e, i, r⟩ := h
  rw [r.2.2.1.2.1]
  exact nI_nbv r.1.1.2.2.2.2.2.2.2.1

theorem jW_across {c : Nat} {ll ld lo lb lc lp lu : Int32} {wh kd md pr pb : Nat → Int32} {no : ST} {la ac mk : Int32} {K M : Nat → ST} {mac mmk : Int32} {v past kept : Nat → Int32} {wl wd wt wb wc wp wu : Int32} {rwh rkd rmd rpr rlo : Nat → Int32} (h : JW c ll ld lo lb lc lp lu wh kd md pr pb no la ac mk K M mac mmk v past kept wl wd wt wb wc wp wu rwh rkd rmd rpr rlo) (p1 : Int32) (lo0 : Bool) (rf th tr wr : Int32) : ∃ r t, f_X11_across rf ld lb kd md no.1 no.2.1 p1 (if lo0 then 1 else 0) = some (r, t) ∧ f_X13_across th tr wr v wd wb rkd rmd p1 (if lo0 then 1 else 0) = some (r, 0, t, -1) ∧ ¬ t = 4 := by
  obtain ⟨a, n, L, m, C, qq, B, U, ps, ⟨⟨rfl, rfl, rfl, rfl, rfl, rfl, rfl⟩, ⟨rfl, rfl, rfl, rfl, rfl⟩, rfl, rfl, rfl, rfl, rfl, rfl, rfl⟩, ⟨⟨i1, i2, i3, i4⟩, ⟨j1, j2, j3, j4⟩, ci, hB, hU⟩, r⟩ := h
  obtain ⟨ok, kw, ⟨s1, s2, s3, s4, s5, s6⟩, rv, rp, rk⟩ := id r
  rw [s1]
  rw [s2]
  exact q_across ok ⟨i1, i2, i3, s4, s6⟩ ⟨j1, j2, j3, rv⟩ _ _ _ _ _ _
theorem jW_meets {c : Nat} {ll ld lo lb lc lp lu : Int32} {wh kd md pr pb : Nat → Int32} {no : ST} {la ac mk : Int32} {K M : Nat → ST} {mac mmk : Int32} {v past kept : Nat → Int32} {wl wd wt wb wc wp wu : Int32} {rwh rkd rmd rpr rlo : Nat → Int32} (h : JW c ll ld lo lb lc lp lu wh kd md pr pb no la ac mk K M mac mmk v past kept wl wd wt wb wc wp wu rwh rkd rmd rpr rlo) (p1 p2 : Int32) (own : Bool) (rf th tr wr : Int32) : ∃ r t, f_X11_meets rf ll lb wh kd no.1 no.2.2.2.1 no.2.2.2.2.2 p1 p2 (if own then 1 else 0) = some (r, t) ∧ f_X13_meets th tr wr v wl wb rwh rkd p1 p2 (if own then 1 else 0) = some (r, 0, t, -1) ∧ ¬ t = 4 := by
  obtain ⟨a, n, L, m, C, qq, B, U, ps, ⟨⟨rfl, rfl, rfl, rfl, rfl, rfl, rfl⟩, ⟨rfl, rfl, rfl, rfl, rfl⟩, rfl, rfl, rfl, rfl, rfl, rfl, rfl⟩, ⟨⟨i1, i2, i3, i4⟩, ⟨j1, j2, j3, j4⟩, ci, hB, hU⟩, r⟩ := h
  obtain ⟨ok, kw, ⟨s1, s2, s3, s4, s5, s6⟩, rv, rp, rk⟩ := id r
  rw [s1]
  exact q_meets ok ⟨i1, i2, i3, s4, s6⟩ ⟨j1, j2, j3, rv⟩ _ _ _ _ _ _ _
theorem jW_mean {c : Nat} {ll ld lo lb lc lp lu : Int32} {wh kd md pr pb : Nat → Int32} {no : ST} {la ac mk : Int32} {K M : Nat → ST} {mac mmk : Int32} {v past kept : Nat → Int32} {wl wd wt wb wc wp wu : Int32} {rwh rkd rmd rpr rlo : Nat → Int32} (h : JW c ll ld lo lb lc lp lu wh kd md pr pb no la ac mk K M mac mmk v past kept wl wd wt wb wc wp wu rwh rkd rmd rpr rlo) (p1 p2 : Int32) (own lo0 : Bool) (rf th tr wr : Int32) : ∃ r t, f_X11_mean rf ll ld lb wh kd md no.1 no.2.1 no.2.2.2.1 no.2.2.2.2.2 p1 p2 (if own then 1 else 0) (if lo0 then 1 else 0) = some (r, t) ∧ f_X13_mean th tr wr v wl wd wb rwh rkd rmd p1 p2 (if own then 1 else 0) (if lo0 then 1 else 0) = some (r, 0, t, -1) ∧ ¬ t = 4 := by
  obtain ⟨a, n, L, m, C, qq, B, U, ps, ⟨⟨rfl, rfl, rfl, rfl, rfl, rfl, rfl⟩, ⟨rfl, rfl, rfl, rfl, rfl⟩, rfl, rfl, rfl, rfl, rfl, rfl, rfl⟩, ⟨⟨i1, i2, i3, i4⟩, ⟨j1, j2, j3, j4⟩, ci, hB, hU⟩, r⟩ := h
  obtain ⟨ok, kw, ⟨s1, s2, s3, s4, s5, s6⟩, rv, rp, rk⟩ := id r
  rw [s1]
  rw [s2]
  exact q_mean ok ⟨i1, i2, i3, s4, s6⟩ ⟨j1, j2, j3, rv⟩ _ _ _ _ _ _ _ _
theorem jW_worth {c : Nat} {ll ld lo lb lc lp lu : Int32} {wh kd md pr pb : Nat → Int32} {no : ST} {la ac mk : Int32} {K M : Nat → ST} {mac mmk : Int32} {v past kept : Nat → Int32} {wl wd wt wb wc wp wu : Int32} {rwh rkd rmd rpr rlo : Nat → Int32} (h : JW c ll ld lo lb lc lp lu wh kd md pr pb no la ac mk K M mac mmk v past kept wl wd wt wb wc wp wu rwh rkd rmd rpr rlo) (p1 p2 : Int32) (lo0 : Bool) (rf th tr wr : Int32) : ∃ r t, f_X11_worth rf ll ld lb wh kd md no.1 no.2.1 no.2.2.2.1 no.2.2.2.2.2 p1 p2 (if lo0 then 1 else 0) = some (r, t) ∧ f_X13_worth th tr wr v wl wd wb rwh rkd rmd p1 p2 (if lo0 then 1 else 0) = some (r, 0, t, -1) ∧ ¬ t = 4 := by
  obtain ⟨a, n, L, m, C, qq, B, U, ps, ⟨⟨rfl, rfl, rfl, rfl, rfl, rfl, rfl⟩, ⟨rfl, rfl, rfl, rfl, rfl⟩, rfl, rfl, rfl, rfl, rfl, rfl, rfl⟩, ⟨⟨i1, i2, i3, i4⟩, ⟨j1, j2, j3, j4⟩, ci, hB, hU⟩, r⟩ := h
  obtain ⟨ok, kw, ⟨s1, s2, s3, s4, s5, s6⟩, rv, rp, rk⟩ := id r
  rw [s1]
  rw [s2]
  exact q_worth ok ⟨i1, i2, i3, s4, s6⟩ ⟨j1, j2, j3, rv⟩ _ _ _ _ _ _ _
theorem jW_worthIf {c : Nat} {ll ld lo lb lc lp lu : Int32} {wh kd md pr pb : Nat → Int32} {no : ST} {la ac mk : Int32} {K M : Nat → ST} {mac mmk : Int32} {v past kept : Nat → Int32} {wl wd wt wb wc wp wu : Int32} {rwh rkd rmd rpr rlo : Nat → Int32} (h : JW c ll ld lo lb lc lp lu wh kd md pr pb no la ac mk K M mac mmk v past kept wl wd wt wb wc wp wu rwh rkd rmd rpr rlo) (p1 p2 : Int32) (ra lo0 : Bool) (rf th tr wr : Int32) : ∃ r t, f_X11_worthIf rf ll ld lb wh kd md no.1 no.2.2.2.1 no.2.2.2.2.2 p1 p2 (if ra then 1 else 0) (if lo0 then 1 else 0) = some (r, t) ∧ f_X13_worthIf th tr wr v wl wd wb rwh rkd rmd p1 p2 (if ra then 1 else 0) (if lo0 then 1 else 0) = some (r, 0, t, -1) ∧ ¬ t = 4 := by
  obtain ⟨a, n, L, m, C, qq, B, U, ps, ⟨⟨rfl, rfl, rfl, rfl, rfl, rfl, rfl⟩, ⟨rfl, rfl, rfl, rfl, rfl⟩, rfl, rfl, rfl, rfl, rfl, rfl, rfl⟩, ⟨⟨i1, i2, i3, i4⟩, ⟨j1, j2, j3, j4⟩, ci, hB, hU⟩, r⟩ := h
  obtain ⟨ok, kw, ⟨s1, s2, s3, s4, s5, s6⟩, rv, rp, rk⟩ := id r
  rw [s1]
  exact q_worthIf ok ⟨i1, i2, i3, s4, s6⟩ ⟨j1, j2, j3, rv⟩ _ _ _ _ _ _ _ _
theorem jW_bestLane {c : Nat} {ll ld lo lb lc lp lu : Int32} {wh kd md pr pb : Nat → Int32} {no : ST} {la ac mk : Int32} {K M : Nat → ST} {mac mmk : Int32} {v past kept : Nat → Int32} {wl wd wt wb wc wp wu : Int32} {rwh rkd rmd rpr rlo : Nat → Int32} (h : JW c ll ld lo lb lc lp lu wh kd md pr pb no la ac mk K M mac mmk v past kept wl wd wt wb wc wp wu rwh rkd rmd rpr rlo) (p1 rf th tr wr : Int32) : ∃ r t, f_X11_bestLane rf ll ld lb wh kd md no.1 no.2.1 no.2.2.2.1 no.2.2.2.2.2 p1 = some (r, t) ∧ f_X13_bestLane th tr wr v wl wd wb rwh rkd rmd p1 = some (r, 0, t, -1) ∧ ¬ t = 4 := by
  obtain ⟨a, n, L, m, C, qq, B, U, ps, ⟨⟨rfl, rfl, rfl, rfl, rfl, rfl, rfl⟩, ⟨rfl, rfl, rfl, rfl, rfl⟩, rfl, rfl, rfl, rfl, rfl, rfl, rfl⟩, ⟨⟨i1, i2, i3, i4⟩, ⟨j1, j2, j3, j4⟩, ci, hB, hU⟩, r⟩ := h
  obtain ⟨ok, kw, ⟨s1, s2, s3, s4, s5, s6⟩, rv, rp, rk⟩ := id r
  rw [s1]
  rw [s2]
  exact q_bestLane ok ⟨i1, i2, i3, s4, s6⟩ ⟨j1, j2, j3, rv⟩ _ _ _ _ _
theorem jW_all {c : Nat} {ll ld lo lb lc lp lu : Int32} {wh kd md pr pb : Nat → Int32} {no : ST} {la ac mk : Int32} {K M : Nat → ST} {mac mmk : Int32} {v past kept : Nat → Int32} {wl wd wt wb wc wp wu : Int32} {rwh rkd rmd rpr rlo : Nat → Int32} (h : JW c ll ld lo lb lc lp lu wh kd md pr pb no la ac mk K M mac mmk v past kept wl wd wt wb wc wp wu rwh rkd rmd rpr rlo) (own lo0 : Bool) (rf th tr wr : Int32) : ∃ r t, f_X11_all rf ll ld lb wh kd md no.1 no.2.1 no.2.2.2.1 no.2.2.2.2.1 no.2.2.2.2.2 (if own then 1 else 0) (if lo0 then 1 else 0) = some (r, t) ∧ f_X13_all th tr wr v wd wb rwh rkd rmd (if own then 1 else 0) (if lo0 then 1 else 0) = some (r, 0, t, -1) ∧ ¬ t = 4 := by
  obtain ⟨a, n, L, m, C, qq, B, U, ps, ⟨⟨rfl, rfl, rfl, rfl, rfl, rfl, rfl⟩, ⟨rfl, rfl, rfl, rfl, rfl⟩, rfl, rfl, rfl, rfl, rfl, rfl, rfl⟩, ⟨⟨i1, i2, i3, i4⟩, ⟨j1, j2, j3, j4⟩, ci, hB, hU⟩, r⟩ := h
  obtain ⟨ok, kw, ⟨s1, s2, s3, s4, s5, s6⟩, rv, rp, rk⟩ := id r
  rw [s1]
  rw [s2]
  exact q_all ok ⟨i1, i2, i3, s4, s6⟩ s5 ⟨j1, j2, j3, rv⟩ _ _ _ _ _ _
theorem jW_worst {c : Nat} {ll ld lo lb lc lp lu : Int32} {wh kd md pr pb : Nat → Int32} {no : ST} {la ac mk : Int32} {K M : Nat → ST} {mac mmk : Int32} {v past kept : Nat → Int32} {wl wd wt wb wc wp wu : Int32} {rwh rkd rmd rpr rlo : Nat → Int32} (h : JW c ll ld lo lb lc lp lu wh kd md pr pb no la ac mk K M mac mmk v past kept wl wd wt wb wc wp wu rwh rkd rmd rpr rlo) (rf th tr wr : Int32) : ∃ r t, f_X11_worst rf ll ld lb wh kd md no.1 no.2.1 no.2.2.2.1 no.2.2.2.2.1 no.2.2.2.2.2 = some (r, t) ∧ f_X13_worst th tr wr v wd wb rwh rkd rmd = some (r, 0, t, -1) ∧ ¬ t = 4 := by
  obtain ⟨a, n, L, m, C, qq, B, U, ps, ⟨⟨rfl, rfl, rfl, rfl, rfl, rfl, rfl⟩, ⟨rfl, rfl, rfl, rfl, rfl⟩, rfl, rfl, rfl, rfl, rfl, rfl, rfl⟩, ⟨⟨i1, i2, i3, i4⟩, ⟨j1, j2, j3, j4⟩, ci, hB, hU⟩, r⟩ := h
  obtain ⟨ok, kw, ⟨s1, s2, s3, s4, s5, s6⟩, rv, rp, rk⟩ := id r
  rw [s1]
  rw [s2]
  exact q_worst ok ⟨i1, i2, i3, s4, s6⟩ s5 ⟨j1, j2, j3, rv⟩ _ _ _ _
theorem jW_toHammer {c : Nat} {ll ld lo lb lc lp lu : Int32} {wh kd md pr pb : Nat → Int32} {no : ST} {la ac mk : Int32} {K M : Nat → ST} {mac mmk : Int32} {v past kept : Nat → Int32} {wl wd wt wb wc wp wu : Int32} {rwh rkd rmd rpr rlo : Nat → Int32} (h : JW c ll ld lo lb lc lp lu wh kd md pr pb no la ac mk K M mac mmk v past kept wl wd wt wb wc wp wu rwh rkd rmd rpr rlo) (rf th tr wr : Int32) : ∃ r t, f_X11_toHammer rf ll ld lb wh kd md no.1 no.2.1 no.2.2.2.1 no.2.2.2.2.1 no.2.2.2.2.2 = some (r, t) ∧ f_X13_toHammer th tr wr v wd wb rwh rkd rmd = some (r, 0, t, -1) ∧ ¬ t = 4 := by
  obtain ⟨a, n, L, m, C, qq, B, U, ps, ⟨⟨rfl, rfl, rfl, rfl, rfl, rfl, rfl⟩, ⟨rfl, rfl, rfl, rfl, rfl⟩, rfl, rfl, rfl, rfl, rfl, rfl, rfl⟩, ⟨⟨i1, i2, i3, i4⟩, ⟨j1, j2, j3, j4⟩, ci, hB, hU⟩, r⟩ := h
  obtain ⟨ok, kw, ⟨s1, s2, s3, s4, s5, s6⟩, rv, rp, rk⟩ := id r
  rw [s1]
  rw [s2]
  exact q_toHammer ok ⟨i1, i2, i3, s4, s6⟩ s5 ⟨j1, j2, j3, rv⟩ _ _ _ _
theorem jW_moodFor {c : Nat} {ll ld lo lb lc lp lu : Int32} {wh kd md pr pb : Nat → Int32} {no : ST} {la ac mk : Int32} {K M : Nat → ST} {mac mmk : Int32} {v past kept : Nat → Int32} {wl wd wt wb wc wp wu : Int32} {rwh rkd rmd rpr rlo : Nat → Int32} (h : JW c ll ld lo lb lc lp lu wh kd md pr pb no la ac mk K M mac mmk v past kept wl wd wt wb wc wp wu rwh rkd rmd rpr rlo) (p1 p2 rf th tr wr : Int32) : ∃ r t, f_X11_moodFor rf ll ld lb wh kd no.1 no.2.1 no.2.2.2.1 no.2.2.2.2.2 p1 p2 = some (r, t) ∧ f_X13_moodFor th tr wr v wl wd wb rwh rkd p1 p2 = some (r, 0, t, -1) ∧ ¬ t = 4 := by
  obtain ⟨a, n, L, m, C, qq, B, U, ps, ⟨⟨rfl, rfl, rfl, rfl, rfl, rfl, rfl⟩, ⟨rfl, rfl, rfl, rfl, rfl⟩, rfl, rfl, rfl, rfl, rfl, rfl, rfl⟩, ⟨⟨i1, i2, i3, i4⟩, ⟨j1, j2, j3, j4⟩, ci, hB, hU⟩, r⟩ := h
  obtain ⟨ok, kw, ⟨s1, s2, s3, s4, s5, s6⟩, rv, rp, rk⟩ := id r
  rw [s1]
  rw [s2]
  exact q_moodFor ok ⟨i1, i2, i3, s4, s6⟩ ⟨j1, j2, j3, rv⟩ _ _ _ _ _ _
theorem jW_toOpen {c : Nat} {ll ld lo lb lc lp lu : Int32} {wh kd md pr pb : Nat → Int32} {no : ST} {la ac mk : Int32} {K M : Nat → ST} {mac mmk : Int32} {v past kept : Nat → Int32} {wl wd wt wb wc wp wu : Int32} {rwh rkd rmd rpr rlo : Nat → Int32} (h : JW c ll ld lo lb lc lp lu wh kd md pr pb no la ac mk K M mac mmk v past kept wl wd wt wb wc wp wu rwh rkd rmd rpr rlo) (rf th tr wr : Int32) : ∃ r t, f_X11_toOpen rf ll ld lb wh kd md no.1 no.2.1 no.2.2.2.1 no.2.2.2.2.1 no.2.2.2.2.2 = some (r, t) ∧ f_X13_toOpen th tr wr v wl wd wb rwh rkd rmd = some (r, 0, t, -1) ∧ ¬ t = 4 := by
  obtain ⟨a, n, L, m, C, qq, B, U, ps, ⟨⟨rfl, rfl, rfl, rfl, rfl, rfl, rfl⟩, ⟨rfl, rfl, rfl, rfl, rfl⟩, rfl, rfl, rfl, rfl, rfl, rfl, rfl⟩, ⟨⟨i1, i2, i3, i4⟩, ⟨j1, j2, j3, j4⟩, ci, hB, hU⟩, r⟩ := h
  obtain ⟨ok, kw, ⟨s1, s2, s3, s4, s5, s6⟩, rv, rp, rk⟩ := id r
  rw [s1]
  rw [s2]
  exact q_toOpen ok ⟨i1, i2, i3, s4, s6⟩ s5 ⟨j1, j2, j3, rv⟩ _ _ _ _
theorem jW_rests {c : Nat} {ll ld lo lb lc lp lu : Int32} {wh kd md pr pb : Nat → Int32} {no : ST} {la ac mk : Int32} {K M : Nat → ST} {mac mmk : Int32} {v past kept : Nat → Int32} {wl wd wt wb wc wp wu : Int32} {rwh rkd rmd rpr rlo : Nat → Int32} (h : JW c ll ld lo lb lc lp lu wh kd md pr pb no la ac mk K M mac mmk v past kept wl wd wt wb wc wp wu rwh rkd rmd rpr rlo) (p1 rf th tr wr : Int32) (wo : Int64) (ws : Nat → Int64) : ∃ r t wo' ws', f_X11_rests rf ll ld lb wh kd md no.1 no.2.1 no.2.2.2.1 no.2.2.2.2.2 wo ws p1 = some (r, t, wo', ws') ∧ f_X13_rests th tr wr v wl wd wb rwh rkd rmd p1 = some (r, 0, t, -1) ∧ ¬ t = 4 := by
  obtain ⟨a, n, L, m, C, qq, B, U, ps, ⟨⟨rfl, rfl, rfl, rfl, rfl, rfl, rfl⟩, ⟨rfl, rfl, rfl, rfl, rfl⟩, rfl, rfl, rfl, rfl, rfl, rfl, rfl⟩, ⟨⟨i1, i2, i3, i4⟩, ⟨j1, j2, j3, j4⟩, ci, hB, hU⟩, r⟩ := h
  obtain ⟨ok, kw, ⟨s1, s2, s3, s4, s5, s6⟩, rv, rp, rk⟩ := id r
  rw [s1]
  rw [s2]
  exact q_rests ok ⟨i1, i2, i3, s4, s6⟩ ⟨j1, j2, j3, rv⟩ _ _ _ _ _ _ _
theorem jW_rest {c : Nat} {ll ld lo lb lc lp lu : Int32} {wh kd md pr pb : Nat → Int32} {no : ST} {la ac mk : Int32} {K M : Nat → ST} {mac mmk : Int32} {v past kept : Nat → Int32} {wl wd wt wb wc wp wu : Int32} {rwh rkd rmd rpr rlo : Nat → Int32} (h : JW c ll ld lo lb lc lp lu wh kd md pr pb no la ac mk K M mac mmk v past kept wl wd wt wb wc wp wu rwh rkd rmd rpr rlo) (p1 rf th tr wr : Int32) (wo : Int64) (ws : Nat → Int64) : ∃ r t wo' ws', f_X11_rest rf ll ld lb wh kd md no.1 no.2.1 no.2.2.2.1 no.2.2.2.2.2 wo ws p1 = some (r, t, wo', ws') ∧ f_X13_rest th tr wr v wl wd wb rwh rkd rmd p1 = some (r, 0, t, -1) ∧ ¬ t = 4 := by
  obtain ⟨a, n, L, m, C, qq, B, U, ps, ⟨⟨rfl, rfl, rfl, rfl, rfl, rfl, rfl⟩, ⟨rfl, rfl, rfl, rfl, rfl⟩, rfl, rfl, rfl, rfl, rfl, rfl, rfl⟩, ⟨⟨i1, i2, i3, i4⟩, ⟨j1, j2, j3, j4⟩, ci, hB, hU⟩, r⟩ := h
  obtain ⟨ok, kw, ⟨s1, s2, s3, s4, s5, s6⟩, rv, rp, rk⟩ := id r
  rw [s1]
  rw [s2]
  exact q_rest ok ⟨i1, i2, i3, s4, s6⟩ ⟨j1, j2, j3, rv⟩ _ _ _ _ _ _ _
theorem jW_weeks {c : Nat} {ll ld lo lb lc lp lu : Int32} {wh kd md pr pb : Nat → Int32} {no : ST} {la ac mk : Int32} {K M : Nat → ST} {mac mmk : Int32} {v past kept : Nat → Int32} {wl wd wt wb wc wp wu : Int32} {rwh rkd rmd rpr rlo : Nat → Int32} (h : JW c ll ld lo lb lc lp lu wh kd md pr pb no la ac mk K M mac mmk v past kept wl wd wt wb wc wp wu rwh rkd rmd rpr rlo) (p1 rf th tr wr : Int32) : ∃ r t, f_X11_weeks rf ll ld lb wh kd md no.1 no.2.1 no.2.2.2.2.2 p1 = some (r, t) ∧ f_X13_weeks th tr wr v wl wd wb rwh rkd rmd p1 = some (r, 0, t, -1) ∧ ¬ t = 4 := by
  obtain ⟨a, n, L, m, C, qq, B, U, ps, ⟨⟨rfl, rfl, rfl, rfl, rfl, rfl, rfl⟩, ⟨rfl, rfl, rfl, rfl, rfl⟩, rfl, rfl, rfl, rfl, rfl, rfl, rfl⟩, ⟨⟨i1, i2, i3, i4⟩, ⟨j1, j2, j3, j4⟩, ci, hB, hU⟩, r⟩ := h
  obtain ⟨ok, kw, ⟨s1, s2, s3, s4, s5, s6⟩, rv, rp, rk⟩ := id r
  rw [s1]
  rw [s2]
  exact q_weeks ok ⟨i1, i2, i3, s4, s6⟩ ⟨j1, j2, j3, rv⟩ _ _ _ _ _
theorem jW_sale {c : Nat} {ll ld lo lb lc lp lu : Int32} {wh kd md pr pb : Nat → Int32} {no : ST} {la ac mk : Int32} {K M : Nat → ST} {mac mmk : Int32} {v past kept : Nat → Int32} {wl wd wt wb wc wp wu : Int32} {rwh rkd rmd rpr rlo : Nat → Int32} (h : JW c ll ld lo lb lc lp lu wh kd md pr pb no la ac mk K M mac mmk v past kept wl wd wt wb wc wp wu rwh rkd rmd rpr rlo) (p1 rf th tr wr : Int32) : ∃ r t, f_X11_sale rf ll lb pr no.1 p1 = some (r, t) ∧ f_X13_sale th tr wr v wb rpr p1 = some (r, 0, t, -1) ∧ ¬ t = 4 := by
  obtain ⟨a, n, L, m, C, qq, B, U, ps, ⟨⟨rfl, rfl, rfl, rfl, rfl, rfl, rfl⟩, ⟨rfl, rfl, rfl, rfl, rfl⟩, rfl, rfl, rfl, rfl, rfl, rfl, rfl⟩, ⟨⟨i1, i2, i3, i4⟩, ⟨j1, j2, j3, j4⟩, ci, hB, hU⟩, r⟩ := h
  obtain ⟨ok, kw, ⟨s1, s2, s3, s4, s5, s6⟩, rv, rp, rk⟩ := id r
  rw [s1]
  exact q_sale ok i4 j4 rv.1 _ _ _ _ _
theorem jW_saleOver {c : Nat} {ll ld lo lb lc lp lu : Int32} {wh kd md pr pb : Nat → Int32} {no : ST} {la ac mk : Int32} {K M : Nat → ST} {mac mmk : Int32} {v past kept : Nat → Int32} {wl wd wt wb wc wp wu : Int32} {rwh rkd rmd rpr rlo : Nat → Int32} (h : JW c ll ld lo lb lc lp lu wh kd md pr pb no la ac mk K M mac mmk v past kept wl wd wt wb wc wp wu rwh rkd rmd rpr rlo) (p1 rf th tr wr : Int32) : ∃ r t, f_X11_saleOver rf ll lb pr no.1 p1 = some (r, t) ∧ f_X13_saleOver th tr wr v wb rpr p1 = some (r, 0, t, -1) ∧ ¬ t = 4 := by
  obtain ⟨a, n, L, m, C, qq, B, U, ps, ⟨⟨rfl, rfl, rfl, rfl, rfl, rfl, rfl⟩, ⟨rfl, rfl, rfl, rfl, rfl⟩, rfl, rfl, rfl, rfl, rfl, rfl, rfl⟩, ⟨⟨i1, i2, i3, i4⟩, ⟨j1, j2, j3, j4⟩, ci, hB, hU⟩, r⟩ := h
  obtain ⟨ok, kw, ⟨s1, s2, s3, s4, s5, s6⟩, rv, rp, rk⟩ := id r
  rw [s1]
  exact q_saleOver ok i4 j4 rv.1 _ _ _ _ _
theorem jW_lane {c : Nat} {ll ld lo lb lc lp lu : Int32} {wh kd md pr pb : Nat → Int32} {no : ST} {la ac mk : Int32} {K M : Nat → ST} {mac mmk : Int32} {v past kept : Nat → Int32} {wl wd wt wb wc wp wu : Int32} {rwh rkd rmd rpr rlo : Nat → Int32} (h : JW c ll ld lo lb lc lp lu wh kd md pr pb no la ac mk K M mac mmk v past kept wl wd wt wb wc wp wu rwh rkd rmd rpr rlo) (p1 p2 rf th tr wr : Int32) : ∃ r t, f_X11_lane rf ll lb wh no.1 no.2.2.2.1 no.2.2.2.2.1 p1 p2 = some (r, t) ∧ f_X13_lane th tr wr v wl wb rwh p1 p2 = some (r, 0, t, -1) ∧ ¬ t = 4 := by
  obtain ⟨a, n, L, m, C, qq, B, U, ps, ⟨⟨rfl, rfl, rfl, rfl, rfl, rfl, rfl⟩, ⟨rfl, rfl, rfl, rfl, rfl⟩, rfl, rfl, rfl, rfl, rfl, rfl, rfl⟩, ⟨⟨i1, i2, i3, i4⟩, ⟨j1, j2, j3, j4⟩, ci, hB, hU⟩, r⟩ := h
  obtain ⟨ok, kw, ⟨s1, s2, s3, s4, s5, s6⟩, rv, rp, rk⟩ := id r
  rw [s1]
  exact q_lane ok i1 s4 s5 j1 rv _ _ _ _ _ _
theorem jW_beast {c : Nat} {ll ld lo lb lc lp lu : Int32} {wh kd md pr pb : Nat → Int32} {no : ST} {la ac mk : Int32} {K M : Nat → ST} {mac mmk : Int32} {v past kept : Nat → Int32} {wl wd wt wb wc wp wu : Int32} {rwh rkd rmd rpr rlo : Nat → Int32} (h : JW c ll ld lo lb lc lp lu wh kd md pr pb no la ac mk K M mac mmk v past kept wl wd wt wb wc wp wu rwh rkd rmd rpr rlo) (p1 p2 rf th tr wr : Int32) : ∃ r t, f_X11_beast rf lb kd md pr no.1 no.2.1 no.2.2.2.2.1 no.2.2.2.2.2 p1 p2 = some (r, t) ∧ f_X13_beast th tr wr v wb rkd rmd rpr p1 p2 = some (r, 0, t, -1) ∧ ¬ t = 4 := by
  obtain ⟨a, n, L, m, C, qq, B, U, ps, ⟨⟨rfl, rfl, rfl, rfl, rfl, rfl, rfl⟩, ⟨rfl, rfl, rfl, rfl, rfl⟩, rfl, rfl, rfl, rfl, rfl, rfl, rfl⟩, ⟨⟨i1, i2, i3, i4⟩, ⟨j1, j2, j3, j4⟩, ci, hB, hU⟩, r⟩ := h
  obtain ⟨ok, kw, ⟨s1, s2, s3, s4, s5, s6⟩, rv, rp, rk⟩ := id r
  rw [s1]
  rw [s2]
  exact q_beast ok ⟨i1, i2, i3, s4, s6⟩ i4 s5 ⟨j1, j2, j3, rv⟩ j4 _ _ _ _ _ _
theorem jW_turnedBy {c : Nat} {ll ld lo lb lc lp lu : Int32} {wh kd md pr pb : Nat → Int32} {no : ST} {la ac mk : Int32} {K M : Nat → ST} {mac mmk : Int32} {v past kept : Nat → Int32} {wl wd wt wb wc wp wu : Int32} {rwh rkd rmd rpr rlo : Nat → Int32} (h : JW c ll ld lo lb lc lp lu wh kd md pr pb no la ac mk K M mac mmk v past kept wl wd wt wb wc wp wu rwh rkd rmd rpr rlo) (p1 rf th tr wr : Int32) : ∃ r t, f_X11_turnedBy rf lb kd md no.1 no.2.1 no.2.2.2.2.1 p1 = some (r, t) ∧ f_X13_turnedBy th tr wr v wb rkd rmd p1 = some (r, 0, t, -1) ∧ ¬ t = 4 := by
  obtain ⟨a, n, L, m, C, qq, B, U, ps, ⟨⟨rfl, rfl, rfl, rfl, rfl, rfl, rfl⟩, ⟨rfl, rfl, rfl, rfl, rfl⟩, rfl, rfl, rfl, rfl, rfl, rfl, rfl⟩, ⟨⟨i1, i2, i3, i4⟩, ⟨j1, j2, j3, j4⟩, ci, hB, hU⟩, r⟩ := h
  obtain ⟨ok, kw, ⟨s1, s2, s3, s4, s5, s6⟩, rv, rp, rk⟩ := id r
  rw [s1]
  rw [s2]
  exact q_turnedBy ok ⟨i1, i2, i3, s4, s6⟩ s5 ⟨j1, j2, j3, rv⟩ _ _ _ _ _
theorem jW_fits {c : Nat} {ll ld lo lb lc lp lu : Int32} {wh kd md pr pb : Nat → Int32} {no : ST} {la ac mk : Int32} {K M : Nat → ST} {mac mmk : Int32} {v past kept : Nat → Int32} {wl wd wt wb wc wp wu : Int32} {rwh rkd rmd rpr rlo : Nat → Int32} (h : JW c ll ld lo lb lc lp lu wh kd md pr pb no la ac mk K M mac mmk v past kept wl wd wt wb wc wp wu rwh rkd rmd rpr rlo) (tu rf th tr wr s1 s2 s3 n0 : Int32) (t0 w0 g0 : Nat → Int32) : ∃ r t x1 x2 x3 x4 x5 y1 y2, f_X11_fits rf ll lb lu kd md no.1 no.2.1 no.2.2.2.2.1 s1 s2 s3 t0 w0 = some (r, t, x1, x2, x3, x4, x5) ∧ f_X13_fits th tr wr n0 v g0 wb wu rkd rmd = some (r, 0, t, -1, y1, y2) ∧ ¬ t = 4 := by
  obtain ⟨a, n, L, m, C, qq, B, U, ps, ⟨⟨rfl, rfl, rfl, rfl, rfl, rfl, rfl⟩, ⟨rfl, rfl, rfl, rfl, rfl⟩, rfl, rfl, rfl, rfl, rfl, rfl, rfl⟩, ⟨⟨i1, i2, i3, i4⟩, ⟨j1, j2, j3, j4⟩, ci, hB, hU⟩, r⟩ := h
  obtain ⟨ok, kw, ⟨s1, s2, s3, s4, s5, s6⟩, rv, rp, rk⟩ := id r
  rw [s1]
  rw [s2]
  exact q_fits ok ⟨i1, i2, i3, s4, s6⟩ s5 ⟨j1, j2, j3, rv⟩ _ _ _ _ _ _ _ _ _ _ _ _
theorem jW_could {c : Nat} {ll ld lo lb lc lp lu : Int32} {wh kd md pr pb : Nat → Int32} {no : ST} {la ac mk : Int32} {K M : Nat → ST} {mac mmk : Int32} {v past kept : Nat → Int32} {wl wd wt wb wc wp wu : Int32} {rwh rkd rmd rpr rlo : Nat → Int32} (h : JW c ll ld lo lb lc lp lu wh kd md pr pb no la ac mk K M mac mmk v past kept wl wd wt wb wc wp wu rwh rkd rmd rpr rlo) (tu rf th tr wr s1 s2 s3 n0 : Int32) (t0 w0 g0 : Nat → Int32) : ∃ r t x1 x2 x3 x4 x5 y1 y2, f_X11_could rf ll lb lu kd md no.1 no.2.1 no.2.2.2.2.1 s1 s2 s3 t0 w0 = some (r, t, x1, x2, x3, x4, x5) ∧ f_X13_could th tr wr n0 v g0 wb wu rkd rmd = some (r, 0, t, -1, y1, y2) ∧ ¬ t = 4 := by
  obtain ⟨a, n, L, m, C, qq, B, U, ps, ⟨⟨rfl, rfl, rfl, rfl, rfl, rfl, rfl⟩, ⟨rfl, rfl, rfl, rfl, rfl⟩, rfl, rfl, rfl, rfl, rfl, rfl, rfl⟩, ⟨⟨i1, i2, i3, i4⟩, ⟨j1, j2, j3, j4⟩, ci, hB, hU⟩, r⟩ := h
  obtain ⟨ok, kw, ⟨s1, s2, s3, s4, s5, s6⟩, rv, rp, rk⟩ := id r
  rw [s1]
  rw [s2]
  exact q_could ok ⟨i1, i2, i3, s4, s6⟩ s5 ⟨j1, j2, j3, rv⟩ _ _ _ _ _ _ _ _ _ _ _ _
theorem jW_surely {c : Nat} {ll ld lo lb lc lp lu : Int32} {wh kd md pr pb : Nat → Int32} {no : ST} {la ac mk : Int32} {K M : Nat → ST} {mac mmk : Int32} {v past kept : Nat → Int32} {wl wd wt wb wc wp wu : Int32} {rwh rkd rmd rpr rlo : Nat → Int32} (h : JW c ll ld lo lb lc lp lu wh kd md pr pb no la ac mk K M mac mmk v past kept wl wd wt wb wc wp wu rwh rkd rmd rpr rlo) (tu rf th tr wr s1 s2 s3 n0 : Int32) (t0 w0 g0 : Nat → Int32) : ∃ r t x1 x2 x3 x4 x5 y1 y2, f_X11_surely rf ll lb lu kd md no.1 no.2.1 no.2.2.2.2.1 s1 s2 s3 t0 w0 = some (r, t, x1, x2, x3, x4, x5) ∧ f_X13_surely th tr wr n0 v g0 wb wu rkd rmd = some (r, 0, t, -1, y1, y2) ∧ ¬ t = 4 := by
  obtain ⟨a, n, L, m, C, qq, B, U, ps, ⟨⟨rfl, rfl, rfl, rfl, rfl, rfl, rfl⟩, ⟨rfl, rfl, rfl, rfl, rfl⟩, rfl, rfl, rfl, rfl, rfl, rfl, rfl⟩, ⟨⟨i1, i2, i3, i4⟩, ⟨j1, j2, j3, j4⟩, ci, hB, hU⟩, r⟩ := h
  obtain ⟨ok, kw, ⟨s1, s2, s3, s4, s5, s6⟩, rv, rp, rk⟩ := id r
  rw [s1]
  rw [s2]
  exact q_surely ok ⟨i1, i2, i3, s4, s6⟩ s5 ⟨j1, j2, j3, rv⟩ _ _ _ _ _ _ _ _ _ _ _ _
theorem jW_ask {c : Nat} {ll ld lo lb lc lp lu : Int32} {wh kd md pr pb : Nat → Int32} {no : ST} {la ac mk : Int32} {K M : Nat → ST} {mac mmk : Int32} {v past kept : Nat → Int32} {wl wd wt wb wc wp wu : Int32} {rwh rkd rmd rpr rlo : Nat → Int32} (h : JW c ll ld lo lb lc lp lu wh kd md pr pb no la ac mk K M mac mmk v past kept wl wd wt wb wc wp wu rwh rkd rmd rpr rlo) (tu rf th tr wr s1 s2 s3 n0 : Int32) (t0 w0 g0 : Nat → Int32) : ∃ r t x1 x2 x3 x4 x5 y1 y2, f_X11_ask rf ll lb lu kd md no.1 no.2.1 no.2.2.2.2.1 s1 s2 s3 t0 w0 = some (r, t, x1, x2, x3, x4, x5) ∧ f_X13_ask th tr wr n0 v g0 wb wu rkd rmd = some (r, 0, t, -1, y1, y2) ∧ ¬ t = 4 := by
  obtain ⟨a, n, L, m, C, qq, B, U, ps, ⟨⟨rfl, rfl, rfl, rfl, rfl, rfl, rfl⟩, ⟨rfl, rfl, rfl, rfl, rfl⟩, rfl, rfl, rfl, rfl, rfl, rfl, rfl⟩, ⟨⟨i1, i2, i3, i4⟩, ⟨j1, j2, j3, j4⟩, ci, hB, hU⟩, r⟩ := h
  obtain ⟨ok, kw, ⟨s1, s2, s3, s4, s5, s6⟩, rv, rp, rk⟩ := id r
  rw [s1]
  rw [s2]
  exact q_ask ok ⟨i1, i2, i3, s4, s6⟩ s5 ⟨j1, j2, j3, rv⟩ _ _ _ _ _ _ _ _ _ _ _ _
theorem jW_battles {c : Nat} {ll ld lo lb lc lp lu : Int32} {wh kd md pr pb : Nat → Int32} {no : ST} {la ac mk : Int32} {K M : Nat → ST} {mac mmk : Int32} {v past kept : Nat → Int32} {wl wd wt wb wc wp wu : Int32} {rwh rkd rmd rpr rlo : Nat → Int32} (h : JW c ll ld lo lb lc lp lu wh kd md pr pb no la ac mk K M mac mmk v past kept wl wd wt wb wc wp wu rwh rkd rmd rpr rlo) (p1 p2 : Int32) (own : Bool) (rf x1 x2 x3 x4 x5 x6 x7 : Int32) (fl cr : Nat → Int32) (th tr wr w1 w2 w3 w4 w5 w6 w7 : Int32) (xx : Nat → Int32) : ∃ r t y1 y2 y3 y4 y5 y6 y7 y8 y9 z1 z2 z3 z4 z5 z6 z7 z8, f_X11_battles rf ll ld lb wh kd md no.1 no.2.1 no.2.2.2.1 no.2.2.2.2.1 no.2.2.2.2.2 x1 x2 x3 x4 x5 x6 x7 fl cr p1 p2 (if own then 1 else 0) = some (r, t, y1, y2, y3, y4, y5, y6, y7, y8, y9) ∧ f_X13_battles th tr wr w1 w2 w3 w4 w5 w6 w7 v xx wd wb rwh rkd rmd p1 p2 (if own then 1 else 0) = some (r, 0, t, -1, z1, z2, z3, z4, z5, z6, z7, z8) ∧ ¬ t = 4 := by
  obtain ⟨a, n, L, m, C, qq, B, U, ps, ⟨⟨rfl, rfl, rfl, rfl, rfl, rfl, rfl⟩, ⟨rfl, rfl, rfl, rfl, rfl⟩, rfl, rfl, rfl, rfl, rfl, rfl, rfl⟩, ⟨⟨i1, i2, i3, i4⟩, ⟨j1, j2, j3, j4⟩, ci, hB, hU⟩, r⟩ := h
  obtain ⟨ok, kw, ⟨s1, s2, s3, s4, s5, s6⟩, rv, rp, rk⟩ := id r
  rw [s1]
  rw [s2]
  exact q_battles ok ⟨i1, i2, i3, s4, s6⟩ s5 ⟨j1, j2, j3, rv⟩ _ _ _ _ _ _ _ _ _ _ _ _ _ _ _ _ _ _ _ _ _ _ _ _
theorem jW_won {c : Nat} {ll ld lo lb lc lp lu : Int32} {wh kd md pr pb : Nat → Int32} {no : ST} {la ac mk : Int32} {K M : Nat → ST} {mac mmk : Int32} {v past kept : Nat → Int32} {wl wd wt wb wc wp wu : Int32} {rwh rkd rmd rpr rlo : Nat → Int32} (h : JW c ll ld lo lb lc lp lu wh kd md pr pb no la ac mk K M mac mmk v past kept wl wd wt wb wc wp wu rwh rkd rmd rpr rlo) (p1 p2 : Int32) (rf x1 x2 x3 x4 x5 x6 x7 : Int32) (fl cr : Nat → Int32) (th tr wr w1 w2 w3 w4 w5 w6 w7 : Int32) (xx : Nat → Int32) : ∃ r t y1 y2 y3 y4 y5 y6 y7 y8 y9 z1 z2 z3 z4 z5 z6 z7 z8, f_X11_won rf ll ld lb wh kd md no.1 no.2.1 no.2.2.2.1 no.2.2.2.2.1 no.2.2.2.2.2 x1 x2 x3 x4 x5 x6 x7 fl cr p1 p2 = some (r, t, y1, y2, y3, y4, y5, y6, y7, y8, y9) ∧ f_X13_won th tr wr w1 w2 w3 w4 w5 w6 w7 v xx wd wb rwh rkd rmd p1 p2 = some (r, 0, t, -1, z1, z2, z3, z4, z5, z6, z7, z8) ∧ ¬ t = 4 := by
  obtain ⟨a, n, L, m, C, qq, B, U, ps, ⟨⟨rfl, rfl, rfl, rfl, rfl, rfl, rfl⟩, ⟨rfl, rfl, rfl, rfl, rfl⟩, rfl, rfl, rfl, rfl, rfl, rfl, rfl⟩, ⟨⟨i1, i2, i3, i4⟩, ⟨j1, j2, j3, j4⟩, ci, hB, hU⟩, r⟩ := h
  obtain ⟨ok, kw, ⟨s1, s2, s3, s4, s5, s6⟩, rv, rp, rk⟩ := id r
  rw [s1]
  rw [s2]
  exact q_won ok ⟨i1, i2, i3, s4, s6⟩ s5 ⟨j1, j2, j3, rv⟩ _ _ _ _ _ _ _ _ _ _ _ _ _ _ _ _ _ _ _ _ _ _ _
theorem jW_acrossIn {c : Nat} {ll ld lo lb lc lp lu : Int32} {wh kd md pr pb : Nat → Int32} {no : ST} {la ac mk : Int32} {K M : Nat → ST} {mac mmk : Int32} {v past kept : Nat → Int32} {wl wd wt wb wc wp wu : Int32} {rwh rkd rmd rpr rlo : Nat → Int32} (h : JW c ll ld lo lb lc lp lu wh kd md pr pb no la ac mk K M mac mmk v past kept wl wd wt wb wc wp wu rwh rkd rmd rpr rlo) (p1 p2 p3 : Int32) (rf x1 x2 x3 x4 x5 x6 x7 : Int32) (fl cr : Nat → Int32) (th tr wr w1 w2 w3 w4 w5 w6 w7 : Int32) (xx : Nat → Int32) : ∃ r t y1 y2 y3 y4 y5 y6 y7 y8 y9 z1 z2 z3 z4 z5 z6 z7 z8, f_X11_acrossIn rf ld lb wh kd md no.1 no.2.1 no.2.2.2.1 no.2.2.2.2.1 no.2.2.2.2.2 x1 x2 x3 x4 x5 x6 x7 fl cr p1 p2 p3 = some (r, t, y1, y2, y3, y4, y5, y6, y7, y8, y9) ∧ f_X13_acrossIn th tr wr w1 w2 w3 w4 w5 w6 w7 v xx wd wb rwh rkd rmd p1 p2 p3 = some (r, 0, t, -1, z1, z2, z3, z4, z5, z6, z7, z8) ∧ ¬ t = 4 := by
  obtain ⟨a, n, L, m, C, qq, B, U, ps, ⟨⟨rfl, rfl, rfl, rfl, rfl, rfl, rfl⟩, ⟨rfl, rfl, rfl, rfl, rfl⟩, rfl, rfl, rfl, rfl, rfl, rfl, rfl⟩, ⟨⟨i1, i2, i3, i4⟩, ⟨j1, j2, j3, j4⟩, ci, hB, hU⟩, r⟩ := h
  obtain ⟨ok, kw, ⟨s1, s2, s3, s4, s5, s6⟩, rv, rp, rk⟩ := id r
  rw [s1]
  rw [s2]
  exact q_acrossIn ok ⟨i1, i2, i3, s4, s6⟩ s5 ⟨j1, j2, j3, rv⟩ _ _ _ _ _ _ _ _ _ _ _ _ _ _ _ _ _ _ _ _ _ _ _ _
theorem jW_place {c : Nat} {ll ld lo lb lc lp lu : Int32} {wh kd md pr pb : Nat → Int32} {no : ST} {la ac mk : Int32} {K M : Nat → ST} {mac mmk : Int32} {v past kept : Nat → Int32} {wl wd wt wb wc wp wu : Int32} {rwh rkd rmd rpr rlo : Nat → Int32} (h : JW c ll ld lo lb lc lp lu wh kd md pr pb no la ac mk K M mac mmk v past kept wl wd wt wb wc wp wu rwh rkd rmd rpr rlo) (p1 rf th tr wr : Int32) (ws most : Nat → Int64) (ln : Nat → Int32) (s : Int64) (put bp : Nat → Int32) : ∃ r t x1 x2 x3 y1 y2 y3, f_X11_place rf ll ld lb wh kd md no.1 no.2.1 no.2.2.2.1 no.2.2.2.2.2 ws most ln p1 = some (r, t, x1, x2, x3) ∧ f_X13_place th tr wr s v put bp wl wd wb rwh rkd rmd p1 = some (r, 0, t, -1, y1, y2, y3) ∧ ¬ t = 4 := by
  obtain ⟨a, n, L, m, C, qq, B, U, ps, ⟨⟨rfl, rfl, rfl, rfl, rfl, rfl, rfl⟩, ⟨rfl, rfl, rfl, rfl, rfl⟩, rfl, rfl, rfl, rfl, rfl, rfl, rfl⟩, ⟨⟨i1, i2, i3, i4⟩, ⟨j1, j2, j3, j4⟩, ci, hB, hU⟩, r⟩ := h
  obtain ⟨ok, kw, ⟨s1, s2, s3, s4, s5, s6⟩, rv, rp, rk⟩ := id r
  rw [s1]
  rw [s2]
  exact q_place ok ⟨i1, i2, i3, s4, s6⟩ ⟨j1, j2, j3, rv⟩ _ _ _ _ _ _ _ _ _ _ _
theorem jW_placed {c : Nat} {ll ld lo lb lc lp lu : Int32} {wh kd md pr pb : Nat → Int32} {no : ST} {la ac mk : Int32} {K M : Nat → ST} {mac mmk : Int32} {v past kept : Nat → Int32} {wl wd wt wb wc wp wu : Int32} {rwh rkd rmd rpr rlo : Nat → Int32} (h : JW c ll ld lo lb lc lp lu wh kd md pr pb no la ac mk K M mac mmk v past kept wl wd wt wb wc wp wu rwh rkd rmd rpr rlo) (lo0 : Bool) (rf th tr wr : Int32) (ws most : Nat → Int64) (ln : Nat → Int32) (s : Int64) (put bp : Nat → Int32) : ∃ r t x1 x2 x3 y1 y2 y3, f_X11_placed rf ll ld lb wh kd md no.1 no.2.1 no.2.2.2.1 no.2.2.2.2.2 ws most ln (if lo0 then 1 else 0) = some (r, t, x1, x2, x3) ∧ f_X13_placed th tr wr s v put bp wl wd wb rwh rkd rmd (if lo0 then 1 else 0) = some (r, 0, t, -1, y1, y2, y3) ∧ ¬ t = 4 := by
  obtain ⟨a, n, L, m, C, qq, B, U, ps, ⟨⟨rfl, rfl, rfl, rfl, rfl, rfl, rfl⟩, ⟨rfl, rfl, rfl, rfl, rfl⟩, rfl, rfl, rfl, rfl, rfl, rfl, rfl⟩, ⟨⟨i1, i2, i3, i4⟩, ⟨j1, j2, j3, j4⟩, ci, hB, hU⟩, r⟩ := h
  obtain ⟨ok, kw, ⟨s1, s2, s3, s4, s5, s6⟩, rv, rp, rk⟩ := id r
  rw [s1]
  rw [s2]
  exact q_placed ok ⟨i1, i2, i3, s4, s6⟩ ⟨j1, j2, j3, rv⟩ _ _ _ _ _ _ _ _ _ _ _
theorem jW_out {c : Nat} {ll ld lo lb lc lp lu : Int32} {wh kd md pr pb : Nat → Int32} {no : ST} {la ac mk : Int32} {K M : Nat → ST} {mac mmk : Int32} {v past kept : Nat → Int32} {wl wd wt wb wc wp wu : Int32} {rwh rkd rmd rpr rlo : Nat → Int32} (h : JW c ll ld lo lb lc lp lu wh kd md pr pb no la ac mk K M mac mmk v past kept wl wd wt wb wc wp wu rwh rkd rmd rpr rlo) (rf th tr wr : Int32) (ws most : Nat → Int64) (ln : Nat → Int32) (s : Int64) (put bp : Nat → Int32) : ∃ r t x1 x2 x3 y1 y2 y3, f_X11_out rf ll ld lb wh kd md no.1 no.2.1 no.2.2.2.1 no.2.2.2.2.2 ws most ln = some (r, t, x1, x2, x3) ∧ f_X13_out th tr wr s v put bp wl wd wb rwh rkd rmd = some (r, 0, t, -1, y1, y2, y3) ∧ ¬ t = 4 := by
  obtain ⟨a, n, L, m, C, qq, B, U, ps, ⟨⟨rfl, rfl, rfl, rfl, rfl, rfl, rfl⟩, ⟨rfl, rfl, rfl, rfl, rfl⟩, rfl, rfl, rfl, rfl, rfl, rfl, rfl⟩, ⟨⟨i1, i2, i3, i4⟩, ⟨j1, j2, j3, j4⟩, ci, hB, hU⟩, r⟩ := h
  obtain ⟨ok, kw, ⟨s1, s2, s3, s4, s5, s6⟩, rv, rp, rk⟩ := id r
  rw [s1]
  rw [s2]
  exact q_out ok ⟨i1, i2, i3, s4, s6⟩ ⟨j1, j2, j3, rv⟩ _ _ _ _ _ _ _ _ _ _
theorem jW_march {c : Nat} {ll ld lo lb lc lp lu : Int32} {wh kd md pr pb : Nat → Int32} {no : ST} {la ac mk : Int32} {K M : Nat → ST} {mac mmk : Int32} {v past kept : Nat → Int32} {wl wd wt wb wc wp wu : Int32} {rwh rkd rmd rpr rlo : Nat → Int32} (h : JW c ll ld lo lb lc lp lu wh kd md pr pb no la ac mk K M mac mmk v past kept wl wd wt wb wc wp wu rwh rkd rmd rpr rlo) (p1 p2 p3 rf th tr wr x1 x2 y1 y2 : Int32) (wk way row best lf : Nat → Int32) : ∃ r t a1 a2 a3 a4 b1 b2 b3 b4 b5, f_X11_march rf lc pb x1 x2 wk way p1 p2 p3 = some (r, t, a1, a2, a3, a4) ∧ f_X13_march th tr wr y1 y2 row best lf wc rlo p1 p2 p3 = some (r, 0, t, -1, b1, b2, b3, b4, b5) ∧ ¬ t = 4 := by
  obtain ⟨a, n, L, m, C, qq, B, U, ps, ⟨⟨rfl, rfl, rfl, rfl, rfl, rfl, rfl⟩, ⟨rfl, rfl, rfl, rfl, rfl⟩, rfl, rfl, rfl, rfl, rfl, rfl, rfl⟩, ⟨⟨i1, i2, i3, i4⟩, ⟨j1, j2, j3, j4⟩, ci, hB, hU⟩, r⟩ := h
  obtain ⟨ok, kw, ⟨s1, s2, s3, s4, s5, s6⟩, rv, rp, rk⟩ := id r
  exact q_march ci _ _ _ _ _ _ _ _ _ _ _ _ _ _ _ _
theorem jW_marchAt {c : Nat} {ll ld lo lb lc lp lu : Int32} {wh kd md pr pb : Nat → Int32} {no : ST} {la ac mk : Int32} {K M : Nat → ST} {mac mmk : Int32} {v past kept : Nat → Int32} {wl wd wt wb wc wp wu : Int32} {rwh rkd rmd rpr rlo : Nat → Int32} (h : JW c ll ld lo lb lc lp lu wh kd md pr pb no la ac mk K M mac mmk v past kept wl wd wt wb wc wp wu rwh rkd rmd rpr rlo) (p1 p2 p3 p4 rf th tr wr x1 x2 y1 y2 : Int32) (wk way row best lf : Nat → Int32) : ∃ r t a1 a2 a3 a4 b1 b2 b3 b4 b5, f_X11_marchAt rf lc pb x1 x2 wk way p1 p2 p3 p4 = some (r, t, a1, a2, a3, a4) ∧ f_X13_marchAt th tr wr y1 y2 row best lf wc rlo p1 p2 p3 p4 = some (r, 0, t, -1, b1, b2, b3, b4, b5) ∧ ¬ t = 4 := by
  obtain ⟨a, n, L, m, C, qq, B, U, ps, ⟨⟨rfl, rfl, rfl, rfl, rfl, rfl, rfl⟩, ⟨rfl, rfl, rfl, rfl, rfl⟩, rfl, rfl, rfl, rfl, rfl, rfl, rfl⟩, ⟨⟨i1, i2, i3, i4⟩, ⟨j1, j2, j3, j4⟩, ci, hB, hU⟩, r⟩ := h
  obtain ⟨ok, kw, ⟨s1, s2, s3, s4, s5, s6⟩, rv, rp, rk⟩ := id r
  exact q_marchAt ci _ _ _ _ _ _ _ _ _ _ _ _ _ _ _ _ _
theorem jW_worstPass {c : Nat} {ll ld lo lb lc lp lu : Int32} {wh kd md pr pb : Nat → Int32} {no : ST} {la ac mk : Int32} {K M : Nat → ST} {mac mmk : Int32} {v past kept : Nat → Int32} {wl wd wt wb wc wp wu : Int32} {rwh rkd rmd rpr rlo : Nat → Int32} (h : JW c ll ld lo lb lc lp lu wh kd md pr pb no la ac mk K M mac mmk v past kept wl wd wt wb wc wp wu rwh rkd rmd rpr rlo) (p1 p2 p3 rf th tr wr x1 x2 y1 y2 : Int32) (wk way row best lf : Nat → Int32) : ∃ r t a1 a2 a3 a4 b1 b2 b3 b4 b5, f_X11_worstPass rf lc pb x1 x2 wk way p1 p2 p3 = some (r, t, a1, a2, a3, a4) ∧ f_X13_worstPass th tr wr y1 y2 row best lf wc rlo p1 p2 p3 = some (r, 0, t, -1, b1, b2, b3, b4, b5) ∧ ¬ t = 4 := by
  obtain ⟨a, n, L, m, C, qq, B, U, ps, ⟨⟨rfl, rfl, rfl, rfl, rfl, rfl, rfl⟩, ⟨rfl, rfl, rfl, rfl, rfl⟩, rfl, rfl, rfl, rfl, rfl, rfl, rfl⟩, ⟨⟨i1, i2, i3, i4⟩, ⟨j1, j2, j3, j4⟩, ci, hB, hU⟩, r⟩ := h
  obtain ⟨ok, kw, ⟨s1, s2, s3, s4, s5, s6⟩, rv, rp, rk⟩ := id r
  exact q_worstPass ci _ _ _ _ _ _ _ _ _ _ _ _ _ _ _ _
theorem jW_setOut {c : Nat} {ll ld lo lb lc lp lu : Int32} {wh kd md pr pb : Nat → Int32} {no : ST} {la ac mk : Int32} {K M : Nat → ST} {mac mmk : Int32} {v past kept : Nat → Int32} {wl wd wt wb wc wp wu : Int32} {rwh rkd rmd rpr rlo : Nat → Int32} (h : JW c ll ld lo lb lc lp lu wh kd md pr pb no la ac mk K M mac mmk v past kept wl wd wt wb wc wp wu rwh rkd rmd rpr rlo) (p1 p2 p3 rf th tr wr x1 x2 y1 y2 : Int32) (wk way row best lf : Nat → Int32) : ∃ r t a1 a2 a3 a4 b1 b2 b3 b4 b5, f_X11_setOut rf lc pb x1 x2 wk way p1 p2 p3 = some (r, t, a1, a2, a3, a4) ∧ f_X13_setOut th tr wr y1 y2 row best lf wc rlo p1 p2 p3 = some (r, 0, t, -1, b1, b2, b3, b4, b5) ∧ ¬ t = 4 := by
  obtain ⟨a, n, L, m, C, qq, B, U, ps, ⟨⟨rfl, rfl, rfl, rfl, rfl, rfl, rfl⟩, ⟨rfl, rfl, rfl, rfl, rfl⟩, rfl, rfl, rfl, rfl, rfl, rfl, rfl⟩, ⟨⟨i1, i2, i3, i4⟩, ⟨j1, j2, j3, j4⟩, ci, hB, hU⟩, r⟩ := h
  obtain ⟨ok, kw, ⟨s1, s2, s3, s4, s5, s6⟩, rv, rp, rk⟩ := id r
  exact q_setOut ci _ _ _ _ _ _ _ _ _ _ _ _ _ _ _ _
theorem jW_reach {c : Nat} {ll ld lo lb lc lp lu : Int32} {wh kd md pr pb : Nat → Int32} {no : ST} {la ac mk : Int32} {K M : Nat → ST} {mac mmk : Int32} {v past kept : Nat → Int32} {wl wd wt wb wc wp wu : Int32} {rwh rkd rmd rpr rlo : Nat → Int32} (h : JW c ll ld lo lb lc lp lu wh kd md pr pb no la ac mk K M mac mmk v past kept wl wd wt wb wc wp wu rwh rkd rmd rpr rlo) (p1 rf th tr wr : Int32) : ∃ r t, f_X11_reach rf lc pb p1 = some (r, t) ∧ f_X13_reach th tr wr wc rlo p1 = some (r, 0, t, -1) ∧ ¬ t = 4 := by
  obtain ⟨a, n, L, m, C, qq, B, U, ps, ⟨⟨rfl, rfl, rfl, rfl, rfl, rfl, rfl⟩, ⟨rfl, rfl, rfl, rfl, rfl⟩, rfl, rfl, rfl, rfl, rfl, rfl, rfl⟩, ⟨⟨i1, i2, i3, i4⟩, ⟨j1, j2, j3, j4⟩, ci, hB, hU⟩, r⟩ := h
  obtain ⟨ok, kw, ⟨s1, s2, s3, s4, s5, s6⟩, rv, rp, rk⟩ := id r
  exact q_reach ci _ _ _ _ _
