/-! BW: the calls that change the stand, side by side -/
def ixK (la : Int32) : Nat := (if 16 ≤ la + 1 then 0 else la + 1).toNatClampNeg
theorem ixK_sel {L : Nat} (h : L < 16) : ixK (nI L) = selK L := by
  unfold ixK selK
  have e : (16 : Int32) ≤ nI L + 1 ↔ 16 ≤ L + 1 := by
    rw [nI_1]; exact nI_leI (a := 16) (by decide) (by omega)
  by_cases q : L + 1 < 16
  · rw [if_neg (fun h => by have := e.mp h; omega), if_pos q, nI_1, nI_clamp (by omega)]
  · rw [if_pos (e.mpr (by omega)), if_neg q]; rfl
def ixM (mk : Int32) : Nat := if mk < 0 then 0 else if mk < 3 then mk.toNatClampNeg else 0
theorem ixM_lt {j : Nat} (h : j < 3) : ixM (nI j) = j := by
  unfold ixM
  rw [if_neg (show ¬ nI j < 0 from nI_nlt (b := 0) (Nat.zero_le _) (by omega)), if_pos (show nI j < 3 from (nI_ltI (b := 3) (by omega) (by decide)).mpr h), nI_clamp (by omega)]
theorem ixM_3 : ixM (nI 3) = 0 := rfl
theorem ixM_b (x : Int32) : ixM x < 3 := by
  unfold ixM
  by_cases h : x < 0
  · rw [if_pos h]; decide
  · rw [if_neg h]
    by_cases h3 : x < 3
    · rw [if_pos h3]
      obtain ⟨j, hj, rfl⟩ := nI_of h
      rw [nI_clamp hj]
      exact (nI_ltI (b := 3) hj (by decide)).mp h3
    · rw [if_neg h3]; decide
theorem ixK_b {L : Nat} (h : L < 16) : ixK (nI L) < 16 := by
  rw [ixK_sel h]; unfold selK
  by_cases q : L + 1 < 16
  · rw [if_pos q]; exact q
  · rw [if_neg q]; decide

def seedA (a : AS) (k : Nat) : AS := fun i j => if i = 0 ∧ j = 5 then k else a i j
theorem seedW (a : AS) (k : Nat) : sW a (seedA a k) := ⟨rfl, rfl, rfl, fun _ => rfl, fun _ => rfl, fun _ => rfl, fun _ => rfl⟩
theorem seedN {a : AS} {c n L m : Nat} {no : ST} {K M : Nat → ST} {v past kept : Nat → Int32} (r : rNow a c n L m no K M v past kept) {k : Nat} (hk : k ≤ 65536) : rNow (seedA a k) (c + 1) n L m (no.1, no.2.1, nI k, no.2.2.2.1, no.2.2.2.2.1, no.2.2.2.2.2) K M (upd v 18 (nI k)) past kept := by
  obtain ⟨⟨⟨o1, o2, o3, o4, o5, o6, o7, o8, o9⟩, oj, ol⟩, kw, ⟨s1, s2, s3, s4, s5, s6⟩, ⟨v1, v2, v3, v4, v5, v6⟩, rp, rk⟩ := r
  refine ⟨⟨⟨o1, o2, o3, o4, o5, o6, o7, o8, hk⟩, oj, ol⟩, kw.mono (Nat.le_succ c), ⟨s1, s2, rfl, s4, s5, s6⟩, ⟨(pk_un (by decide)).trans v1, (pk_un (by decide)).trans v2, pk_us, ?_, ?_, ?_⟩, rp.mono (Nat.le_succ c) (seedW a k), rk.mono (Nat.le_succ c) (seedW a k)⟩
  · intro j hj
    have hj : j < a 0 2 := hj
    exact (pk_un (by omega)).trans (v4 j hj)
  · intro j hj
    have hj : j < a 0 2 := hj
    exact (pk_un (by omega)).trans (v5 j hj)
  · intro l hl
    have hl : l < a 0 0 := hl
    exact (pk_un (by omega)).trans (v6 l hl)
theorem jW_move {c : Nat} {ll ld lo lb lc lp lu : Int32} {wh kd md pr pb : Nat → Int32} {no : ST} {la ac mk : Int32} {K M : Nat → ST} {mac mmk : Int32} {v past kept : Nat → Int32} {wl wd wt wb wc wp wu : Int32} {rwh rkd rmd rpr rlo : Nat → Int32} (h : JW c ll ld lo lb lc lp lu wh kd md pr pb no la ac mk K M mac mmk v past kept wl wd wt wb wc wp wu rwh rkd rmd rpr rlo) (kk : Nat → Option Nat) (p1 p2 rf th tr wr : Int32) : ∃ r t x2 la2 ac2 S2 v2 past2, f_X11_move rf ll lb no.1 no.2.1 no.2.2.1 no.2.2.2.1 no.2.2.2.2.1 no.2.2.2.2.2 la ac kk (K (ixK la)).1 (K (ixK la)).2.1 (K (ixK la)).2.2.1 (K (ixK la)).2.2.2.1 (K (ixK la)).2.2.2.2.1 (K (ixK la)).2.2.2.2.2 p1 p2 = some (r, t, x2, la2, ac2, S2.1, S2.2.1, S2.2.2.1, S2.2.2.2.1, S2.2.2.2.2.1, S2.2.2.2.2.2) ∧ f_X13_move th tr wr mac v past wl wb p1 p2 = some (r, 0, t, -1, ac2, v2, past2) ∧ ¬ t = 4 ∧ JW (c + 1) ll ld lo lb lc lp lu wh kd md pr pb (no.1, no.2.1, no.2.2.1, no.2.2.2.1, x2, no.2.2.2.2.2) la2 ac2 mk (updK K (ixK la) S2) M ac2 mmk v2 past2 kept wl wd wt wb wc wp wu rwh rkd rmd rpr rlo := by
  obtain ⟨a, n, L, m, C, qq, B, U, _, je, ji, r0⟩ := h
  obtain ⟨⟨rfl, rfl, rfl, rfl, rfl, rfl, rfl⟩, ⟨rfl, rfl, rfl, rfl, rfl⟩, rfl, rfl, rfl, rfl, rfl, rfl, rfl⟩ := id je
  obtain ⟨⟨i1, i2, i3, i4⟩, ⟨j1, j2, j3, j4⟩, ci, hB, hU⟩ := id ji
  have hL := r0.2.2.2.2.1.2.1
  rw [ixK_sel hL]
  obtain ⟨r, t, x2, L2, n2, S2, v2, past2, a2, e1, e2, e3, e4, e5⟩ := q_move r0 kk p1 p2 rf th tr wr
  exact ⟨r, t, x2, nI L2, nI n2, S2, v2, past2, e1, e2, e3, a2, n2, L2, m, C, qq, B, U, _, je.sw e4, ji.sw e4, e5⟩
theorem jW_wound {c : Nat} {ll ld lo lb lc lp lu : Int32} {wh kd md pr pb : Nat → Int32} {no : ST} {la ac mk : Int32} {K M : Nat → ST} {mac mmk : Int32} {v past kept : Nat → Int32} {wl wd wt wb wc wp wu : Int32} {rwh rkd rmd rpr rlo : Nat → Int32} (h : JW c ll ld lo lb lc lp lu wh kd md pr pb no la ac mk K M mac mmk v past kept wl wd wt wb wc wp wu rwh rkd rmd rpr rlo) (hc : c < 1000) (kk : Nat → Option Nat) (p1 p2 rf th tr wr : Int32) : ∃ r t x2 la2 ac2 S2 v2 past2, f_X11_wound rf lb kd no.1 no.2.1 no.2.2.1 no.2.2.2.1 no.2.2.2.2.1 no.2.2.2.2.2 la ac kk (K (ixK la)).1 (K (ixK la)).2.1 (K (ixK la)).2.2.1 (K (ixK la)).2.2.2.1 (K (ixK la)).2.2.2.2.1 (K (ixK la)).2.2.2.2.2 p1 p2 = some (r, t, x2, la2, ac2, S2.1, S2.2.1, S2.2.2.1, S2.2.2.2.1, S2.2.2.2.2.1, S2.2.2.2.2.2) ∧ f_X13_wound th tr wr mac v past wb rkd p1 p2 = some (r, 0, t, -1, ac2, v2, past2) ∧ ¬ t = 4 ∧ JW (c + 1) ll ld lo lb lc lp lu wh kd md pr pb (no.1, no.2.1, no.2.2.1, no.2.2.2.1, no.2.2.2.2.1, x2) la2 ac2 mk (updK K (ixK la) S2) M ac2 mmk v2 past2 kept wl wd wt wb wc wp wu rwh rkd rmd rpr rlo := by
  obtain ⟨a, n, L, m, C, qq, B, U, _, je, ji, r0⟩ := h
  obtain ⟨⟨rfl, rfl, rfl, rfl, rfl, rfl, rfl⟩, ⟨rfl, rfl, rfl, rfl, rfl⟩, rfl, rfl, rfl, rfl, rfl, rfl, rfl⟩ := id je
  obtain ⟨⟨i1, i2, i3, i4⟩, ⟨j1, j2, j3, j4⟩, ci, hB, hU⟩ := id ji
  have hL := r0.2.2.2.2.1.2.1
  rw [ixK_sel hL]
  obtain ⟨r, t, x2, L2, n2, S2, v2, past2, a2, e1, e2, e3, e4, e5⟩ := q_wound r0 hc i2 j2 kk p1 p2 rf th tr wr
  exact ⟨r, t, x2, nI L2, nI n2, S2, v2, past2, e1, e2, e3, a2, n2, L2, m, C, qq, B, U, _, je.sw e4, ji.sw e4, e5⟩
theorem jW_hammer {c : Nat} {ll ld lo lb lc lp lu : Int32} {wh kd md pr pb : Nat → Int32} {no : ST} {la ac mk : Int32} {K M : Nat → ST} {mac mmk : Int32} {v past kept : Nat → Int32} {wl wd wt wb wc wp wu : Int32} {rwh rkd rmd rpr rlo : Nat → Int32} (h : JW c ll ld lo lb lc lp lu wh kd md pr pb no la ac mk K M mac mmk v past kept wl wd wt wb wc wp wu rwh rkd rmd rpr rlo) (kk : Nat → Option Nat) (p1 rf th tr wr : Int32) : ∃ r t x2 la2 ac2 S2 v2 past2, f_X11_hammer rf lb no.1 no.2.1 no.2.2.1 no.2.2.2.1 no.2.2.2.2.1 no.2.2.2.2.2 la ac kk (K (ixK la)).1 (K (ixK la)).2.1 (K (ixK la)).2.2.1 (K (ixK la)).2.2.2.1 (K (ixK la)).2.2.2.2.1 (K (ixK la)).2.2.2.2.2 p1 = some (r, t, x2, la2, ac2, S2.1, S2.2.1, S2.2.2.1, S2.2.2.2.1, S2.2.2.2.2.1, S2.2.2.2.2.2) ∧ f_X13_hammer th tr wr mac v past wb p1 = some (r, 0, t, -1, ac2, v2, past2) ∧ ¬ t = 4 ∧ JW (c + 1) ll ld lo lb lc lp lu wh kd md pr pb (x2, no.2.1, no.2.2.1, no.2.2.2.1, no.2.2.2.2.1, no.2.2.2.2.2) la2 ac2 mk (updK K (ixK la) S2) M ac2 mmk v2 past2 kept wl wd wt wb wc wp wu rwh rkd rmd rpr rlo := by
  obtain ⟨a, n, L, m, C, qq, B, U, _, je, ji, r0⟩ := h
  obtain ⟨⟨rfl, rfl, rfl, rfl, rfl, rfl, rfl⟩, ⟨rfl, rfl, rfl, rfl, rfl⟩, rfl, rfl, rfl, rfl, rfl, rfl, rfl⟩ := id je
  obtain ⟨⟨i1, i2, i3, i4⟩, ⟨j1, j2, j3, j4⟩, ci, hB, hU⟩ := id ji
  have hL := r0.2.2.2.2.1.2.1
  rw [ixK_sel hL]
  obtain ⟨r, t, x2, L2, n2, S2, v2, past2, a2, e1, e2, e3, e4, e5⟩ := q_hammer r0 kk p1 rf th tr wr
  exact ⟨r, t, x2, nI L2, nI n2, S2, v2, past2, e1, e2, e3, a2, n2, L2, m, C, qq, B, U, _, je.sw e4, ji.sw e4, e5⟩
theorem jW_teach {c : Nat} {ll ld lo lb lc lp lu : Int32} {wh kd md pr pb : Nat → Int32} {no : ST} {la ac mk : Int32} {K M : Nat → ST} {mac mmk : Int32} {v past kept : Nat → Int32} {wl wd wt wb wc wp wu : Int32} {rwh rkd rmd rpr rlo : Nat → Int32} (h : JW c ll ld lo lb lc lp lu wh kd md pr pb no la ac mk K M mac mmk v past kept wl wd wt wb wc wp wu rwh rkd rmd rpr rlo) (kk : Nat → Option Nat) (p1 p2 rf th tr wr : Int32) : ∃ r t x2 la2 ac2 S2 v2 past2, f_X11_teach rf ll wh no.1 no.2.1 no.2.2.1 no.2.2.2.1 no.2.2.2.2.1 no.2.2.2.2.2 la ac kk (K (ixK la)).1 (K (ixK la)).2.1 (K (ixK la)).2.2.1 (K (ixK la)).2.2.2.1 (K (ixK la)).2.2.2.2.1 (K (ixK la)).2.2.2.2.2 p1 p2 = some (r, t, x2, la2, ac2, S2.1, S2.2.1, S2.2.2.1, S2.2.2.2.1, S2.2.2.2.2.1, S2.2.2.2.2.2) ∧ f_X13_teach th tr wr mac v past wl rwh p1 p2 = some (r, 0, t, -1, ac2, v2, past2) ∧ ¬ t = 4 ∧ JW (c + 1) ll ld lo lb lc lp lu wh kd md pr pb (no.1, no.2.1, no.2.2.1, x2, no.2.2.2.2.1, no.2.2.2.2.2) la2 ac2 mk (updK K (ixK la) S2) M ac2 mmk v2 past2 kept wl wd wt wb wc wp wu rwh rkd rmd rpr rlo := by
  obtain ⟨a, n, L, m, C, qq, B, U, _, je, ji, r0⟩ := h
  obtain ⟨⟨rfl, rfl, rfl, rfl, rfl, rfl, rfl⟩, ⟨rfl, rfl, rfl, rfl, rfl⟩, rfl, rfl, rfl, rfl, rfl, rfl, rfl⟩ := id je
  obtain ⟨⟨i1, i2, i3, i4⟩, ⟨j1, j2, j3, j4⟩, ci, hB, hU⟩ := id ji
  have hL := r0.2.2.2.2.1.2.1
  rw [ixK_sel hL]
  obtain ⟨r, t, x2, L2, n2, S2, v2, past2, a2, e1, e2, e3, e4, e5⟩ := q_teach r0 i1 j1 kk p1 p2 rf th tr wr
  exact ⟨r, t, x2, nI L2, nI n2, S2, v2, past2, e1, e2, e3, a2, n2, L2, m, C, qq, B, U, _, je.sw e4, ji.sw e4, e5⟩
theorem jW_rain {c : Nat} {ll ld lo lb lc lp lu : Int32} {wh kd md pr pb : Nat → Int32} {no : ST} {la ac mk : Int32} {K M : Nat → ST} {mac mmk : Int32} {v past kept : Nat → Int32} {wl wd wt wb wc wp wu : Int32} {rwh rkd rmd rpr rlo : Nat → Int32} (h : JW c ll ld lo lb lc lp lu wh kd md pr pb no la ac mk K M mac mmk v past kept wl wd wt wb wc wp wu rwh rkd rmd rpr rlo) (kk : Nat → Option Nat) (is : Bool) (rf th tr wr : Int32) : ∃ r t x2 la2 ac2 S2 v2 past2, f_X11_rain rf ll no.1 no.2.1 no.2.2.1 no.2.2.2.1 no.2.2.2.2.1 no.2.2.2.2.2 la ac kk (K (ixK la)).1 (K (ixK la)).2.1 (K (ixK la)).2.2.1 (K (ixK la)).2.2.2.1 (K (ixK la)).2.2.2.2.1 (K (ixK la)).2.2.2.2.2 (if is then 1 else 0) = some (r, t, x2, la2, ac2, S2.1, S2.2.1, S2.2.2.1, S2.2.2.2.1, S2.2.2.2.2.1, S2.2.2.2.2.2) ∧ f_X13_rain th tr wr mac v past (if is then 1 else 0) = some (r, 0, t, -1, ac2, v2, past2) ∧ ¬ t = 4 ∧ JW (c + 1) ll ld lo lb lc lp lu wh kd md pr pb (no.1, x2, no.2.2.1, no.2.2.2.1, no.2.2.2.2.1, no.2.2.2.2.2) la2 ac2 mk (updK K (ixK la) S2) M ac2 mmk v2 past2 kept wl wd wt wb wc wp wu rwh rkd rmd rpr rlo := by
  obtain ⟨a, n, L, m, C, qq, B, U, _, je, ji, r0⟩ := h
  obtain ⟨⟨rfl, rfl, rfl, rfl, rfl, rfl, rfl⟩, ⟨rfl, rfl, rfl, rfl, rfl⟩, rfl, rfl, rfl, rfl, rfl, rfl, rfl⟩ := id je
  obtain ⟨⟨i1, i2, i3, i4⟩, ⟨j1, j2, j3, j4⟩, ci, hB, hU⟩ := id ji
  have hL := r0.2.2.2.2.1.2.1
  rw [ixK_sel hL]
  obtain ⟨r, t, x2, L2, n2, S2, v2, past2, a2, e1, e2, e3, e4, e5⟩ := q_rain r0 kk is rf th tr wr
  exact ⟨r, t, x2, nI L2, nI n2, S2, v2, past2, e1, e2, e3, a2, n2, L2, m, C, qq, B, U, _, je.sw e4, ji.sw e4, e5⟩
theorem jW_battle {c : Nat} {ll ld lo lb lc lp lu : Int32} {wh kd md pr pb : Nat → Int32} {no : ST} {la ac mk : Int32} {K M : Nat → ST} {mac mmk : Int32} {v past kept : Nat → Int32} {wl wd wt wb wc wp wu : Int32} {rwh rkd rmd rpr rlo : Nat → Int32} (h : JW c ll ld lo lb lc lp lu wh kd md pr pb no la ac mk K M mac mmk v past kept wl wd wt wb wc wp wu rwh rkd rmd rpr rlo) (kk : Nat → Option Nat) (rf x1 x2 x3 x4 : Int32) (fl : Nat → Int32) (th tr wr w1 w2 w3 : Int32) : ∃ r d2 s2 la2 ac2 S2 y1 y2 y3 y4 y5 z1 z2 z3 v2 past2, f_X11_battle rf ll ld lb wh kd md no.1 no.2.1 no.2.2.1 no.2.2.2.1 no.2.2.2.2.1 no.2.2.2.2.2 la ac kk (K (ixK la)).1 (K (ixK la)).2.1 (K (ixK la)).2.2.1 (K (ixK la)).2.2.2.1 (K (ixK la)).2.2.2.2.1 (K (ixK la)).2.2.2.2.2 x1 x2 x3 x4 fl = some (r, 0, d2, s2, la2, ac2, S2.1, S2.2.1, S2.2.2.1, S2.2.2.2.1, S2.2.2.2.2.1, S2.2.2.2.2.2, y1, y2, y3, y4, y5) ∧ f_X13_battle_v th tr wr mac w1 w2 w3 v past wd wb rwh rkd rmd = some (r, 0, 0, -1, ac2, z1, z2, z3, v2, past2) ∧ JW (c + 1) ll ld lo lb lc lp lu wh kd md pr pb (no.1, no.2.1, d2, s2, no.2.2.2.2.1, no.2.2.2.2.2) la2 ac2 mk (updK K (ixK la) S2) M ac2 mmk v2 past2 kept wl wd wt wb wc wp wu rwh rkd rmd rpr rlo := by
  obtain ⟨a, n, L, m, C, qq, B, U, _, je, ji, r0⟩ := h
  obtain ⟨⟨rfl, rfl, rfl, rfl, rfl, rfl, rfl⟩, ⟨rfl, rfl, rfl, rfl, rfl⟩, rfl, rfl, rfl, rfl, rfl, rfl, rfl⟩ := id je
  obtain ⟨⟨i1, i2, i3, i4⟩, ⟨j1, j2, j3, j4⟩, ci, hB, hU⟩ := id ji
  have hL := r0.2.2.2.2.1.2.1
  rw [ixK_sel hL]
  obtain ⟨r, d2, s2, L2, n2, S2, y1, y2, y3, y4, y5, z1, z2, z3, v2, past2, a2, e1, e2, e4, e5⟩ := q_battle r0 i1 i2 i3 j1 j2 j3 kk rf x1 x2 x3 x4 fl th tr wr w1 w2 w3
  exact ⟨r, d2, s2, nI L2, nI n2, S2, y1, y2, y3, y4, y5, z1, z2, z3, v2, past2, e1, e2, a2, n2, L2, m, C, qq, B, U, _, je.sw e4, ji.sw e4, e5⟩
theorem jW_undo {c : Nat} {ll ld lo lb lc lp lu : Int32} {wh kd md pr pb : Nat → Int32} {no : ST} {la ac mk : Int32} {K M : Nat → ST} {mac mmk : Int32} {v past kept : Nat → Int32} {wl wd wt wb wc wp wu : Int32} {rwh rkd rmd rpr rlo : Nat → Int32} (h : JW c ll ld lo lb lc lp lu wh kd md pr pb no la ac mk K M mac mmk v past kept wl wd wt wb wc wp wu rwh rkd rmd rpr rlo) (kk : Nat → Option Nat) (rf th tr wr : Int32) : ∃ r t no2 la2 ac2 v2, f_X11_undo rf no.1 no.2.1 no.2.2.1 no.2.2.2.1 no.2.2.2.2.1 no.2.2.2.2.2 la ac kk (K (la.toNatClampNeg)).1 (K (la.toNatClampNeg)).2.1 (K (la.toNatClampNeg)).2.2.1 (K (la.toNatClampNeg)).2.2.2.1 (K (la.toNatClampNeg)).2.2.2.2.1 (K (la.toNatClampNeg)).2.2.2.2.2 = some (r, t, no2.1, no2.2.1, no2.2.2.1, no2.2.2.2.1, no2.2.2.2.2.1, no2.2.2.2.2.2, la2, ac2) ∧ f_X13_undo th tr wr mac v past = some (r, 0, t, -1, ac2, v2) ∧ ¬ t = 4 ∧ JW (c + 1) ll ld lo lb lc lp lu wh kd md pr pb no2 la2 ac2 mk K M ac2 mmk v2 past kept wl wd wt wb wc wp wu rwh rkd rmd rpr rlo := by
  obtain ⟨a, n, L, m, C, qq, B, U, _, je, ji, r0⟩ := h
  obtain ⟨⟨rfl, rfl, rfl, rfl, rfl, rfl, rfl⟩, ⟨rfl, rfl, rfl, rfl, rfl⟩, rfl, rfl, rfl, rfl, rfl, rfl, rfl⟩ := id je
  obtain ⟨⟨i1, i2, i3, i4⟩, ⟨j1, j2, j3, j4⟩, ci, hB, hU⟩ := id ji
  have hL := r0.2.2.2.2.1.2.1
  rw [nI_clamp (show L < 2 ^ 31 by omega)]
  obtain ⟨r, t, no2, L2, n2, v2, a2, e1, e2, e3, e4, e5⟩ := q_undo r0 kk rf th tr wr
  exact ⟨r, t, no2, nI L2, nI n2, v2, e1, e2, e3, a2, n2, L2, m, C, qq, B, U, _, je.sw e4, ji.sw e4, e5⟩
theorem jW_back {c : Nat} {ll ld lo lb lc lp lu : Int32} {wh kd md pr pb : Nat → Int32} {no : ST} {la ac mk : Int32} {K M : Nat → ST} {mac mmk : Int32} {v past kept : Nat → Int32} {wl wd wt wb wc wp wu : Int32} {rwh rkd rmd rpr rlo : Nat → Int32} (h : JW c ll ld lo lb lc lp lu wh kd md pr pb no la ac mk K M mac mmk v past kept wl wd wt wb wc wp wu rwh rkd rmd rpr rlo) (kk : Nat → Option Nat) (p1 rf th tr wr : Int32) : ∃ r t no2 ac2 v2, f_X11_back rf no.1 no.2.1 no.2.2.1 no.2.2.2.1 no.2.2.2.2.1 no.2.2.2.2.2 ac mk kk (M (ixM p1)).1 (M (ixM p1)).2.1 (M (ixM p1)).2.2.1 (M (ixM p1)).2.2.2.1 (M (ixM p1)).2.2.2.2.1 (M (ixM p1)).2.2.2.2.2 p1 = some (r, t, no2.1, no2.2.1, no2.2.2.1, no2.2.2.2.1, no2.2.2.2.2.1, no2.2.2.2.2.2, ac2) ∧ f_X13_back th tr wr mac mmk v kept p1 = some (r, 0, t, -1, ac2, v2) ∧ ¬ t = 4 ∧ JW (c + 1) ll ld lo lb lc lp lu wh kd md pr pb no2 la ac2 mk K M ac2 mmk v2 past kept wl wd wt wb wc wp wu rwh rkd rmd rpr rlo := by
  obtain ⟨a, n, L, m, C, qq, B, U, _, je, ji, r0⟩ := h
  obtain ⟨⟨rfl, rfl, rfl, rfl, rfl, rfl, rfl⟩, ⟨rfl, rfl, rfl, rfl, rfl⟩, rfl, rfl, rfl, rfl, rfl, rfl, rfl⟩ := id je
  obtain ⟨⟨i1, i2, i3, i4⟩, ⟨j1, j2, j3, j4⟩, ci, hB, hU⟩ := id ji
  have hL := r0.2.2.2.2.1.2.1
  obtain ⟨r, t, no2, n2, v2, a2, e1, e2, e3, e4, e5⟩ := q_back r0 kk p1 rf th tr wr (ixM p1) (fun j hj e => by rw [e]; exact ixM_lt (Nat.lt_of_lt_of_le hj r0.2.2.2.2.2.1))
  exact ⟨r, t, no2, nI n2, v2, e1, e2, e3, a2, n2, L, m, C, qq, B, U, _, je.sw e4, ji.sw e4, e5⟩
theorem mark3 (rf ll : Int32) (no S : ST) (kk : Nat → Option Nat) {r t mk2 : Int32} {S2 : ST} (h : f_X11_mark rf ll no.1 no.2.1 no.2.2.1 no.2.2.2.1 no.2.2.2.2.1 no.2.2.2.2.2 (nI 3) kk S.1 S.2.1 S.2.2.1 S.2.2.2.1 S.2.2.2.2.1 S.2.2.2.2.2 = some (r, t, mk2, S2)) : S2 = S := by
  unfold f_X11_mark at h
  obtain ⟨r0, e0, h⟩ := bd1_some h
  have key : ∀ t1, ¬ t1 = 0 → f_X11_mark_B31 ll no.1 no.2.1 no.2.2.1 no.2.2.2.1 no.2.2.2.2.1 no.2.2.2.2.2 kk t1 rf (nI 3) S.1 S.2.1 S.2.2.1 S.2.2.2.1 S.2.2.2.2.1 S.2.2.2.2.2 = some (r, t, mk2, S2) → S2 = S := by
    intro t1 h1 h
    unfold f_X11_mark_B31 f_X11_isRefused at h
    rw [if_neg h1, bd2_s, if10] at h
    cases h
    rfl
  split at h
  · exact key _ (by decide) h
  · split at h
    · rename_i h3
      exact absurd h3 (by decide)
    · exact key _ (by decide) h

theorem jW_mark {c : Nat} {ll ld lo lb lc lp lu : Int32} {wh kd md pr pb : Nat → Int32} {no : ST} {la ac mk : Int32} {K M : Nat → ST} {mac mmk : Int32} {v past kept : Nat → Int32} {wl wd wt wb wc wp wu : Int32} {rwh rkd rmd rpr rlo : Nat → Int32} (h : JW c ll ld lo lb lc lp lu wh kd md pr pb no la ac mk K M mac mmk v past kept wl wd wt wb wc wp wu rwh rkd rmd rpr rlo) (kk : Nat → Option Nat) (rf th tr wr : Int32) : ∃ r t mk2 S2 kept2, f_X11_mark rf ll no.1 no.2.1 no.2.2.1 no.2.2.2.1 no.2.2.2.2.1 no.2.2.2.2.2 mk kk (M (ixM mk)).1 (M (ixM mk)).2.1 (M (ixM mk)).2.2.1 (M (ixM mk)).2.2.2.1 (M (ixM mk)).2.2.2.2.1 (M (ixM mk)).2.2.2.2.2 = some (r, t, mk2, S2.1, S2.2.1, S2.2.2.1, S2.2.2.2.1, S2.2.2.2.2.1, S2.2.2.2.2.2) ∧ f_X13_mark th tr wr mmk v kept = some (r, 0, t, -1, mk2, kept2) ∧ ¬ t = 4 ∧ JW (c + 1) ll ld lo lb lc lp lu wh kd md pr pb no la ac mk2 K (updK M (ixM mk) S2) mac mk2 v past kept2 wl wd wt wb wc wp wu rwh rkd rmd rpr rlo := by
  obtain ⟨a, n, L, m, C, qq, B, U, _, je, ji, r0⟩ := h
  obtain ⟨⟨rfl, rfl, rfl, rfl, rfl, rfl, rfl⟩, ⟨rfl, rfl, rfl, rfl, rfl⟩, rfl, rfl, rfl, rfl, rfl, rfl, rfl⟩ := id je
  obtain ⟨⟨i1, i2, i3, i4⟩, ⟨j1, j2, j3, j4⟩, ci, hB, hU⟩ := id ji
  have hL := r0.2.2.2.2.1.2.1
  have hm := r0.2.2.2.2.2.1
  rcases (show m < 3 ∨ m = 3 by omega) with h3 | h3
  · rw [ixM_lt h3]
    obtain ⟨r, t, m2, S2, kept2, e1, e2, e3, e5⟩ := q_mark r0 kk rf th tr wr
    exact ⟨r, t, nI m2, S2, kept2, e1, e2, e3, a, n, L, m2, C, qq, B, U, _, je.sw (sW.rf a), ji, e5⟩
  · subst h3
    rw [ixM_3]
    have r1 : rNow a c n L 3 no K (updK M 3 (M 0)) v past kept := ⟨r0.1, r0.2.1, r0.2.2.1, r0.2.2.2.1, r0.2.2.2.2.1, hm, fun k hk => by rw [updK_n M (M 0) (by omega)]; exact r0.2.2.2.2.2.2 k hk⟩
    obtain ⟨r, t, m2, S2, kept2, e1, e2, e3, e5⟩ := q_mark r1 kk rf th tr wr
    rw [updK_s] at e1
    have e6 := mark3 _ _ no (M 0) kk e1
    subst e6
    refine ⟨r, t, nI m2, M 0, kept2, e1, e2, e3, ?_⟩
    rw [updK_id]
    refine ⟨a, n, L, m2, C, qq, B, U, _, je.sw (sW.rf a), ji, e5.1, e5.2.1, e5.2.2.1, e5.2.2.2.1, e5.2.2.2.2.1, e5.2.2.2.2.2.1, fun k hk => ?_⟩
    have h4 := e5.2.2.2.2.2.1
    have h5 := e5.2.2.2.2.2.2 k hk
    rw [updK_n _ _ (by omega), updK_n _ _ (by omega)] at h5
    exact h5
theorem jW_seed {c : Nat} {ll ld lo lb lc lp lu : Int32} {wh kd md pr pb : Nat → Int32} {no : ST} {la ac mk : Int32} {K M : Nat → ST} {mac mmk : Int32} {v past kept : Nat → Int32} {wl wd wt wb wc wp wu : Int32} {rwh rkd rmd rpr rlo : Nat → Int32} (h : JW c ll ld lo lb lc lp lu wh kd md pr pb no la ac mk K M mac mmk v past kept wl wd wt wb wc wp wu rwh rkd rmd rpr rlo) (p1 rf th tr wr : Int32) : ∃ r t d2 v2, f_X11_seed rf ll no.2.2.1 p1 = some (r, t, d2) ∧ f_X13_seed th tr wr v p1 = some (r, 0, t, -1, v2) ∧ ¬ t = 4 ∧ JW (c + 1) ll ld lo lb lc lp lu wh kd md pr pb (no.1, no.2.1, d2, no.2.2.2.1, no.2.2.2.2.1, no.2.2.2.2.2) la ac mk K M mac mmk v2 past kept wl wd wt wb wc wp wu rwh rkd rmd rpr rlo := by
  obtain ⟨a, n, L, m, C, qq, B, U, _, je, ji, r0⟩ := h
  obtain ⟨⟨rfl, rfl, rfl, rfl, rfl, rfl, rfl⟩, ⟨rfl, rfl, rfl, rfl, rfl⟩, rfl, rfl, rfl, rfl, rfl, rfl, rfl⟩ := id je
  obtain ⟨⟨i1, i2, i3, i4⟩, ⟨j1, j2, j3, j4⟩, ci, hB, hU⟩ := id ji
  have hL := r0.2.2.2.2.1.2.1
  have ok := r0.1
  rcases q_seed (v := v) ok p1 rf th tr wr no.2.2.1 with ⟨k, hk, rfl, e1, e2⟩ | ⟨e1, e2⟩
  · refine ⟨1, 0, nI k, upd v 18 (nI k), e1, e2, by decide, seedA a k, n, L, m, C, qq, B, U, _, je.sw (seedW a k), ji.sw (seedW a k), seedN r0 hk⟩
  · exact ⟨0, 2, no.2.2.1, v, e1, e2, by decide, a, n, L, m, C, qq, B, U, _, je, ji, r0.mono (Nat.le_succ c)⟩
theorem jW_size {c : Nat} {ll ld lo lb lc lp lu : Int32} {wh kd md pr pb : Nat → Int32} {no : ST} {la ac mk : Int32} {K M : Nat → ST} {mac mmk : Int32} {v past kept : Nat → Int32} {wl wd wt wb wc wp wu : Int32} {rwh rkd rmd rpr rlo : Nat → Int32} (h : JW c ll ld lo lb lc lp lu wh kd md pr pb no la ac mk K M mac mmk v past kept wl wd wt wb wc wp wu rwh rkd rmd rpr rlo) (by' p1 th : Int32) : ∃ r, f_X11_size by' ll ld lo lb lc lp lu no.2.1 no.2.2.1 ac mk p1 = some r ∧ f_X13_size th by' mac mmk v wl wd wt wb wc wp wu p1 = some (r, 0) := by
  obtain ⟨a, n, L, m, C, qq, B, U, _, je, ji, r0⟩ := h
  obtain ⟨⟨rfl, rfl, rfl, rfl, rfl, rfl, rfl⟩, ⟨rfl, rfl, rfl, rfl, rfl⟩, rfl, rfl, rfl, rfl, rfl, rfl, rfl⟩ := id je
  obtain ⟨⟨i1, i2, i3, i4⟩, ⟨j1, j2, j3, j4⟩, ci, hB, hU⟩ := id ji
  have hL := r0.2.2.2.2.1.2.1
  rw [r0.2.2.1.2.1, r0.2.2.1.2.2.1]
  exact q_size r0.2.2.2.1 r0.1.1.2.2.2.2.2.2.2.1 hB hU by' _ _ _ _ p1 th
theorem jZ_size {ll ld lo lb lc lp lu la ac mk : Int32} {no : ST} (h : JZ ll ld lo lb lc lp lu no la ac mk) (by' p1 th : Int32) : ∃ r, f_X11_size by' ll ld lo lb lc lp lu no.2.1 no.2.2.1 ac mk p1 = some r ∧ f_X13_size_n th by' p1 = some (r, 0) := by
  obtain ⟨⟨rfl, rfl, rfl, rfl, rfl, rfl, rfl⟩, ⟨e1, e2⟩, ⟨rfl, rfl⟩, -⟩ := h
  rw [e1, e2]
  unfold f_X13_size_n f_X13_in
  by_cases h11 : p1 = 11
  · subst h11; exact ⟨by', rfl, rfl⟩
  rw [if_neg h11]
  by_cases h0 : p1 < 0
  · rw [if_pos h0, bd1_s, if_pos rfl]
    refine ⟨-1, ?_, rfl⟩
    unfold f_X11_size
    have ne : ∀ k : Int32, ¬ k < 0 → ¬ p1 = k := fun k hk e => hk (e ▸ h0)
    rw [if_neg (ne 0 (by decide)), if_neg (ne 1 (by decide)), if_neg (ne 2 (by decide)), if_neg (ne 3 (by decide)), if_neg (ne 4 (by decide)), if_neg (ne 5 (by decide)), if_neg (ne 6 (by decide)), if_neg (ne 7 (by decide)), if_neg (ne 8 (by decide)), if_neg (ne 9 (by decide)), if_neg (ne 10 (by decide)), if_neg h11]
  · rw [if_neg h0]
    by_cases h10 : 10 < p1
    · rw [if_pos h10, bd1_s, if_pos rfl]
      refine ⟨-1, ?_, rfl⟩
      unfold f_X11_size
      have ne : ∀ k : Int32, ¬ 10 < k → ¬ p1 = k := fun k hk e => hk (e ▸ h10)
      rw [if_neg (ne 0 (by decide)), if_neg (ne 1 (by decide)), if_neg (ne 2 (by decide)), if_neg (ne 3 (by decide)), if_neg (ne 4 (by decide)), if_neg (ne 5 (by decide)), if_neg (ne 6 (by decide)), if_neg (ne 7 (by decide)), if_neg (ne 8 (by decide)), if_neg (ne 9 (by decide)), if_neg (ne 10 (by decide)), if_neg h11]
    · rw [if_neg h10, bd1_s, if_neg (by decide)]
      obtain ⟨k, hk, rfl⟩ := nI_of h0
      have hk10 : k ≤ 10 := by
        rcases Nat.lt_or_ge 10 k with q | q
        · exact absurd ((nI_ltI (a := 10) (by decide) hk).mpr q) h10
        · exact q
      have bc : f_J6_bitCount_0f7a4 0 = some 0 := popC 0 (by decide)
      refine ⟨0, ?_, rfl⟩
      rcases (show k = 0 ∨ k = 1 ∨ k = 2 ∨ k = 3 ∨ k = 4 ∨ k = 5 ∨ k = 6 ∨ k = 7 ∨ k = 8 ∨ k = 9 ∨ k = 10 by omega) with rfl | rfl | rfl | rfl | rfl | rfl | rfl | rfl | rfl | rfl | rfl <;> first | rfl | (unfold f_X11_size; rw [if_neg (by decide), if_neg (by decide), if_pos rfl, bc, bd1_s]) | (unfold f_X11_size; rw [if_neg (by decide), if_neg (by decide), if_neg (by decide), if_neg (by decide), if_neg (by decide), if_neg (by decide), if_pos rfl, bc, bd1_s])
