/-! BP: beasts, cities, passes, turned -/
section BP
variable {T : Nat → Int32} {n : Nat}
theorem beastJ (hn : n ≤ 900) (hT : ∀ j, j < 900 → byt (T j)) {e : Nat} (he : e ≤ n) {sp so pl nu : Int32} {wo : Int64} (m : MT T n e sp so pl nu wo) {L b c N : Nat} (hL : 2 ≤ L) (hL6 : L ≤ 6) (hb : b < 5) (hN : N < 11) {kd fla md pr rkd rln rmd rpr : Nat → Int32} (br : BR L b kd fla md pr rkd rln rmd rpr) {ns ne nn nb rso rno : Nat → Int32} {nm : Nat → Int64} (h : NR T n N ns ne nm) (g : NQ N b c nn nb rso rno) (ff fa x y fl wr : Int32) :
    (∃ e2 x2 y2 sp2 so2 pl2 nu2 wo2 ns2 ne2 nn2 nb2 kd2 fla2 md2 pr2 rkd2 rln2 rmd2 rpr2 nm2 rso2 rno2, tkE T n e ≤ e2 ∧ e2 ≤ n ∧ MT T n e2 sp2 so2 pl2 nu2 wo2 ∧ NR T n (N + 1) ns2 ne2 nm2 ∧ NQ (N + 1) (b + 1) c nn2 nb2 rso2 rno2 ∧ BR L (b + 1) kd2 fla2 md2 pr2 rkd2 rln2 rmd2 rpr2 ∧ f_X7_readBeast T (nI N) ff fa ns ne nn nb (nI n) x (nI (tkE T n e)) y (nI L) (nI b) kd fla md pr = some (1, nI (N + 1), ff, fa, ns2, ne2, nn2, nb2, x2, nI e2, y2, nI (b + 1), kd2, fla2, md2, pr2) ∧ f_X13_readBeast (nI n) sp so pl nu fl wr wo T (nI L) (nI b) (nI N) rkd rln rmd rpr nm rso rno = some (sp2, so2, pl2, nu2, fl, wr, wo2, nI (b + 1), nI (N + 1), rkd2, rln2, rmd2, rpr2, nm2, rso2, rno2)) ∨
    (∃ k a u1 u2 u3 u4 u5 u6 u7 u8 u9 u10 u11 u12 u13 v1 v2 v3 v4 v5 v6 v7 v8 v9 v10 v11 v12 v13, 1 ≤ k ∧ k ≤ 6 ∧ f_X7_readBeast T (nI N) ff fa ns ne nn nb (nI n) x (nI (tkE T n e)) y (nI L) (nI b) kd fla md pr = some (0, u1, nI k, nI a, u2, u3, u4, u5, u6, u7, u8, u9, u10, u11, u12, u13) ∧ f_X13_readBeast (nI n) sp so pl nu fl wr wo T (nI L) (nI b) (nI N) rkd rln rmd rpr nm rso rno = some (v1, 5, v2, v3, nI k, nI a, v4, v5, v6, v7, v8, v9, v10, v11, v12, v13)) := by
  have hb0 := tkE_b (T := T) he
  have hb1 := tkE_b (T := T) hb0.2.2
  have hb2 := tkE_b (T := T) hb1.2.2
  obtain ⟨sp1, so1, pl1, nu1, wo1, m1, el⟩ := lbG hn hT he m hL hL6 (show ¬ nI b = (5 : Int32) from fun q => by have := (nI_eq (b := 5) (by omega) (by decide)).mp q; omega) fl wr
  unfold f_X7_readBeast f_X13_readBeast f_X7_fail
  rw [el, bd7_s]
  rcases nnJ hn hT hb0.2.2 m1 h hN nn nb ff fa x y 1 (nI b) fl wr with ⟨sp2, so2, pl2, nu2, wo2, w, m2, hc, hm⟩ | ⟨k, hk1, hk2, hc, hm⟩
  · rw [hc, bd11_s, if10, hm, bd8_s, stepC hn hT hb1.2.2, bd3_s]
    obtain ⟨sp3, so3, pl3, nu3, wo3, eg3, m3⟩ := goM hn hT hb2.2.2 so2 pl2 nu2 wo2 m2.n5
    have nr := h.up hN w
    have nq := g.up (b' := b + 1) (c' := c) (x := b) (t := 1) (by omega) (by omega) (by decide) (fun _ => by omega) (fun q => by omega)
    have kk : ∀ k : Nat, k < 4 → ∀ (OC : Option (Int32 × Int32 × Int32 × Int32 × (Nat → Int32) × (Nat → Int32) × (Nat → Int32) × (Nat → Int32) × Int32 × Int32 × Int32 × Int32 × (Nat → Int32) × (Nat → Int32) × (Nat → Int32) × (Nat → Int32))) (OM : Option (Int32 × Int32 × Int32 × Int32 × Int32 × Int32 × Int64 × Int32 × Int32 × (Nat → Int32) × (Nat → Int32) × (Nat → Int32) × (Nat → Int32) × (Nat → Int64) × (Nat → Int32) × (Nat → Int32))),
        OC = (bd6 (f_X7_readWord T ff fa (nI n) (nI (tkS T n (tkE T n (tkE T n e)))) (nI (tkE T n (tkE T n (tkE T n e)))) (nI (tkK T n (tkE T n (tkE T n e)))) 17) fun r_20 rd_faultFound_21 rd_faultAt_22 tk_start_23 tk_end_24 tk_sort_25 => (if r_20 = 0 then f_X7_readBeast_B67 T (nI n) (nI L) (nI k) (-1) (nI (N + 1)) rd_faultFound_21 rd_faultAt_22 (upd ns N (nI (tkS T n (tkE T n e)))) (upd ne N (nI (tkE T n (tkE T n e)))) (upd nn N (nI b)) (upd nb N (vp_nar .boolean 1)) tk_start_23 tk_end_24 tk_sort_25 (nI b) kd fla md pr else bd6 (f_X7_readWhole T rd_faultFound_21 rd_faultAt_22 (nI n) tk_start_23 tk_end_24 tk_sort_25 (0 : Int32) (nI L - 1)) fun r_64 rd_faultFound_65 rd_faultAt_66 tk_start_67 tk_end_68 tk_sort_69 => f_X7_readBeast_B67 T (nI n) (nI L) (nI k) r_64 (nI (N + 1)) rd_faultFound_65 rd_faultAt_66 (upd ns N (nI (tkS T n (tkE T n e)))) (upd ne N (nI (tkE T n (tkE T n e)))) (upd nn N (nI b)) (upd nb N (vp_nar .boolean 1)) tk_start_67 tk_end_68 tk_sort_69 (nI b) kd fla md pr)) →
        OM = f_X13_readBeast_B84 (nI n) T (nI L) (lN (pkN (lts T (tkS T n (tkE T n e))) (tkE T n (tkE T n e) - tkS T n (tkE T n e)))) (nI k) sp2 so2 pl2 nu2 fl wr wo2 (nI b) (nI N) rkd rln rmd rpr nm rso rno →
        (∃ e2 x2 y2 sp2 so2 pl2 nu2 wo2 ns2 ne2 nn2 nb2 kd2 fla2 md2 pr2 rkd2 rln2 rmd2 rpr2 nm2 rso2 rno2, tkE T n e ≤ e2 ∧ e2 ≤ n ∧ MT T n e2 sp2 so2 pl2 nu2 wo2 ∧ NR T n (N + 1) ns2 ne2 nm2 ∧ NQ (N + 1) (b + 1) c nn2 nb2 rso2 rno2 ∧ BR L (b + 1) kd2 fla2 md2 pr2 rkd2 rln2 rmd2 rpr2 ∧ OC = some (1, nI (N + 1), ff, fa, ns2, ne2, nn2, nb2, x2, nI e2, y2, nI (b + 1), kd2, fla2, md2, pr2) ∧ OM = some (sp2, so2, pl2, nu2, fl, wr, wo2, nI (b + 1), nI (N + 1), rkd2, rln2, rmd2, rpr2, nm2, rso2, rno2)) ∨
        (∃ k a u1 u2 u3 u4 u5 u6 u7 u8 u9 u10 u11 u12 u13 v1 v2 v3 v4 v5 v6 v7 v8 v9 v10 v11 v12 v13, 1 ≤ k ∧ k ≤ 6 ∧ OC = some (0, u1, nI k, nI a, u2, u3, u4, u5, u6, u7, u8, u9, u10, u11, u12, u13) ∧ OM = some (v1, 5, v2, v3, nI k, nI a, v4, v5, v6, v7, v8, v9, v10, v11, v12, v13)) := by
      intro k hk OC OM e1 e2
      unfold f_X13_readBeast_B84 at e2
      rw [m2.1, eg3, bd5_s] at e2
      rcases beK hn hT hb2.2.2 m3 hL hL6 hb hN kd fla md pr rkd rln rmd rpr (lN (pkN (lts T (tkS T n (tkE T n e))) (tkE T n (tkE T n e) - tkS T n (tkE T n e)))) k nm rso rno (nI (N + 1)) (upd ns N (nI (tkS T n (tkE T n e)))) (upd ne N (nI (tkE T n (tkE T n e)))) (upd nn N (nI b)) (upd nb N (vp_nar .boolean 1)) ff fa (nI (tkS T n (tkE T n (tkE T n e)))) (nI (tkK T n (tkE T n (tkE T n e)))) fl wr with ⟨e4, x2, y2, sp4, so4, pl4, nu4, wo4, l, mo, q, a1, a2, a3, a4, a5, a6, m4, c1, c2⟩ | ⟨kk, a, u1, u2, u3, u4, u5, u6, u7, u8, u9, u10, u11, u12, u13, v1, v2, v3, v4, v5, v6, v7, v8, v9, v10, v11, v12, v13, hk1, hk2, c1, c2⟩
      · exact Or.inl ⟨e4, x2, y2, sp4, so4, pl4, nu4, wo4, _, _, _, _, _, _, _, _, _, _, _, _, _, _, _, by omega, a2, m4, nr, nq, br.up hk a3 a4 a5 a6, e1.trans c1, e2.trans c2⟩
      · exact Or.inr ⟨kk, a, u1, u2, u3, u4, u5, u6, u7, u8, u9, u10, u11, u12, u13, v1, v2, v3, v4, v5, v6, v7, v8, v9, v10, v11, v12, v13, hk1, hk2, e1.trans c1, e2.trans c2⟩
    unfold f_X7_kindIsTold f_X13_readBeast_B73
    rw [twC hn hb1.2.2 (p := 13) (by decide), twM hn hT hb1.2.2 m2 (p := 13) (by decide) (by decide), bd1_s, bd1_s]
    cases twB T n (tkE T n (tkE T n e)) 13
    · rw [selF, selF, twC hn hb1.2.2 (p := 14) (by decide), twM hn hT hb1.2.2 m2 (p := 14) (by decide) (by decide), bd1_s, bd1_s]
      cases twB T n (tkE T n (tkE T n e)) 14
      · rw [selF, selF, twC hn hb1.2.2 (p := 15) (by decide), twM hn hT hb1.2.2 m2 (p := 15) (by decide) (by decide), bd1_s, bd1_s]
        cases twB T n (tkE T n (tkE T n e)) 15
        · rw [selF, selF, twC hn hb1.2.2 (p := 16) (by decide), twM hn hT hb1.2.2 m2 (p := 16) (by decide) (by decide), bd1_s, bd1_s]
          cases twB T n (tkE T n (tkE T n e)) 16
          · rw [selF, selF, bd1_s, if_pos rfl, bd3_s, if_pos rfl, flN m2.n5, bd3_s, be84, m2.2.2.1]
            exact Or.inr ⟨1, tkS T n (tkE T n (tkE T n e)), _, _, _, _, _, _, _, _, _, _, _, _, _, _, _, _, _, _, _, _, _, _, _, _, _, _, by decide, by decide, rfl, rfl⟩
          · rw [selT, selT, bd1_s, if_neg (show ¬ (3 : Int32) = -1 by decide), if_neg (show ¬ (3 : Int32) = -1 by decide)]
            exact kk 3 (by decide) _ _ rfl rfl
        · rw [selT, selT, bd1_s, if_neg (show ¬ (2 : Int32) = -1 by decide), if_neg (show ¬ (2 : Int32) = -1 by decide)]
          exact kk 2 (by decide) _ _ rfl rfl
      · rw [selT, selT, bd1_s, if_neg (show ¬ (1 : Int32) = -1 by decide), if_neg (show ¬ (1 : Int32) = -1 by decide)]
        exact kk 1 (by decide) _ _ rfl rfl
    · rw [selT, selT, bd1_s, if_neg (show ¬ (0 : Int32) = -1 by decide), if_neg (show ¬ (0 : Int32) = -1 by decide)]
      exact kk 0 (by decide) _ _ rfl rfl
  · rw [hc, bd11_s, if00, hm, bd8_s]
    simp only [iw5, bd1_s, if_true, be73]
    exact Or.inr ⟨k, tkS T n (tkE T n e), _, _, _, _, _, _, _, _, _, _, _, _, _, _, _, _, _, _, _, _, _, _, _, _, _, _, hk1, hk2, rfl, rfl⟩
theorem beast5 {e : Nat} {sp so pl nu : Int32} {wo : Int64} (m : MT T n e sp so pl nu wo) {L N : Nat} (hL : 2 ≤ L) (hL6 : L ≤ 6) (hN : N ≤ 11) (rkd rln rmd rpr : Nat → Int32) (nm : Nat → Int64) (rso rno : Nat → Int32) (fl wr : Int32) : f_X13_readBeast (nI n) sp so pl nu fl wr wo T (nI L) 5 (nI N) rkd rln rmd rpr nm rso rno = some (sp, 5, pl, nu, 5, nI (tkS T n e), wo, 5, nI N, rkd, rln, rmd, rpr, nm, rso, rno) := by
  unfold f_X13_readBeast
  rw [lbB m hL hL6, bd7_s, fr5 hN, bd8_s]
  simp only [iw5, bd1_s, if_true, be73]
/-! cities -/
theorem ctM {c : Nat} (hc : c < 6) (sz L sp so pl nu fl wr rN : Int32) (wo : Int64) (nm : Nat → Int64) (rso rno lo : Nat → Int32) : ∃ lo', f_X13_readCity_L42 sz T L sp so pl nu fl wr wo (nI c) rN nm rso rno fuelN 0 lo = some (sp, so, pl, nu, fl, wr, wo, nI (c + 1), rN, lo', nm, rso, rno) ∧ ∀ i j, i < 6 → j < 6 → lo' (6 * i + j) = if i = c ∨ j = c then -1 else lo (6 * i + j) := by
  refine loopR (fun f k s => f_X13_readCity_L42 sz T L sp so pl nu fl wr wo (nI c) rN nm rso rno f (nI k) s) 6 (fun k s => ∀ i j, i < 6 → j < 6 → s (6 * i + j) = if (i = c ∧ j < k) ∨ (j = c ∧ i < k) then -1 else lo (6 * i + j)) (fun o => ∃ lo', o = some (sp, so, pl, nu, fl, wr, wo, nI (c + 1), rN, lo', nm, rso, rno) ∧ ∀ i j, i < 6 → j < 6 → lo' (6 * i + j) = if i = c ∨ j = c then -1 else lo (6 * i + j)) ?_ ?_ 6 0 lo fuelN (by omega) (by intro i j _ _; rw [if_neg (by omega)]) (fuel_gt (by omega))
  · intro f k s hk hs
    refine ⟨upd (upd s (6 * c + k) (-1)) (6 * k + c) (-1), ?_, ?_⟩
    · intro i j hi hj
      by_cases q1 : 6 * i + j = 6 * k + c
      · rw [q1, pk_us, if_pos (by omega)]
      · rw [pk_un q1]
        by_cases q2 : 6 * i + j = 6 * c + k
        · rw [q2, pk_us, if_pos (by omega)]
        · rw [pk_un q2, hs i j hi hj]
          by_cases q3 : (i = c ∧ j < k) ∨ (j = c ∧ i < k)
          · rw [if_pos q3, if_pos (by omega)]
          · rw [if_neg q3, if_neg (by omega)]
    · show f_X13_readCity_b42 sz T L sp so pl nu fl wr wo (nI c) rN nm rso rno _ (nI k) s = _
      unfold f_X13_readCity_b42
      rw [if_neg (show ¬ (6 : Int32) ≤ nI k from nI_ge (b := 6) hk (by decide)), i6', i6', gI (show 6 * c + k < 36 by omega) (by decide), gI (show 6 * k + c < 36 by omega) (by decide), nI_clamp (show 6 * c + k < 2 ^ 31 by omega), nI_clamp (show 6 * k + c < 2 ^ 31 by omega), nI_1]
  · intro f s hs
    refine ⟨s, ?_, ?_⟩
    · show f_X13_readCity_b42 sz T L sp so pl nu fl wr wo (nI c) rN nm rso rno _ (nI 6) s = _
      unfold f_X13_readCity_b42 f_X13_readCity_B96
      rw [if_pos (by decide), nI_1]
    · intro i j hi hj
      rw [hs i j hi hj]
      by_cases q : i = c ∨ j = c
      · rw [if_pos q, if_pos (by omega)]
      · rw [if_neg q, if_neg (by omega)]
theorem cityJ (hn : n ≤ 900) (hT : ∀ j, j < 900 → byt (T j)) {e : Nat} (he : e ≤ n) {sp so pl nu : Int32} {wo : Int64} (m : MT T n e sp so pl nu wo) {L b c N : Nat} (hL : 2 ≤ L) (hL6 : L ≤ 6) (hc : c < 6) (hN : N < 11) {pb rlo : Nat → Int32} (cr : CR c pb rlo) {ns ne nn nb rso rno : Nat → Int32} {nm : Nat → Int64} (h : NR T n N ns ne nm) (g : NQ N b c nn nb rso rno) (ff fa x y fl wr : Int32) :
    (∃ e2 x2 y2 sp2 so2 pl2 nu2 wo2 ns2 ne2 nn2 nb2 rlo2 nm2 rso2 rno2, tkE T n e ≤ e2 ∧ e2 ≤ n ∧ MT T n e2 sp2 so2 pl2 nu2 wo2 ∧ NR T n (N + 1) ns2 ne2 nm2 ∧ NQ (N + 1) b (c + 1) nn2 nb2 rso2 rno2 ∧ CR (c + 1) pb rlo2 ∧ f_X7_readCity T (nI N) ff fa ns ne nn nb (nI n) x (nI (tkE T n e)) y (nI c) = some (1, nI (N + 1), ff, fa, ns2, ne2, nn2, nb2, x2, nI e2, y2, nI (c + 1)) ∧ f_X13_readCity (nI n) sp so pl nu fl wr wo T (nI L) (nI c) (nI N) rlo nm rso rno = some (sp2, so2, pl2, nu2, fl, wr, wo2, nI (c + 1), nI (N + 1), rlo2, nm2, rso2, rno2)) ∨
    (∃ k a u1 u2 u3 u4 u5 u6 u7 u8 u9 v1 v2 v3 v4 v5 v6 v7 v8 v9 v10, 1 ≤ k ∧ k ≤ 6 ∧ f_X7_readCity T (nI N) ff fa ns ne nn nb (nI n) x (nI (tkE T n e)) y (nI c) = some (0, u1, nI k, nI a, u2, u3, u4, u5, u6, u7, u8, u9) ∧ f_X13_readCity (nI n) sp so pl nu fl wr wo T (nI L) (nI c) (nI N) rlo nm rso rno = some (v1, 5, v2, v3, nI k, nI a, v4, v5, v6, v7, v8, v9, v10)) := by
  have hb0 := tkE_b (T := T) he
  have hb1 := tkE_b (T := T) hb0.2.2
  obtain ⟨sp1, so1, pl1, nu1, wo1, m1, el⟩ := lbG hn hT he m hL hL6 (show ¬ nI c = (6 : Int32) from fun q => by have := (nI_eq (b := 6) (by omega) (by decide)).mp q; omega) fl wr
  unfold f_X7_readCity f_X13_readCity
  rw [el, bd7_s]
  rcases nnJ hn hT hb0.2.2 m1 h hN nn nb ff fa x y 0 (nI c) fl wr with ⟨sp2, so2, pl2, nu2, wo2, w, m2, hc', hm⟩ | ⟨k, hk1, hk2, hc', hm⟩
  · rw [hc', bd11_s, if10, hm, bd8_s, if_neg m2.n5, namesM hN, bd4_s, nI_1]
    obtain ⟨lo', e3, hlo⟩ := ctM (T := T) hc (nI n) (nI L) sp2 so2 pl2 nu2 fl wr (nI (N + 1)) wo2 (vp_updL nm N (lN (pkN (lts T (tkS T n (tkE T n e))) (tkE T n (tkE T n e) - tkS T n (tkE T n e))))) (upd rso N 1) (upd rno N (nI c)) rlo
    rw [e3]
    have nq := g.up (b' := b) (c' := c + 1) (x := c) (t := 0) (by omega) (by omega) (by decide) (fun q => by omega) (fun _ => by omega)
    refine Or.inl ⟨tkE T n (tkE T n e), _, _, sp2, so2, pl2, nu2, wo2, _, _, _, _, lo', _, _, _, by omega, hb1.2.2, m2, h.up hN w, nq, ⟨by omega, ?_⟩, rfl, rfl⟩
    intro i j hi hj
    obtain ⟨z, z1, z2, z3, z4⟩ := cr.2 i j hi hj
    refine ⟨z, z1, z2, fun h1 h2 => ?_, fun q => z4 (by omega)⟩
    rw [hlo i j hi hj]
    by_cases q : i = c ∨ j = c
    · rw [if_pos q, z4 (by omega)]; rfl
    · rw [if_neg q]; exact z3 (by omega) (by omega)
  · rw [hc', bd11_s, if00, hm, bd8_s, if_pos rfl]
    exact Or.inr ⟨k, tkS T n (tkE T n e), _, _, _, _, _, _, _, _, _, _, _, _, _, _, _, _, _, _, _, hk1, hk2, rfl, rfl⟩
theorem city6 {e : Nat} {sp so pl nu : Int32} {wo : Int64} (m : MT T n e sp so pl nu wo) {L N : Nat} (hL : 2 ≤ L) (hL6 : L ≤ 6) (hN : N ≤ 11) (rlo : Nat → Int32) (nm : Nat → Int64) (rso rno : Nat → Int32) (fl wr : Int32) : f_X13_readCity (nI n) sp so pl nu fl wr wo T (nI L) 6 (nI N) rlo nm rso rno = some (sp, 5, pl, nu, 5, nI (tkS T n e), wo, 6, nI N, rlo, nm, rso, rno) := by
  unfold f_X13_readCity
  rw [lbB m hL hL6, bd7_s, fr5 hN, bd8_s, if_pos rfl]
/-! passes -/
theorem pa65 (sz L rN x1 x2 sp pl nu fl wr : Int32) (wo : Int64) (nm : Nat → Int64) (rso rno : Nat → Int32) (p : Int32) (lo : Nat → Int32) : f_X13_readPass_B65 sz T L rN nm rso rno x1 x2 sp 5 pl nu fl wr wo p lo = some (sp, 5, pl, nu, fl, wr, wo, p, lo) := by
  unfold f_X13_readPass_B65
  rw [go5, bd5_s, rpt5, bd8_s, if_pos rfl]
theorem CR.up {c : Nat} {pb lo : Nat → Int32} (h : CR c pb lo) {a d v : Nat} (ha : a < c) (hd : d < c) (hv : v ≤ 99) : CR c (upd (upd pb (6 * a + d) (nI (v + 1))) (6 * d + a) (nI (v + 1))) (upd (upd lo (6 * a + d) (nI v)) (6 * d + a) (nI v)) := by
  refine ⟨h.1, fun i j hi hj => ?_⟩
  have hc := h.1
  by_cases q1 : 6 * i + j = 6 * d + a
  · rw [q1]
    exact ⟨v + 1, by omega, pk_us, fun _ _ => by rw [pk_us, nI_pred], fun q => by omega⟩
  · rw [pk_un q1, pk_un q1]
    by_cases q2 : 6 * i + j = 6 * a + d
    · rw [q2]
      exact ⟨v + 1, by omega, pk_us, fun _ _ => by rw [pk_us, nI_pred], fun q => by omega⟩
    · rw [pk_un q2, pk_un q2]
      exact h.2 i j hi hj
theorem passJ (hn : n ≤ 900) (hT : ∀ j, j < 900 → byt (T j)) {e : Nat} (he : e ≤ n) {sp so pl nu : Int32} {wo : Int64} (m : MT T n e sp so pl nu wo) {L b c N p : Nat} (hL : 2 ≤ L) (hL6 : L ≤ 6) (hp : p < 9) {pb rlo : Nat → Int32} (cr : CR c pb rlo) {ns ne nn nb rso rno : Nat → Int32} {nm : Nat → Int64} (h : NR T n N ns ne nm) (g : NQ N b c nn nb rso rno) (ff fa x y fl wr : Int32) :
    (∃ e2 x2 y2 sp2 so2 pl2 nu2 wo2 pb2 rlo2, tkE T n e ≤ e2 ∧ e2 ≤ n ∧ MT T n e2 sp2 so2 pl2 nu2 wo2 ∧ CR c pb2 rlo2 ∧ f_X7_readPass T (nI N) ff fa ns ne nn nb (nI n) x (nI (tkE T n e)) y (nI c) (nI p) pb = some (1, ff, fa, x2, nI e2, y2, nI (p + 1), pb2) ∧ f_X13_readPass (nI n) sp so pl nu fl wr wo T (nI L) (nI p) (nI N) rlo nm rso rno = some (sp2, so2, pl2, nu2, fl, wr, wo2, nI (p + 1), rlo2)) ∨
    (∃ k a u1 u2 u3 u4 u5 v1 v2 v3 v4 v5 v6, 1 ≤ k ∧ k ≤ 6 ∧ f_X7_readPass T (nI N) ff fa ns ne nn nb (nI n) x (nI (tkE T n e)) y (nI c) (nI p) pb = some (0, nI k, nI a, u1, u2, u3, u4, u5) ∧ f_X13_readPass (nI n) sp so pl nu fl wr wo T (nI L) (nI p) (nI N) rlo nm rso rno = some (v1, 5, v2, v3, nI k, nI a, v4, v5, v6)) := by
  have hb0 := tkE_b (T := T) he
  have hb1 := tkE_b (T := T) hb0.2.2
  have hb2 := tkE_b (T := T) hb1.2.2
  have hc6 := cr.1
  obtain ⟨sp1, so1, pl1, nu1, wo1, m1, el⟩ := lbG hn hT he m hL hL6 (show ¬ nI p = (9 : Int32) from fun q => by have := (nI_eq (b := 9) (by omega) (by decide)).mp q; omega) fl wr
  unfold f_X7_readPass f_X13_readPass f_X7_readPass_B44 f_X7_readPass_B70 f_X7_fail f_X13_readPass_B60
  rw [el, bd7_s]
  rcases knJ hn hT hb0.2.2 m1 h g (t0 := 0) (by decide) ff fa x y fl wr with ⟨z1, -, hz1, hc1, hm1⟩ | ⟨k, hk1, hk2, hc1, hm1⟩
  · have hc1 : f_X7_readKnownName T (nI N) ff fa ns ne nn nb (nI n) x (nI (tkE T n e)) y 0 = _ := hc1
    have hm1 : f_X13_knownOne so1 pl1 fl wr wo1 (nI N) nm rso rno 1 = _ := hm1
    have hz1 := hz1 rfl
    obtain ⟨sp2, so2, pl2, nu2, wo2, eg2, m2⟩ := goM hn hT hb1.2.2 so1 pl1 nu1 wo1 m1.n5
    rw [hc1, bd6_s, if_neg (nIm1 (show z1 < 2 ^ 31 by omega)), hm1, bd4_s, m1.1, eg2, bd5_s]
    rcases knJ hn hT hb1.2.2 m2 h g (t0 := 0) (by decide) ff fa (nI (tkS T n (tkE T n e))) (nI (tkK T n (tkE T n e))) fl wr with ⟨z2, -, hz2, hc2, hm2⟩ | ⟨k, hk1, hk2, hc2, hm2⟩
    · have hc2 : f_X7_readKnownName T (nI N) ff fa ns ne nn nb (nI n) (nI (tkS T n (tkE T n e))) (nI (tkE T n (tkE T n e))) (nI (tkK T n (tkE T n e))) 0 = _ := hc2
      have hm2 : f_X13_knownOne so2 pl2 fl wr wo2 (nI N) nm rso rno 1 = _ := hm2
      have hz2 := hz2 rfl
      rw [hc2, bd6_s, if_neg (nIm1 (show z2 < 2 ^ 31 by omega)), hm2, bd4_s, if_neg m2.n5]
      have ez : nI z1 = nI z2 ↔ z1 = z2 := nI_eq (by omega) (by omega)
      by_cases q : z1 = z2
      · rw [if_pos (ez.mpr q), if_pos (ez.mpr q), bd3_s, flN m2.n5, bd3_s, pa65, m2.2.2.1]
        exact Or.inr ⟨3, tkS T n (tkE T n (tkE T n e)), _, _, _, _, _, _, _, _, _, _, _, by decide, by decide, rfl, rfl⟩
      · rw [if_neg (fun h => q (ez.mp h)), if_neg (fun h => q (ez.mp h))]
        obtain ⟨w, w1, w2, w3, -⟩ := cr.2 z1 z2 (by omega) (by omega)
        have w3 := w3 hz1 hz2
        have em := m1_iff w1
        have lc : f_X2_lossBetween (nI c) pb (nI z1) (nI z2) = some (nI w - 1) := by
          unfold f_X2_lossBetween
          rw [(hbY (n := c) (by omega) hz1).2.2.1, bd1_s, if10, (hbY (n := c) (by omega) hz2).2.2.1, bd1_s, if10, i6, gI (by omega) (by decide), nI_clamp (by omega), w2]
        rw [lc, bd1_s, i6', gI (show 6 * z1 + z2 < 36 by omega) (by decide), nI_clamp (show 6 * z1 + z2 < 2 ^ 31 by omega), w3]
        by_cases q0 : w = 0
        · rw [if_pos (em.mpr q0), if_pos (em.mpr q0)]
          obtain ⟨sp3, so3, pl3, nu3, wo3, eg3, m3⟩ := goM hn hT hb2.2.2 so2 pl2 nu2 wo2 m2.n5
          unfold f_X13_readPass_B65
          rw [m2.1, eg3, bd5_s]
          rcases rpJ hn hT hb2.2.2 m3 (p := 20) (by decide) (by decide) (lo := 0) (hi := 99) (by omega) (by omega) with ⟨v, e4, x4, y4, x5, y5, sp4, so4, pl4, nu4, wo4, hv0, hv, he4, he4n, hw4, hr4, m4, hp4⟩ | ⟨k, a, x4, y4, z4, r, sp4, pl4, nu4, wo4, hk1, hk2, hw4, hp4⟩ | ⟨k, a, x4, y4, x5, y5, z5, r, sp4, pl4, nu4, wo4, hk1, hk2, hw4, hr4, hp4⟩
          · have hr4 : f_X7_readWhole T ff fa (nI n) x4 (nI (tkE T n (tkE T n (tkE T n (tkE T n e))))) y4 0 99 = _ := hr4 ff fa
            have hp4 : f_X13_readPart (nI n) sp3 so3 pl3 nu3 fl wr wo3 T 20 0 99 = _ := hp4 fl wr
            rw [hw4, bd6_s, if10, hr4, bd6_s, hp4, bd8_s, if_neg (nIm1 (show v < 2 ^ 31 by omega)), if_neg m4.n5]
            unfold f_X2_addPass
            rw [(hbY (n := c) (by omega) hz1).2.2.1, bd1_s, if10, (hbY (n := c) (by omega) hz2).2.2.1, bd1_s, if10, i6, i6, i6', i6', gI (show 6 * z1 + z2 < 36 by omega) (by decide), gI (show 6 * z2 + z1 < 36 by omega) (by decide), bd2_s, gI (show 6 * z1 + z2 < 36 by omega) (by decide), gI (show 6 * z2 + z1 < 36 by omega) (by decide), nI_clamp (show 6 * z1 + z2 < 2 ^ 31 by omega), nI_clamp (show 6 * z2 + z1 < 2 ^ 31 by omega), nI_1, nI_1]
            exact Or.inl ⟨e4, _, _, sp4, so4, pl4, nu4, wo4, _, _, by omega, he4n, m4, cr.up hz1 hz2 hv, rfl, rfl⟩
          · have hp4 : f_X13_readPart (nI n) sp3 so3 pl3 nu3 fl wr wo3 T 20 0 99 = _ := hp4 fl wr
            rw [hw4, bd6_s, if00, hp4, bd8_s, if_pos rfl, if_pos rfl]
            exact Or.inr ⟨k, a, _, _, _, _, _, _, _, _, _, _, _, hk1, hk2, rfl, rfl⟩
          · have hr4 : f_X7_readWhole T ff fa (nI n) x4 (nI (tkE T n (tkE T n (tkE T n (tkE T n e))))) y4 0 99 = _ := hr4 ff fa
            have hp4 : f_X13_readPart (nI n) sp3 so3 pl3 nu3 fl wr wo3 T 20 0 99 = _ := hp4 fl wr
            rw [hw4, bd6_s, if10, hr4, bd6_s, hp4, bd8_s, if_pos rfl, if_pos rfl]
            exact Or.inr ⟨k, a, _, _, _, _, _, _, _, _, _, _, _, hk1, hk2, rfl, rfl⟩
        · rw [if_neg (fun h => q0 (em.mp h)), if_neg (fun h => q0 (em.mp h)), bd3_s, flN m2.n5, bd3_s, pa65, m2.2.2.1]
          exact Or.inr ⟨3, tkS T n (tkE T n (tkE T n e)), _, _, _, _, _, _, _, _, _, _, _, by decide, by decide, rfl, rfl⟩
    · have hc2 : f_X7_readKnownName T (nI N) ff fa ns ne nn nb (nI n) (nI (tkS T n (tkE T n e))) (nI (tkE T n (tkE T n e))) (nI (tkK T n (tkE T n e))) 0 = _ := hc2
      have hm2 : f_X13_knownOne so2 pl2 fl wr wo2 (nI N) nm rso rno 1 = _ := hm2
      rw [hc2, bd6_s, if_pos rfl, hm2, bd4_s, if_pos rfl, pa65]
      exact Or.inr ⟨k, tkS T n (tkE T n (tkE T n e)), _, _, _, _, _, _, _, _, _, _, _, hk1, hk2, rfl, rfl⟩
  · have hc1 : f_X7_readKnownName T (nI N) ff fa ns ne nn nb (nI n) x (nI (tkE T n e)) y 0 = _ := hc1
    have hm1 : f_X13_knownOne so1 pl1 fl wr wo1 (nI N) nm rso rno 1 = _ := hm1
    rw [hc1, bd6_s, if_pos rfl, hm1, bd4_s, go5, bd5_s, ko5 h.1, bd4_s, if_pos rfl, pa65]
    exact Or.inr ⟨k, tkS T n (tkE T n e), _, _, _, _, _, _, _, _, _, _, _, hk1, hk2, rfl, rfl⟩
theorem pass9 {e : Nat} {sp so pl nu : Int32} {wo : Int64} (m : MT T n e sp so pl nu wo) {L N : Nat} (hL : 2 ≤ L) (hL6 : L ≤ 6) (hN : N ≤ 11) (rlo : Nat → Int32) (nm : Nat → Int64) (rso rno : Nat → Int32) (fl wr : Int32) : f_X13_readPass (nI n) sp so pl nu fl wr wo T (nI L) 9 (nI N) rlo nm rso rno = some (sp, 5, pl, nu, 5, nI (tkS T n e), wo, 9, rlo) := by
  unfold f_X13_readPass
  rw [lbB m hL hL6, bd7_s, ko5 hN, bd4_s, go5, bd5_s, ko5 hN, bd4_s, if_pos rfl, pa65]
/-! turned -/
theorem tu39 (sz L rN x1 sp pl nu fl wr : Int32) (wo : Int64) (nm : Nat → Int64) (rso rno : Nat → Int32) (u : Int32) : f_X13_readTurned_B39 sz T L rN nm rso rno x1 sp 5 pl nu fl wr wo u = some (sp, 5, pl, nu, fl, wr, wo, u) := by
  unfold f_X13_readTurned_B39
  rw [go5, bd5_s, if_pos rfl]
theorem turnJ (hn : n ≤ 900) (hT : ∀ j, j < 900 → byt (T j)) {e : Nat} (he : e ≤ n) {sp so pl nu : Int32} {wo : Int64} (m : MT T n e sp so pl nu wo) {L b c N u : Nat} (hL : 2 ≤ L) (hL6 : L ≤ 6) (hb5 : b ≤ 5) (hu : u < 2 ^ b) {ns ne nn nb rso rno : Nat → Int32} {nm : Nat → Int64} (h : NR T n N ns ne nm) (g : NQ N b c nn nb rso rno) (ff fa x y fl wr : Int32) :
    (∃ e2 x2 y2 sp2 so2 pl2 nu2 wo2 u2, tkE T n e ≤ e2 ∧ e2 ≤ n ∧ MT T n e2 sp2 so2 pl2 nu2 wo2 ∧ u2 < 2 ^ b ∧ f_X7_readTurned T (nI N) ff fa ns ne nn nb (nI n) x (nI (tkE T n e)) y (nI u) = some (1, ff, fa, x2, nI e2, y2, nI u2) ∧ f_X13_readTurned (nI n) sp so pl nu fl wr wo T (nI L) (nI u) (nI N) nm rso rno = some (sp2, so2, pl2, nu2, fl, wr, wo2, nI u2)) ∨
    (∃ k a u1 u2 u3 u4 v1 v2 v3 v4 v5, 1 ≤ k ∧ k ≤ 6 ∧ f_X7_readTurned T (nI N) ff fa ns ne nn nb (nI n) x (nI (tkE T n e)) y (nI u) = some (0, nI k, nI a, u1, u2, u3, u4) ∧ f_X13_readTurned (nI n) sp so pl nu fl wr wo T (nI L) (nI u) (nI N) nm rso rno = some (v1, 5, v2, v3, nI k, nI a, v4, v5)) := by
  have hb0 := tkE_b (T := T) he
  have hb1 := tkE_b (T := T) hb0.2.2
  have h2 : 2 ^ b ≤ 32 := Nat.pow_le_pow_right (n := 2) (by decide) hb5
  obtain ⟨sp1, so1, pl1, nu1, wo1, m1, el⟩ := lbG hn hT he m hL hL6 (show ¬ (0 : Int32) = 1 by decide) fl wr
  unfold f_X7_readTurned f_X13_readTurned f_X7_fail
  rw [el, bd7_s]
  rcases knJ hn hT hb0.2.2 m1 h g (t0 := 1) (by decide) ff fa x y fl wr with ⟨z, hz, -, hc1, hm1⟩ | ⟨k, hk1, hk2, hc1, hm1⟩
  · have hc1 : f_X7_readKnownName T (nI N) ff fa ns ne nn nb (nI n) x (nI (tkE T n e)) y 1 = _ := hc1
    have hm1 : f_X13_knownOne so1 pl1 fl wr wo1 (nI N) nm rso rno 0 = _ := hm1
    have hz := hz rfl
    obtain ⟨-, t2⟩ := tell0 (B := u) (v := z) (by omega) (by omega)
    rw [hc1, bd6_s, if_neg (nIm1 (show z < 2 ^ 31 by omega)), t2, bd1_s, hm1, bd4_s, if_neg m1.n5, bitM (by omega) (by omega), bd1_s]
    cases bit u z
    · rw [selF, selF]
      obtain ⟨sp2, so2, pl2, nu2, wo2, eg2, m2⟩ := goM hn hT hb1.2.2 so1 pl1 nu1 wo1 m1.n5
      unfold f_X13_readTurned_B39
      rw [m1.1, eg2, bd5_s, if_neg m2.n5, shlN (by omega), nI_or]
      exact Or.inl ⟨tkE T n (tkE T n e), _, _, sp2, so2, pl2, nu2, wo2, u ||| 2 ^ z, by omega, hb1.2.2, m2, Nat.or_lt_two_pow hu (Nat.pow_lt_pow_right (by decide) hz), rfl, rfl⟩
    · rw [selT, selT, bd3_s, flN m1.n5, bd3_s, tu39, m1.2.2.1]
      exact Or.inr ⟨3, tkS T n (tkE T n e), _, _, _, _, _, _, _, _, _, by decide, by decide, rfl, rfl⟩
  · have hc1 : f_X7_readKnownName T (nI N) ff fa ns ne nn nb (nI n) x (nI (tkE T n e)) y 1 = _ := hc1
    have hm1 : f_X13_knownOne so1 pl1 fl wr wo1 (nI N) nm rso rno 0 = _ := hm1
    rw [hc1, bd6_s, if_pos rfl, hm1, bd4_s, if_pos rfl, tu39]
    exact Or.inr ⟨k, tkS T n (tkE T n e), _, _, _, _, _, _, _, _, _, hk1, hk2, rfl, rfl⟩
end BP
