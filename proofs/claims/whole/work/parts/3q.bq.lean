/-! BQ: a text, line by line -/
def DR (T : Nat → Int32) (n L B b c p u : Nat) (ns ne nn nb wh fs kd fla md pr pb : Nat → Int32) (rwh rst rkd rln rmd rpr rlo : Nat → Int32) (rnm : Nat → Int64) (rso rno : Nat → Int32) : Prop := (B < 2 ^ L ∧ b ≤ 5 ∧ p ≤ 9 ∧ u < 2 ^ b) ∧ LR wh fs rwh rst ∧ BR L b kd fla md pr rkd rln rmd rpr ∧ CR c pb rlo ∧ NR T n (b + c) ns ne rnm ∧ NQ (b + c) b c nn nb rso rno
section BQ
variable {T : Nat → Int32} {n : Nat}
theorem fi15 (sz sp pl nu fl wr : Int32) (wo : Int64) (l d : Int32) : f_X13_readField_B15 sz T sp 5 pl nu fl wr wo l d = some (sp, 5, pl, nu, fl, wr, wo, l, d) := by
  unfold f_X13_readField_B15
  rw [go5, bd5_s, rpt5, bd8_s, rpt5, bd8_s, if_pos rfl]
theorem lineJ (hn : n ≤ 900) (hT : ∀ j, j < 900 → byt (T j)) {e : Nat} (he : e ≤ n) {sp so pl nu : Int32} {wo : Int64} (m : MT T n e sp so pl nu wo) {L B b c p u : Nat} (hL : 2 ≤ L) (hL6 : L ≤ 6) {ns ne nn nb wh fs kd fla md pr pb : Nat → Int32} {rwh rst rkd rln rmd rpr rlo : Nat → Int32} {rnm : Nat → Int64} {rso rno : Nat → Int32} (d : DR T n L B b c p u ns ne nn nb wh fs kd fla md pr pb rwh rst rkd rln rmd rpr rlo rnm rso rno) (D ff fa x y fl wr : Int32) :
    (∃ e2 x2 y2 sp2 so2 pl2 nu2 wo2 B2 b2 c2 p2 u2 ns2 ne2 nn2 nb2 wh2 fs2 kd2 fla2 md2 pr2 pb2 rwh2 rst2 rkd2 rln2 rmd2 rpr2 rlo2 rnm2 rso2 rno2, tkE T n e ≤ e2 ∧ e2 ≤ n ∧ MT T n e2 sp2 so2 pl2 nu2 wo2 ∧ DR T n L B2 b2 c2 p2 u2 ns2 ne2 nn2 nb2 wh2 fs2 kd2 fla2 md2 pr2 pb2 rwh2 rst2 rkd2 rln2 rmd2 rpr2 rlo2 rnm2 rso2 rno2 ∧ f_X7_readLine T (nI (b + c)) ff fa ns ne nn nb (nI n) x (nI e) y (nI L) (nI B) (nI b) (nI c) (nI p) (nI u) wh fs kd fla md pr pb = some (1, nI (b2 + c2), ff, fa, ns2, ne2, nn2, nb2, x2, nI e2, y2, nI B2, nI b2, nI c2, nI p2, nI u2, wh2, fs2, kd2, fla2, md2, pr2, pb2) ∧ f_X13_readLine (nI n) sp so pl nu fl wr (nI B) wo T (nI L) D (nI (popN B)) (nI b) (nI c) (nI p) (nI u) (nI (b + c)) rwh rst rkd rln rmd rpr rlo rnm rso rno = some (sp2, so2, pl2, nu2, fl, wr, nI B2, wo2, nI L, D, nI (popN B2), nI b2, nI c2, nI p2, nI u2, nI (b2 + c2), rwh2, rst2, rkd2, rln2, rmd2, rpr2, rlo2, rnm2, rso2, rno2)) ∨
    (∃ k a u1 u2 u3 u4 u5 u6 u7 u8 u9 u10 u11 u12 u13 u14 u15 u16 u17 u18 u19 u20 v1 v2 v3 v4 v5 v6 v7 v8 v9 v10 v11 v12 v13 v14 v15 v16 v17 v18 v19 v20 v21 v22 v23, 1 ≤ k ∧ k ≤ 6 ∧ f_X7_readLine T (nI (b + c)) ff fa ns ne nn nb (nI n) x (nI e) y (nI L) (nI B) (nI b) (nI c) (nI p) (nI u) wh fs kd fla md pr pb = some (0, u1, nI k, nI a, u2, u3, u4, u5, u6, u7, u8, u9, u10, u11, u12, u13, u14, u15, u16, u17, u18, u19, u20) ∧ f_X13_readLine (nI n) sp so pl nu fl wr (nI B) wo T (nI L) D (nI (popN B)) (nI b) (nI c) (nI p) (nI u) (nI (b + c)) rwh rst rkd rln rmd rpr rlo rnm rso rno = some (v1, 5, v2, v3, nI k, nI a, v4, v5, v6, v7, v8, v9, v10, v11, v12, v13, v14, v15, v16, v17, v18, v19, v20, v21, v22, v23)) := by
  obtain ⟨⟨dB, db, dp, du⟩, lr, br, cr, nr, nq⟩ := d
  have hN := nr.1
  have hc6 := cr.1
  have hb := tkE_b (T := T) he
  unfold f_X7_readLine f_X13_readLine f_X7_fail
  rw [stepC hn hT he, bd3_s, twC hn he (p := 1) (by decide), twM hn hT he m (p := 1) (by decide) (by decide), bd1_s, bd1_s]
  cases twB T n e 1
  · rw [selF, selF, twC hn he (p := 2) (by decide), twM hn hT he m (p := 2) (by decide) (by decide), bd1_s, bd1_s]
    cases twB T n e 2
    · rw [selF, selF, twC hn he (p := 3) (by decide), twM hn hT he m (p := 3) (by decide) (by decide), bd1_s, bd1_s]
      cases twB T n e 3
      · rw [selF, selF, twC hn he (p := 4) (by decide), twM hn hT he m (p := 4) (by decide) (by decide), bd1_s, bd1_s]
        cases twB T n e 4
        · rw [selF, selF, twC hn he (p := 5) (by decide), twM hn hT he m (p := 5) (by decide) (by decide), bd1_s, bd1_s]
          cases twB T n e 5
          · rw [selF, selF, twC hn he (p := 6) (by decide), twM hn hT he m (p := 6) (by decide) (by decide), bd1_s, bd1_s]
            cases twB T n e 6
            · rw [selF, selF, bd3_s, flN m.n5, bd3_s, m.2.2.1]
              exact Or.inr ⟨1, tkS T n e, _, _, _, _, _, _, _, _, _, _, _, _, _, _, _, _, _, _, _, _, _, _, _, _, _, _, _, _, _, _, _, _, _, _, _, _, _, _, _, _, _, _, _, by decide, by decide, rfl, rfl⟩
            · rw [selT, selT]
              rcases turnJ hn hT he m hL hL6 db du nr nq ff fa (nI (tkS T n e)) (nI (tkK T n e)) fl wr with ⟨e2, x2, y2, sp2, so2, pl2, nu2, wo2, u2, a1, a2, m2, a3, hC, hM⟩ | ⟨k, a, u1, u2, u3, u4, v1, v2, v3, v4, v5, k1, k2, hC, hM⟩
              · rw [hC, bd7_s, hM, bd8_s]
                exact Or.inl ⟨e2, x2, y2, sp2, so2, pl2, nu2, wo2, B, b, c, p, u2, ns, ne, nn, nb, wh, fs, kd, fla, md, pr, pb, rwh, rst, rkd, rln, rmd, rpr, rlo, rnm, rso, rno, a1, a2, m2, ⟨⟨dB, db, dp, a3⟩, lr, br, cr, nr, nq⟩, rfl, rfl⟩
              · rw [hC, bd7_s, hM, bd8_s]
                exact Or.inr ⟨k, a, _, _, _, _, _, _, _, _, _, _, _, _, _, _, _, _, _, _, _, _, _, _, _, _, _, _, _, _, _, _, _, _, _, _, _, _, _, _, _, _, _, _, _, k1, k2, rfl, rfl⟩
          · rw [selT, selT]
            by_cases q : p = 9
            · subst q
              have hM : f_X13_readPass (nI n) sp so pl nu fl wr wo T (nI L) (nI 9) (nI (b + c)) rlo rnm rso rno = _ := pass9 m hL hL6 hN rlo rnm rso rno fl wr
              rw [if_pos (show (9 : Int32) ≤ nI 9 by decide), bd3_s, hM, bd9_s]
              exact Or.inr ⟨5, tkS T n e, _, _, _, _, _, _, _, _, _, _, _, _, _, _, _, _, _, _, _, _, _, _, _, _, _, _, _, _, _, _, _, _, _, _, _, _, _, _, _, _, _, _, _, by decide, by decide, rfl, rfl⟩
            · rw [if_neg (show ¬ (9 : Int32) ≤ nI p from nI_ge (b := 9) (by omega) (by decide))]
              rcases passJ hn hT he m hL hL6 (show p < 9 by omega) cr nr nq ff fa (nI (tkS T n e)) (nI (tkK T n e)) fl wr with ⟨e2, x2, y2, sp2, so2, pl2, nu2, wo2, pb2, rlo2, a1, a2, m2, a3, hC, hM⟩ | ⟨k, a, u1, u2, u3, u4, u5, v1, v2, v3, v4, v5, v6, k1, k2, hC, hM⟩
              · rw [hC, bd8_s, hM, bd9_s]
                exact Or.inl ⟨e2, x2, y2, sp2, so2, pl2, nu2, wo2, B, b, c, p + 1, u, ns, ne, nn, nb, wh, fs, kd, fla, md, pr, pb2, rwh, rst, rkd, rln, rmd, rpr, rlo2, rnm, rso, rno, a1, a2, m2, ⟨⟨dB, db, by omega, du⟩, lr, br, a3, nr, nq⟩, rfl, rfl⟩
              · rw [hC, bd8_s, hM, bd9_s]
                exact Or.inr ⟨k, a, _, _, _, _, _, _, _, _, _, _, _, _, _, _, _, _, _, _, _, _, _, _, _, _, _, _, _, _, _, _, _, _, _, _, _, _, _, _, _, _, _, _, _, k1, k2, rfl, rfl⟩
        · rw [selT, selT]
          by_cases q : c = 6
          · subst q
            have hM : f_X13_readCity (nI n) sp so pl nu fl wr wo T (nI L) (nI 6) (nI (b + 6)) rlo rnm rso rno = _ := city6 m hL hL6 hN rlo rnm rso rno fl wr
            rw [if_pos (show (6 : Int32) ≤ nI 6 by decide), bd3_s, hM, bd13_s]
            exact Or.inr ⟨5, tkS T n e, _, _, _, _, _, _, _, _, _, _, _, _, _, _, _, _, _, _, _, _, _, _, _, _, _, _, _, _, _, _, _, _, _, _, _, _, _, _, _, _, _, _, _, by decide, by decide, rfl, rfl⟩
          · rw [if_neg (show ¬ (6 : Int32) ≤ nI c from nI_ge (b := 6) (by omega) (by decide))]
            rcases cityJ hn hT he m hL hL6 (show c < 6 by omega) (show b + c < 11 by omega) cr nr nq ff fa (nI (tkS T n e)) (nI (tkK T n e)) fl wr with ⟨e2, x2, y2, sp2, so2, pl2, nu2, wo2, ns2, ne2, nn2, nb2, rlo2, rnm2, rso2, rno2, a1, a2, m2, a3, a4, a5, hC, hM⟩ | ⟨k, a, u1, u2, u3, u4, u5, u6, u7, u8, u9, v1, v2, v3, v4, v5, v6, v7, v8, v9, v10, k1, k2, hC, hM⟩
            · rw [hC, bd12_s, hM, bd13_s]
              exact Or.inl ⟨e2, x2, y2, sp2, so2, pl2, nu2, wo2, B, b, c + 1, p, u, ns2, ne2, nn2, nb2, wh, fs, kd, fla, md, pr, pb, rwh, rst, rkd, rln, rmd, rpr, rlo2, rnm2, rso2, rno2, a1, a2, m2, ⟨⟨dB, db, dp, du⟩, lr, br, a5, a3, a4⟩, rfl, rfl⟩
            · rw [hC, bd12_s, hM, bd13_s]
              exact Or.inr ⟨k, a, _, _, _, _, _, _, _, _, _, _, _, _, _, _, _, _, _, _, _, _, _, _, _, _, _, _, _, _, _, _, _, _, _, _, _, _, _, _, _, _, _, _, _, k1, k2, rfl, rfl⟩
      · rw [selT, selT]
        by_cases q : b = 5
        · subst q
          have hM : f_X13_readBeast (nI n) sp so pl nu fl wr wo T (nI L) (nI 5) (nI (5 + c)) rkd rln rmd rpr rnm rso rno = _ := beast5 m hL hL6 hN rkd rln rmd rpr rnm rso rno fl wr
          rw [if_pos (show (5 : Int32) ≤ nI 5 by decide), bd3_s, hM, bd16_s]
          exact Or.inr ⟨5, tkS T n e, _, _, _, _, _, _, _, _, _, _, _, _, _, _, _, _, _, _, _, _, _, _, _, _, _, _, _, _, _, _, _, _, _, _, _, _, _, _, _, _, _, _, _, by decide, by decide, rfl, rfl⟩
        · rw [if_neg (show ¬ (5 : Int32) ≤ nI b from nI_ge (b := 5) (by omega) (by decide))]
          rcases beastJ hn hT he m hL hL6 (show b < 5 by omega) (show b + c < 11 by omega) br nr nq ff fa (nI (tkS T n e)) (nI (tkK T n e)) fl wr with ⟨e2, x2, y2, sp2, so2, pl2, nu2, wo2, ns2, ne2, nn2, nb2, kd2, fla2, md2, pr2, rkd2, rln2, rmd2, rpr2, rnm2, rso2, rno2, a1, a2, m2, a3, a4, a5, hC, hM⟩ | ⟨k, a, u1, u2, u3, u4, u5, u6, u7, u8, u9, u10, u11, u12, u13, v1, v2, v3, v4, v5, v6, v7, v8, v9, v10, v11, v12, v13, k1, k2, hC, hM⟩
          · rw [hC, bd16_s, hM, bd16_s]
            have eN : b + c + 1 = b + 1 + c := by omega
            rw [eN] at a3 a4 ⊢
            have hu : u < 2 ^ (b + 1) := by rw [Nat.pow_succ]; omega
            exact Or.inl ⟨e2, x2, y2, sp2, so2, pl2, nu2, wo2, B, b + 1, c, p, u, ns2, ne2, nn2, nb2, wh, fs, kd2, fla2, md2, pr2, pb, rwh, rst, rkd2, rln2, rmd2, rpr2, rlo, rnm2, rso2, rno2, a1, a2, m2, ⟨⟨dB, by omega, dp, hu⟩, lr, a5, cr, a3, a4⟩, rfl, rfl⟩
          · rw [hC, bd16_s, hM, bd16_s]
            exact Or.inr ⟨k, a, _, _, _, _, _, _, _, _, _, _, _, _, _, _, _, _, _, _, _, _, _, _, _, _, _, _, _, _, _, _, _, _, _, _, _, _, _, _, _, _, _, _, _, k1, k2, rfl, rfl⟩
    · rw [selT, selT]
      rcases laneJ hn hT he m hL hL6 dB lr ff fa (nI (tkS T n e)) (nI (tkK T n e)) fl wr with ⟨e2, x2, y2, sp2, so2, pl2, nu2, wo2, B2, wh2, fs2, rwh2, rst2, a1, a2, a3, a4, m2, hC, hM⟩ | ⟨k, a, u1, u2, u3, u4, u5, u6, v1, v2, v3, v4, v5, v6, v7, v8, k1, k2, hC, hM⟩
      · rw [hC, bd9_s, hM, bd11_s]
        exact Or.inl ⟨e2, x2, y2, sp2, so2, pl2, nu2, wo2, B2, b, c, p, u, ns, ne, nn, nb, wh2, fs2, kd, fla, md, pr, pb, rwh2, rst2, rkd, rln, rmd, rpr, rlo, rnm, rso, rno, a1, a2, m2, ⟨⟨a3, db, dp, du⟩, a4, br, cr, nr, nq⟩, rfl, rfl⟩
      · rw [hC, bd9_s, hM, bd11_s]
        exact Or.inr ⟨k, a, _, _, _, _, _, _, _, _, _, _, _, _, _, _, _, _, _, _, _, _, _, _, _, _, _, _, _, _, _, _, _, _, _, _, _, _, _, _, _, _, _, _, _, k1, k2, rfl, rfl⟩
  · rw [selT, selT, bd3_s]
    unfold f_X13_readField
    rw [if_neg (nI_nle (show 0 < L by omega) (by omega)), flN m.n5, bd3_s, fi15, bd9_s, m.2.2.1]
    exact Or.inr ⟨3, tkS T n e, _, _, _, _, _, _, _, _, _, _, _, _, _, _, _, _, _, _, _, _, _, _, _, _, _, _, _, _, _, _, _, _, _, _, _, _, _, _, _, _, _, _, _, by decide, by decide, rfl, rfl⟩
theorem end0 (sz : Int32) (g : Nat) (sp pl nu k a mlt : Int32) (wo : Int64) (l d z1 z2 z3 z4 z5 z6 : Int32) (w1 w2 w3 w4 w5 w6 w7 : Nat → Int32) (w8 : Nat → Int64) (w9 w10 : Nat → Int32) : (bd6 (f_X13_eatsSemicolon sz sp 5 pl nu wo T) fun r sp so pl nu wo => f_X13_readAll_L7 sz T (g + 1) r sp so pl nu k a mlt wo l d z1 z2 z3 z4 z5 z6 w1 w2 w3 w4 w5 w6 w7 w8 w9 w10) = some (sp, 5, pl, nu, k, a, mlt, wo, l, d, z1, z2, z3, z4, z5, z6, w1, w2, w3, w4, w5, w6, w7, w8, w9, w10) := by
  unfold f_X13_eatsSemicolon f_X13_eatsSemicolon_B13
  rw [if_neg (show ¬ (5 : Int32) = 4 by decide), if00, bd6_s]
  show f_X13_readAll_b7 sz T _ 0 sp 5 pl nu k a mlt wo l d z1 z2 z3 z4 z5 z6 w1 w2 w3 w4 w5 w6 w7 w8 w9 w10 = _
  unfold f_X13_readAll_b7 f_X13_readAll_B23 f_X13_readAll_B36
  rw [if00, if_neg (show ¬ (5 : Int32) = 1 by decide), fl5, bd3_s]
  split
  · rw [fl5, bd3_s]
  · rfl
theorem lv0 (f : Nat) (sz l d i N k a : Int32) (ns ne nn nb : Nat → Int32) (x e y z1 z2 z3 z4 z5 : Int32) (w1 w2 w3 w4 w5 w6 w7 : Nat → Int32) : f_X7_readText_L37 T sz l d (f + 1) 0 i N k a ns ne nn nb x e y z1 z2 z3 z4 z5 w1 w2 w3 w4 w5 w6 w7 = some (k, N, k, a, ns, ne, nn, nb, sz, x, e, y, l, d, z1, z2, z3, z4, z5, w1, w2, w3, w4, w5, w6, w7) := by
  show f_X7_readText_b37 T sz l d _ 0 i N k a ns ne nn nb x e y z1 z2 z3 z4 z5 w1 w2 w3 w4 w5 w6 w7 = _
  unfold f_X7_readText_b37 f_X7_readText_B98
  rw [if00, if00]
theorem tk3 {e : Nat} (h : tkK T n e = 3) : tkE T n e = tkS T n e + 1 := by
  unfold tkK at h
  unfold tkE
  generalize tkS T n e = s at h ⊢
  unfold tkQ at h
  unfold tkW
  by_cases q1 : n ≤ s
  · rw [if_pos q1] at h; omega
  · rw [if_neg q1] at h ⊢
    by_cases q2 : T s = 59
    · rw [if_pos q2]
    · rw [if_neg q2] at h
      split at h
      · split at h <;> omega
      · split at h
        · split at h <;> omega
        · omega
theorem finE (hn : n ≤ 900) (hT : ∀ j, j < 900 → byt (T j)) {L : Nat} (hL : 2 ≤ L) (hL6 : L ≤ 6) (D ff fa fl wr : Int32) (e i f g : Nat) (sp so pl nu : Int32) (wo : Int64) (B b c p u : Nat) (ns ne nn nb wh fs kd fla md pr pb : Nat → Int32) (rwh rst rkd rln rmd rpr rlo : Nat → Int32) (rnm : Nat → Int64) (rso rno : Nat → Int32) (x y : Int32) (he : e ≤ n) (hi : i < e) (hf : 0 < f) (hg : 0 < g) (m : MT T n e sp so pl nu wo) (d : DR T n L B b c p u ns ne nn nb wh fs kd fla md pr pb rwh rst rkd rln rmd rpr rlo rnm rso rno) (q0 : tkK T n e = 0) : (∃ x2 te2 y2 sp2 so2 pl2 nu2 wo2 B2 b2 c2 p2 u2 ns2 ne2 nn2 nb2 wh2 fs2 kd2 fla2 md2 pr2 pb2 rwh2 rst2 rkd2 rln2 rmd2 rpr2 rlo2 rnm2 rso2 rno2, 1 ≤ b2 ∧ DR T n L B2 b2 c2 p2 u2 ns2 ne2 nn2 nb2 wh2 fs2 kd2 fla2 md2 pr2 pb2 rwh2 rst2 rkd2 rln2 rmd2 rpr2 rlo2 rnm2 rso2 rno2 ∧ f_X7_readText_L37 T (nI n) (nI L) D f 1 (nI i) (nI (b + c)) ff fa ns ne nn nb x (nI e) y (nI B) (nI b) (nI c) (nI p) (nI u) wh fs kd fla md pr pb = some (ff, nI (b2 + c2), ff, fa, ns2, ne2, nn2, nb2, nI n, x2, te2, y2, nI L, D, nI B2, nI b2, nI c2, nI p2, nI u2, wh2, fs2, kd2, fla2, md2, pr2, pb2) ∧ (bd6 (f_X13_eatsSemicolon (nI n) sp so pl nu wo T) fun r sp so pl nu wo => f_X13_readAll_L7 (nI n) T g r sp so pl nu fl wr (nI B) wo (nI L) D (nI (popN B)) (nI b) (nI c) (nI p) (nI u) (nI (b + c)) rwh rst rkd rln rmd rpr rlo rnm rso rno) = some (sp2, so2, pl2, nu2, fl, wr, nI B2, wo2, nI L, D, nI (popN B2), nI b2, nI c2, nI p2, nI u2, nI (b2 + c2), rwh2, rst2, rkd2, rln2, rmd2, rpr2, rlo2, rnm2, rso2, rno2)) ∨ (∃ k a u1 u2 u3 u4 u5 u6 u7 u8 u9 u10 u11 u12 u13 u14 u15 u16 u17 u18 u19 u20 u21 u22 u23 v1 v2 v3 v4 v5 v6 v7 v8 v9 v10 v11 v12 v13 v14 v15 v16 v17 v18 v19 v20 v21 v22 v23, 1 ≤ k ∧ k ≤ 6 ∧ f_X7_readText_L37 T (nI n) (nI L) D f 1 (nI i) (nI (b + c)) ff fa ns ne nn nb x (nI e) y (nI B) (nI b) (nI c) (nI p) (nI u) wh fs kd fla md pr pb = some (nI k, u1, nI k, nI a, u2, u3, u4, u5, u6, u7, u8, u9, u10, u11, u12, u13, u14, u15, u16, u17, u18, u19, u20, u21, u22, u23) ∧ (bd6 (f_X13_eatsSemicolon (nI n) sp so pl nu wo T) fun r sp so pl nu wo => f_X13_readAll_L7 (nI n) T g r sp so pl nu fl wr (nI B) wo (nI L) D (nI (popN B)) (nI b) (nI c) (nI p) (nI u) (nI (b + c)) rwh rst rkd rln rmd rpr rlo rnm rso rno) = some (v1, 5, v2, v3, nI k, nI a, v4, v5, v6, v7, v8, v9, v10, v11, v12, v13, v14, v15, v16, v17, v18, v19, v20, v21, v22, v23)) := by
  obtain ⟨f, rfl⟩ : ∃ z, f = z + 1 := ⟨f - 1, by omega⟩
  obtain ⟨g, rfl⟩ : ∃ z, g = z + 1 := ⟨g - 1, by omega⟩
  have ms := mso_i (tkK_le T n e)
  have db := d.1.2.1
  have so1 : so = 1 := by rw [m.2.1]; exact ms.1.mpr q0
  have es : f_X7_readText_b37 T (nI n) (nI L) D (f_X7_readText_L37 T (nI n) (nI L) D f) 1 (nI i) (nI (b + c)) ff fa ns ne nn nb x (nI e) y (nI B) (nI b) (nI c) (nI p) (nI u) wh fs kd fla md pr pb = f_X7_readText_L37 T (nI n) (nI L) D (f + 1) 1 (nI i) (nI (b + c)) ff fa ns ne nn nb x (nI e) y (nI B) (nI b) (nI c) (nI p) (nI u) wh fs kd fla md pr pb := rfl
  rw [← es]
  unfold f_X7_readText_b37 f_X7_readText_B98 f_X7_fail
  rw [if10, if_neg (show ¬ (900 : Int32) ≤ nI i from nI_ge (b := 900) (by omega) (by decide)), stepC hn hT he, bd3_s, if_pos (show nI (tkK T n e) = 0 by rw [q0]; rfl), if10]
  unfold f_X13_eatsSemicolon f_X13_eatsSemicolon_B13
  rw [so1, if_neg (show ¬ (1 : Int32) = 4 by decide), if00, bd6_s]
  have em : f_X13_readAll_b7 (nI n) T (f_X13_readAll_L7 (nI n) T g) 0 sp 1 pl nu fl wr (nI B) wo (nI L) D (nI (popN B)) (nI b) (nI c) (nI p) (nI u) (nI (b + c)) rwh rst rkd rln rmd rpr rlo rnm rso rno = f_X13_readAll_L7 (nI n) T (g + 1) 0 sp 1 pl nu fl wr (nI B) wo (nI L) D (nI (popN B)) (nI b) (nI c) (nI p) (nI u) (nI (b + c)) rwh rst rkd rln rmd rpr rlo rnm rso rno := rfl
  rw [← em]
  unfold f_X13_readAll_b7 f_X13_readAll_B23 f_X13_readAll_B36
  rw [if00, if_pos (show (1 : Int32) = 1 from rfl)]
  have eb : nI b = 0 ↔ b = 0 := nI_eq (b := 0) (by omega) (by decide)
  by_cases q : b = 0
  · rw [if_pos (eb.mpr q), if_pos (eb.mpr q), bd3_s, flN (show ¬ (1 : Int32) = 5 by decide), bd3_s, m.2.2.1]
    exact Or.inr ⟨6, tkS T n e, _, _, _, _, _, _, _, _, _, _, _, _, _, _, _, _, _, _, _, _, _, _, _, _, _, _, _, _, _, _, _, _, _, _, _, _, _, _, _, _, _, _, _, _, _, _, by decide, by decide, rfl, rfl⟩
  · rw [if_neg (fun h => q (eb.mp h)), if_neg (fun h => q (eb.mp h))]
    exact Or.inl ⟨_, _, _, _, _, _, _, _, B, b, c, p, u, ns, ne, nn, nb, wh, fs, kd, fla, md, pr, pb, rwh, rst, rkd, rln, rmd, rpr, rlo, rnm, rso, rno, by omega, d, rfl, rfl⟩
theorem finJ (hn : n ≤ 900) (hT : ∀ j, j < 900 → byt (T j)) {L : Nat} (hL : 2 ≤ L) (hL6 : L ≤ 6) (D ff fa fl wr : Int32) : ∀ (K e i f g : Nat) (sp so pl nu : Int32) (wo : Int64) (B b c p u : Nat) (ns ne nn nb wh fs kd fla md pr pb : Nat → Int32) (rwh rst rkd rln rmd rpr rlo : Nat → Int32) (rnm : Nat → Int64) (rso rno : Nat → Int32) (x y : Int32), n - e ≤ K → e ≤ n → i < e → K + 1 < f → K + 1 < g → MT T n e sp so pl nu wo → DR T n L B b c p u ns ne nn nb wh fs kd fla md pr pb rwh rst rkd rln rmd rpr rlo rnm rso rno → (∃ x2 te2 y2 sp2 so2 pl2 nu2 wo2 B2 b2 c2 p2 u2 ns2 ne2 nn2 nb2 wh2 fs2 kd2 fla2 md2 pr2 pb2 rwh2 rst2 rkd2 rln2 rmd2 rpr2 rlo2 rnm2 rso2 rno2, 1 ≤ b2 ∧ DR T n L B2 b2 c2 p2 u2 ns2 ne2 nn2 nb2 wh2 fs2 kd2 fla2 md2 pr2 pb2 rwh2 rst2 rkd2 rln2 rmd2 rpr2 rlo2 rnm2 rso2 rno2 ∧ f_X7_readText_L37 T (nI n) (nI L) D f 1 (nI i) (nI (b + c)) ff fa ns ne nn nb x (nI e) y (nI B) (nI b) (nI c) (nI p) (nI u) wh fs kd fla md pr pb = some (ff, nI (b2 + c2), ff, fa, ns2, ne2, nn2, nb2, nI n, x2, te2, y2, nI L, D, nI B2, nI b2, nI c2, nI p2, nI u2, wh2, fs2, kd2, fla2, md2, pr2, pb2) ∧ (bd6 (f_X13_eatsSemicolon (nI n) sp so pl nu wo T) fun r sp so pl nu wo => f_X13_readAll_L7 (nI n) T g r sp so pl nu fl wr (nI B) wo (nI L) D (nI (popN B)) (nI b) (nI c) (nI p) (nI u) (nI (b + c)) rwh rst rkd rln rmd rpr rlo rnm rso rno) = some (sp2, so2, pl2, nu2, fl, wr, nI B2, wo2, nI L, D, nI (popN B2), nI b2, nI c2, nI p2, nI u2, nI (b2 + c2), rwh2, rst2, rkd2, rln2, rmd2, rpr2, rlo2, rnm2, rso2, rno2)) ∨ (∃ k a u1 u2 u3 u4 u5 u6 u7 u8 u9 u10 u11 u12 u13 u14 u15 u16 u17 u18 u19 u20 u21 u22 u23 v1 v2 v3 v4 v5 v6 v7 v8 v9 v10 v11 v12 v13 v14 v15 v16 v17 v18 v19 v20 v21 v22 v23, 1 ≤ k ∧ k ≤ 6 ∧ f_X7_readText_L37 T (nI n) (nI L) D f 1 (nI i) (nI (b + c)) ff fa ns ne nn nb x (nI e) y (nI B) (nI b) (nI c) (nI p) (nI u) wh fs kd fla md pr pb = some (nI k, u1, nI k, nI a, u2, u3, u4, u5, u6, u7, u8, u9, u10, u11, u12, u13, u14, u15, u16, u17, u18, u19, u20, u21, u22, u23) ∧ (bd6 (f_X13_eatsSemicolon (nI n) sp so pl nu wo T) fun r sp so pl nu wo => f_X13_readAll_L7 (nI n) T g r sp so pl nu fl wr (nI B) wo (nI L) D (nI (popN B)) (nI b) (nI c) (nI p) (nI u) (nI (b + c)) rwh rst rkd rln rmd rpr rlo rnm rso rno) = some (v1, 5, v2, v3, nI k, nI a, v4, v5, v6, v7, v8, v9, v10, v11, v12, v13, v14, v15, v16, v17, v18, v19, v20, v21, v22, v23)) := by
  intro K
  induction K with
  | zero =>
    intro e i f g sp so pl nu wo B b c p u ns ne nn nb wh fs kd fla md pr pb rwh rst rkd rln rmd rpr rlo rnm rso rno x y hK he hi hf hg m d
    have hb := tkE_b (T := T) he
    have hk0 : tkK T n e = 0 := by
      have h1 : tkS T n e = n := by omega
      unfold tkK tkQ
      rw [h1, if_pos (Nat.le_refl _)]
    exact finE hn hT hL hL6 D ff fa fl wr e i f g sp so pl nu wo B b c p u ns ne nn nb wh fs kd fla md pr pb rwh rst rkd rln rmd rpr rlo rnm rso rno x y he hi (by omega) (by omega) m d hk0
  | succ K ih =>
    intro e i f g sp so pl nu wo B b c p u ns ne nn nb wh fs kd fla md pr pb rwh rst rkd rln rmd rpr rlo rnm rso rno x y hK he hi hf hg m d
    have hb := tkE_b (T := T) he
    have hkk := tkK_le T n e
    by_cases q0 : tkK T n e = 0
    · exact finE hn hT hL hL6 D ff fa fl wr e i f g sp so pl nu wo B b c p u ns ne nn nb wh fs kd fla md pr pb rwh rst rkd rln rmd rpr rlo rnm rso rno x y he hi (by omega) (by omega) m d q0
    · obtain ⟨f, rfl⟩ : ∃ z, f = z + 2 := ⟨f - 2, by omega⟩
      obtain ⟨g, rfl⟩ : ∃ z, g = z + 2 := ⟨g - 2, by omega⟩
      have ms := mso_i hkk
      have es : f_X7_readText_b37 T (nI n) (nI L) D (f_X7_readText_L37 T (nI n) (nI L) D (f + 1)) 1 (nI i) (nI (b + c)) ff fa ns ne nn nb x (nI e) y (nI B) (nI b) (nI c) (nI p) (nI u) wh fs kd fla md pr pb = f_X7_readText_L37 T (nI n) (nI L) D (f + 2) 1 (nI i) (nI (b + c)) ff fa ns ne nn nb x (nI e) y (nI B) (nI b) (nI c) (nI p) (nI u) wh fs kd fla md pr pb := rfl
      rw [← es]
      unfold f_X7_readText_b37 f_X7_readText_B91 f_X7_fail
      rw [if10, if_neg (show ¬ (900 : Int32) ≤ nI i from nI_ge (b := 900) (by omega) (by decide)), stepC hn hT he, bd3_s, if_neg (show ¬ nI (tkK T n e) = 0 from fun h => q0 ((nI_eq (b := 0) (by omega) (by decide)).mp h))]
      unfold f_X13_eatsSemicolon f_X13_eatsSemicolon_B13
      by_cases q3 : tkK T n e = 3
      · rw [if_pos (show nI (tkK T n e) = 3 by rw [q3]; rfl), if_pos (show so = 4 by rw [m.2.1]; exact ms.2.2.2.mpr q3), if10]
        obtain ⟨sp1, so1, pl1, nu1, wo1, eg, m1⟩ := goM hn hT hb.2.2 so pl nu wo m.n5
        have e31 : tkE T n e = tkS T n e + 1 := tk3 q3
        rw [m.1, eg, bd5_s, bd6_s]
        have em : f_X13_readAll_b7 (nI n) T (f_X13_readAll_L7 (nI n) T (g + 1)) 1 sp1 so1 pl1 nu1 fl wr (nI B) wo1 (nI L) D (nI (popN B)) (nI b) (nI c) (nI p) (nI u) (nI (b + c)) rwh rst rkd rln rmd rpr rlo rnm rso rno = f_X13_readAll_L7 (nI n) T (g + 2) 1 sp1 so1 pl1 nu1 fl wr (nI B) wo1 (nI L) D (nI (popN B)) (nI b) (nI c) (nI p) (nI u) (nI (b + c)) rwh rst rkd rln rmd rpr rlo rnm rso rno := rfl
        rw [← em]
        unfold f_X13_readAll_b7
        rw [if10]
        rcases lineJ hn hT hb.2.2 m1 hL hL6 d D ff fa (nI (tkS T n e)) (nI (tkK T n e)) fl wr with ⟨e2, x2, y2, sp2, so2, pl2, nu2, wo2, B2, b2, c2, p2, u2, ns2, ne2, nn2, nb2, wh2, fs2, kd2, fla2, md2, pr2, pb2, rwh2, rst2, rkd2, rln2, rmd2, rpr2, rlo2, rnm2, rso2, rno2, a1, a2, m2, d2, hC, hM⟩ | ⟨k, a, u1, u2, u3, u4, u5, u6, u7, u8, u9, u10, u11, u12, u13, u14, u15, u16, u17, u18, u19, u20, v1, v2, v3, v4, v5, v6, v7, v8, v9, v10, v11, v12, v13, v14, v15, v16, v17, v18, v19, v20, v21, v22, v23, k1, k2, hC, hM⟩
        · have hb1 := tkE_b (T := T) hb.2.2
          rw [hC, bd23_s, nI_1, hM, bd26_s]
          exact ih e2 (i + 1) (f + 1) (g + 1) sp2 so2 pl2 nu2 wo2 B2 b2 c2 p2 u2 ns2 ne2 nn2 nb2 wh2 fs2 kd2 fla2 md2 pr2 pb2 rwh2 rst2 rkd2 rln2 rmd2 rpr2 rlo2 rnm2 rso2 rno2 x2 y2 (by omega) a2 (by omega) (by omega) (by omega) m2 d2
        · rw [hC, bd23_s, lv0, hM, bd26_s, end0]
          exact Or.inr ⟨k, a, _, _, _, _, _, _, _, _, _, _, _, _, _, _, _, _, _, _, _, _, _, _, _, _, _, _, _, _, _, _, _, _, _, _, _, _, _, _, _, _, _, _, _, _, _, _, k1, k2, rfl, rfl⟩
      · rw [if_neg (show ¬ nI (tkK T n e) = 3 from fun h => q3 ((nI_eq (b := 3) (by omega) (by decide)).mp h)), bd3_s, lv0]
        have em : f_X13_eatsSemicolon_B13 (nI n) T 0 sp so pl nu wo = some (0, sp, so, pl, nu, wo) := rfl
        rw [if_neg (show ¬ so = 4 from fun h => q3 (ms.2.2.2.mp (by rw [← m.2.1]; exact h))), if00, bd6_s]
        have em : f_X13_readAll_b7 (nI n) T (f_X13_readAll_L7 (nI n) T (g + 1)) 0 sp so pl nu fl wr (nI B) wo (nI L) D (nI (popN B)) (nI b) (nI c) (nI p) (nI u) (nI (b + c)) rwh rst rkd rln rmd rpr rlo rnm rso rno = f_X13_readAll_L7 (nI n) T (g + 2) 0 sp so pl nu fl wr (nI B) wo (nI L) D (nI (popN B)) (nI b) (nI c) (nI p) (nI u) (nI (b + c)) rwh rst rkd rln rmd rpr rlo rnm rso rno := rfl
        rw [← em]
        unfold f_X13_readAll_b7 f_X13_readAll_B23 f_X13_readAll_B36
        rw [if00, if_neg (show ¬ so = 1 from fun h => q0 (ms.1.mp (by rw [← m.2.1]; exact h))), flN m.n5, bd3_s, m.2.2.1, fl5, bd3_s, ite_self]
        exact Or.inr ⟨1, tkS T n e, _, _, _, _, _, _, _, _, _, _, _, _, _, _, _, _, _, _, _, _, _, _, _, _, _, _, _, _, _, _, _, _, _, _, _, _, _, _, _, _, _, _, _, _, _, _, by decide, by decide, rfl, rfl⟩
end BQ
