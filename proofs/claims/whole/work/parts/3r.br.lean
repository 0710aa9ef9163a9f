/-! BR: the first line, the whole text -/
section BR
variable {T : Nat → Int32} {n : Nat}
theorem firstJ (hn : n ≤ 900) (hT : ∀ j, j < 900 → byt (T j)) {sp so pl nu : Int32} {wo : Int64} (m : MT T n 0 sp so pl nu wo) (ff fa x y dl dd fl wr : Int32) (w1 w2 w3 w4 w5 w6 w7 : Nat → Int32) (w8 : Nat → Int64) (w9 w10 : Nat → Int32) :
    (∃ L D e2 x2 y2 sp2 so2 pl2 nu2 wo2, 2 ≤ L ∧ L ≤ 6 ∧ 1 ≤ D ∧ D ≤ 5 ∧ 1 ≤ e2 ∧ e2 ≤ n ∧ MT T n e2 sp2 so2 pl2 nu2 wo2 ∧ f_X7_readFirstLine T ff fa (nI n) x (nI 0) y dl dd = some (1, ff, fa, x2, nI e2, y2, nI L, nI D) ∧ f_X13_readLine (nI n) sp so pl nu fl wr 0 wo T 0 0 0 0 0 0 0 0 w1 w2 w3 w4 w5 w6 w7 w8 w9 w10 = some (sp2, so2, pl2, nu2, fl, wr, 0, wo2, nI L, nI D, 0, 0, 0, 0, 0, 0, w1, w2, w3, w4, w5, w6, w7, w8, w9, w10)) ∨
    (∃ k a u1 u2 u3 u4 u5 v1 v2 v3 v4 v5 v6 v7 v8 v9 v10 v11 v12 v13 v14 v15 v16 v17 v18 v19 v20 v21 v22 v23, 1 ≤ k ∧ k ≤ 6 ∧ f_X7_readFirstLine T ff fa (nI n) x (nI 0) y dl dd = some (0, nI k, nI a, u1, u2, u3, u4, u5) ∧ f_X13_readLine (nI n) sp so pl nu fl wr 0 wo T 0 0 0 0 0 0 0 0 w1 w2 w3 w4 w5 w6 w7 w8 w9 w10 = some (v1, 5, v2, v3, nI k, nI a, v4, v5, v6, v7, v8, v9, v10, v11, v12, v13, v14, v15, v16, v17, v18, v19, v20, v21, v22, v23)) := by
  have he : 0 ≤ n := Nat.zero_le n
  have hb := tkE_b (T := T) he
  have z01 : ¬ (0 : Int32) = 1 := by decide
  unfold f_X7_readFirstLine f_X7_readFirstLine_B36 f_X7_fail f_X13_readLine
  rw [stepC hn hT he, bd3_s, twC hn he (p := 1) (by decide), twM hn hT he m (p := 1) (by decide) (by decide), bd1_s, bd1_s]
  cases hw1 : twB T n 0 1
  · rw [selF, selF, blC hn he, bd1_s]
    unfold blB
    rw [hw1, Bool.false_or, twM hn hT he m (p := 2) (by decide) (by decide), bd1_s]
    cases twB T n 0 2
    · rw [Bool.false_or, selF, twM hn hT he m (p := 3) (by decide) (by decide), bd1_s]
      cases twB T n 0 3
      · rw [Bool.false_or, selF, twM hn hT he m (p := 4) (by decide) (by decide), bd1_s]
        cases twB T n 0 4
        · rw [Bool.false_or, selF, twM hn hT he m (p := 5) (by decide) (by decide), bd1_s]
          cases twB T n 0 5
          · rw [Bool.false_or, selF, twM hn hT he m (p := 6) (by decide) (by decide), bd1_s]
            cases twB T n 0 6
            · rw [selF, selF, bd3_s, flN m.n5, bd3_s, m.2.2.1]
              exact Or.inr ⟨1, tkS T n 0, _, _, _, _, _, _, _, _, _, _, _, _, _, _, _, _, _, _, _, _, _, _, _, _, _, _, _, _, by decide, by decide, rfl, rfl⟩
            · rw [selT, selT, bd3_s]
              unfold f_X13_readTurned
              rw [lb0 m z01, bd7_s, show (0 : Int32) = nI 0 from rfl, ko5 (show 0 ≤ 11 by decide), bd4_s, if_pos rfl, tu39, bd8_s]
              exact Or.inr ⟨6, tkS T n 0, _, _, _, _, _, _, _, _, _, _, _, _, _, _, _, _, _, _, _, _, _, _, _, _, _, _, _, _, by decide, by decide, rfl, rfl⟩
          · rw [Bool.true_or, selT, selT, bd3_s]
            unfold f_X13_readPass
            rw [lb0 m (show ¬ (0 : Int32) = 9 by decide), bd7_s, show (0 : Int32) = nI 0 from rfl, ko5 (show 0 ≤ 11 by decide), bd4_s, go5, bd5_s, ko5 (show 0 ≤ 11 by decide), bd4_s, if_pos rfl, pa65, bd9_s]
            exact Or.inr ⟨6, tkS T n 0, _, _, _, _, _, _, _, _, _, _, _, _, _, _, _, _, _, _, _, _, _, _, _, _, _, _, _, _, by decide, by decide, rfl, rfl⟩
        · rw [Bool.true_or, selT, selT, bd3_s]
          unfold f_X13_readCity
          rw [lb0 m (show ¬ (0 : Int32) = 6 by decide), bd7_s, show (0 : Int32) = nI 0 from rfl, fr5 (show 0 ≤ 11 by decide), bd8_s, if_pos rfl, bd13_s]
          exact Or.inr ⟨6, tkS T n 0, _, _, _, _, _, _, _, _, _, _, _, _, _, _, _, _, _, _, _, _, _, _, _, _, _, _, _, _, by decide, by decide, rfl, rfl⟩
      · rw [Bool.true_or, selT, selT, bd3_s]
        unfold f_X13_readBeast
        rw [lb0 m (show ¬ (0 : Int32) = 5 by decide), bd7_s, show (0 : Int32) = nI 0 from rfl, fr5 (show 0 ≤ 11 by decide), bd8_s]
        simp only [iw5, bd1_s, show nI 0 = (0 : Int32) from rfl, if_true, be73, bd16_s]
        exact Or.inr ⟨6, tkS T n 0, _, _, _, _, _, _, _, _, _, _, _, _, _, _, _, _, _, _, _, _, _, _, _, _, _, _, _, _, by decide, by decide, rfl, rfl⟩
    · rw [Bool.true_or, selT, selT, bd3_s]
      unfold f_X13_readLane
      rw [lb0 m z01, bd7_s, bo5, bd4_s, if_pos rfl, la45, bd11_s]
      exact Or.inr ⟨6, tkS T n 0, _, _, _, _, _, _, _, _, _, _, _, _, _, _, _, _, _, _, _, _, _, _, _, _, _, _, _, _, by decide, by decide, rfl, rfl⟩
  · rw [selT, selT]
    have k1 : tkK T n 0 = 1 := by
      unfold twB at hw1
      cases hd : decide (tkK T n 0 = 1)
      · rw [hd] at hw1; cases hw1
      · exact of_decide_eq_true hd
    have t1 := tk1 k1
    obtain ⟨sp1, so1, pl1, nu1, wo1, eg, m1⟩ := goM hn hT hb.2.2 so pl nu wo m.n5
    unfold f_X13_readField f_X13_readField_B15
    rw [if_pos (show (0 : Int32) ≤ 0 by decide), m.1, eg, bd5_s]
    rcases rpJ hn hT hb.2.2 m1 (p := 7) (by decide) (by decide) (lo := 2) (hi := 6) (by omega) (by omega) with ⟨L, e2, x2, y2, x3, y3, sp2, so2, pl2, nu2, wo2, hL, hL6, he2, he2n, hw2, hr2, m2, hp2⟩ | ⟨k, a, x2, y2, z2, r, sp2, pl2, nu2, wo2, hk1, hk2, hw2, hp2⟩ | ⟨k, a, x2, y2, x3, y3, z3, r, sp2, pl2, nu2, wo2, hk1, hk2, hw2, hr2, hp2⟩
    · have hr2 : f_X7_readWhole T ff fa (nI n) x2 (nI (tkE T n (tkE T n 0))) y2 2 6 = _ := hr2 ff fa
      have hp2 : f_X13_readPart (nI n) sp1 so1 pl1 nu1 fl wr wo1 T 7 2 6 = _ := hp2 fl wr
      rw [hw2, bd6_s, if10, hr2, bd6_s, hp2, bd8_s]
      unfold f_X7_readFirstLine_B60
      rw [if_neg (nIm1 (show L < 2 ^ 31 by omega))]
      rcases rpJ hn hT he2n m2 (p := 8) (by decide) (by decide) (lo := 1) (hi := 5) (by omega) (by omega) with ⟨D, e4, x4, y4, x5, y5, sp4, so4, pl4, nu4, wo4, hD, hD5, he4, he4n, hw4, hr4, m4, hp4⟩ | ⟨k, a, x4, y4, z4, r, sp4, pl4, nu4, wo4, hk1, hk2, hw4, hp4⟩ | ⟨k, a, x4, y4, x5, y5, z5, r, sp4, pl4, nu4, wo4, hk1, hk2, hw4, hr4, hp4⟩
      · have hr4 : f_X7_readWhole T ff fa (nI n) x4 (nI (tkE T n e2)) y4 1 5 = _ := hr4 ff fa
        have hp4 : f_X13_readPart (nI n) sp2 so2 pl2 nu2 fl wr wo2 T 8 1 5 = _ := hp4 fl wr
        rw [hw4, bd6_s, if10, hr4, bd6_s, hp4, bd8_s]
        unfold f_X7_readFirstLine_B87
        rw [if_neg (nIm1 (show D < 2 ^ 31 by omega)), if_neg m4.n5, bd9_s]
        exact Or.inl ⟨L, D, e4, _, _, sp4, so4, pl4, nu4, wo4, hL, hL6, hD, hD5, by omega, he4n, m4, rfl, rfl⟩
      · have hp4 : f_X13_readPart (nI n) sp2 so2 pl2 nu2 fl wr wo2 T 8 1 5 = _ := hp4 fl wr
        rw [hw4, bd6_s, if00, hp4, bd8_s]
        unfold f_X7_readFirstLine_B87
        rw [if_pos rfl, if_pos rfl, bd9_s]
        exact Or.inr ⟨k, a, _, _, _, _, _, _, _, _, _, _, _, _, _, _, _, _, _, _, _, _, _, _, _, _, _, _, _, _, hk1, hk2, rfl, rfl⟩
      · have hr4 : f_X7_readWhole T ff fa (nI n) x4 (nI (tkE T n e2)) y4 1 5 = _ := hr4 ff fa
        have hp4 : f_X13_readPart (nI n) sp2 so2 pl2 nu2 fl wr wo2 T 8 1 5 = _ := hp4 fl wr
        rw [hw4, bd6_s, if10, hr4, bd6_s, hp4, bd8_s]
        unfold f_X7_readFirstLine_B87
        rw [if_pos rfl, if_pos rfl, bd9_s]
        exact Or.inr ⟨k, a, _, _, _, _, _, _, _, _, _, _, _, _, _, _, _, _, _, _, _, _, _, _, _, _, _, _, _, _, hk1, hk2, rfl, rfl⟩
    · have hp2 : f_X13_readPart (nI n) sp1 so1 pl1 nu1 fl wr wo1 T 7 2 6 = _ := hp2 fl wr
      rw [hw2, bd6_s, if00, hp2, bd8_s, rpt5, bd8_s]
      unfold f_X7_readFirstLine_B60
      rw [if_pos rfl, if_pos rfl, bd9_s]
      exact Or.inr ⟨k, a, _, _, _, _, _, _, _, _, _, _, _, _, _, _, _, _, _, _, _, _, _, _, _, _, _, _, _, _, hk1, hk2, rfl, rfl⟩
    · have hr2 : f_X7_readWhole T ff fa (nI n) x2 (nI (tkE T n (tkE T n 0))) y2 2 6 = _ := hr2 ff fa
      have hp2 : f_X13_readPart (nI n) sp1 so1 pl1 nu1 fl wr wo1 T 7 2 6 = _ := hp2 fl wr
      rw [hw2, bd6_s, if10, hr2, bd6_s, hp2, bd8_s, rpt5, bd8_s]
      unfold f_X7_readFirstLine_B60
      rw [if_pos rfl, if_pos rfl, bd9_s]
      exact Or.inr ⟨k, a, _, _, _, _, _, _, _, _, _, _, _, _, _, _, _, _, _, _, _, _, _, _, _, _, _, _, _, _, hk1, hk2, rfl, rfl⟩
theorem clrC (z1 z2 z3 z4 z5 z6 z7 : Int32) (wh fs pb : Nat → Int32) : ∃ wh0 fs0 pb0, f_X2_clear z1 z2 z3 z4 z5 z6 z7 wh fs pb = some (0, 0, 0, 0, 0, 0, 0, wh0, fs0, pb0) ∧ (∀ j, j < 6 → wh0 j = 0) ∧ (∀ j, j < 6 → fs0 j = 0) ∧ ∀ j, j < 36 → pb0 j = 0 := by
  unfold f_X2_clear
  refine loopR (fun f i (s : (Nat → Int32) × (Nat → Int32)) => f_X2_clear_L37 0 0 0 0 0 0 0 pb f (nI i) s.1 s.2) 6 (fun i s => (∀ j, j < i → s.1 j = 0) ∧ ∀ j, j < i → s.2 j = 0) (fun o => ∃ wh0 fs0 pb0, o = some (0, 0, 0, 0, 0, 0, 0, wh0, fs0, pb0) ∧ (∀ j, j < 6 → wh0 j = 0) ∧ (∀ j, j < 6 → fs0 j = 0) ∧ ∀ j, j < 36 → pb0 j = 0) ?_ ?_ 6 0 (wh, fs) fuelN (by omega) ⟨by intro j hj; omega, by intro j hj; omega⟩ (fuel_gt (by omega))
  · intro f i s hi hs
    refine ⟨(upd s.1 i 0, upd s.2 i 0), ⟨?_, ?_⟩, ?_⟩
    · intro j hj
      by_cases q : j = i
      · subst q; exact pk_us
      · exact (pk_un q).trans (hs.1 j (by omega))
    · intro j hj
      by_cases q : j = i
      · subst q; exact pk_us
      · exact (pk_un q).trans (hs.2 j (by omega))
    · have g6 : ∀ {α : Type} (x : Option α), gIn (nI i) 6 x = x := fun x => gI hi (by decide)
      show f_X2_clear_b37 _ _ _ _ _ _ _ _ _ _ _ _ = _
      unfold f_X2_clear_b37
      simp only [g6]
      rw [if_neg (show ¬ (6 : Int32) ≤ nI i from nI_ge (b := 6) hi (by decide)), nI_1, nI_clamp (by omega)]
  · intro f s hs
    show ∃ wh0 fs0 pb0, f_X2_clear_b37 0 0 0 0 0 0 0 pb _ (nI 6) s.1 s.2 = some (0, 0, 0, 0, 0, 0, 0, wh0, fs0, pb0) ∧ _
    unfold f_X2_clear_b37 f_X2_clear_B63
    rw [if_pos (show (6 : Int32) ≤ nI 6 by decide)]
    refine loopR (fun f i r => f_X2_clear_L65 0 0 0 0 0 0 0 s.1 s.2 f (nI i) r) 36 (fun i r => ∀ j, j < i → r j = 0) (fun o => ∃ wh0 fs0 pb0, o = some (0, 0, 0, 0, 0, 0, 0, wh0, fs0, pb0) ∧ (∀ j, j < 6 → wh0 j = 0) ∧ (∀ j, j < 6 → fs0 j = 0) ∧ ∀ j, j < 36 → pb0 j = 0) ?_ ?_ 36 0 pb fuelN (by omega) (by intro j hj; omega) (fuel_gt (by omega))
    · intro f i r hi hr
      refine ⟨upd r i 0, ?_, ?_⟩
      · intro j hj
        by_cases q : j = i
        · subst q; exact pk_us
        · rw [pk_un q]; exact hr j (by omega)
      · show f_X2_clear_b65 _ _ _ _ _ _ _ _ _ _ _ _ = _
        unfold f_X2_clear_b65
        rw [if_neg (show ¬ (36 : Int32) ≤ nI i from nI_ge (b := 36) hi (by decide)), gI hi (by decide), nI_1, nI_clamp (by omega)]
    · intro f r hr
      refine ⟨s.1, s.2, r, ?_, hs.1, hs.2, hr⟩
      show f_X2_clear_b65 _ _ _ _ _ _ _ _ _ _ _ _ = _
      unfold f_X2_clear_b65
      rw [if_pos (by decide)]
theorem readJ (hn : n ≤ 900) (hT : ∀ j, j < 900 → byt (T j)) {sp so pl nu : Int32} {wo : Int64} (m : MT T n 0 sp so pl nu wo) (wr mlt N0 f0 a0 tl ts te tso dl dd dlt db dc dp dtu : Int32) (ns ne nn nb wh fs kd fla md pr pb : Nat → Int32) :
    (∃ L D x2 te2 y2 sp2 so2 pl2 nu2 wo2 B2 b2 c2 p2 u2 ns2 ne2 nn2 nb2 wh2 fs2 kd2 fla2 md2 pr2 pb2 rwh2 rst2 rkd2 rln2 rmd2 rpr2 rlo2 rnm2 rso2 rno2, 2 ≤ L ∧ L ≤ 6 ∧ 1 ≤ D ∧ D ≤ 5 ∧ 1 ≤ b2 ∧ DR T n L B2 b2 c2 p2 u2 ns2 ne2 nn2 nb2 wh2 fs2 kd2 fla2 md2 pr2 pb2 rwh2 rst2 rkd2 rln2 rmd2 rpr2 rlo2 rnm2 rso2 rno2 ∧ f_X7_readText T N0 f0 a0 ns ne nn nb tl ts te tso dl dd dlt db dc dp dtu wh fs kd fla md pr pb (nI n) = some (0, nI (b2 + c2), 0, -1, ns2, ne2, nn2, nb2, nI n, x2, te2, y2, nI L, nI D, nI B2, nI b2, nI c2, nI p2, nI u2, wh2, fs2, kd2, fla2, md2, pr2, pb2) ∧ f_X13_readAll (nI n) sp so pl nu 0 wr mlt wo T 0 0 0 0 0 0 0 0 (fun _ => 0) (fun _ => 0) (fun _ => 0) (fun _ => 0) (fun _ => 0) (fun _ => 0) (fun _ => 0) (fun _ => 0) (fun _ => 0) (fun _ => 0) = some (sp2, so2, pl2, nu2, 0, wr, nI B2, wo2, nI L, nI D, nI (popN B2), nI b2, nI c2, nI p2, nI u2, nI (b2 + c2), rwh2, rst2, rkd2, rln2, rmd2, rpr2, rlo2, rnm2, rso2, rno2)) ∨
    (∃ k a u1 u2 u3 u4 u5 u6 u7 u8 u9 u10 u11 u12 u13 u14 u15 u16 u17 u18 u19 u20 u21 u22 u23 v1 v2 v3 v4 v5 v6 v7 v8 v9 v10 v11 v12 v13 v14 v15 v16 v17 v18 v19 v20 v21 v22 v23, 1 ≤ k ∧ k ≤ 6 ∧ f_X7_readText T N0 f0 a0 ns ne nn nb tl ts te tso dl dd dlt db dc dp dtu wh fs kd fla md pr pb (nI n) = some (nI k, u1, nI k, nI a, u2, u3, u4, u5, u6, u7, u8, u9, u10, u11, u12, u13, u14, u15, u16, u17, u18, u19, u20, u21, u22, u23) ∧ f_X13_readAll (nI n) sp so pl nu 0 wr mlt wo T 0 0 0 0 0 0 0 0 (fun _ => 0) (fun _ => 0) (fun _ => 0) (fun _ => 0) (fun _ => 0) (fun _ => 0) (fun _ => 0) (fun _ => 0) (fun _ => 0) (fun _ => 0) = some (v1, 5, v2, v3, nI k, nI a, v4, v5, v6, v7, v8, v9, v10, v11, v12, v13, v14, v15, v16, v17, v18, v19, v20, v21, v22, v23)) := by
  obtain ⟨wh0, fs0, pb0, ec, hw0, hf0, hp0⟩ := clrC dl dd dlt db dc dp dtu wh fs pb
  have hfu := fuelN_ge
  obtain ⟨g, hg⟩ : ∃ g, fuelN = g + 1 := ⟨fuelN - 1, by omega⟩
  unfold f_X7_readText f_X9_begin f_X13_readAll
  rw [ec, bd10_s, bd4_s, if_neg (show ¬ (900 : Int32) < nI n from nI_nlt (a := 900) hn (by decide))]
  have eM : f_X13_readAll_L7 (nI n) T fuelN 1 sp so pl nu 0 wr 0 wo 0 0 0 0 0 0 0 0 (fun _ => 0) (fun _ => 0) (fun _ => 0) (fun _ => 0) (fun _ => 0) (fun _ => 0) (fun _ => 0) (fun _ => 0) (fun _ => 0) (fun _ => 0) = bd26 (f_X13_readLine (nI n) sp so pl nu 0 wr 0 wo T 0 0 0 0 0 0 0 0 (fun _ => 0) (fun _ => 0) (fun _ => 0) (fun _ => 0) (fun _ => 0) (fun _ => 0) (fun _ => 0) (fun _ => 0) (fun _ => 0) (fun _ => 0)) fun mo_spot_9 mo_sort_10 mo_place_11 mo_number_12 mo_fault_13 mo_wrongAt_14 mo_laneTold_15 mo_word_16 re_lanes_17 re_deep_18 re_told_19 re_beasts_20 re_cities_21 re_passes_22 re_turned_23 re_names_24 re_who_25 re_strong_26 re_kind_27 re_lane_28 re_mood_29 re_price_30 re_loses_31 re_name_32 re_nameSort_33 re_numberOf_34 => bd6 (f_X13_eatsSemicolon (nI n) mo_spot_9 mo_sort_10 mo_place_11 mo_number_12 mo_word_16 T) fun r_36 mo_spot_37 mo_sort_38 mo_place_39 mo_number_40 mo_word_41 => f_X13_readAll_L7 (nI n) T g r_36 mo_spot_37 mo_sort_38 mo_place_39 mo_number_40 mo_fault_13 mo_wrongAt_14 mo_laneTold_15 mo_word_41 re_lanes_17 re_deep_18 re_told_19 re_beasts_20 re_cities_21 re_passes_22 re_turned_23 re_names_24 re_who_25 re_strong_26 re_kind_27 re_lane_28 re_mood_29 re_price_30 re_loses_31 re_name_32 re_nameSort_33 re_numberOf_34 := by
    rw [hg]
    show f_X13_readAll_b7 (nI n) T (f_X13_readAll_L7 (nI n) T g) 1 sp so pl nu 0 wr 0 wo 0 0 0 0 0 0 0 0 (fun _ => 0) (fun _ => 0) (fun _ => 0) (fun _ => 0) (fun _ => 0) (fun _ => 0) (fun _ => 0) (fun _ => 0) (fun _ => 0) (fun _ => 0) = _
    unfold f_X13_readAll_b7
    rw [if10]
  rw [eM]
  rcases firstJ hn hT m 0 (-1) 0 0 0 0 0 wr (fun _ => 0) (fun _ => 0) (fun _ => 0) (fun _ => 0) (fun _ => 0) (fun _ => 0) (fun _ => 0) (fun _ => 0) (fun _ => 0) (fun _ => 0) with ⟨L, D, e2, x2, y2, sp2, so2, pl2, nu2, wo2, hL, hL6, hD, hD5, he1, he2, m2, hC, hM⟩ | ⟨k, a, u1, u2, u3, u4, u5, v1, v2, v3, v4, v5, v6, v7, v8, v9, v10, v11, v12, v13, v14, v15, v16, v17, v18, v19, v20, v21, v22, v23, k1, k2, hC, hM⟩
  · have hC : f_X7_readFirstLine T 0 (-1) (nI n) 0 0 0 0 0 = some (1, 0, -1, x2, nI e2, y2, nI L, nI D) := hC
    rw [hC, bd8_s, hM, bd26_s]
    have d : DR T n L 0 0 0 0 0 ns ne nn nb wh0 fs0 kd fla md pr pb0 (fun _ => 0) (fun _ => 0) (fun _ => 0) (fun _ => 0) (fun _ => 0) (fun _ => 0) (fun _ => 0) (fun _ => 0) (fun _ => 0) (fun _ => 0) := by
      refine ⟨⟨Nat.two_pow_pos _, by decide, by decide, Nat.two_pow_pos _⟩, fun l hl => ⟨0, 0, by decide, by decide, hw0 l hl, rfl, hf0 l hl, rfl⟩, fun j hj => by omega, ⟨by decide, fun i j hi hj => ⟨0, by decide, hp0 _ (by omega), fun h => by omega, fun _ => rfl⟩⟩, ⟨by decide, fun k hk => by omega⟩, fun k hk => by omega⟩
    have := finJ hn hT hL hL6 (nI D) 0 (-1) 0 wr (n - e2) e2 0 fuelN g sp2 so2 pl2 nu2 wo2 0 0 0 0 0 ns ne nn nb wh0 fs0 kd fla md pr pb0 (fun _ => 0) (fun _ => 0) (fun _ => 0) (fun _ => 0) (fun _ => 0) (fun _ => 0) (fun _ => 0) (fun _ => 0) (fun _ => 0) (fun _ => 0) x2 y2 (Nat.le_refl _) he2 he1 (by omega) (by omega) m2 d
    rcases this with ⟨x3, te3, y3, sp3, so3, pl3, nu3, wo3, B3, b3, c3, p3, u3, ns3, ne3, nn3, nb3, wh3, fs3, kd3, fla3, md3, pr3, pb3, rwh3, rst3, rkd3, rln3, rmd3, rpr3, rlo3, rnm3, rso3, rno3, h1, d3, hC3, hM3⟩ | ⟨k, a, u1, u2, u3, u4, u5, u6, u7, u8, u9, u10, u11, u12, u13, u14, u15, u16, u17, u18, u19, u20, u21, u22, u23, v1, v2, v3, v4, v5, v6, v7, v8, v9, v10, v11, v12, v13, v14, v15, v16, v17, v18, v19, v20, v21, v22, v23, k1, k2, hC3, hM3⟩
    · exact Or.inl ⟨L, D, x3, te3, y3, sp3, so3, pl3, nu3, wo3, B3, b3, c3, p3, u3, ns3, ne3, nn3, nb3, wh3, fs3, kd3, fla3, md3, pr3, pb3, rwh3, rst3, rkd3, rln3, rmd3, rpr3, rlo3, rnm3, rso3, rno3, hL, hL6, hD, hD5, h1, d3, hC3, hM3⟩
    · exact Or.inr ⟨k, a, u1, u2, u3, u4, u5, u6, u7, u8, u9, u10, u11, u12, u13, u14, u15, u16, u17, u18, u19, u20, u21, u22, u23, v1, v2, v3, v4, v5, v6, v7, v8, v9, v10, v11, v12, v13, v14, v15, v16, v17, v18, v19, v20, v21, v22, v23, k1, k2, hC3, hM3⟩
  · have hC : f_X7_readFirstLine T 0 (-1) (nI n) 0 0 0 0 0 = some (0, nI k, nI a, u1, u2, u3, u4, u5) := hC
    obtain ⟨g', hg'⟩ : ∃ g', g = g' + 1 := ⟨g - 1, by omega⟩
    rw [hC, bd8_s, hM, bd26_s, hg', end0, hg, lv0]
    exact Or.inr ⟨k, a, _, _, _, _, _, _, _, _, _, _, _, _, _, _, _, _, _, _, _, _, _, _, _, _, _, _, _, _, _, _, _, _, _, _, _, _, _, _, _, _, _, _, _, _, _, _, k1, k2, rfl, rfl⟩
end BR
