/-! BT: a war told -/
theorem bd14_s {α A0 A1 A2 A3 A4 A5 A6 A7 A8 A9 A10 A11 A12 A13 : Type} (x0 : A0) (x1 : A1) (x2 : A2) (x3 : A3) (x4 : A4) (x5 : A5) (x6 : A6) (x7 : A7) (x8 : A8) (x9 : A9) (x10 : A10) (x11 : A11) (x12 : A12) (x13 : A13) (k : A0 → A1 → A2 → A3 → A4 → A5 → A6 → A7 → A8 → A9 → A10 → A11 → A12 → A13 → Option α) : bd14 (some (x0, x1, x2, x3, x4, x5, x6, x7, x8, x9, x10, x11, x12, x13)) k = k x0 x1 x2 x3 x4 x5 x6 x7 x8 x9 x10 x11 x12 x13 := rfl
theorem byt8 (x : Int8) : byt x.toInt32 := by
  have h1 := x.toInt_lt
  have h2 := x.le_toInt
  refine ⟨(x.toInt + 128).toNat, by omega, ?_⟩
  apply Int32.toInt_inj.mp
  rw [Int8.toInt_toInt32, Int32.toInt_sub, nI_toInt (by omega), show (128 : Int32).toInt = 128 from rfl, Int.toNat_of_nonneg (by omega)]
  rw [show x.toInt + 128 - 128 = x.toInt by omega]
  exact (Int.bmod_eq_of_le (by omega) (by omega)).symm
theorem bytF (x s : Int32) : byt (fbyte x s) := by
  show byt ((x >>> (s &&& 31)).toInt8.toInt32.toInt8.toInt32)
  exact byt8 _
theorem bytU {T : Nat → Int32} (h : ∀ j, j < 900 → byt (T j)) {x : Int32} (hx : byt x) (k : Nat) : ∀ j, j < 900 → byt (upd T k x j) := by
  intro j hj
  by_cases q : j = k
  · subst q; rw [pk_us]; exact hx
  · rw [pk_un q]; exact h j hj
theorem appB {T : Nat → Int32} (h : ∀ j, j < 900 → byt (T j)) (x : Int32) (n : Nat) : ∀ j, j < 900 → byt (upd (upd (upd (upd T n (fbyte x 24)) (n + 1) (fbyte x 16)) (n + 2) (fbyte x 8)) (n + 3) (fbyte x 0) j) := bytU (bytU (bytU (bytU h (bytF _ _) _) (bytF _ _) _) (bytF _ _) _) (bytF _ _) _
theorem feedB {n : Nat} (hn : n ≤ 900) {tp : Nat → Int32} (h : ∀ j, j < 900 → byt (tp j)) {p1 p2 p3 p4 p5 r b : Int32} {tp' : Nat → Int32} (e : f_X11_feed (nI n) tp p1 p2 p3 p4 p5 = some (r, b, tp')) : ∀ j, j < 900 → byt (tp' j) := by
  unfold f_X11_feed at e
  have e0 : nI n + 20 ≤ 900 ↔ n + 20 ≤ 900 := by
    rw [show (20 : Int32) = nI 20 from rfl, nI_add]
    exact nI_leI (b := 900) (by omega) (by decide)
  by_cases q : n + 20 ≤ 900
  · rw [if_pos (e0.mpr q), appC (by omega), bd2_s, appC (by omega), bd2_s, appC (by omega), bd2_s, appC (by omega), bd2_s, appC (by omega), bd2_s] at e
    have e3 := congrArg (fun o => (o.getD (0, 0, tp)).2.2) e
    have e4 : tp' = _ := e3.symm
    rw [e4]
    exact appB (appB (appB (appB (appB h _ _) _ _) _ _) _ _) _ _
  · rw [if_neg (fun h => q (e0.mp h))] at e
    have e4 : tp' = tp := (congrArg (fun o => (o.getD (0, 0, tp)).2.2) e).symm
    rw [e4]
    exact h

theorem warV {L b : Nat} (hL6 : L ≤ 6) (hb : b ≤ 5) (tape : Nat → Int32) (th tr wr taped size sp so pl nu fl wa mlt : Int32) (wo : Int64) (ac ma dp to' ci pa tu na : Int32) (rwh rst rkd rln rmd rpr rlo : Nat → Int32) (rnm : Nat → Int64) (rso rno : Nat → Int32) (v : Nat → Int32) : ∃ v', (∀ j, j < b → v' j = rln j) ∧ (∀ j, b ≤ j → j < 11 → v' j = 0) ∧ (∀ l, l < L → v' (11 + l) = rst l) ∧ (∀ j, 11 + L ≤ j → j < 19 → v' j = 0) ∧ f_X13_war_s_L99 tape th tr wr taped size sp so pl nu fl wa mlt wo ac ma (nI L) dp to' (nI b) ci pa tu na rwh rst rkd rln rmd rpr rlo rnm rso rno fuelN 0 v = some (nI b, th, (0 : Int32), (-1 : Int32), taped, size, sp, so, pl, nu, fl, wa, mlt, wo, (0 : Int32), (0 : Int32), v', nI L, dp, to', nI b, ci, pa, tu, na, rwh, rst, rkd, rln, rmd, rpr, rlo, rnm, rso, rno) := by
  let P : Option _ → Prop := fun x => ∃ v' : Nat → Int32, (∀ j, j < b → v' j = rln j) ∧ (∀ j, b ≤ j → j < 11 → v' j = 0) ∧ (∀ l, l < L → v' (11 + l) = rst l) ∧ (∀ j, 11 + L ≤ j → j < 19 → v' j = 0) ∧ x = some (nI b, th, (0 : Int32), (-1 : Int32), taped, size, sp, so, pl, nu, fl, wa, mlt, wo, (0 : Int32), (0 : Int32), v', nI L, dp, to', nI b, ci, pa, tu, na, rwh, rst, rkd, rln, rmd, rpr, rlo, rnm, rso, rno)
  show P (f_X13_war_s_L99 tape th tr wr taped size sp so pl nu fl wa mlt wo ac ma (nI L) dp to' (nI b) ci pa tu na rwh rst rkd rln rmd rpr rlo rnm rso rno fuelN (nI 0) v)
  refine loopR (fun f i v => f_X13_war_s_L99 tape th tr wr taped size sp so pl nu fl wa mlt wo ac ma (nI L) dp to' (nI b) ci pa tu na rwh rst rkd rln rmd rpr rlo rnm rso rno f (nI i) v) 19 (fun i v => ∀ j, j < i → v j = 0) P ?_ ?_ 19 0 v fuelN (by omega) (by intro j hj; omega) (fuel_gt (by omega))
  · intro f i v hi h
    refine ⟨upd v i 0, ?_, ?_⟩
    · intro j hj
      by_cases q : j = i
      · subst q; exact pk_us
      · exact (pk_un q).trans (h j (by omega))
    · show f_X13_war_s_b99 _ _ _ _ _ _ _ _ _ _ _ _ _ _ _ _ _ _ _ _ _ _ _ _ _ _ _ _ _ _ _ _ _ _ _ _ _ = _
      unfold f_X13_war_s_b99
      rw [if_neg (show ¬ (19 : Int32) ≤ nI i from nI_ge (b := 19) hi (by decide)), gI hi (by decide), nI_1, nI_clamp (by omega)]
  intro f v h
  show P (f_X13_war_s_b99 tape th tr wr taped size sp so pl nu fl wa mlt wo ac ma (nI L) dp to' (nI b) ci pa tu na rwh rst rkd rln rmd rpr rlo rnm rso rno _ (nI 19) v)
  unfold f_X13_war_s_b99 f_X13_war_s_B118
  rw [if_pos (show (19 : Int32) ≤ nI 19 by decide)]
  refine loopR (fun f i v => f_X13_war_s_L120 tape th tr wr taped size sp so pl nu fl wa mlt wo ac ma (nI L) dp to' (nI b) ci pa tu na rwh rst rkd rln rmd rpr rlo rnm rso rno f (nI i) v) b (fun i v => (∀ j, j < i → v j = rln j) ∧ ∀ j, i ≤ j → j < 19 → v j = 0) P ?_ ?_ b 0 v fuelN (by omega) ⟨by intro j hj; omega, fun j _ hj => h j hj⟩ (fuel_gt (by omega))
  · intro f i v hi h
    refine ⟨upd v i (rln i), ⟨?_, ?_⟩, ?_⟩
    · intro j hj
      by_cases q : j = i
      · subst q; exact pk_us
      · exact (pk_un q).trans (h.1 j (by omega))
    · intro j h1 h2
      exact (pk_un (by omega)).trans (h.2 j (by omega) h2)
    · show f_X13_war_s_b120 _ _ _ _ _ _ _ _ _ _ _ _ _ _ _ _ _ _ _ _ _ _ _ _ _ _ _ _ _ _ _ _ _ _ _ _ _ = _
      unfold f_X13_war_s_b120
      rw [if_neg (show ¬ nI b ≤ nI i from nI_ge hi (by omega)), show (0 : Int32) + nI i = nI i from by rw [show (0 : Int32) = nI 0 from rfl, nI_add, Nat.zero_add], gI (show i < 5 by omega) (by decide), gI (show i < 19 by omega) (by decide), nI_1, nI_clamp (by omega)]
  intro f v h
  show P (f_X13_war_s_b120 tape th tr wr taped size sp so pl nu fl wa mlt wo ac ma (nI L) dp to' (nI b) ci pa tu na rwh rst rkd rln rmd rpr rlo rnm rso rno _ (nI b) v)
  unfold f_X13_war_s_b120 f_X13_war_s_B154
  rw [if_pos (show nI b ≤ nI b from (nI_leI (by omega) (by omega)).mpr (Nat.le_refl _))]
  refine loopR (fun f i v => f_X13_war_s_L156 tape th tr wr taped size sp so pl nu fl wa mlt wo ac ma (nI L) dp to' (nI b) ci pa tu na rwh rst rkd rln rmd rpr rlo rnm rso rno f (nI i) v) L (fun i v => (∀ j, j < b → v j = rln j) ∧ (∀ j, b ≤ j → j < 11 → v j = 0) ∧ (∀ l, l < i → v (11 + l) = rst l) ∧ ∀ j, 11 + i ≤ j → j < 19 → v j = 0) P ?_ ?_ L 0 v fuelN (by omega) ⟨h.1, fun j h1 h2 => h.2 j h1 (by omega), by intro j hj; omega, fun j h1 h2 => h.2 j (by omega) h2⟩ (fuel_gt (by omega))
  · intro f i v hi h
    refine ⟨upd v (11 + i) (rst i), ⟨?_, ?_, ?_, ?_⟩, ?_⟩
    · intro j hj
      exact (pk_un (by omega)).trans (h.1 j hj)
    · intro j h1 h2
      exact (pk_un (by omega)).trans (h.2.1 j h1 h2)
    · intro j hj
      by_cases q : j = i
      · subst q; exact pk_us
      · exact (pk_un (by omega)).trans (h.2.2.1 j (by omega))
    · intro j h1 h2
      exact (pk_un (by omega)).trans (h.2.2.2 j (by omega) h2)
    · show f_X13_war_s_b156 _ _ _ _ _ _ _ _ _ _ _ _ _ _ _ _ _ _ _ _ _ _ _ _ _ _ _ _ _ _ _ _ _ _ _ _ _ = _
      unfold f_X13_war_s_b156
      rw [if_neg (show ¬ nI L ≤ nI i from nI_ge hi (by omega)), show (11 : Int32) + nI i = nI (11 + i) from by rw [show (11 : Int32) = nI 11 from rfl, nI_add], gI (show i < 6 by omega) (by decide), gI (show 11 + i < 19 by omega) (by decide), nI_1, nI_clamp (by omega), nI_clamp (by omega)]
  intro f v h
  show P (f_X13_war_s_b156 tape th tr wr taped size sp so pl nu fl wa mlt wo ac ma (nI L) dp to' (nI b) ci pa tu na rwh rst rkd rln rmd rpr rlo rnm rso rno _ (nI L) v)
  unfold f_X13_war_s_b156 f_X13_war_s_B191 f_X13_good
  rw [if_pos (show nI L ≤ nI L from (nI_leI (by omega) (by omega)).mpr (Nat.le_refl _)), bd3_s]
  exact ⟨v, h.1, h.2.1, h.2.2.1, h.2.2.2, rfl⟩

theorem beginC (fs fla st at' wd : Nat → Int32) (d w r : Int32) : ∃ st2 at2 wd2, f_X8_begin fs fla d w r st at' wd = some (0, 0, 0, st2, at2, wd2) ∧ (∀ j, j < 6 → st2 j = fs j) ∧ (∀ j, j < 5 → at2 j = fla j) ∧ ∀ j, j < 5 → wd2 j = 0 := by
  unfold f_X8_begin
  show ∃ st2 at2 wd2, f_X8_begin_L31 fs fla d w r (va_cpy fs st 0 0 6) (va_cpy fla at' 0 0 5) fuelN (nI 0) wd = _ ∧ _
  have h1 : ∀ j, j < 6 → va_cpy fs st 0 0 6 j = fs j := fun j hj => by rw [pk_cpy_in (by omega) (by omega), show 0 + (j - 0) = j by omega]
  have h2 : ∀ j, j < 5 → va_cpy fla at' 0 0 5 j = fla j := fun j hj => by rw [pk_cpy_in (by omega) (by omega), show 0 + (j - 0) = j by omega]
  generalize va_cpy fs st 0 0 6 = s2 at h1 ⊢
  generalize va_cpy fla at' 0 0 5 = a2 at h2 ⊢
  refine loopR (fun f i (wd : Nat → Int32) => f_X8_begin_L31 fs fla d w r s2 a2 f (nI i) wd) 5 (fun i wd => ∀ j, j < i → wd j = 0) (fun x => ∃ st2 at2 wd2, x = some (0, 0, 0, st2, at2, wd2) ∧ (∀ j, j < 6 → st2 j = fs j) ∧ (∀ j, j < 5 → at2 j = fla j) ∧ ∀ j, j < 5 → wd2 j = 0) ?_ ?_ 5 0 wd fuelN (by omega) (by intro j hj; omega) (fuel_gt (by omega))
  · intro f i wd hi h
    refine ⟨upd wd i 0, ?_, ?_⟩
    · intro j hj
      by_cases q : j = i
      · subst q; exact pk_us
      · exact (pk_un q).trans (h j (by omega))
    · show f_X8_begin_b31 _ _ _ _ _ _ _ _ _ _ = _
      unfold f_X8_begin_b31
      rw [if_neg (show ¬ (5 : Int32) ≤ nI i from nI_ge (b := 5) hi (by decide)), gI hi (by decide), nI_1, nI_clamp (by omega)]
  · intro f wd h
    show ∃ st2 at2 wd2, f_X8_begin_b31 _ _ _ _ _ _ _ _ (nI 5) wd = _ ∧ _
    unfold f_X8_begin_b31 f_X8_begin_B49
    rw [if_pos (show (5 : Int32) ≤ nI 5 by decide)]
    exact ⟨s2, a2, wd, rfl, h1, h2, h⟩
def aOf (L D b : Nat) (kd md pr wh fl st : Nat → Int32) : AS := fun i j => match i with
  | 0 => (match j with
    | 0 => L
    | 1 => D
    | 2 => b
    | _ => 0)
  | 1 => (kd j).toNatClampNeg
  | 2 => (md j).toNatClampNeg
  | 3 => (pr j).toNatClampNeg
  | 4 => (wh j).toNatClampNeg
  | 5 => (fl j).toNatClampNeg
  | 6 => 0
  | 7 => (st j).toNatClampNeg
  | _ => 0
theorem aOf_ok {L D b : Nat} (h2 : 2 ≤ L) (h6 : L ≤ 6) (h1 : 1 ≤ D) (h5 : D ≤ 5) (hb1 : 1 ≤ b) (hb : b ≤ 5) {wh fs rwh rst kd fl md pr rkd rln rmd rpr : Nat → Int32} (lr : LR wh fs rwh rst) (br : BR L b kd fl md pr rkd rln rmd rpr) : okA (aOf L D b kd md pr wh fl fs) := by
  refine ⟨⟨h2, h6, h1, h5, hb1, hb, Nat.two_pow_pos _, (show (0 : Nat) < 2 by decide), (show (0 : Nat) ≤ 65536 by decide)⟩, ?_, ?_⟩
  · intro j hj
    obtain ⟨k, l, m, q, h3, h4, h7, h8, h9, e1, -, e2, -, e3, -, e4, -⟩ := br j hj
    refine ⟨?_, ?_, ?_, ?_, ?_, ?_⟩
    · show (kd j).toNatClampNeg < 4; rw [e1, nI_clamp (by omega)]; exact h3
    · show (md j).toNatClampNeg ≤ 100; rw [e3, nI_clamp (by omega)]; exact h7
    · show 1 ≤ (pr j).toNatClampNeg; rw [e4, nI_clamp (by omega)]; exact h8
    · show (pr j).toNatClampNeg ≤ 99; rw [e4, nI_clamp (by omega)]; exact h9
    · show (fl j).toNatClampNeg < L; rw [e2, nI_clamp (by omega)]; exact h4
    · show 0 < 2 ^ 20; decide
  · intro j hj
    obtain ⟨w, s, h3, h4, e1, -, e2, -⟩ := lr j (Nat.lt_of_lt_of_le hj h6)
    refine ⟨?_, ?_⟩
    · show (wh j).toNatClampNeg < 4; rw [e1, nI_clamp (by omega)]; exact h3
    · show (fs j).toNatClampNeg ≤ 60; rw [e2, nI_clamp (by omega)]; exact h4
theorem clI {n : Nat} {f g : Nat → Int32} (h : ∀ j, j < n → ∃ k, k < 2 ^ 31 ∧ f j = nI k ∧ g j = nI k) : rI n g (fun j => (f j).toNatClampNeg) := by
  intro j hj
  obtain ⟨k, h1, e1, e2⟩ := h j hj
  show g j = nI (f j).toNatClampNeg
  rw [e1, nI_clamp h1, e2]
theorem cpyE {f g : Nat → Int32} {n j : Nat} (h : j < n) : va_cpy f g 0 0 n j = f j := by rw [pk_cpy_in (by omega) (by omega), show 0 + (j - 0) = j by omega]

theorem q_war {nb : Nat} (hnb : nb ≤ 900) {T : Nat → Int32} (hT : ∀ j, j < 900 → byt (T j)) (p1 : Int32) (el_refusal : Int32) (el_faultTold : Int32) (el_faultPlace : Int32) (rd_names : Int32) (rd_faultFound : Int32) (rd_faultAt : Int32) (rd_nameStarts : Nat → Int32) (rd_nameEnds : Nat → Int32) (rd_nameNumbers : Nat → Int32) (rd_nameIsBeast : Nat → Int32) (tk_limit : Int32) (tk_start : Int32) (tk_end : Int32) (tk_sort : Int32) (dr_lanes : Int32) (dr_deep : Int32) (dr_lanesTold : Int32) (dr_beasts : Int32) (dr_cities : Int32) (dr_passes : Int32) (dr_turned : Int32) (dr_who : Nat → Int32) (dr_firstStrong : Nat → Int32) (dr_kind : Nat → Int32) (dr_firstLane : Nat → Int32) (dr_mood : Nat → Int32) (dr_price : Nat → Int32) (dr_passBetween : Nat → Int32) (la_lanes : Int32) (la_deep : Int32) (la_lanesTold : Int32) (la_beasts : Int32) (la_cities : Int32) (la_passes : Int32) (la_turned : Int32) (la_who : Nat → Int32) (la_firstStrong : Nat → Int32) (la_kind : Nat → Int32) (la_firstLane : Nat → Int32) (la_mood : Nat → Int32) (la_price : Nat → Int32) (la_passBetween : Nat → Int32) (no_dead : Int32) (no_wet : Int32) (no_drawn : Int32) (no_strong : Nat → Int32) (no_at : Nat → Int32) (no_wounds : Nat → Int32) (pa_acts : Int32) (pa_marks : Int32) (mo_thrown : Int32) (mo_trouble : Int32) (mo_where : Int32) (mo_size : Int32) (mo_spot : Int32) (mo_sort : Int32) (mo_place : Int32) (mo_number : Int32) (mo_fault : Int32) (mo_wrongAt : Int32) (mo_laneTold : Int32) (mo_word : Int64) (mo_acts : Int32) (mo_marks : Int32) (mo_v : Nat → Int32) :
    (f_X11_war (nI nb) el_refusal el_faultTold el_faultPlace T rd_names rd_faultFound rd_faultAt rd_nameStarts rd_nameEnds rd_nameNumbers rd_nameIsBeast tk_limit tk_start tk_end tk_sort dr_lanes dr_deep dr_lanesTold dr_beasts dr_cities dr_passes dr_turned dr_who dr_firstStrong dr_kind dr_firstLane dr_mood dr_price dr_passBetween la_lanes la_deep la_lanesTold la_beasts la_cities la_passes la_turned la_who la_firstStrong la_kind la_firstLane la_mood la_price la_passBetween no_dead no_wet no_drawn no_strong no_at no_wounds pa_acts pa_marks p1 = some (-1, nI nb, 2, el_faultTold, el_faultPlace, rd_names, rd_faultFound, rd_faultAt, rd_nameStarts, rd_nameEnds, rd_nameNumbers, rd_nameIsBeast, tk_limit, tk_start, tk_end, tk_sort, dr_lanes, dr_deep, dr_lanesTold, dr_beasts, dr_cities, dr_passes, dr_turned, dr_who, dr_firstStrong, dr_kind, dr_firstLane, dr_mood, dr_price, dr_passBetween, la_lanes, la_deep, la_lanesTold, la_beasts, la_cities, la_passes, la_turned, la_who, la_firstStrong, la_kind, la_firstLane, la_mood, la_price, la_passBetween, no_dead, no_wet, no_drawn, no_strong, no_at, no_wounds, pa_acts, pa_marks) ∧ f_X13_war_r mo_thrown mo_trouble mo_where (nI nb) p1 = some (-1, 0, 2, -1)) ∨
    (∃ k a u1 u2 u3 u4 u5 u6 u7 u8 u9 u10 u11 u12 u13 u14 u15 u16 u17 u18 u19 u20 u21 u22 u23 v1 v2 v3 v4 v5 v6 v7 v8 v9 v10 v11 v12 v13 v14 v15 v16 v17 v18 v19 v20 v21 v22 v23, f_X11_war (nI nb) el_refusal el_faultTold el_faultPlace T rd_names rd_faultFound rd_faultAt rd_nameStarts rd_nameEnds rd_nameNumbers rd_nameIsBeast tk_limit tk_start tk_end tk_sort dr_lanes dr_deep dr_lanesTold dr_beasts dr_cities dr_passes dr_turned dr_who dr_firstStrong dr_kind dr_firstLane dr_mood dr_price dr_passBetween la_lanes la_deep la_lanesTold la_beasts la_cities la_passes la_turned la_who la_firstStrong la_kind la_firstLane la_mood la_price la_passBetween no_dead no_wet no_drawn no_strong no_at no_wounds pa_acts pa_marks p1 = some (-1, 0, 4, nI k, nI a, u1, nI k, nI a, u2, u3, u4, u5, u6, u7, u8, u9, u10, u11, u12, u13, u14, u15, u16, u17, u18, u19, u20, u21, u22, u23, la_lanes, la_deep, la_lanesTold, la_beasts, la_cities, la_passes, la_turned, la_who, la_firstStrong, la_kind, la_firstLane, la_mood, la_price, la_passBetween, no_dead, no_wet, no_drawn, no_strong, no_at, no_wounds, pa_acts, pa_marks) ∧ f_X13_war_f mo_thrown mo_trouble mo_where (nI nb) mo_size mo_spot mo_sort mo_place mo_number mo_fault mo_wrongAt mo_laneTold mo_word T p1 = some (-1, 0, 4, nI a, 0, p1, v1, 5, v2, v3, nI k, nI a, v4, v5, v6, v7, v8, v9, v10, v11, v12, v13, v14, v15, v16, v17, v18, v19, v20, v21, v22, v23)) ∨
    ∃ (a : AS) (C : Nat) (q : Nat → Nat) (B U ps : Nat), ∃ s1 s2 s3 s4 s5 s6 s7 s8 s9 s10 s11 s12 s13 s14 s15 s16 s17 s18 s19 s20 s21 s22 s23 s24 s25 wh fs kd fla md pr pb st at' wd m1 m2 m3 m4 m5 m6 m7 m8 v' rwh rst rkd rln rmd rpr rlo rnm rso rno, okA a ∧ okW 0 a ∧ rCl a wh kd md st wd ∧ rI (a 0 2) at' (a 5) ∧ rI (a 0 2) pr (a 3) ∧ rMo a rwh rkd rmd v' ∧ rI (a 0 2) rpr (a 3) ∧ rCi C q pb rlo ∧ B < 64 ∧ U < 64 ∧ (a 0 3 = 0 ∧ a 0 4 = 0 ∧ a 0 5 = 0) ∧ f_X11_war (nI nb) el_refusal el_faultTold el_faultPlace T rd_names rd_faultFound rd_faultAt rd_nameStarts rd_nameEnds rd_nameNumbers rd_nameIsBeast tk_limit tk_start tk_end tk_sort dr_lanes dr_deep dr_lanesTold dr_beasts dr_cities dr_passes dr_turned dr_who dr_firstStrong dr_kind dr_firstLane dr_mood dr_price dr_passBetween la_lanes la_deep la_lanesTold la_beasts la_cities la_passes la_turned la_who la_firstStrong la_kind la_firstLane la_mood la_price la_passBetween no_dead no_wet no_drawn no_strong no_at no_wounds pa_acts pa_marks p1 = some (nI (a 0 2), 0, 0, 0, -1, s1, s2, s3, s4, s5, s6, s7, s8, s9, s10, s11, s12, s13, s14, s15, s16, s17, s18, s19, s20, s21, s22, s23, s24, s25, nI (a 0 0), nI (a 0 1), nI B, nI (a 0 2), nI C, nI ps, nI U, wh, fs, kd, fla, md, pr, pb, 0, 0, 0, st, at', wd, 0, 0) ∧ f_X13_war_s mo_thrown mo_trouble mo_where (nI nb) mo_size mo_spot mo_sort mo_place mo_number mo_fault mo_wrongAt mo_laneTold mo_word mo_acts mo_marks T mo_v p1 = some (nI (a 0 2), 0, 0, -1, 0, p1, m1, m2, m3, m4, 0, m5, m6, m7, 0, 0, v', nI (a 0 0), nI (a 0 1), nI (popN B), nI (a 0 2), nI C, nI ps, nI U, m8, rwh, rst, rkd, rln, rmd, rpr, rlo, rnm, rso, rno) := by
  unfold f_X11_war
  have e1 : f_X11_outside p1 0 (nI nb) = some 1 ∧ (p1 < 0 ∨ ¬ p1 ≤ nI nb) ∨ ∃ n, n ≤ nb ∧ p1 = nI n ∧ f_X11_outside p1 0 (nI nb) = some 0 := by
    unfold f_X11_outside f_X11_outside_B10
    by_cases h : p1 < 0
    · rw [if_pos h]; exact Or.inl ⟨rfl, Or.inl h⟩
    · rw [if_neg h]
      by_cases h2 : p1 ≤ nI nb
      · rw [if_pos h2]
        obtain ⟨n, hn, rfl⟩ := nI_of h
        exact Or.inr ⟨n, (nI_leI hn (by omega)).mp h2, rfl, rfl⟩
      · rw [if_neg h2]; exact Or.inl ⟨rfl, Or.inr h2⟩
  rcases e1 with ⟨e1, e2⟩ | ⟨n, hn, rfl, e1⟩
  · refine Or.inl ⟨?_, ?_⟩
    · rw [e1, bd1_s, if10]
      unfold f_X11_war_B18
      rw [show f_X11_isRefused el_refusal 2 = some (1, 2) from rfl, bd2_s, if10]
    · unfold f_X13_war_r f_X13_war_r_B17
      rcases e2 with h | h
      · rw [if_pos h]; rfl
      · by_cases h0 : p1 < 0
        · rw [if_pos h0]; rfl
        · rw [if_neg h0, if_neg h]; rfl
  have hn9 : n ≤ 900 := Nat.le_trans hn hnb
  have n0 : ¬ nI n < 0 := nI_nlt (b := 0) (Nat.zero_le _) (by omega)
  have nl : nI n ≤ nI nb := (nI_leI (by omega) (by omega)).mpr hn
  obtain ⟨sp, so, pl, nu, wo, eg, mt⟩ := goM (e := 0) hn9 hT (Nat.zero_le _) 0 mo_place mo_number mo_word (by decide)
  refine Or.inr ?_
  rw [e1, bd1_s, if_pos rfl]
  unfold f_X11_war_B18 f_X13_war_f f_X13_war_s
  rw [show f_X11_isRefused el_refusal 0 = some (0, 0) from rfl, bd2_s, if_pos rfl, if_neg n0, if_neg n0, if_pos nl, if_pos nl, show f_X13_goesOn (nI n) 0 0 mo_place mo_number mo_word T = some (sp, so, pl, nu, wo) from eg, bd5_s, bd5_s]
  rcases readJ hn9 hT mt mo_wrongAt mo_laneTold rd_names rd_faultFound rd_faultAt tk_limit tk_start tk_end tk_sort dr_lanes dr_deep dr_lanesTold dr_beasts dr_cities dr_passes dr_turned rd_nameStarts rd_nameEnds rd_nameNumbers rd_nameIsBeast dr_who dr_firstStrong dr_kind dr_firstLane dr_mood dr_price dr_passBetween with ⟨L, D, x2, te2, y2, sp2, so2, pl2, nu2, wo2, B, b, c, p, u, ns2, ne2, nn2, nb2, wh2, fs2, kd2, fla2, md2, pr2, pb2, rwh, rst, rkd, rln, rmd, rpr, rlo, rnm, rso, rno, h2, h6, hd1, hd5, hb1, dr, ec, em⟩ | ⟨k, a, u1, u2, u3, u4, u5, u6, u7, u8, u9, u10, u11, u12, u13, u14, u15, u16, u17, u18, u19, u20, u21, u22, u23, v1, v2, v3, v4, v5, v6, v7, v8, v9, v10, v11, v12, v13, v14, v15, v16, v17, v18, v19, v20, v21, v22, v23, hk1, hk6, ec, em⟩
  · refine Or.inr ?_
    obtain ⟨⟨hB, hb5, hp9, hu⟩, lr, br, cr, -, -⟩ := dr
    have hB6 : B < 64 := Nat.lt_of_lt_of_le hB (Nat.pow_le_pow_right (n := 2) (j := 6) (by decide) h6)
    have hU6 : u < 64 := Nat.lt_of_lt_of_le hu (Nat.pow_le_pow_right (n := 2) (j := 6) (by decide) (by omega))
    rw [ec, bd26_s, if_pos rfl, em, bd26_s, if_pos (show (0 : Int32) ≤ 0 by decide)]
    unfold f_X11_war_B67 f_X2_copyOf f_X5_forget
    rw [show f_X11_isRefused 0 0 = some (0, 0) from rfl, bd2_s, if_pos rfl, bd14_s]
    obtain ⟨st2, at2, wd2, eb, hs, ha, hw⟩ := beginC (va_cpy fs2 la_firstStrong 0 0 6) (va_cpy fla2 la_firstLane 0 0 5) no_strong no_at no_wounds no_dead no_wet no_drawn
    obtain ⟨v', v1, v2, v3, v4, ev⟩ := warV h6 hb5 T 0 mo_trouble mo_where 0 (nI n) sp2 so2 pl2 nu2 0 mo_wrongAt (nI B) wo2 mo_acts mo_marks (nI D) (nI (popN B)) (nI c) (nI p) (nI u) (nI (b + c)) rwh rst rkd rln rmd rpr rlo rnm rso rno mo_v
    have ok := aOf_ok h2 h6 hd1 hd5 hb1 hb5 lr br
    have bK : ∀ (f : Nat → Int32), (∀ j, j < b → f j = kd2 j) → rI b f ((aOf L D b kd2 md2 pr2 wh2 fla2 fs2) 1) := fun f hf => clI (f := kd2) (fun j hj => by
      obtain ⟨k, l, m, q, h3, h4, h7, h8, h9, e1, r1, e2, r2, e3, r3, e4, r4⟩ := br j hj
      exact ⟨k, by omega, e1, (hf j hj).trans e1⟩)
    have bM : ∀ (f : Nat → Int32), (∀ j, j < b → f j = md2 j) → rI b f ((aOf L D b kd2 md2 pr2 wh2 fla2 fs2) 2) := fun f hf => clI (f := md2) (fun j hj => by
      obtain ⟨k, l, m, q, h3, h4, h7, h8, h9, e1, r1, e2, r2, e3, r3, e4, r4⟩ := br j hj
      exact ⟨m, by omega, e3, (hf j hj).trans e3⟩)
    have bP : ∀ (f : Nat → Int32), (∀ j, j < b → f j = pr2 j) → rI b f ((aOf L D b kd2 md2 pr2 wh2 fla2 fs2) 3) := fun f hf => clI (f := pr2) (fun j hj => by
      obtain ⟨k, l, m, q, h3, h4, h7, h8, h9, e1, r1, e2, r2, e3, r3, e4, r4⟩ := br j hj
      exact ⟨q, by omega, e4, (hf j hj).trans e4⟩)
    have bL : ∀ (f : Nat → Int32), (∀ j, j < b → f j = fla2 j) → rI b f ((aOf L D b kd2 md2 pr2 wh2 fla2 fs2) 5) := fun f hf => clI (f := fla2) (fun j hj => by
      obtain ⟨k, l, m, q, h3, h4, h7, h8, h9, e1, r1, e2, r2, e3, r3, e4, r4⟩ := br j hj
      exact ⟨l, by omega, e2, (hf j hj).trans e2⟩)
    have lW : ∀ (f : Nat → Int32), (∀ j, j < L → f j = wh2 j) → rI L f ((aOf L D b kd2 md2 pr2 wh2 fla2 fs2) 4) := fun f hf => clI (f := wh2) (fun j hj => by
      obtain ⟨w, s, h3, h4, e1, r1, e2, r2⟩ := lr j (by omega)
      exact ⟨w, by omega, e1, (hf j hj).trans e1⟩)
    have lS : ∀ (f : Nat → Int32), (∀ j, j < L → f j = fs2 j) → rI L f ((aOf L D b kd2 md2 pr2 wh2 fla2 fs2) 7) := fun f hf => clI (f := fs2) (fun j hj => by
      obtain ⟨w, s, h3, h4, e1, r1, e2, r2⟩ := lr j (by omega)
      exact ⟨s, by omega, e2, (hf j hj).trans e2⟩)
    have rK : ∀ j, j < b → rkd j = kd2 j := fun j hj => by
      obtain ⟨k, l, m, q, h3, h4, h7, h8, h9, e1, r1, e2, r2, e3, r3, e4, r4⟩ := br j hj
      rw [e1, r1]
    have rL : ∀ j, j < b → rln j = fla2 j := fun j hj => by
      obtain ⟨k, l, m, q, h3, h4, h7, h8, h9, e1, r1, e2, r2, e3, r3, e4, r4⟩ := br j hj
      rw [e2, r2]
    have rM : ∀ j, j < b → rmd j = md2 j := fun j hj => by
      obtain ⟨k, l, m, q, h3, h4, h7, h8, h9, e1, r1, e2, r2, e3, r3, e4, r4⟩ := br j hj
      rw [e3, r3]
    have rP : ∀ j, j < b → rpr j = pr2 j := fun j hj => by
      obtain ⟨k, l, m, q, h3, h4, h7, h8, h9, e1, r1, e2, r2, e3, r3, e4, r4⟩ := br j hj
      rw [e4, r4]
    have rW : ∀ j, j < L → rwh j = wh2 j := fun j hj => by
      obtain ⟨w, s, h3, h4, e1, r1, e2, r2⟩ := lr j (by omega)
      rw [e1, r1]
    have rS : ∀ j, j < L → rst j = fs2 j := fun j hj => by
      obtain ⟨w, s, h3, h4, e1, r1, e2, r2⟩ := lr j (by omega)
      rw [e2, r2]
    refine ⟨aOf L D b kd2 md2 pr2 wh2 fla2 fs2, c, fun x => (pb2 x).toNatClampNeg, B, u, p, nI (b + c), 0, -1, ns2, ne2, nn2, nb2, nI n, x2, te2, y2, nI L, nI D, nI B, nI b, nI c, nI p, nI u, wh2, fs2, kd2, fla2, md2, pr2, pb2, va_cpy wh2 la_who 0 0 6, va_cpy fs2 la_firstStrong 0 0 6, va_cpy kd2 la_kind 0 0 5, va_cpy fla2 la_firstLane 0 0 5, va_cpy md2 la_mood 0 0 5, va_cpy pr2 la_price 0 0 5, va_cpy pb2 la_passBetween 0 0 36, st2, at2, wd2, sp2, so2, pl2, nu2, mo_wrongAt, nI B, wo2, nI (b + c), v', rwh, rst, rkd, rln, rmd, rpr, rlo, rnm, rso, rno, ok, ?_, ?_, ?_, ?_, ?_, ?_, ?_, hB6, hU6, ⟨rfl, rfl, rfl⟩, ?_, ?_⟩
    · intro j hj; show 0 ≤ _; exact Nat.zero_le _
    · refine ⟨lW _ (fun j hj => cpyE (by omega)), bK _ (fun j hj => cpyE (by omega)), bM _ (fun j hj => cpyE (by omega)), lS _ (fun j hj => (hs j (by omega)).trans (cpyE (by omega))), ?_⟩
      intro j hj
      have hj : j < b := hj
      exact hw j (by omega)
    · exact bL _ (fun j hj => (ha j (by omega)).trans (cpyE (by omega)))
    · exact bP _ (fun j hj => cpyE (by omega))
    · refine ⟨lW _ rW, bK _ rK, bM _ rM, v2 10 (by omega) (by omega), v4 17 (by omega) (by omega), v4 18 (by omega) (by omega), bL _ (fun j hj => (v1 j hj).trans (rL j hj)), ?_, lS _ (fun j hj => (v3 j hj).trans (rS j hj))⟩
      intro j hj
      have hj : j < b := hj
      exact v2 (5 + j) (by omega) (by omega)
    · exact bP _ rP
    · refine ⟨cr.1, fun i j hi hj => ?_⟩
      have hc := cr.1
      obtain ⟨x, hx, e1, e2, -⟩ := cr.2 i j (by omega) (by omega)
      refine ⟨?_, ?_, ?_⟩
      · show (pb2 (6 * i + j)).toNatClampNeg ≤ 100
        rw [e1, nI_clamp (by omega)]; exact hx
      · show va_cpy pb2 la_passBetween 0 0 36 (6 * i + j) = nI (pb2 (6 * i + j)).toNatClampNeg
        rw [cpyE (by omega), e1, nI_clamp (by omega)]
      · show rlo (6 * i + j) = nI (pb2 (6 * i + j)).toNatClampNeg - 1
        rw [e1, nI_clamp (by omega)]; exact e2 hi hj
    · have eb' : f_X8_begin (va_cpy fs2 la_firstStrong ((0 : Int32).toNatClampNeg) ((0 : Int32).toNatClampNeg) ((6 : Int32).toNatClampNeg)) (va_cpy fla2 la_firstLane ((0 : Int32).toNatClampNeg) ((0 : Int32).toNatClampNeg) ((5 : Int32).toNatClampNeg)) no_dead no_wet no_drawn no_strong no_at no_wounds = some (0, 0, 0, st2, at2, wd2) := eb
      rw [eb', bd6_s, bd2_s]
      rfl
    · rw [ev]; rfl
  · refine Or.inl ⟨k, a, u1, u2, u3, u4, u5, u6, u7, u8, u9, u10, u11, u12, u13, u14, u15, u16, u17, u18, u19, u20, u21, u22, u23, v1, v2, v3, v4, v5, v6, v7, v8, v9, v10, v11, v12, v13, v14, v15, v16, v17, v18, v19, v20, v21, v22, v23, ?_, ?_⟩
    · rw [ec, bd26_s, if_neg (nI_ne0 (by omega) (by omega))]
      unfold f_X11_war_B67
      rw [show f_X11_isRefused 0 4 = some (1, 4) from rfl, bd2_s, if10]
    · rw [em, bd26_s, if_neg (show ¬ nI k ≤ 0 from nI_ge (b := k) (a := 0) (by omega) (by omega))]
