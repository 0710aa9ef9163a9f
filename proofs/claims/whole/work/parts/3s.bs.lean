/-! BS: with no war told the class refuses every call as the reference does -/
theorem z_be (x : Int32) : f_X2_hasBeast 0 x = some 0 := by
  unfold f_X2_hasBeast
  by_cases h : x < 0
  · rw [if_pos h]
  · rw [if_neg h, if_pos (Int32.not_lt.mp h)]
theorem z_la (x : Int32) : f_X2_hasLane 0 x = some 0 := z_be x
theorem z_ci (x : Int32) : f_X2_hasCity 0 x = some 0 := z_be x
theorem z_told : f_X2_isTold 0 = some 0 := rfl
theorem z_bt (x : Int32) : f_X11_beastTrouble 0 x = some 1 := by
  unfold f_X11_beastTrouble; rw [z_be, bd1_s, if_pos rfl]
theorem z_wt : f_X11_warTrouble 0 = some 1 := rfl
theorem z_mt (m x y : Int32) : f_X11_meetingTrouble m 0 x y = some 1 := by
  unfold f_X11_meetingTrouble; rw [z_be, bd1_s, if_pos rfl]
theorem z_ht (wh : Nat → Int32) (x y : Int32) : f_X11_horseTrouble 0 wh x y = some 1 := by
  unfold f_X11_horseTrouble; rw [z_la, bd1_s, if_pos rfl]
theorem z_st (x : Int32) : f_X11_saleTrouble 0 x = some 1 := rfl
theorem z_mc (x y z : Int32) : f_X11_marchTrouble 0 x y z = some 1 := by
  unfold f_X11_marchTrouble; rw [z_ci, bd1_s, if_pos rfl]
theorem z_ct (x : Int32) : f_X11_cityTrouble 0 x = some 1 := by
  unfold f_X11_cityTrouble; rw [z_ci, bd1_s, if_pos rfl]
theorem z_mv (m d : Int32) (at' : Nat → Int32) (x y : Int32) : f_X11_moveTrouble m 0 d at' x y = some 1 := by
  unfold f_X11_moveTrouble; rw [z_be, bd1_s, if_pos rfl]
theorem z_li (d x y : Int32) : f_X11_livingTrouble 0 d x y = some 1 := by
  unfold f_X11_livingTrouble; rw [z_be, bd1_s, if_pos rfl]
theorem z_ba (x y : Int32) : f_X11_battlesTrouble 0 x y = some 1 := rfl
theorem z_if1 {α : Type} (x y : α) : (if (1 : Int32) = 0 then x else y) = y := rfl

theorem z_lane (el_refusal : Int32) (la_who : Nat → Int32) (no_dead : Int32) (no_strong : Nat → Int32) (no_at : Nat → Int32) (p1 : Int32) (p2 : Int32) : f_X11_lane el_refusal 0 0 la_who no_dead no_strong no_at p1 p2 = some (-1, 1) := by
  unfold f_X11_lane
  rw [z_la, bd1_s, if_pos rfl]
  unfold f_X11_lane_B21 f_X11_lane_B26
  rw [ref1, bd2_s, z_if1]
theorem zn_lane (mo_thrown : Int32) (mo_trouble : Int32) (mo_where : Int32) (p1 : Int32) (p2 : Int32) : f_X13_lane_n mo_thrown mo_trouble mo_where p1 p2 = some (-1, 0, 1, -1) := rfl
theorem z_beast (el_refusal : Int32) (la_kind : Nat → Int32) (la_mood : Nat → Int32) (la_price : Nat → Int32) (no_dead : Int32) (no_wet : Int32) (no_at : Nat → Int32) (no_wounds : Nat → Int32) (p1 : Int32) (p2 : Int32) : f_X11_beast el_refusal 0 la_kind la_mood la_price no_dead no_wet no_at no_wounds p1 p2 = some (-1, 1) := by
  unfold f_X11_beast
  rw [z_be, bd1_s, if_pos rfl]
  unfold f_X11_beast_B22 f_X11_beast_B27
  rw [ref1, bd2_s, z_if1]
theorem zn_beast (mo_thrown : Int32) (mo_trouble : Int32) (mo_where : Int32) (p1 : Int32) (p2 : Int32) : f_X13_beast_n mo_thrown mo_trouble mo_where p1 p2 = some (-1, 0, 1, -1) := rfl
theorem z_across (el_refusal : Int32) (la_deep : Int32) (la_kind : Nat → Int32) (la_mood : Nat → Int32) (no_dead : Int32) (no_wet : Int32) (p1 : Int32) (p2 : Int32) : f_X11_across el_refusal la_deep 0 la_kind la_mood no_dead no_wet p1 p2 = some (-1, 1) := by
  unfold f_X11_across
  rw [z_bt, bd1_s, ref1, bd2_s, z_if1]
theorem zn_across (mo_thrown : Int32) (mo_trouble : Int32) (mo_where : Int32) (p1 : Int32) (p2 : Int32) : f_X13_across_n mo_thrown mo_trouble mo_where p1 p2 = some (-1, 0, 1, -1) := rfl
theorem z_meets (el_refusal : Int32) (la_who : Nat → Int32) (la_kind : Nat → Int32) (no_dead : Int32) (no_strong : Nat → Int32) (no_wounds : Nat → Int32) (p1 : Int32) (p2 : Int32) (p3 : Int32) : f_X11_meets el_refusal 0 0 la_who la_kind no_dead no_strong no_wounds p1 p2 p3 = some (-1, 1) := by
  unfold f_X11_meets
  rw [z_mt, bd1_s, ref1, bd2_s, z_if1]
theorem zn_meets (mo_thrown : Int32) (mo_trouble : Int32) (mo_where : Int32) (p1 : Int32) (p2 : Int32) (p3 : Int32) : f_X13_meets_n mo_thrown mo_trouble mo_where p1 p2 p3 = some (-1, 0, 1, -1) := rfl
theorem z_mean (el_refusal : Int32) (la_deep : Int32) (la_who : Nat → Int32) (la_kind : Nat → Int32) (la_mood : Nat → Int32) (no_dead : Int32) (no_wet : Int32) (no_strong : Nat → Int32) (no_wounds : Nat → Int32) (p1 : Int32) (p2 : Int32) (p3 : Int32) (p4 : Int32) : f_X11_mean el_refusal 0 la_deep 0 la_who la_kind la_mood no_dead no_wet no_strong no_wounds p1 p2 p3 p4 = some (-1, 1) := by
  unfold f_X11_mean
  rw [z_mt, bd1_s, ref1, bd2_s, z_if1]
theorem zn_mean (mo_thrown : Int32) (mo_trouble : Int32) (mo_where : Int32) (p1 : Int32) (p2 : Int32) (p3 : Int32) (p4 : Int32) : f_X13_mean_n mo_thrown mo_trouble mo_where p1 p2 p3 p4 = some (-1, 0, 1, -1) := rfl
theorem z_worth (el_refusal : Int32) (la_deep : Int32) (la_who : Nat → Int32) (la_kind : Nat → Int32) (la_mood : Nat → Int32) (no_dead : Int32) (no_wet : Int32) (no_strong : Nat → Int32) (no_wounds : Nat → Int32) (p1 : Int32) (p2 : Int32) (p3 : Int32) : f_X11_worth el_refusal 0 la_deep 0 la_who la_kind la_mood no_dead no_wet no_strong no_wounds p1 p2 p3 = some (-9223372036854775808, 1) := by
  unfold f_X11_worth
  rw [z_mt, bd1_s, ref1, bd2_s, z_if1]
theorem zn_worth (mo_thrown : Int32) (mo_trouble : Int32) (mo_where : Int32) (p1 : Int32) (p2 : Int32) (p3 : Int32) : f_X13_worth_n mo_thrown mo_trouble mo_where p1 p2 p3 = some (-9223372036854775808, 0, 1, -1) := rfl
theorem z_bestLane (el_refusal : Int32) (la_deep : Int32) (la_who : Nat → Int32) (la_kind : Nat → Int32) (la_mood : Nat → Int32) (no_dead : Int32) (no_wet : Int32) (no_strong : Nat → Int32) (no_wounds : Nat → Int32) (p1 : Int32) : f_X11_bestLane el_refusal 0 la_deep 0 la_who la_kind la_mood no_dead no_wet no_strong no_wounds p1 = some (-1, 1) := by
  unfold f_X11_bestLane
  rw [z_bt, bd1_s, ref1, bd2_s, z_if1]
theorem zn_bestLane (mo_thrown : Int32) (mo_trouble : Int32) (mo_where : Int32) (p1 : Int32) : f_X13_bestLane_n mo_thrown mo_trouble mo_where p1 = some (-1, 0, 1, -1) := rfl
theorem z_all (el_refusal : Int32) (la_deep : Int32) (la_who : Nat → Int32) (la_kind : Nat → Int32) (la_mood : Nat → Int32) (no_dead : Int32) (no_wet : Int32) (no_strong : Nat → Int32) (no_at : Nat → Int32) (no_wounds : Nat → Int32) (p1 : Int32) (p2 : Int32) : f_X11_all el_refusal 0 la_deep 0 la_who la_kind la_mood no_dead no_wet no_strong no_at no_wounds p1 p2 = some (-1, 1) := by
  unfold f_X11_all
  rw [z_wt, bd1_s, ref1, bd2_s, z_if1]
theorem zn_all (mo_thrown : Int32) (mo_trouble : Int32) (mo_where : Int32) (p1 : Int32) (p2 : Int32) : f_X13_all_n mo_thrown mo_trouble mo_where p1 p2 = some (-1, 0, 1, -1) := rfl
theorem z_worst (el_refusal : Int32) (la_deep : Int32) (la_who : Nat → Int32) (la_kind : Nat → Int32) (la_mood : Nat → Int32) (no_dead : Int32) (no_wet : Int32) (no_strong : Nat → Int32) (no_at : Nat → Int32) (no_wounds : Nat → Int32) : f_X11_worst el_refusal 0 la_deep 0 la_who la_kind la_mood no_dead no_wet no_strong no_at no_wounds = some (-1, 1) := by
  unfold f_X11_worst
  rw [z_wt, bd1_s, ref1, bd2_s, z_if1]
theorem zn_worst (mo_thrown : Int32) (mo_trouble : Int32) (mo_where : Int32) : f_X13_worst_n mo_thrown mo_trouble mo_where = some (-1, 0, 1, -1) := rfl
theorem z_worthIf (el_refusal : Int32) (la_deep : Int32) (la_who : Nat → Int32) (la_kind : Nat → Int32) (la_mood : Nat → Int32) (no_dead : Int32) (no_strong : Nat → Int32) (no_wounds : Nat → Int32) (p1 : Int32) (p2 : Int32) (p3 : Int32) (p4 : Int32) : f_X11_worthIf el_refusal 0 la_deep 0 la_who la_kind la_mood no_dead no_strong no_wounds p1 p2 p3 p4 = some (-9223372036854775808, 1) := by
  unfold f_X11_worthIf
  rw [z_mt, bd1_s, ref1, bd2_s, z_if1]
theorem zn_worthIf (mo_thrown : Int32) (mo_trouble : Int32) (mo_where : Int32) (p1 : Int32) (p2 : Int32) (p3 : Int32) (p4 : Int32) : f_X13_worthIf_n mo_thrown mo_trouble mo_where p1 p2 p3 p4 = some (-9223372036854775808, 0, 1, -1) := rfl
theorem z_moodFor (el_refusal : Int32) (la_deep : Int32) (la_who : Nat → Int32) (la_kind : Nat → Int32) (no_dead : Int32) (no_wet : Int32) (no_strong : Nat → Int32) (no_wounds : Nat → Int32) (p1 : Int32) (p2 : Int32) : f_X11_moodFor el_refusal 0 la_deep 0 la_who la_kind no_dead no_wet no_strong no_wounds p1 p2 = some (-1, 1) := by
  unfold f_X11_moodFor
  rw [z_mt, bd1_s, ref1, bd2_s, z_if1]
theorem zn_moodFor (mo_thrown : Int32) (mo_trouble : Int32) (mo_where : Int32) (p1 : Int32) (p2 : Int32) : f_X13_moodFor_n mo_thrown mo_trouble mo_where p1 p2 = some (-1, 0, 1, -1) := rfl
theorem z_toHammer (el_refusal : Int32) (la_deep : Int32) (la_who : Nat → Int32) (la_kind : Nat → Int32) (la_mood : Nat → Int32) (no_dead : Int32) (no_wet : Int32) (no_strong : Nat → Int32) (no_at : Nat → Int32) (no_wounds : Nat → Int32) : f_X11_toHammer el_refusal 0 la_deep 0 la_who la_kind la_mood no_dead no_wet no_strong no_at no_wounds = some (-1, 1) := by
  unfold f_X11_toHammer
  rw [z_wt, bd1_s, ref1, bd2_s, z_if1]
theorem zn_toHammer (mo_thrown : Int32) (mo_trouble : Int32) (mo_where : Int32) : f_X13_toHammer_n mo_thrown mo_trouble mo_where = some (-1, 0, 1, -1) := rfl
theorem z_place (el_refusal : Int32) (la_deep : Int32) (la_who : Nat → Int32) (la_kind : Nat → Int32) (la_mood : Nat → Int32) (no_dead : Int32) (no_wet : Int32) (no_strong : Nat → Int32) (no_wounds : Nat → Int32) (pl_worths : Nat → Int64) (pl_most : Nat → Int64) (pl_lanes : Nat → Int32) (p1 : Int32) : f_X11_place el_refusal 0 la_deep 0 la_who la_kind la_mood no_dead no_wet no_strong no_wounds pl_worths pl_most pl_lanes p1 = some (-1, 1, pl_worths, pl_most, pl_lanes) := by
  unfold f_X11_place
  rw [z_bt, bd1_s, ref1, bd2_s, z_if1]
theorem zn_place (mo_thrown : Int32) (mo_trouble : Int32) (mo_where : Int32) (p1 : Int32) : f_X13_place_n mo_thrown mo_trouble mo_where p1 = some (-1, 0, 1, -1) := rfl
theorem z_placed (el_refusal : Int32) (la_deep : Int32) (la_who : Nat → Int32) (la_kind : Nat → Int32) (la_mood : Nat → Int32) (no_dead : Int32) (no_wet : Int32) (no_strong : Nat → Int32) (no_wounds : Nat → Int32) (pl_worths : Nat → Int64) (pl_most : Nat → Int64) (pl_lanes : Nat → Int32) (p1 : Int32) : f_X11_placed el_refusal 0 la_deep 0 la_who la_kind la_mood no_dead no_wet no_strong no_wounds pl_worths pl_most pl_lanes p1 = some (-9223372036854775808, 1, pl_worths, pl_most, pl_lanes) := by
  unfold f_X11_placed
  rw [z_wt, bd1_s, ref1, bd2_s, z_if1]
theorem zn_placed (mo_thrown : Int32) (mo_trouble : Int32) (mo_where : Int32) (p1 : Int32) : f_X13_placed_n mo_thrown mo_trouble mo_where p1 = some (-9223372036854775808, 0, 1, -1) := rfl
theorem z_out (el_refusal : Int32) (la_deep : Int32) (la_who : Nat → Int32) (la_kind : Nat → Int32) (la_mood : Nat → Int32) (no_dead : Int32) (no_wet : Int32) (no_strong : Nat → Int32) (no_wounds : Nat → Int32) (pl_worths : Nat → Int64) (pl_most : Nat → Int64) (pl_lanes : Nat → Int32) : f_X11_out el_refusal 0 la_deep 0 la_who la_kind la_mood no_dead no_wet no_strong no_wounds pl_worths pl_most pl_lanes = some (-1, 1, pl_worths, pl_most, pl_lanes) := by
  unfold f_X11_out
  rw [z_wt, bd1_s, ref1, bd2_s, z_if1]
theorem zn_out (mo_thrown : Int32) (mo_trouble : Int32) (mo_where : Int32) : f_X13_out_n mo_thrown mo_trouble mo_where = some (-1, 0, 1, -1) := rfl
theorem z_toOpen (el_refusal : Int32) (la_deep : Int32) (la_who : Nat → Int32) (la_kind : Nat → Int32) (la_mood : Nat → Int32) (no_dead : Int32) (no_wet : Int32) (no_strong : Nat → Int32) (no_at : Nat → Int32) (no_wounds : Nat → Int32) : f_X11_toOpen el_refusal 0 la_deep 0 la_who la_kind la_mood no_dead no_wet no_strong no_at no_wounds = some (-1, 1) := by
  unfold f_X11_toOpen
  rw [z_wt, bd1_s, ref1, bd2_s, z_if1]
theorem zn_toOpen (mo_thrown : Int32) (mo_trouble : Int32) (mo_where : Int32) : f_X13_toOpen_n mo_thrown mo_trouble mo_where = some (-1, 0, 1, -1) := rfl
theorem z_rests (el_refusal : Int32) (la_deep : Int32) (la_who : Nat → Int32) (la_kind : Nat → Int32) (la_mood : Nat → Int32) (no_dead : Int32) (no_wet : Int32) (no_strong : Nat → Int32) (no_wounds : Nat → Int32) (ga_worthInOpen : Int64) (ga_worths : Nat → Int64) (p1 : Int32) : f_X11_rests el_refusal 0 la_deep 0 la_who la_kind la_mood no_dead no_wet no_strong no_wounds ga_worthInOpen ga_worths p1 = some (-1, 1, ga_worthInOpen, ga_worths) := by
  unfold f_X11_rests
  rw [z_bt, bd1_s, ref1, bd2_s, z_if1]
theorem zn_rests (mo_thrown : Int32) (mo_trouble : Int32) (mo_where : Int32) (p1 : Int32) : f_X13_rests_n mo_thrown mo_trouble mo_where p1 = some (-1, 0, 1, -1) := rfl
theorem z_rest (el_refusal : Int32) (la_deep : Int32) (la_who : Nat → Int32) (la_kind : Nat → Int32) (la_mood : Nat → Int32) (no_dead : Int32) (no_wet : Int32) (no_strong : Nat → Int32) (no_wounds : Nat → Int32) (ga_worthInOpen : Int64) (ga_worths : Nat → Int64) (p1 : Int32) : f_X11_rest el_refusal 0 la_deep 0 la_who la_kind la_mood no_dead no_wet no_strong no_wounds ga_worthInOpen ga_worths p1 = some (-1, 1, ga_worthInOpen, ga_worths) := by
  unfold f_X11_rest
  rw [z_bt, bd1_s, ref1, bd2_s, z_if1]
theorem zn_rest (mo_thrown : Int32) (mo_trouble : Int32) (mo_where : Int32) (p1 : Int32) : f_X13_rest_n mo_thrown mo_trouble mo_where p1 = some (-1, 0, 1, -1) := rfl
theorem z_weeks (el_refusal : Int32) (la_deep : Int32) (la_who : Nat → Int32) (la_kind : Nat → Int32) (la_mood : Nat → Int32) (no_dead : Int32) (no_wet : Int32) (no_wounds : Nat → Int32) (p1 : Int32) : f_X11_weeks el_refusal 0 la_deep 0 la_who la_kind la_mood no_dead no_wet no_wounds p1 = some (-1, 1) := by
  unfold f_X11_weeks
  rw [z_ht, bd1_s, ref1, bd2_s, z_if1]
theorem zn_weeks (mo_thrown : Int32) (mo_trouble : Int32) (mo_where : Int32) (p1 : Int32) : f_X13_weeks_n mo_thrown mo_trouble mo_where p1 = some (-1, 0, 1, -1) := rfl
theorem z_sale (el_refusal : Int32) (la_price : Nat → Int32) (no_dead : Int32) (p1 : Int32) : f_X11_sale el_refusal 0 0 la_price no_dead p1 = some (-1, 1) := by
  unfold f_X11_sale
  rw [z_st, bd1_s, ref1, bd2_s, z_if1]
theorem zn_sale (mo_thrown : Int32) (mo_trouble : Int32) (mo_where : Int32) (p1 : Int32) : f_X13_sale_n mo_thrown mo_trouble mo_where p1 = some (-1, 0, 1, -1) := rfl
theorem z_saleOver (el_refusal : Int32) (la_price : Nat → Int32) (no_dead : Int32) (p1 : Int32) : f_X11_saleOver el_refusal 0 0 la_price no_dead p1 = some (-1, 1) := by
  unfold f_X11_saleOver
  rw [z_st, bd1_s, ref1, bd2_s, z_if1]
theorem zn_saleOver (mo_thrown : Int32) (mo_trouble : Int32) (mo_where : Int32) (p1 : Int32) : f_X13_saleOver_n mo_thrown mo_trouble mo_where p1 = some (-1, 0, 1, -1) := rfl
theorem z_march (el_refusal : Int32) (la_passBetween : Nat → Int32) (ma_cities : Int32) (ma_come : Int32) (ma_walked : Nat → Int32) (ma_way : Nat → Int32) (p1 : Int32) (p2 : Int32) (p3 : Int32) : f_X11_march el_refusal 0 la_passBetween ma_cities ma_come ma_walked ma_way p1 p2 p3 = some (-1, 1, ma_cities, ma_come, ma_walked, ma_way) := by
  unfold f_X11_march
  rw [z_mc, bd1_s, ref1, bd2_s, z_if1]
theorem zn_march (mo_thrown : Int32) (mo_trouble : Int32) (mo_where : Int32) (p1 : Int32) (p2 : Int32) (p3 : Int32) : f_X13_march_n mo_thrown mo_trouble mo_where p1 p2 p3 = some (-1, 0, 1, -1) := rfl
theorem z_marchAt (el_refusal : Int32) (la_passBetween : Nat → Int32) (ma_cities : Int32) (ma_come : Int32) (ma_walked : Nat → Int32) (ma_way : Nat → Int32) (p1 : Int32) (p2 : Int32) (p3 : Int32) (p4 : Int32) : f_X11_marchAt el_refusal 0 la_passBetween ma_cities ma_come ma_walked ma_way p1 p2 p3 p4 = some (-1, 1, ma_cities, ma_come, ma_walked, ma_way) := by
  unfold f_X11_marchAt
  rw [z_mc, bd1_s, ref1, bd2_s, z_if1]
theorem zn_marchAt (mo_thrown : Int32) (mo_trouble : Int32) (mo_where : Int32) (p1 : Int32) (p2 : Int32) (p3 : Int32) (p4 : Int32) : f_X13_marchAt_n mo_thrown mo_trouble mo_where p1 p2 p3 p4 = some (-1, 0, 1, -1) := rfl
theorem z_reach (el_refusal : Int32) (la_passBetween : Nat → Int32) (p1 : Int32) : f_X11_reach el_refusal 0 la_passBetween p1 = some (-1, 1) := by
  unfold f_X11_reach
  rw [z_ct, bd1_s, ref1, bd2_s, z_if1]
theorem zn_reach (mo_thrown : Int32) (mo_trouble : Int32) (mo_where : Int32) (p1 : Int32) : f_X13_reach_n mo_thrown mo_trouble mo_where p1 = some (-1, 0, 1, -1) := rfl
theorem z_worstPass (el_refusal : Int32) (la_passBetween : Nat → Int32) (ma_cities : Int32) (ma_come : Int32) (ma_walked : Nat → Int32) (ma_way : Nat → Int32) (p1 : Int32) (p2 : Int32) (p3 : Int32) : f_X11_worstPass el_refusal 0 la_passBetween ma_cities ma_come ma_walked ma_way p1 p2 p3 = some (-1, 1, ma_cities, ma_come, ma_walked, ma_way) := by
  unfold f_X11_worstPass
  rw [z_mc, bd1_s, ref1, bd2_s, z_if1]
theorem zn_worstPass (mo_thrown : Int32) (mo_trouble : Int32) (mo_where : Int32) (p1 : Int32) (p2 : Int32) (p3 : Int32) : f_X13_worstPass_n mo_thrown mo_trouble mo_where p1 p2 p3 = some (-1, 0, 1, -1) := rfl
theorem z_setOut (el_refusal : Int32) (la_passBetween : Nat → Int32) (ma_cities : Int32) (ma_come : Int32) (ma_walked : Nat → Int32) (ma_way : Nat → Int32) (p1 : Int32) (p2 : Int32) (p3 : Int32) : f_X11_setOut el_refusal 0 la_passBetween ma_cities ma_come ma_walked ma_way p1 p2 p3 = some (-1, 1, ma_cities, ma_come, ma_walked, ma_way) := by
  unfold f_X11_setOut
  rw [z_mc, bd1_s, ref1, bd2_s, z_if1]
theorem zn_setOut (mo_thrown : Int32) (mo_trouble : Int32) (mo_where : Int32) (p1 : Int32) (p2 : Int32) (p3 : Int32) : f_X13_setOut_n mo_thrown mo_trouble mo_where p1 p2 p3 = some (-1, 0, 1, -1) := rfl
theorem z_fits (el_refusal : Int32) (la_turned : Int32) (la_kind : Nat → Int32) (la_mood : Nat → Int32) (no_dead : Int32) (no_wet : Int32) (no_at : Nat → Int32) (tr_sets : Int32) (tr_inSome : Int32) (tr_inAll : Int32) (tr_turns : Nat → Int32) (tr_setsWith : Nat → Int32) : f_X11_fits el_refusal 0 0 la_turned la_kind la_mood no_dead no_wet no_at tr_sets tr_inSome tr_inAll tr_turns tr_setsWith = some (-1, 1, tr_sets, tr_inSome, tr_inAll, tr_turns, tr_setsWith) := by
  unfold f_X11_fits
  rw [z_wt, bd1_s, ref1, bd2_s, z_if1]
theorem zn_fits (mo_thrown : Int32) (mo_trouble : Int32) (mo_where : Int32) : f_X13_fits_n mo_thrown mo_trouble mo_where = some (-1, 0, 1, -1) := rfl
theorem z_could (el_refusal : Int32) (la_turned : Int32) (la_kind : Nat → Int32) (la_mood : Nat → Int32) (no_dead : Int32) (no_wet : Int32) (no_at : Nat → Int32) (tr_sets : Int32) (tr_inSome : Int32) (tr_inAll : Int32) (tr_turns : Nat → Int32) (tr_setsWith : Nat → Int32) : f_X11_could el_refusal 0 0 la_turned la_kind la_mood no_dead no_wet no_at tr_sets tr_inSome tr_inAll tr_turns tr_setsWith = some (-1, 1, tr_sets, tr_inSome, tr_inAll, tr_turns, tr_setsWith) := by
  unfold f_X11_could
  rw [z_wt, bd1_s, ref1, bd2_s, z_if1]
theorem zn_could (mo_thrown : Int32) (mo_trouble : Int32) (mo_where : Int32) : f_X13_could_n mo_thrown mo_trouble mo_where = some (-1, 0, 1, -1) := rfl
theorem z_surely (el_refusal : Int32) (la_turned : Int32) (la_kind : Nat → Int32) (la_mood : Nat → Int32) (no_dead : Int32) (no_wet : Int32) (no_at : Nat → Int32) (tr_sets : Int32) (tr_inSome : Int32) (tr_inAll : Int32) (tr_turns : Nat → Int32) (tr_setsWith : Nat → Int32) : f_X11_surely el_refusal 0 0 la_turned la_kind la_mood no_dead no_wet no_at tr_sets tr_inSome tr_inAll tr_turns tr_setsWith = some (-1, 1, tr_sets, tr_inSome, tr_inAll, tr_turns, tr_setsWith) := by
  unfold f_X11_surely
  rw [z_wt, bd1_s, ref1, bd2_s, z_if1]
theorem zn_surely (mo_thrown : Int32) (mo_trouble : Int32) (mo_where : Int32) : f_X13_surely_n mo_thrown mo_trouble mo_where = some (-1, 0, 1, -1) := rfl
theorem z_ask (el_refusal : Int32) (la_turned : Int32) (la_kind : Nat → Int32) (la_mood : Nat → Int32) (no_dead : Int32) (no_wet : Int32) (no_at : Nat → Int32) (tr_sets : Int32) (tr_inSome : Int32) (tr_inAll : Int32) (tr_turns : Nat → Int32) (tr_setsWith : Nat → Int32) : f_X11_ask el_refusal 0 0 la_turned la_kind la_mood no_dead no_wet no_at tr_sets tr_inSome tr_inAll tr_turns tr_setsWith = some (-1, 1, tr_sets, tr_inSome, tr_inAll, tr_turns, tr_setsWith) := by
  unfold f_X11_ask
  rw [z_wt, bd1_s, ref1, bd2_s, z_if1]
theorem zn_ask (mo_thrown : Int32) (mo_trouble : Int32) (mo_where : Int32) : f_X13_ask_n mo_thrown mo_trouble mo_where = some (-1, 0, 1, -1) := rfl
theorem z_turnedBy (el_refusal : Int32) (la_kind : Nat → Int32) (la_mood : Nat → Int32) (no_dead : Int32) (no_wet : Int32) (no_at : Nat → Int32) (p1 : Int32) : f_X11_turnedBy el_refusal 0 la_kind la_mood no_dead no_wet no_at p1 = some (-1, 1) := by
  unfold f_X11_turnedBy
  rw [z_bt, bd1_s, ref1, bd2_s, z_if1]
theorem zn_turnedBy (mo_thrown : Int32) (mo_trouble : Int32) (mo_where : Int32) (p1 : Int32) : f_X13_turnedBy_n mo_thrown mo_trouble mo_where p1 = some (-1, 0, 1, -1) := rfl
theorem z_battles (el_refusal : Int32) (la_deep : Int32) (la_who : Nat → Int32) (la_kind : Nat → Int32) (la_mood : Nat → Int32) (no_dead : Int32) (no_wet : Int32) (no_strong : Nat → Int32) (no_at : Nat → Int32) (no_wounds : Nat → Int32) (fi_drawn : Int32) (fi_foeHarm : Int32) (fi_ownHarm : Int32) (fi_gotAcross : Int32) (fi_foeHarmInAll : Int32) (fi_ownHarmInAll : Int32) (fi_wins : Int32) (fi_left : Nat → Int32) (fi_crossings : Nat → Int32) (p1 : Int32) (p2 : Int32) (p3 : Int32) : f_X11_battles el_refusal 0 la_deep 0 la_who la_kind la_mood no_dead no_wet no_strong no_at no_wounds fi_drawn fi_foeHarm fi_ownHarm fi_gotAcross fi_foeHarmInAll fi_ownHarmInAll fi_wins fi_left fi_crossings p1 p2 p3 = some (-1, 1, fi_drawn, fi_foeHarm, fi_ownHarm, fi_gotAcross, fi_foeHarmInAll, fi_ownHarmInAll, fi_wins, fi_left, fi_crossings) := by
  unfold f_X11_battles
  rw [z_told, bd1_s, z_ba, bd1_s, ref1, bd2_s, z_if1]
theorem zn_battles (mo_thrown : Int32) (mo_trouble : Int32) (mo_where : Int32) (p1 : Int32) (p2 : Int32) (p3 : Int32) : f_X13_battles_n mo_thrown mo_trouble mo_where p1 p2 p3 = some (-1, 0, 1, -1) := rfl
theorem z_won (el_refusal : Int32) (la_deep : Int32) (la_who : Nat → Int32) (la_kind : Nat → Int32) (la_mood : Nat → Int32) (no_dead : Int32) (no_wet : Int32) (no_strong : Nat → Int32) (no_at : Nat → Int32) (no_wounds : Nat → Int32) (fi_drawn : Int32) (fi_foeHarm : Int32) (fi_ownHarm : Int32) (fi_gotAcross : Int32) (fi_foeHarmInAll : Int32) (fi_ownHarmInAll : Int32) (fi_wins : Int32) (fi_left : Nat → Int32) (fi_crossings : Nat → Int32) (p1 : Int32) (p2 : Int32) : f_X11_won el_refusal 0 la_deep 0 la_who la_kind la_mood no_dead no_wet no_strong no_at no_wounds fi_drawn fi_foeHarm fi_ownHarm fi_gotAcross fi_foeHarmInAll fi_ownHarmInAll fi_wins fi_left fi_crossings p1 p2 = some (-1, 1, fi_drawn, fi_foeHarm, fi_ownHarm, fi_gotAcross, fi_foeHarmInAll, fi_ownHarmInAll, fi_wins, fi_left, fi_crossings) := by
  unfold f_X11_won
  rw [z_told, bd1_s, z_ba, bd1_s, ref1, bd2_s, z_if1]
theorem zn_won (mo_thrown : Int32) (mo_trouble : Int32) (mo_where : Int32) (p1 : Int32) (p2 : Int32) : f_X13_won_n mo_thrown mo_trouble mo_where p1 p2 = some (-1, 0, 1, -1) := rfl
theorem z_acrossIn (el_refusal : Int32) (la_deep : Int32) (la_who : Nat → Int32) (la_kind : Nat → Int32) (la_mood : Nat → Int32) (no_dead : Int32) (no_wet : Int32) (no_strong : Nat → Int32) (no_at : Nat → Int32) (no_wounds : Nat → Int32) (fi_drawn : Int32) (fi_foeHarm : Int32) (fi_ownHarm : Int32) (fi_gotAcross : Int32) (fi_foeHarmInAll : Int32) (fi_ownHarmInAll : Int32) (fi_wins : Int32) (fi_left : Nat → Int32) (fi_crossings : Nat → Int32) (p1 : Int32) (p2 : Int32) (p3 : Int32) : f_X11_acrossIn el_refusal la_deep 0 la_who la_kind la_mood no_dead no_wet no_strong no_at no_wounds fi_drawn fi_foeHarm fi_ownHarm fi_gotAcross fi_foeHarmInAll fi_ownHarmInAll fi_wins fi_left fi_crossings p1 p2 p3 = some (-1, 1, fi_drawn, fi_foeHarm, fi_ownHarm, fi_gotAcross, fi_foeHarmInAll, fi_ownHarmInAll, fi_wins, fi_left, fi_crossings) := by
  unfold f_X11_acrossIn
  rw [z_be, bd1_s, z_ba, bd1_s, ref1, bd2_s, z_if1]
theorem zn_acrossIn (mo_thrown : Int32) (mo_trouble : Int32) (mo_where : Int32) (p1 : Int32) (p2 : Int32) (p3 : Int32) : f_X13_acrossIn_n mo_thrown mo_trouble mo_where p1 p2 p3 = some (-1, 0, 1, -1) := rfl
theorem z_move (el_refusal : Int32) (no_dead : Int32) (no_wet : Int32) (no_drawn : Int32) (no_strong : Nat → Int32) (no_at : Nat → Int32) (no_wounds : Nat → Int32) (pa_latest : Int32) (pa_kept : Nat → Option Nat) (ks_dead : Int32) (ks_wet : Int32) (ks_drawn : Int32) (ks_strong : Nat → Int32) (ks_at : Nat → Int32) (ks_wounds : Nat → Int32) (p1 : Int32) (p2 : Int32) : f_X11_move el_refusal 0 0 no_dead no_wet no_drawn no_strong no_at no_wounds pa_latest 0 pa_kept ks_dead ks_wet ks_drawn ks_strong ks_at ks_wounds p1 p2 = some (0, 1, no_at, pa_latest, 0, ks_dead, ks_wet, ks_drawn, ks_strong, ks_at, ks_wounds) := by
  unfold f_X11_move
  rw [z_mv, bd1_s, ref1, bd2_s, z_if1]
theorem zn_move (mo_thrown : Int32) (mo_trouble : Int32) (mo_where : Int32) (p1 : Int32) (p2 : Int32) : f_X13_move_n mo_thrown mo_trouble mo_where p1 p2 = some (0, 0, 1, -1) := rfl
theorem z_wound (el_refusal : Int32) (la_kind : Nat → Int32) (no_dead : Int32) (no_wet : Int32) (no_drawn : Int32) (no_strong : Nat → Int32) (no_at : Nat → Int32) (no_wounds : Nat → Int32) (pa_latest : Int32) (pa_kept : Nat → Option Nat) (ks_dead : Int32) (ks_wet : Int32) (ks_drawn : Int32) (ks_strong : Nat → Int32) (ks_at : Nat → Int32) (ks_wounds : Nat → Int32) (p1 : Int32) (p2 : Int32) : f_X11_wound el_refusal 0 la_kind no_dead no_wet no_drawn no_strong no_at no_wounds pa_latest 0 pa_kept ks_dead ks_wet ks_drawn ks_strong ks_at ks_wounds p1 p2 = some (-1, 1, no_wounds, pa_latest, 0, ks_dead, ks_wet, ks_drawn, ks_strong, ks_at, ks_wounds) := by
  unfold f_X11_wound
  have k : ∀ t, f_X11_wound_B18 0 la_kind no_dead no_wet no_drawn no_strong no_at pa_kept p1 p2 p1 t el_refusal no_wounds pa_latest 0 ks_dead ks_wet ks_drawn ks_strong ks_at ks_wounds = some (-1, 1, no_wounds, pa_latest, 0, ks_dead, ks_wet, ks_drawn, ks_strong, ks_at, ks_wounds) := fun t => by
    unfold f_X11_wound_B18
    rw [z_li, bd1_s, ref1, bd2_s, z_if1]
  rcases outIn p2 1 30 with ⟨e, -⟩ | ⟨e, -⟩
  · rw [e, bd1_s, if_pos rfl, k]
  · rw [e, bd1_s, z_if1, k]
theorem zn_wound (mo_thrown : Int32) (mo_trouble : Int32) (mo_where : Int32) (p1 : Int32) (p2 : Int32) : f_X13_wound_n mo_thrown mo_trouble mo_where p1 p2 = some (-1, 0, 1, -1) := rfl
theorem z_hammer (el_refusal : Int32) (no_dead : Int32) (no_wet : Int32) (no_drawn : Int32) (no_strong : Nat → Int32) (no_at : Nat → Int32) (no_wounds : Nat → Int32) (pa_latest : Int32) (pa_kept : Nat → Option Nat) (ks_dead : Int32) (ks_wet : Int32) (ks_drawn : Int32) (ks_strong : Nat → Int32) (ks_at : Nat → Int32) (ks_wounds : Nat → Int32) (p1 : Int32) : f_X11_hammer el_refusal 0 no_dead no_wet no_drawn no_strong no_at no_wounds pa_latest 0 pa_kept ks_dead ks_wet ks_drawn ks_strong ks_at ks_wounds p1 = some (0, 1, no_dead, pa_latest, 0, ks_dead, ks_wet, ks_drawn, ks_strong, ks_at, ks_wounds) := by
  unfold f_X11_hammer
  rw [z_li, bd1_s, ref1, bd2_s, z_if1]
theorem zn_hammer (mo_thrown : Int32) (mo_trouble : Int32) (mo_where : Int32) (p1 : Int32) : f_X13_hammer_n mo_thrown mo_trouble mo_where p1 = some (0, 0, 1, -1) := rfl
theorem z_teach (el_refusal : Int32) (la_who : Nat → Int32) (no_dead : Int32) (no_wet : Int32) (no_drawn : Int32) (no_strong : Nat → Int32) (no_at : Nat → Int32) (no_wounds : Nat → Int32) (pa_latest : Int32) (pa_kept : Nat → Option Nat) (ks_dead : Int32) (ks_wet : Int32) (ks_drawn : Int32) (ks_strong : Nat → Int32) (ks_at : Nat → Int32) (ks_wounds : Nat → Int32) (p1 : Int32) (p2 : Int32) : f_X11_teach el_refusal 0 la_who no_dead no_wet no_drawn no_strong no_at no_wounds pa_latest 0 pa_kept ks_dead ks_wet ks_drawn ks_strong ks_at ks_wounds p1 p2 = some (-1, 1, no_strong, pa_latest, 0, ks_dead, ks_wet, ks_drawn, ks_strong, ks_at, ks_wounds) := by
  unfold f_X11_teach
  have k : ∀ t, f_X11_teach_B18 0 la_who no_dead no_wet no_drawn no_at no_wounds pa_kept p1 p2 p1 t el_refusal no_strong pa_latest 0 ks_dead ks_wet ks_drawn ks_strong ks_at ks_wounds = some (-1, 1, no_strong, pa_latest, 0, ks_dead, ks_wet, ks_drawn, ks_strong, ks_at, ks_wounds) := fun t => by
    unfold f_X11_teach_B18
    rw [z_ht, bd1_s, ref1, bd2_s, z_if1]
  rcases outIn p2 1 30 with ⟨e, -⟩ | ⟨e, -⟩
  · rw [e, bd1_s, if_pos rfl, k]
  · rw [e, bd1_s, z_if1, k]
theorem zn_teach (mo_thrown : Int32) (mo_trouble : Int32) (mo_where : Int32) (p1 : Int32) (p2 : Int32) : f_X13_teach_n mo_thrown mo_trouble mo_where p1 p2 = some (-1, 0, 1, -1) := rfl
theorem z_rain (el_refusal : Int32) (no_dead : Int32) (no_wet : Int32) (no_drawn : Int32) (no_strong : Nat → Int32) (no_at : Nat → Int32) (no_wounds : Nat → Int32) (pa_latest : Int32) (pa_kept : Nat → Option Nat) (ks_dead : Int32) (ks_wet : Int32) (ks_drawn : Int32) (ks_strong : Nat → Int32) (ks_at : Nat → Int32) (ks_wounds : Nat → Int32) (p1 : Int32) : f_X11_rain el_refusal 0 no_dead no_wet no_drawn no_strong no_at no_wounds pa_latest 0 pa_kept ks_dead ks_wet ks_drawn ks_strong ks_at ks_wounds p1 = some (0, 1, no_wet, pa_latest, 0, ks_dead, ks_wet, ks_drawn, ks_strong, ks_at, ks_wounds) := by
  unfold f_X11_rain
  rw [z_told, bd1_s, if_pos rfl]
  unfold f_X11_rain_B31
  rw [ref1, bd2_s, z_if1]
theorem zn_rain (mo_thrown : Int32) (mo_trouble : Int32) (mo_where : Int32) (p1 : Int32) : f_X13_rain_n mo_thrown mo_trouble mo_where p1 = some (0, 0, 1, -1) := rfl
theorem z_battle (el_refusal : Int32) (la_deep : Int32) (la_who : Nat → Int32) (la_kind : Nat → Int32) (la_mood : Nat → Int32) (no_dead : Int32) (no_wet : Int32) (no_drawn : Int32) (no_strong : Nat → Int32) (no_at : Nat → Int32) (no_wounds : Nat → Int32) (pa_latest : Int32) (pa_kept : Nat → Option Nat) (ks_dead : Int32) (ks_wet : Int32) (ks_drawn : Int32) (ks_strong : Nat → Int32) (ks_at : Nat → Int32) (ks_wounds : Nat → Int32) (fi_drawn : Int32) (fi_foeHarm : Int32) (fi_ownHarm : Int32) (fi_gotAcross : Int32) (fi_left : Nat → Int32) : f_X11_battle el_refusal 0 la_deep 0 la_who la_kind la_mood no_dead no_wet no_drawn no_strong no_at no_wounds pa_latest 0 pa_kept ks_dead ks_wet ks_drawn ks_strong ks_at ks_wounds fi_drawn fi_foeHarm fi_ownHarm fi_gotAcross fi_left = some (-1, 1, no_drawn, no_strong, pa_latest, 0, ks_dead, ks_wet, ks_drawn, ks_strong, ks_at, ks_wounds, fi_drawn, fi_foeHarm, fi_ownHarm, fi_gotAcross, fi_left) := by
  unfold f_X11_battle
  rw [z_wt, bd1_s, ref1, bd2_s, z_if1]
theorem zn_battle (mo_thrown : Int32) (mo_trouble : Int32) (mo_where : Int32) : f_X13_battle_n mo_thrown mo_trouble mo_where = some (-1, 0, 1, -1) := rfl
theorem z_seed (el_refusal : Int32) (no_drawn : Int32) (p1 : Int32) : f_X11_seed el_refusal 0 no_drawn p1 = some (0, 1, no_drawn) := by
  unfold f_X11_seed
  rw [z_told, bd1_s, if_pos rfl]
  unfold f_X11_seed_B31
  rw [ref1, bd2_s, z_if1]
theorem zn_seed (mo_thrown : Int32) (mo_trouble : Int32) (mo_where : Int32) (p1 : Int32) : f_X13_seed_n mo_thrown mo_trouble mo_where p1 = some (0, 0, 1, -1) := rfl
theorem z_undo (el_refusal : Int32) (no_dead : Int32) (no_wet : Int32) (no_drawn : Int32) (no_strong : Nat → Int32) (no_at : Nat → Int32) (no_wounds : Nat → Int32) (pa_latest : Int32) (pa_kept : Nat → Option Nat) (ks_dead : Int32) (ks_wet : Int32) (ks_drawn : Int32) (ks_strong : Nat → Int32) (ks_at : Nat → Int32) (ks_wounds : Nat → Int32) : f_X11_undo el_refusal no_dead no_wet no_drawn no_strong no_at no_wounds pa_latest 0 pa_kept ks_dead ks_wet ks_drawn ks_strong ks_at ks_wounds = some (0, 6, no_dead, no_wet, no_drawn, no_strong, no_at, no_wounds, pa_latest, 0) := by
  unfold f_X11_undo f_X5_takeBack
  rw [if_pos rfl, bd9_s, if_pos rfl]
  rfl
theorem zn_undo (mo_thrown : Int32) (mo_trouble : Int32) (mo_where : Int32) : f_X13_undo_n mo_thrown mo_trouble mo_where = some (0, 0, 6, -1) := rfl
theorem z_mark (el_refusal : Int32) (no_dead : Int32) (no_wet : Int32) (no_drawn : Int32) (no_strong : Nat → Int32) (no_at : Nat → Int32) (no_wounds : Nat → Int32) (pa_marked : Nat → Option Nat) (mk_dead : Int32) (mk_wet : Int32) (mk_drawn : Int32) (mk_strong : Nat → Int32) (mk_at : Nat → Int32) (mk_wounds : Nat → Int32) : f_X11_mark el_refusal 0 no_dead no_wet no_drawn no_strong no_at no_wounds 0 pa_marked mk_dead mk_wet mk_drawn mk_strong mk_at mk_wounds = some (-1, 1, 0, mk_dead, mk_wet, mk_drawn, mk_strong, mk_at, mk_wounds) := by
  unfold f_X11_mark
  rw [z_told, bd1_s, if_pos rfl]
  unfold f_X11_mark_B31
  rw [ref1, bd2_s, z_if1]
theorem zn_mark (mo_thrown : Int32) (mo_trouble : Int32) (mo_where : Int32) : f_X13_mark_n mo_thrown mo_trouble mo_where = some (-1, 0, 1, -1) := rfl
theorem z_back (el_refusal : Int32) (no_dead : Int32) (no_wet : Int32) (no_drawn : Int32) (no_strong : Nat → Int32) (no_at : Nat → Int32) (no_wounds : Nat → Int32) (pa_marked : Nat → Option Nat) (mk_dead : Int32) (mk_wet : Int32) (mk_drawn : Int32) (mk_strong : Nat → Int32) (mk_at : Nat → Int32) (mk_wounds : Nat → Int32) (p1 : Int32) : f_X11_back el_refusal no_dead no_wet no_drawn no_strong no_at no_wounds 0 0 pa_marked mk_dead mk_wet mk_drawn mk_strong mk_at mk_wounds p1 = some (0, 1, no_dead, no_wet, no_drawn, no_strong, no_at, no_wounds, 0) := by
  unfold f_X11_back f_X5_goBack
  have k : ∀ {α : Type} (x y : α), (if p1 < 0 then x else (if (0 : Int32) ≤ p1 then x else y)) = x := fun x y => by
    by_cases h : p1 < 0
    · rw [if_pos h]
    · rw [if_neg h, if_pos (Int32.not_lt.mp h)]
  rw [k, bd8_s, if_pos rfl]
  rfl
theorem zn_back (mo_thrown : Int32) (mo_trouble : Int32) (mo_where : Int32) (p1 : Int32) : f_X13_back_n mo_thrown mo_trouble mo_where p1 = some (0, 0, 1, -1) := rfl
