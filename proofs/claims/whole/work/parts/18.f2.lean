noncomputable def f_X7_readPass (tape : Nat → Int32) (rd_names : Int32) (rd_faultFound : Int32) (rd_faultAt : Int32) (rd_nameStarts : Nat → Int32) (rd_nameEnds : Nat → Int32) (rd_nameNumbers : Nat → Int32) (rd_nameIsBeast : Nat → Int32) (tk_limit : Int32) (tk_start : Int32) (tk_end : Int32) (tk_sort : Int32) (dr_cities : Int32) (dr_passes : Int32) (dr_passBetween : Nat → Int32) : Option (Int32 × Int32 × Int32 × Int32 × Int32 × Int32 × Int32 × (Nat → Int32)) :=
  bd6 (f_X7_readKnownName tape rd_names rd_faultFound rd_faultAt rd_nameStarts rd_nameEnds rd_nameNumbers rd_nameIsBeast tk_limit tk_start tk_end tk_sort (0 : Int32)) fun r_1 rd_faultFound_2 rd_faultAt_3 tk_start_4 tk_end_5 tk_sort_6 =>
  (if r_1 = (-1) then
  some (0, rd_faultFound_2, rd_faultAt_3, tk_start_4, tk_end_5, tk_sort_6, dr_passes, dr_passBetween)
  else
  bd6 (f_X7_readKnownName tape rd_names rd_faultFound_2 rd_faultAt_3 rd_nameStarts rd_nameEnds rd_nameNumbers rd_nameIsBeast tk_limit tk_start_4 tk_end_5 tk_sort_6 (0 : Int32)) fun r_8 rd_faultFound_9 rd_faultAt_10 tk_start_11 tk_end_12 tk_sort_13 =>
  (if r_8 = (-1) then
  some (0, rd_faultFound_9, rd_faultAt_10, tk_start_11, tk_end_12, tk_sort_13, dr_passes, dr_passBetween)
  else
  (if r_1 = r_8 then
  f_X7_readPass_B44 tape rd_names rd_nameStarts rd_nameEnds rd_nameNumbers rd_nameIsBeast tk_limit dr_cities rd_faultFound_9 rd_faultAt_10 tk_start_11 tk_end_12 tk_sort_13 dr_passes dr_passBetween
  else
  bd1 (f_X2_lossBetween dr_cities dr_passBetween r_1 r_8) fun r_20 =>
  (if r_20 = (-1) then
  bd6 (f_X7_readWord tape rd_faultFound_9 rd_faultAt_10 tk_limit tk_start_11 tk_end_12 tk_sort_13 20) fun r_22 rd_faultFound_23 rd_faultAt_24 tk_start_25 tk_end_26 tk_sort_27 =>
  (if r_22 = 0 then
  f_X7_readPass_B70 tape rd_names rd_nameStarts rd_nameEnds rd_nameNumbers rd_nameIsBeast tk_limit dr_cities r_1 r_8 (-1) rd_faultFound_23 rd_faultAt_24 tk_start_25 tk_end_26 tk_sort_27 dr_passes dr_passBetween
  else
  bd6 (f_X7_readWhole tape rd_faultFound_23 rd_faultAt_24 tk_limit tk_start_25 tk_end_26 tk_sort_27 (0 : Int32) (99 : Int32)) fun r_33 rd_faultFound_34 rd_faultAt_35 tk_start_36 tk_end_37 tk_sort_38 =>
  f_X7_readPass_B70 tape rd_names rd_nameStarts rd_nameEnds rd_nameNumbers rd_nameIsBeast tk_limit dr_cities r_1 r_8 r_33 rd_faultFound_34 rd_faultAt_35 tk_start_36 tk_end_37 tk_sort_38 dr_passes dr_passBetween)
  else
  f_X7_readPass_B44 tape rd_names rd_nameStarts rd_nameEnds rd_nameNumbers rd_nameIsBeast tk_limit dr_cities rd_faultFound_9 rd_faultAt_10 tk_start_11 tk_end_12 tk_sort_13 dr_passes dr_passBetween))))
noncomputable def f_X7_readTurned (tape : Nat → Int32) (rd_names : Int32) (rd_faultFound : Int32) (rd_faultAt : Int32) (rd_nameStarts : Nat → Int32) (rd_nameEnds : Nat → Int32) (rd_nameNumbers : Nat → Int32) (rd_nameIsBeast : Nat → Int32) (tk_limit : Int32) (tk_start : Int32) (tk_end : Int32) (tk_sort : Int32) (dr_turned : Int32) : Option (Int32 × Int32 × Int32 × Int32 × Int32 × Int32 × Int32) :=
  bd6 (f_X7_readKnownName tape rd_names rd_faultFound rd_faultAt rd_nameStarts rd_nameEnds rd_nameNumbers rd_nameIsBeast tk_limit tk_start tk_end tk_sort (1 : Int32)) fun r_1 rd_faultFound_2 rd_faultAt_3 tk_start_4 tk_end_5 tk_sort_6 =>
  (if r_1 = (-1) then
  some (0, rd_faultFound_2, rd_faultAt_3, tk_start_4, tk_end_5, tk_sort_6, dr_turned)
  else
  bd1 (f_X2_hasTurned dr_turned r_1) fun r_8 =>
  (if r_8 = 0 then
  some (1, rd_faultFound_2, rd_faultAt_3, tk_start_4, tk_end_5, tk_sort_6, dr_turned ||| ((1 : Int32) <<< (r_1 &&& 31)))
  else
  bd3 (f_X7_fail rd_faultFound_2 rd_faultAt_3 tk_start_4 (3 : Int32)) fun r_11 rd_faultFound_12 rd_faultAt_13 =>
  some (r_11, rd_faultFound_12, rd_faultAt_13, tk_start_4, tk_end_5, tk_sort_6, dr_turned)))
noncomputable def f_X7_readLine (tape : Nat → Int32) (rd_names : Int32) (rd_faultFound : Int32) (rd_faultAt : Int32) (rd_nameStarts : Nat → Int32) (rd_nameEnds : Nat → Int32) (rd_nameNumbers : Nat → Int32) (rd_nameIsBeast : Nat → Int32) (tk_limit : Int32) (tk_start : Int32) (tk_end : Int32) (tk_sort : Int32) (dr_lanes : Int32) (dr_lanesTold : Int32) (dr_beasts : Int32) (dr_cities : Int32) (dr_passes : Int32) (dr_turned : Int32) (dr_who : Nat → Int32) (dr_firstStrong : Nat → Int32) (dr_kind : Nat → Int32) (dr_firstLane : Nat → Int32) (dr_mood : Nat → Int32) (dr_price : Nat → Int32) (dr_passBetween : Nat → Int32) : Option (Int32 × Int32 × Int32 × Int32 × (Nat → Int32) × (Nat → Int32) × (Nat → Int32) × (Nat → Int32) × Int32 × Int32 × Int32 × Int32 × Int32 × Int32 × Int32 × Int32 × (Nat → Int32) × (Nat → Int32) × (Nat → Int32) × (Nat → Int32) × (Nat → Int32) × (Nat → Int32) × (Nat → Int32)) :=
  bd3 (f_X9_step tape tk_limit tk_start tk_end tk_sort) fun tk_start_1 tk_end_2 tk_sort_3 =>
  bd1 (f_X9_isWord tape tk_start_1 tk_end_2 tk_sort_3 1) fun r_5 =>
  (if r_5 = 0 then
  bd1 (f_X9_isWord tape tk_start_1 tk_end_2 tk_sort_3 2) fun r_8 =>
  (if r_8 = 0 then
  bd1 (f_X9_isWord tape tk_start_1 tk_end_2 tk_sort_3 3) fun r_11 =>
  (if r_11 = 0 then
  bd1 (f_X9_isWord tape tk_start_1 tk_end_2 tk_sort_3 4) fun r_14 =>
  (if r_14 = 0 then
  bd1 (f_X9_isWord tape tk_start_1 tk_end_2 tk_sort_3 5) fun r_17 =>
  (if r_17 = 0 then
  bd1 (f_X9_isWord tape tk_start_1 tk_end_2 tk_sort_3 6) fun r_20 =>
  (if r_20 = 0 then
  bd3 (f_X7_fail rd_faultFound rd_faultAt tk_start_1 (1 : Int32)) fun r_23 rd_faultFound_24 rd_faultAt_25 =>
  some (r_23, rd_names, rd_faultFound_24, rd_faultAt_25, rd_nameStarts, rd_nameEnds, rd_nameNumbers, rd_nameIsBeast, tk_start_1, tk_end_2, tk_sort_3, dr_lanesTold, dr_beasts, dr_cities, dr_passes, dr_turned, dr_who, dr_firstStrong, dr_kind, dr_firstLane, dr_mood, dr_price, dr_passBetween)
  else
  bd7 (f_X7_readTurned tape rd_names rd_faultFound rd_faultAt rd_nameStarts rd_nameEnds rd_nameNumbers rd_nameIsBeast tk_limit tk_start_1 tk_end_2 tk_sort_3 dr_turned) fun r_28 rd_faultFound_29 rd_faultAt_30 tk_start_31 tk_end_32 tk_sort_33 dr_turned_34 =>
  some (r_28, rd_names, rd_faultFound_29, rd_faultAt_30, rd_nameStarts, rd_nameEnds, rd_nameNumbers, rd_nameIsBeast, tk_start_31, tk_end_32, tk_sort_33, dr_lanesTold, dr_beasts, dr_cities, dr_passes, dr_turned_34, dr_who, dr_firstStrong, dr_kind, dr_firstLane, dr_mood, dr_price, dr_passBetween))
  else
  (if 9 ≤ dr_passes then
  bd3 (f_X7_fail rd_faultFound rd_faultAt tk_start_1 (5 : Int32)) fun r_37 rd_faultFound_38 rd_faultAt_39 =>
  some (r_37, rd_names, rd_faultFound_38, rd_faultAt_39, rd_nameStarts, rd_nameEnds, rd_nameNumbers, rd_nameIsBeast, tk_start_1, tk_end_2, tk_sort_3, dr_lanesTold, dr_beasts, dr_cities, dr_passes, dr_turned, dr_who, dr_firstStrong, dr_kind, dr_firstLane, dr_mood, dr_price, dr_passBetween)
  else
  bd8 (f_X7_readPass tape rd_names rd_faultFound rd_faultAt rd_nameStarts rd_nameEnds rd_nameNumbers rd_nameIsBeast tk_limit tk_start_1 tk_end_2 tk_sort_3 dr_cities dr_passes dr_passBetween) fun r_42 rd_faultFound_43 rd_faultAt_44 tk_start_45 tk_end_46 tk_sort_47 dr_passes_48 dr_passBetween_49 =>
  some (r_42, rd_names, rd_faultFound_43, rd_faultAt_44, rd_nameStarts, rd_nameEnds, rd_nameNumbers, rd_nameIsBeast, tk_start_45, tk_end_46, tk_sort_47, dr_lanesTold, dr_beasts, dr_cities, dr_passes_48, dr_turned, dr_who, dr_firstStrong, dr_kind, dr_firstLane, dr_mood, dr_price, dr_passBetween_49)))
  else
  (if 6 ≤ dr_cities then
  bd3 (f_X7_fail rd_faultFound rd_faultAt tk_start_1 (5 : Int32)) fun r_52 rd_faultFound_53 rd_faultAt_54 =>
  some (r_52, rd_names, rd_faultFound_53, rd_faultAt_54, rd_nameStarts, rd_nameEnds, rd_nameNumbers, rd_nameIsBeast, tk_start_1, tk_end_2, tk_sort_3, dr_lanesTold, dr_beasts, dr_cities, dr_passes, dr_turned, dr_who, dr_firstStrong, dr_kind, dr_firstLane, dr_mood, dr_price, dr_passBetween)
  else
  bd12 (f_X7_readCity tape rd_names rd_faultFound rd_faultAt rd_nameStarts rd_nameEnds rd_nameNumbers rd_nameIsBeast tk_limit tk_start_1 tk_end_2 tk_sort_3 dr_cities) fun r_57 rd_names_58 rd_faultFound_59 rd_faultAt_60 rd_nameStarts_61 rd_nameEnds_62 rd_nameNumbers_63 rd_nameIsBeast_64 tk_start_65 tk_end_66 tk_sort_67 dr_cities_68 =>
  some (r_57, rd_names_58, rd_faultFound_59, rd_faultAt_60, rd_nameStarts_61, rd_nameEnds_62, rd_nameNumbers_63, rd_nameIsBeast_64, tk_start_65, tk_end_66, tk_sort_67, dr_lanesTold, dr_beasts, dr_cities_68, dr_passes, dr_turned, dr_who, dr_firstStrong, dr_kind, dr_firstLane, dr_mood, dr_price, dr_passBetween)))
  else
  (if 5 ≤ dr_beasts then
  bd3 (f_X7_fail rd_faultFound rd_faultAt tk_start_1 (5 : Int32)) fun r_71 rd_faultFound_72 rd_faultAt_73 =>
  some (r_71, rd_names, rd_faultFound_72, rd_faultAt_73, rd_nameStarts, rd_nameEnds, rd_nameNumbers, rd_nameIsBeast, tk_start_1, tk_end_2, tk_sort_3, dr_lanesTold, dr_beasts, dr_cities, dr_passes, dr_turned, dr_who, dr_firstStrong, dr_kind, dr_firstLane, dr_mood, dr_price, dr_passBetween)
  else
  bd16 (f_X7_readBeast tape rd_names rd_faultFound rd_faultAt rd_nameStarts rd_nameEnds rd_nameNumbers rd_nameIsBeast tk_limit tk_start_1 tk_end_2 tk_sort_3 dr_lanes dr_beasts dr_kind dr_firstLane dr_mood dr_price) fun r_76 rd_names_77 rd_faultFound_78 rd_faultAt_79 rd_nameStarts_80 rd_nameEnds_81 rd_nameNumbers_82 rd_nameIsBeast_83 tk_start_84 tk_end_85 tk_sort_86 dr_beasts_87 dr_kind_88 dr_firstLane_89 dr_mood_90 dr_price_91 =>
  some (r_76, rd_names_77, rd_faultFound_78, rd_faultAt_79, rd_nameStarts_80, rd_nameEnds_81, rd_nameNumbers_82, rd_nameIsBeast_83, tk_start_84, tk_end_85, tk_sort_86, dr_lanesTold, dr_beasts_87, dr_cities, dr_passes, dr_turned, dr_who, dr_firstStrong, dr_kind_88, dr_firstLane_89, dr_mood_90, dr_price_91, dr_passBetween)))
  else
  bd9 (f_X7_readLane tape rd_faultFound rd_faultAt tk_limit tk_start_1 tk_end_2 tk_sort_3 dr_lanes dr_lanesTold dr_who dr_firstStrong) fun r_94 rd_faultFound_95 rd_faultAt_96 tk_start_97 tk_end_98 tk_sort_99 dr_lanesTold_100 dr_who_101 dr_firstStrong_102 =>
  some (r_94, rd_names, rd_faultFound_95, rd_faultAt_96, rd_nameStarts, rd_nameEnds, rd_nameNumbers, rd_nameIsBeast, tk_start_97, tk_end_98, tk_sort_99, dr_lanesTold_100, dr_beasts, dr_cities, dr_passes, dr_turned, dr_who_101, dr_firstStrong_102, dr_kind, dr_firstLane, dr_mood, dr_price, dr_passBetween))
  else
  bd3 (f_X7_fail rd_faultFound rd_faultAt tk_start_1 (3 : Int32)) fun r_105 rd_faultFound_106 rd_faultAt_107 =>
  some (r_105, rd_names, rd_faultFound_106, rd_faultAt_107, rd_nameStarts, rd_nameEnds, rd_nameNumbers, rd_nameIsBeast, tk_start_1, tk_end_2, tk_sort_3, dr_lanesTold, dr_beasts, dr_cities, dr_passes, dr_turned, dr_who, dr_firstStrong, dr_kind, dr_firstLane, dr_mood, dr_price, dr_passBetween))
noncomputable def f_X7_readText_B98 (tape : Nat → Int32) (x2 : Int32) (rd_names : Int32) (rd_faultFound : Int32) (rd_faultAt : Int32) (rd_nameStarts : Nat → Int32) (rd_nameEnds : Nat → Int32) (rd_nameNumbers : Nat → Int32) (rd_nameIsBeast : Nat → Int32) (tk_limit : Int32) (tk_start : Int32) (tk_end : Int32) (tk_sort : Int32) (dr_lanes : Int32) (dr_deep : Int32) (dr_lanesTold : Int32) (dr_beasts : Int32) (dr_cities : Int32) (dr_passes : Int32) (dr_turned : Int32) (dr_who : Nat → Int32) (dr_firstStrong : Nat → Int32) (dr_kind : Nat → Int32) (dr_firstLane : Nat → Int32) (dr_mood : Nat → Int32) (dr_price : Nat → Int32) (dr_passBetween : Nat → Int32) : Option (Int32 × Int32 × Int32 × Int32 × (Nat → Int32) × (Nat → Int32) × (Nat → Int32) × (Nat → Int32) × Int32 × Int32 × Int32 × Int32 × Int32 × Int32 × Int32 × Int32 × Int32 × Int32 × Int32 × (Nat → Int32) × (Nat → Int32) × (Nat → Int32) × (Nat → Int32) × (Nat → Int32) × (Nat → Int32) × (Nat → Int32)) :=
  (if x2 = 0 then
  some (rd_faultFound, rd_names, rd_faultFound, rd_faultAt, rd_nameStarts, rd_nameEnds, rd_nameNumbers, rd_nameIsBeast, tk_limit, tk_start, tk_end, tk_sort, dr_lanes, dr_deep, dr_lanesTold, dr_beasts, dr_cities, dr_passes, dr_turned, dr_who, dr_firstStrong, dr_kind, dr_firstLane, dr_mood, dr_price, dr_passBetween)
  else
  (if dr_beasts = 0 then
  bd3 (f_X7_fail rd_faultFound rd_faultAt tk_start (6 : Int32)) fun r_27 rd_faultFound_28 rd_faultAt_29 =>
  some (rd_faultFound_28, rd_names, rd_faultFound_28, rd_faultAt_29, rd_nameStarts, rd_nameEnds, rd_nameNumbers, rd_nameIsBeast, tk_limit, tk_start, tk_end, tk_sort, dr_lanes, dr_deep, dr_lanesTold, dr_beasts, dr_cities, dr_passes, dr_turned, dr_who, dr_firstStrong, dr_kind, dr_firstLane, dr_mood, dr_price, dr_passBetween)
  else
  some (rd_faultFound, rd_names, rd_faultFound, rd_faultAt, rd_nameStarts, rd_nameEnds, rd_nameNumbers, rd_nameIsBeast, tk_limit, tk_start, tk_end, tk_sort, dr_lanes, dr_deep, dr_lanesTold, dr_beasts, dr_cities, dr_passes, dr_turned, dr_who, dr_firstStrong, dr_kind, dr_firstLane, dr_mood, dr_price, dr_passBetween)))
noncomputable def f_X7_readText_B91 (k37 : Int32 → Int32 → Int32 → Int32 → Int32 → (Nat → Int32) → (Nat → Int32) → (Nat → Int32) → (Nat → Int32) → Int32 → Int32 → Int32 → Int32 → Int32 → Int32 → Int32 → Int32 → (Nat → Int32) → (Nat → Int32) → (Nat → Int32) → (Nat → Int32) → (Nat → Int32) → (Nat → Int32) → (Nat → Int32) → Option (Int32 × Int32 × Int32 × Int32 × (Nat → Int32) × (Nat → Int32) × (Nat → Int32) × (Nat → Int32) × Int32 × Int32 × Int32 × Int32 × Int32 × Int32 × Int32 × Int32 × Int32 × Int32 × Int32 × (Nat → Int32) × (Nat → Int32) × (Nat → Int32) × (Nat → Int32) × (Nat → Int32) × (Nat → Int32) × (Nat → Int32))) (tape : Nat → Int32) (x3 : Int32) (t0 : Int32) (rd_names : Int32) (rd_faultFound : Int32) (rd_faultAt : Int32) (rd_nameStarts : Nat → Int32) (rd_nameEnds : Nat → Int32) (rd_nameNumbers : Nat → Int32) (rd_nameIsBeast : Nat → Int32) (tk_limit : Int32) (tk_start : Int32) (tk_end : Int32) (tk_sort : Int32) (dr_lanes : Int32) (dr_deep : Int32) (dr_lanesTold : Int32) (dr_beasts : Int32) (dr_cities : Int32) (dr_passes : Int32) (dr_turned : Int32) (dr_who : Nat → Int32) (dr_firstStrong : Nat → Int32) (dr_kind : Nat → Int32) (dr_firstLane : Nat → Int32) (dr_mood : Nat → Int32) (dr_price : Nat → Int32) (dr_passBetween : Nat → Int32) : Option (Int32 × Int32 × Int32 × Int32 × (Nat → Int32) × (Nat → Int32) × (Nat → Int32) × (Nat → Int32) × Int32 × Int32 × Int32 × Int32 × Int32 × Int32 × Int32 × Int32 × Int32 × Int32 × Int32 × (Nat → Int32) × (Nat → Int32) × (Nat → Int32) × (Nat → Int32) × (Nat → Int32) × (Nat → Int32) × (Nat → Int32)) :=
  k37 t0 (x3 + 1) rd_names rd_faultFound rd_faultAt rd_nameStarts rd_nameEnds rd_nameNumbers rd_nameIsBeast tk_start tk_end tk_sort dr_lanesTold dr_beasts dr_cities dr_passes dr_turned dr_who dr_firstStrong dr_kind dr_firstLane dr_mood dr_price dr_passBetween
noncomputable def f_X7_readText_b37 (tape : Nat → Int32) (tk_limit : Int32) (dr_lanes : Int32) (dr_deep : Int32) (k37 : Int32 → Int32 → Int32 → Int32 → Int32 → (Nat → Int32) → (Nat → Int32) → (Nat → Int32) → (Nat → Int32) → Int32 → Int32 → Int32 → Int32 → Int32 → Int32 → Int32 → Int32 → (Nat → Int32) → (Nat → Int32) → (Nat → Int32) → (Nat → Int32) → (Nat → Int32) → (Nat → Int32) → (Nat → Int32) → Option (Int32 × Int32 × Int32 × Int32 × (Nat → Int32) × (Nat → Int32) × (Nat → Int32) × (Nat → Int32) × Int32 × Int32 × Int32 × Int32 × Int32 × Int32 × Int32 × Int32 × Int32 × Int32 × Int32 × (Nat → Int32) × (Nat → Int32) × (Nat → Int32) × (Nat → Int32) × (Nat → Int32) × (Nat → Int32) × (Nat → Int32))) (x2 : Int32) (x3 : Int32) (rd_names : Int32) (rd_faultFound : Int32) (rd_faultAt : Int32) (rd_nameStarts : Nat → Int32) (rd_nameEnds : Nat → Int32) (rd_nameNumbers : Nat → Int32) (rd_nameIsBeast : Nat → Int32) (tk_start : Int32) (tk_end : Int32) (tk_sort : Int32) (dr_lanesTold : Int32) (dr_beasts : Int32) (dr_cities : Int32) (dr_passes : Int32) (dr_turned : Int32) (dr_who : Nat → Int32) (dr_firstStrong : Nat → Int32) (dr_kind : Nat → Int32) (dr_firstLane : Nat → Int32) (dr_mood : Nat → Int32) (dr_price : Nat → Int32) (dr_passBetween : Nat → Int32) : Option (Int32 × Int32 × Int32 × Int32 × (Nat → Int32) × (Nat → Int32) × (Nat → Int32) × (Nat → Int32) × Int32 × Int32 × Int32 × Int32 × Int32 × Int32 × Int32 × Int32 × Int32 × Int32 × Int32 × (Nat → Int32) × (Nat → Int32) × (Nat → Int32) × (Nat → Int32) × (Nat → Int32) × (Nat → Int32) × (Nat → Int32)) :=
  (if x2 = 0 then
  f_X7_readText_B98 tape x2 rd_names rd_faultFound rd_faultAt rd_nameStarts rd_nameEnds rd_nameNumbers rd_nameIsBeast tk_limit tk_start tk_end tk_sort dr_lanes dr_deep dr_lanesTold dr_beasts dr_cities dr_passes dr_turned dr_who dr_firstStrong dr_kind dr_firstLane dr_mood dr_price dr_passBetween
  else
  (if 900 ≤ x3 then
  f_X7_readText_B98 tape x2 rd_names rd_faultFound rd_faultAt rd_nameStarts rd_nameEnds rd_nameNumbers rd_nameIsBeast tk_limit tk_start tk_end tk_sort dr_lanes dr_deep dr_lanesTold dr_beasts dr_cities dr_passes dr_turned dr_who dr_firstStrong dr_kind dr_firstLane dr_mood dr_price dr_passBetween
  else
  bd3 (f_X9_step tape tk_limit tk_start tk_end tk_sort) fun tk_start_32 tk_end_33 tk_sort_34 =>
  (if tk_sort_34 = 0 then
  f_X7_readText_B98 tape x2 rd_names rd_faultFound rd_faultAt rd_nameStarts rd_nameEnds rd_nameNumbers rd_nameIsBeast tk_limit tk_start_32 tk_end_33 tk_sort_34 dr_lanes dr_deep dr_lanesTold dr_beasts dr_cities dr_passes dr_turned dr_who dr_firstStrong dr_kind dr_firstLane dr_mood dr_price dr_passBetween
  else
  (if tk_sort_34 = 3 then
  bd23 (f_X7_readLine tape rd_names rd_faultFound rd_faultAt rd_nameStarts rd_nameEnds rd_nameNumbers rd_nameIsBeast tk_limit tk_start_32 tk_end_33 tk_sort_34 dr_lanes dr_lanesTold dr_beasts dr_cities dr_passes dr_turned dr_who dr_firstStrong dr_kind dr_firstLane dr_mood dr_price dr_passBetween) fun r_41 rd_names_42 rd_faultFound_43 rd_faultAt_44 rd_nameStarts_45 rd_nameEnds_46 rd_nameNumbers_47 rd_nameIsBeast_48 tk_start_49 tk_end_50 tk_sort_51 dr_lanesTold_52 dr_beasts_53 dr_cities_54 dr_passes_55 dr_turned_56 dr_who_57 dr_firstStrong_58 dr_kind_59 dr_firstLane_60 dr_mood_61 dr_price_62 dr_passBetween_63 =>
  f_X7_readText_B91 k37 tape x3 r_41 rd_names_42 rd_faultFound_43 rd_faultAt_44 rd_nameStarts_45 rd_nameEnds_46 rd_nameNumbers_47 rd_nameIsBeast_48 tk_limit tk_start_49 tk_end_50 tk_sort_51 dr_lanes dr_deep dr_lanesTold_52 dr_beasts_53 dr_cities_54 dr_passes_55 dr_turned_56 dr_who_57 dr_firstStrong_58 dr_kind_59 dr_firstLane_60 dr_mood_61 dr_price_62 dr_passBetween_63
  else
  bd3 (f_X7_fail rd_faultFound rd_faultAt tk_start_32 (1 : Int32)) fun r_36 rd_faultFound_37 rd_faultAt_38 =>
  f_X7_readText_B91 k37 tape x3 r_36 rd_names rd_faultFound_37 rd_faultAt_38 rd_nameStarts rd_nameEnds rd_nameNumbers rd_nameIsBeast tk_limit tk_start_32 tk_end_33 tk_sort_34 dr_lanes dr_deep dr_lanesTold dr_beasts dr_cities dr_passes dr_turned dr_who dr_firstStrong dr_kind dr_firstLane dr_mood dr_price dr_passBetween))))
noncomputable def f_X7_readText_L37 (tape : Nat → Int32) (tk_limit : Int32) (dr_lanes : Int32) (dr_deep : Int32) : Nat → Int32 → Int32 → Int32 → Int32 → Int32 → (Nat → Int32) → (Nat → Int32) → (Nat → Int32) → (Nat → Int32) → Int32 → Int32 → Int32 → Int32 → Int32 → Int32 → Int32 → Int32 → (Nat → Int32) → (Nat → Int32) → (Nat → Int32) → (Nat → Int32) → (Nat → Int32) → (Nat → Int32) → (Nat → Int32) → Option (Int32 × Int32 × Int32 × Int32 × (Nat → Int32) × (Nat → Int32) × (Nat → Int32) × (Nat → Int32) × Int32 × Int32 × Int32 × Int32 × Int32 × Int32 × Int32 × Int32 × Int32 × Int32 × Int32 × (Nat → Int32) × (Nat → Int32) × (Nat → Int32) × (Nat → Int32) × (Nat → Int32) × (Nat → Int32) × (Nat → Int32))
  | 0 => fun _ _ _ _ _ _ _ _ _ _ _ _ _ _ _ _ _ _ _ _ _ _ _ _ => none
  | n + 1 => f_X7_readText_b37 tape tk_limit dr_lanes dr_deep (f_X7_readText_L37 tape tk_limit dr_lanes dr_deep n)
noncomputable def f_X7_readText (tape : Nat → Int32) (rd_names : Int32) (rd_faultFound : Int32) (rd_faultAt : Int32) (rd_nameStarts : Nat → Int32) (rd_nameEnds : Nat → Int32) (rd_nameNumbers : Nat → Int32) (rd_nameIsBeast : Nat → Int32) (tk_limit : Int32) (tk_start : Int32) (tk_end : Int32) (tk_sort : Int32) (dr_lanes : Int32) (dr_deep : Int32) (dr_lanesTold : Int32) (dr_beasts : Int32) (dr_cities : Int32) (dr_passes : Int32) (dr_turned : Int32) (dr_who : Nat → Int32) (dr_firstStrong : Nat → Int32) (dr_kind : Nat → Int32) (dr_firstLane : Nat → Int32) (dr_mood : Nat → Int32) (dr_price : Nat → Int32) (dr_passBetween : Nat → Int32) (p1 : Int32) : Option (Int32 × Int32 × Int32 × Int32 × (Nat → Int32) × (Nat → Int32) × (Nat → Int32) × (Nat → Int32) × Int32 × Int32 × Int32 × Int32 × Int32 × Int32 × Int32 × Int32 × Int32 × Int32 × Int32 × (Nat → Int32) × (Nat → Int32) × (Nat → Int32) × (Nat → Int32) × (Nat → Int32) × (Nat → Int32) × (Nat → Int32)) :=
  bd10 (f_X2_clear dr_lanes dr_deep dr_lanesTold dr_beasts dr_cities dr_passes dr_turned dr_who dr_firstStrong dr_passBetween) fun dr_lanes_1 dr_deep_2 dr_lanesTold_3 dr_beasts_4 dr_cities_5 dr_passes_6 dr_turned_7 dr_who_8 dr_firstStrong_9 dr_passBetween_10 =>
  bd4 (f_X9_begin tk_limit tk_start tk_end tk_sort p1) fun tk_limit_12 tk_start_13 tk_end_14 tk_sort_15 =>
  bd8 (f_X7_readFirstLine tape 0 (-1) tk_limit_12 tk_start_13 tk_end_14 tk_sort_15 dr_lanes_1 dr_deep_2) fun r_17 rd_faultFound_18 rd_faultAt_19 tk_start_20 tk_end_21 tk_sort_22 dr_lanes_23 dr_deep_24 =>
  f_X7_readText_L37 tape tk_limit_12 dr_lanes_23 dr_deep_24 fuelN r_17 0 0 rd_faultFound_18 rd_faultAt_19 rd_nameStarts rd_nameEnds rd_nameNumbers rd_nameIsBeast tk_start_20 tk_end_21 tk_sort_22 dr_lanesTold_3 dr_beasts_4 dr_cities_5 dr_passes_6 dr_turned_7 dr_who_8 dr_firstStrong_9 dr_kind dr_firstLane dr_mood dr_price dr_passBetween_10
noncomputable def f_X11_fault (el_faultTold : Int32) : Option (Int32) :=
  some (el_faultTold)
noncomputable def f_X11_where (el_refusal : Int32) (el_faultPlace : Int32) : Option (Int32) :=
  (if el_refusal = 4 then
  some (el_faultPlace)
  else
  some ((-1)))
noncomputable def f_X11_size (el_bytes : Int32) (la_lanes : Int32) (la_deep : Int32) (la_lanesTold : Int32) (la_beasts : Int32) (la_cities : Int32) (la_passes : Int32) (la_turned : Int32) (no_wet : Int32) (no_drawn : Int32) (pa_acts : Int32) (pa_marks : Int32) (p1 : Int32) : Option (Int32) :=
  (if p1 = 0 then
  some (la_lanes)
  else
  (if p1 = 1 then
  some (la_deep)
  else
  (if p1 = 2 then
  bd1 (f_J6_bitCount_0f7a4  la_lanesTold) fun r_1 =>
  some (r_1)
  else
  (if p1 = 3 then
  some (la_beasts)
  else
  (if p1 = 4 then
  some (la_cities)
  else
  (if p1 = 5 then
  some (la_passes)
  else
  (if p1 = 6 then
  bd1 (f_J6_bitCount_0f7a4  la_turned) fun r_3 =>
  some (r_3)
  else
  (if p1 = 7 then
  (if no_wet = 0 then
  some (0)
  else
  some (1))
  else
  (if p1 = 8 then
  some (no_drawn)
  else
  (if p1 = 9 then
  some (pa_acts)
  else
  (if p1 = 10 then
  some (pa_marks)
  else
  (if p1 = 11 then
  some (el_bytes)
  else
  some ((-1))))))))))))))
noncomputable def f_X11_trouble (el_refusal : Int32) : Option (Int32) :=
  some (el_refusal)
noncomputable def f_X11_append_B42 (k3 : Int32 → Int32 → (Nat → Int32) → Option (Int32 × (Nat → Int32))) (x1 : Int32) (x2 : Int32) (el_bytes : Int32) (tape : Nat → Int32) : Option (Int32 × (Nat → Int32)) :=
  k3 (x2 + (-8)) el_bytes tape
noncomputable def f_X11_append_b3 (x1 : Int32) (k3 : Int32 → Int32 → (Nat → Int32) → Option (Int32 × (Nat → Int32))) (x2 : Int32) (el_bytes : Int32) (tape : Nat → Int32) : Option (Int32 × (Nat → Int32)) :=
  (if x2 < 0 then
  some (el_bytes, tape)
  else
  (if 900 ≤ el_bytes then
  f_X11_append_B42 k3 x1 x2 el_bytes tape
  else
  gIn el_bytes 900 <|
  f_X11_append_B42 k3 x1 x2 (el_bytes + 1) (upd tape el_bytes.toNatClampNeg (vp_nar .byte ((x1 >>> (x2 &&& 31)).toInt8.toInt32)))))
noncomputable def f_X11_append_L3 (x1 : Int32) : Nat → Int32 → Int32 → (Nat → Int32) → Option (Int32 × (Nat → Int32))
  | 0 => fun _ _ _ => none
  | n + 1 => f_X11_append_b3 x1 (f_X11_append_L3 x1 n)
noncomputable def f_X11_append (el_bytes : Int32) (tape : Nat → Int32) (p1 : Int32) : Option (Int32 × (Nat → Int32)) :=
  f_X11_append_L3 p1 fuelN 24 el_bytes tape
noncomputable def f_X11_isRefused (el_refusal : Int32) (p1 : Int32) : Option (Int32 × Int32) :=
  (if p1 = 0 then
  some (0, p1)
  else
  some (1, p1))
noncomputable def f_X11_warTrouble (la_lanes : Int32) : Option (Int32) :=
  bd1 (f_X2_isTold la_lanes) fun r_1 =>
  (if r_1 = 0 then
  some (1)
  else
  some (0))
noncomputable def f_X11_beastTrouble (la_beasts : Int32) (p1 : Int32) : Option (Int32) :=
  bd1 (f_X2_hasBeast la_beasts p1) fun r_1 =>
  (if r_1 = 0 then
  some (1)
  else
  some (0))
noncomputable def f_X11_meetingTrouble (la_lanes : Int32) (la_beasts : Int32) (p1 : Int32) (p2 : Int32) : Option (Int32) :=
  bd1 (f_X2_hasBeast la_beasts p1) fun r_1 =>
  (if r_1 = 0 then
  some (1)
  else
  bd1 (f_X2_hasLane la_lanes p2) fun r_4 =>
  (if r_4 = 0 then
  some (1)
  else
  some (0)))
noncomputable def f_X11_cityTrouble (la_cities : Int32) (p1 : Int32) : Option (Int32) :=
  bd1 (f_X2_hasCity la_cities p1) fun r_1 =>
  (if r_1 = 0 then
  some (1)
  else
  some (0))
noncomputable def f_X11_moveTrouble_B48 (la_lanes : Int32) (la_beasts : Int32) (no_dead : Int32) (no_at : Nat → Int32) : Option (Int32) :=
  some (5)
noncomputable def f_X11_moveTrouble (la_lanes : Int32) (la_beasts : Int32) (no_dead : Int32) (no_at : Nat → Int32) (p1 : Int32) (p2 : Int32) : Option (Int32) :=
  bd1 (f_X2_hasBeast la_beasts p1) fun r_1 =>
  (if r_1 = 0 then
  some (1)
  else
  bd1 (f_X2_hasLane la_lanes p2) fun r_4 =>
  (if r_4 = 0 then
  some (1)
  else
  bd1 (f_X8_isDead no_dead p1) fun r_7 =>
  (if r_7 = 0 then
  gIn p1 5 <|
  (if (no_at p1.toNatClampNeg) = p2 then
  f_X11_moveTrouble_B48 la_lanes la_beasts no_dead no_at
  else
  some (0))
  else
  f_X11_moveTrouble_B48 la_lanes la_beasts no_dead no_at)))
noncomputable def f_X11_livingTrouble (la_beasts : Int32) (no_dead : Int32) (p1 : Int32) (p2 : Int32) : Option (Int32) :=
  bd1 (f_X2_hasBeast la_beasts p1) fun r_1 =>
  (if r_1 = 0 then
  some (1)
  else
  (if p2 = 0 then
  bd1 (f_X8_isDead no_dead p1) fun r_4 =>
  (if r_4 = 0 then
  some (0)
  else
  some (5))
  else
  some (p2)))
noncomputable def f_X11_horseTrouble (la_lanes : Int32) (la_who : Nat → Int32) (p1 : Int32) (p2 : Int32) : Option (Int32) :=
  bd1 (f_X2_hasLane la_lanes p1) fun r_1 =>
  (if r_1 = 0 then
  some (1)
  else
  (if p2 = 0 then
  gIn p1 6 <|
  (if (la_who p1.toNatClampNeg) = 3 then
  some (0)
  else
  some (5))
  else
  some (p2)))
noncomputable def f_X11_saleTrouble (la_lanes : Int32) (p1 : Int32) : Option (Int32) :=
  bd1 (f_X2_isTold la_lanes) fun r_1 =>
  (if r_1 = 0 then
  some (1)
  else
  bd1 (f_X11_outside  p1 (0 : Int32) (500 : Int32)) fun r_4 =>
  (if r_4 = 0 then
  some (0)
  else
  some (2)))
noncomputable def f_X11_marchTrouble (la_cities : Int32) (p1 : Int32) (p2 : Int32) (p3 : Int32) : Option (Int32) :=
  bd1 (f_X2_hasCity la_cities p1) fun r_1 =>
  (if r_1 = 0 then
  some (1)
  else
  bd1 (f_X2_hasCity la_cities p2) fun r_4 =>
  (if r_4 = 0 then
  some (1)
  else
  bd1 (f_X11_outside  p3 (0 : Int32) (999 : Int32)) fun r_7 =>
  (if r_7 = 0 then
  some (0)
  else
  some (2))))
noncomputable def f_X11_battlesTrouble_B27 : Option (Int32) :=
  some (2)
noncomputable def f_X11_battlesTrouble (p0 : Int32) (p1 : Int32) (p2 : Int32) : Option (Int32) :=
  (if p0 = 0 then
  some (1)
  else
  bd1 (f_X11_outside  p1 (0 : Int32) (65536 : Int32)) fun r_1 =>
  (if r_1 = 0 then
  bd1 (f_X11_outside  p2 (1 : Int32) (90 : Int32)) fun r_4 =>
  (if r_4 = 0 then
  some (0)
  else
  f_X11_battlesTrouble_B27)
  else
  f_X11_battlesTrouble_B27))
noncomputable def f_X11_priceOf_B38 (k4 : Int32 → Int32 → Option (Int32)) (la_beasts : Int32) (la_price : Nat → Int32) (x1 : Int32) (x3 : Int32) (t0 : Int32) (t1 : Int32) : Option (Int32) :=
  k4 (t0 + t1) (x3 + 1)
noncomputable def f_X11_priceOf_b4 (la_beasts : Int32) (la_price : Nat → Int32) (x1 : Int32) (k4 : Int32 → Int32 → Option (Int32)) (x2 : Int32) (x3 : Int32) : Option (Int32) :=
  (if la_beasts ≤ x3 then
  some (x2)
  else
  (if ((x1 >>> (x3 &&& 31)) &&& 1) = 1 then
  gIn x3 5 <|
  f_X11_priceOf_B38 k4 la_beasts la_price x1 x3 x2 (la_price x3.toNatClampNeg)
  else
  f_X11_priceOf_B38 k4 la_beasts la_price x1 x3 x2 0))
noncomputable def f_X11_priceOf_L4 (la_beasts : Int32) (la_price : Nat → Int32) (x1 : Int32) : Nat → Int32 → Int32 → Option (Int32)
  | 0 => fun _ _ => none
  | n + 1 => f_X11_priceOf_b4 la_beasts la_price x1 (f_X11_priceOf_L4 la_beasts la_price x1 n)
noncomputable def f_X11_priceOf (la_beasts : Int32) (la_price : Nat → Int32) (p1 : Int32) : Option (Int32) :=
  f_X11_priceOf_L4 la_beasts la_price p1 fuelN 0 0
noncomputable def f_X11_fewestToSell_B65 (k9 : Int32 → Int32 → Int32 → Option (Int32)) (la_beasts : Int32) (la_price : Nat → Int32) (no_dead : Int32) (x1 : Int32) (x2 : Int32) (x3 : Int32) (x4 : Int32) : Option (Int32) :=
  k9 x2 x3 (x4 + 1)
noncomputable def f_X11_fewestToSell_b9 (la_beasts : Int32) (la_price : Nat → Int32) (no_dead : Int32) (x1 : Int32) (k9 : Int32 → Int32 → Int32 → Option (Int32)) (x2 : Int32) (x3 : Int32) (x4 : Int32) : Option (Int32) :=
  (if ((1 : Int32) <<< (la_beasts &&& 31)) ≤ x4 then
  some (x2)
  else
  bd1 (f_J6_bitCount_0f7a4  x4) fun r_1 =>
  (if x3 ≤ r_1 then
  f_X11_fewestToSell_B65 k9 la_beasts la_price no_dead x1 x2 x3 x4
  else
  (if (x4 &&& no_dead) = 0 then
  bd1 (f_X11_priceOf la_beasts la_price x4) fun r_3 =>
  (if r_3 < x1 then
  f_X11_fewestToSell_B65 k9 la_beasts la_price no_dead x1 x2 x3 x4
  else
  f_X11_fewestToSell_B65 k9 la_beasts la_price no_dead x1 x4 r_1 x4)
  else
  f_X11_fewestToSell_B65 k9 la_beasts la_price no_dead x1 x2 x3 x4)))
noncomputable def f_X11_fewestToSell_L9 (la_beasts : Int32) (la_price : Nat → Int32) (no_dead : Int32) (x1 : Int32) : Nat → Int32 → Int32 → Int32 → Option (Int32)
  | 0 => fun _ _ _ => none
  | n + 1 => f_X11_fewestToSell_b9 la_beasts la_price no_dead x1 (f_X11_fewestToSell_L9 la_beasts la_price no_dead x1 n)
noncomputable def f_X11_fewestToSell (la_beasts : Int32) (la_price : Nat → Int32) (no_dead : Int32) (p1 : Int32) : Option (Int32) :=
  f_X11_fewestToSell_L9 la_beasts la_price no_dead p1 fuelN (-2) 6 0
noncomputable def f_X11_feed (el_bytes : Int32) (tape : Nat → Int32) (p1 : Int32) (p2 : Int32) (p3 : Int32) (p4 : Int32) (p5 : Int32) : Option (Int32 × Int32 × (Nat → Int32)) :=
  (if (el_bytes + 20) ≤ 900 then
  bd2 (f_X11_append el_bytes tape p1) fun el_bytes_1 tape_2 =>
  bd2 (f_X11_append el_bytes_1 tape_2 p2) fun el_bytes_4 tape_5 =>
  bd2 (f_X11_append el_bytes_4 tape_5 p3) fun el_bytes_7 tape_8 =>
  bd2 (f_X11_append el_bytes_7 tape_8 p4) fun el_bytes_10 tape_11 =>
  bd2 (f_X11_append el_bytes_10 tape_11 p5) fun el_bytes_13 tape_14 =>
  some (el_bytes_13, el_bytes_13, tape_14)
  else
  some ((-1), el_bytes, tape))
noncomputable def f_X11_lane_B26 (la_lanes : Int32) (la_beasts : Int32) (la_who : Nat → Int32) (no_dead : Int32) (no_strong : Nat → Int32) (no_at : Nat → Int32) (x1 : Int32) (x2 : Int32) (t1 : Int32) (el_refusal : Int32) : Option (Int32 × Int32) :=
  bd2 (f_X11_isRefused el_refusal t1) fun r_4 el_refusal_5 =>
  (if r_4 = 0 then
  (if x2 = 0 then
  gIn x1 6 <|
  some (la_who x1.toNatClampNeg, el_refusal_5)
  else
  (if x2 = 1 then
  gIn x1 6 <|
  some (no_strong x1.toNatClampNeg, el_refusal_5)
  else
  bd1 (f_X8_livingIn no_dead no_at x1 la_beasts) fun r_10 =>
  some (r_10, el_refusal_5)))
  else
  some ((-1), el_refusal_5))
noncomputable def f_X11_lane_B21 (la_lanes : Int32) (la_beasts : Int32) (la_who : Nat → Int32) (no_dead : Int32) (no_strong : Nat → Int32) (no_at : Nat → Int32) (x1 : Int32) (x2 : Int32) (el_refusal : Int32) : Option (Int32 × Int32) :=
  f_X11_lane_B26 la_lanes la_beasts la_who no_dead no_strong no_at x1 x2 1 el_refusal
noncomputable def f_X11_lane (el_refusal : Int32) (la_lanes : Int32) (la_beasts : Int32) (la_who : Nat → Int32) (no_dead : Int32) (no_strong : Nat → Int32) (no_at : Nat → Int32) (p1 : Int32) (p2 : Int32) : Option (Int32 × Int32) :=
  bd1 (f_X2_hasLane la_lanes p1) fun r_1 =>
  (if r_1 = 0 then
  f_X11_lane_B21 la_lanes la_beasts la_who no_dead no_strong no_at p1 p2 el_refusal
  else
  bd1 (f_X11_outside  p2 (0 : Int32) (2 : Int32)) fun r_12 =>
  (if r_12 = 0 then
  f_X11_lane_B26 la_lanes la_beasts la_who no_dead no_strong no_at p1 p2 0 el_refusal
  else
  f_X11_lane_B21 la_lanes la_beasts la_who no_dead no_strong no_at p1 p2 el_refusal))
noncomputable def f_X11_beast_B27 (la_beasts : Int32) (la_kind : Nat → Int32) (la_mood : Nat → Int32) (la_price : Nat → Int32) (no_dead : Int32) (no_wet : Int32) (no_at : Nat → Int32) (no_wounds : Nat → Int32) (x1 : Int32) (x2 : Int32) (t1 : Int32) (el_refusal : Int32) : Option (Int32 × Int32) :=
  bd2 (f_X11_isRefused el_refusal t1) fun r_4 el_refusal_5 =>
  (if r_4 = 0 then
  (if x2 = 0 then
  gIn x1 5 <|
  some (la_kind x1.toNatClampNeg, el_refusal_5)
  else
  (if x2 = 1 then
  gIn x1 5 <|
  some (no_at x1.toNatClampNeg, el_refusal_5)
  else
  (if x2 = 2 then
  gIn x1 5 <|
  some (la_mood x1.toNatClampNeg, el_refusal_5)
  else
  (if x2 = 3 then
  gIn x1 5 <|
  some (la_price x1.toNatClampNeg, el_refusal_5)
  else
  (if x2 = 4 then
  bd1 (f_X4_forceOf la_kind no_dead no_wounds x1) fun r_12 =>
  some (r_12, el_refusal_5)
  else
  (if x2 = 5 then
  bd1 (f_X4_holdOf la_kind la_mood no_wet x1) fun r_14 =>
  some (r_14, el_refusal_5)
  else
  (if x2 = 6 then
  gIn x1 5 <|
  some (no_wounds x1.toNatClampNeg, el_refusal_5)
  else
  bd1 (f_X8_isDead no_dead x1) fun r_17 =>
  (if r_17 = 0 then
  some (0, el_refusal_5)
  else
  some (1, el_refusal_5)))))))))
  else
  some ((-1), el_refusal_5))
noncomputable def f_X11_beast_B22 (la_beasts : Int32) (la_kind : Nat → Int32) (la_mood : Nat → Int32) (la_price : Nat → Int32) (no_dead : Int32) (no_wet : Int32) (no_at : Nat → Int32) (no_wounds : Nat → Int32) (x1 : Int32) (x2 : Int32) (el_refusal : Int32) : Option (Int32 × Int32) :=
  f_X11_beast_B27 la_beasts la_kind la_mood la_price no_dead no_wet no_at no_wounds x1 x2 1 el_refusal
noncomputable def f_X11_beast (el_refusal : Int32) (la_beasts : Int32) (la_kind : Nat → Int32) (la_mood : Nat → Int32) (la_price : Nat → Int32) (no_dead : Int32) (no_wet : Int32) (no_at : Nat → Int32) (no_wounds : Nat → Int32) (p1 : Int32) (p2 : Int32) : Option (Int32 × Int32) :=
  bd1 (f_X2_hasBeast la_beasts p1) fun r_1 =>
  (if r_1 = 0 then
  f_X11_beast_B22 la_beasts la_kind la_mood la_price no_dead no_wet no_at no_wounds p1 p2 el_refusal
  else
  bd1 (f_X11_outside  p2 (0 : Int32) (7 : Int32)) fun r_20 =>
  (if r_20 = 0 then
  f_X11_beast_B27 la_beasts la_kind la_mood la_price no_dead no_wet no_at no_wounds p1 p2 0 el_refusal
  else
  f_X11_beast_B22 la_beasts la_kind la_mood la_price no_dead no_wet no_at no_wounds p1 p2 el_refusal))
noncomputable def f_X11_across (el_refusal : Int32) (la_deep : Int32) (la_beasts : Int32) (la_kind : Nat → Int32) (la_mood : Nat → Int32) (no_dead : Int32) (no_wet : Int32) (p1 : Int32) (p2 : Int32) : Option (Int64 × Int32) :=
  bd1 (f_X11_beastTrouble la_beasts p1) fun r_1 =>
  bd2 (f_X11_isRefused el_refusal r_1) fun r_3 el_refusal_4 =>
  (if r_3 = 0 then
  bd1 (f_X4_acrossOverFull la_deep la_kind la_mood no_dead no_wet p1) fun r_7 =>
  bd1 (f_X4_told la_deep r_7 p2) fun r_9 =>
  some (r_9, el_refusal_4)
  else
  some ((-1), el_refusal_4))
noncomputable def f_X11_meets (el_refusal : Int32) (la_lanes : Int32) (la_beasts : Int32) (la_who : Nat → Int32) (la_kind : Nat → Int32) (no_dead : Int32) (no_strong : Nat → Int32) (no_wounds : Nat → Int32) (p1 : Int32) (p2 : Int32) (p3 : Int32) : Option (Int32 × Int32) :=
  bd1 (f_X11_meetingTrouble la_lanes la_beasts p1 p2) fun r_1 =>
  bd2 (f_X11_isRefused el_refusal r_1) fun r_3 el_refusal_4 =>
  (if r_3 = 0 then
  bd1 (f_X4_harmIn la_who la_kind no_dead no_strong no_wounds p1 p2 p3) fun r_7 =>
  some (r_7, el_refusal_4)
  else
  some ((-1), el_refusal_4))
noncomputable def f_X11_mean (el_refusal : Int32) (la_lanes : Int32) (la_deep : Int32) (la_beasts : Int32) (la_who : Nat → Int32) (la_kind : Nat → Int32) (la_mood : Nat → Int32) (no_dead : Int32) (no_wet : Int32) (no_strong : Nat → Int32) (no_wounds : Nat → Int32) (p1 : Int32) (p2 : Int32) (p3 : Int32) (p4 : Int32) : Option (Int64 × Int32) :=
  bd1 (f_X11_meetingTrouble la_lanes la_beasts p1 p2) fun r_1 =>
  bd2 (f_X11_isRefused el_refusal r_1) fun r_3 el_refusal_4 =>
  (if r_3 = 0 then
  bd1 (f_X4_meanIn la_deep la_who la_kind la_mood no_dead no_wet no_strong no_wounds p1 p2 p3) fun r_7 =>
  bd1 (f_X4_told la_deep r_7 p4) fun r_9 =>
  some (r_9, el_refusal_4)
  else
  some ((-1), el_refusal_4))
noncomputable def f_X11_worth (el_refusal : Int32) (la_lanes : Int32) (la_deep : Int32) (la_beasts : Int32) (la_who : Nat → Int32) (la_kind : Nat → Int32) (la_mood : Nat → Int32) (no_dead : Int32) (no_wet : Int32) (no_strong : Nat → Int32) (no_wounds : Nat → Int32) (p1 : Int32) (p2 : Int32) (p3 : Int32) : Option (Int64 × Int32) :=
  bd1 (f_X11_meetingTrouble la_lanes la_beasts p1 p2) fun r_1 =>
  bd2 (f_X11_isRefused el_refusal r_1) fun r_3 el_refusal_4 =>
  (if r_3 = 0 then
  bd1 (f_X4_worthIn la_deep la_who la_kind la_mood no_dead no_wet no_strong no_wounds p1 p2) fun r_7 =>
  bd1 (f_X4_told la_deep r_7 p3) fun r_9 =>
  some (r_9, el_refusal_4)
  else
  some ((-9223372036854775808), el_refusal_4))
noncomputable def f_X11_bestLane (el_refusal : Int32) (la_lanes : Int32) (la_deep : Int32) (la_beasts : Int32) (la_who : Nat → Int32) (la_kind : Nat → Int32) (la_mood : Nat → Int32) (no_dead : Int32) (no_wet : Int32) (no_strong : Nat → Int32) (no_wounds : Nat → Int32) (p1 : Int32) : Option (Int32 × Int32) :=
  bd1 (f_X11_beastTrouble la_beasts p1) fun r_1 =>
  bd2 (f_X11_isRefused el_refusal r_1) fun r_3 el_refusal_4 =>
  (if r_3 = 0 then
  bd1 (f_X4_laneOfMostWorth la_lanes la_deep la_who la_kind la_mood no_dead no_wet no_strong no_wounds p1) fun r_7 =>
  some (r_7, el_refusal_4)
  else
  some ((-1), el_refusal_4))
noncomputable def f_X11_all (el_refusal : Int32) (la_lanes : Int32) (la_deep : Int32) (la_beasts : Int32) (la_who : Nat → Int32) (la_kind : Nat → Int32) (la_mood : Nat → Int32) (no_dead : Int32) (no_wet : Int32) (no_strong : Nat → Int32) (no_at : Nat → Int32) (no_wounds : Nat → Int32) (p1 : Int32) (p2 : Int32) : Option (Int64 × Int32) :=
  bd1 (f_X11_warTrouble la_lanes) fun r_1 =>
  bd2 (f_X11_isRefused el_refusal r_1) fun r_3 el_refusal_4 =>
  (if r_3 = 0 then
  bd1 (f_X4_sumOfMeans la_deep la_beasts la_who la_kind la_mood no_dead no_wet no_strong no_at no_wounds p1) fun r_7 =>
  bd1 (f_X4_told la_deep r_7 p2) fun r_9 =>
  some (r_9, el_refusal_4)
  else
  some ((-1), el_refusal_4))
noncomputable def f_X11_worst (el_refusal : Int32) (la_lanes : Int32) (la_deep : Int32) (la_beasts : Int32) (la_who : Nat → Int32) (la_kind : Nat → Int32) (la_mood : Nat → Int32) (no_dead : Int32) (no_wet : Int32) (no_strong : Nat → Int32) (no_at : Nat → Int32) (no_wounds : Nat → Int32) : Option (Int32 × Int32) :=
  bd1 (f_X11_warTrouble la_lanes) fun r_1 =>
  bd2 (f_X11_isRefused el_refusal r_1) fun r_3 el_refusal_4 =>
  (if r_3 = 0 then
  bd1 (f_X4_beastOfMostOwnHarm la_deep la_beasts la_who la_kind la_mood no_dead no_wet no_strong no_at no_wounds) fun r_7 =>
  some (r_7, el_refusal_4)
  else
  some ((-1), el_refusal_4))
noncomputable def f_X11_worthIf (el_refusal : Int32) (la_lanes : Int32) (la_deep : Int32) (la_beasts : Int32) (la_who : Nat → Int32) (la_kind : Nat → Int32) (la_mood : Nat → Int32) (no_dead : Int32) (no_strong : Nat → Int32) (no_wounds : Nat → Int32) (p1 : Int32) (p2 : Int32) (p3 : Int32) (p4 : Int32) : Option (Int64 × Int32) :=
  bd1 (f_X11_meetingTrouble la_lanes la_beasts p1 p2) fun r_1 =>
  bd2 (f_X11_isRefused el_refusal r_1) fun r_3 el_refusal_4 =>
  (if r_3 = 0 then
  gIn p1 5 <|
  gIn p1 5 <|
  bd1 (f_X4_holdBy  (la_kind p1.toNatClampNeg) (la_mood p1.toNatClampNeg) p3) fun r_9 =>
  gIn p2 6 <|
  gIn p2 6 <|
  bd1 (f_X4_worthBy la_deep la_kind no_dead no_wounds p1 (la_who p2.toNatClampNeg) (no_strong p2.toNatClampNeg) r_9) fun r_13 =>
  bd1 (f_X4_told la_deep r_13 p4) fun r_15 =>
  some (r_15, el_refusal_4)
  else
  some ((-9223372036854775808), el_refusal_4))
noncomputable def f_X11_moodFor (el_refusal : Int32) (la_lanes : Int32) (la_deep : Int32) (la_beasts : Int32) (la_who : Nat → Int32) (la_kind : Nat → Int32) (no_dead : Int32) (no_wet : Int32) (no_strong : Nat → Int32) (no_wounds : Nat → Int32) (p1 : Int32) (p2 : Int32) : Option (Int32 × Int32) :=
  bd1 (f_X11_meetingTrouble la_lanes la_beasts p1 p2) fun r_1 =>
  bd2 (f_X11_isRefused el_refusal r_1) fun r_3 el_refusal_4 =>
  (if r_3 = 0 then
  bd1 (f_X4_leastMood la_deep la_who la_kind no_dead no_wet no_strong no_wounds p1 p2) fun r_7 =>
  some (r_7, el_refusal_4)
  else
  some ((-1), el_refusal_4))
noncomputable def f_X11_toHammer (el_refusal : Int32) (la_lanes : Int32) (la_deep : Int32) (la_beasts : Int32) (la_who : Nat → Int32) (la_kind : Nat → Int32) (la_mood : Nat → Int32) (no_dead : Int32) (no_wet : Int32) (no_strong : Nat → Int32) (no_at : Nat → Int32) (no_wounds : Nat → Int32) : Option (Int32 × Int32) :=
  bd1 (f_X11_warTrouble la_lanes) fun r_1 =>
  bd2 (f_X11_isRefused el_refusal r_1) fun r_3 el_refusal_4 =>
  (if r_3 = 0 then
  bd1 (f_X4_beastBetterDead la_deep la_beasts la_who la_kind la_mood no_dead no_wet no_strong no_at no_wounds) fun r_7 =>
  some (r_7, el_refusal_4)
  else
  some ((-1), el_refusal_4))
noncomputable def f_X11_place (el_refusal : Int32) (la_lanes : Int32) (la_deep : Int32) (la_beasts : Int32) (la_who : Nat → Int32) (la_kind : Nat → Int32) (la_mood : Nat → Int32) (no_dead : Int32) (no_wet : Int32) (no_strong : Nat → Int32) (no_wounds : Nat → Int32) (pl_worths : Nat → Int64) (pl_most : Nat → Int64) (pl_lanes : Nat → Int32) (p1 : Int32) : Option (Int32 × Int32 × (Nat → Int64) × (Nat → Int64) × (Nat → Int32)) :=
  bd1 (f_X11_beastTrouble la_beasts p1) fun r_1 =>
  bd2 (f_X11_isRefused el_refusal r_1) fun r_3 el_refusal_4 =>
  (if r_3 = 0 then
  bd3 (f_X6_settle la_lanes la_deep la_beasts la_who la_kind la_mood no_dead no_wet no_strong no_wounds pl_worths pl_most pl_lanes) fun pl_worths_7 pl_most_8 pl_lanes_9 =>
  bd1 (f_X6_laneFor la_beasts pl_lanes_9 p1) fun r_11 =>
  some (r_11, el_refusal_4, pl_worths_7, pl_most_8, pl_lanes_9)
  else
  some ((-1), el_refusal_4, pl_worths, pl_most, pl_lanes))
noncomputable def f_X11_placed (el_refusal : Int32) (la_lanes : Int32) (la_deep : Int32) (la_beasts : Int32) (la_who : Nat → Int32) (la_kind : Nat → Int32) (la_mood : Nat → Int32) (no_dead : Int32) (no_wet : Int32) (no_strong : Nat → Int32) (no_wounds : Nat → Int32) (pl_worths : Nat → Int64) (pl_most : Nat → Int64) (pl_lanes : Nat → Int32) (p1 : Int32) : Option (Int64 × Int32 × (Nat → Int64) × (Nat → Int64) × (Nat → Int32)) :=
  bd1 (f_X11_warTrouble la_lanes) fun r_1 =>
  bd2 (f_X11_isRefused el_refusal r_1) fun r_3 el_refusal_4 =>
  (if r_3 = 0 then
  bd3 (f_X6_settle la_lanes la_deep la_beasts la_who la_kind la_mood no_dead no_wet no_strong no_wounds pl_worths pl_most pl_lanes) fun pl_worths_7 pl_most_8 pl_lanes_9 =>
  bd1 (f_X6_greatestSum pl_most_8) fun r_11 =>
  bd1 (f_X4_told la_deep r_11 p1) fun r_13 =>
  some (r_13, el_refusal_4, pl_worths_7, pl_most_8, pl_lanes_9)
  else
  some ((-9223372036854775808), el_refusal_4, pl_worths, pl_most, pl_lanes))
noncomputable def f_X11_out (el_refusal : Int32) (la_lanes : Int32) (la_deep : Int32) (la_beasts : Int32) (la_who : Nat → Int32) (la_kind : Nat → Int32) (la_mood : Nat → Int32) (no_dead : Int32) (no_wet : Int32) (no_strong : Nat → Int32) (no_wounds : Nat → Int32) (pl_worths : Nat → Int64) (pl_most : Nat → Int64) (pl_lanes : Nat → Int32) : Option (Int32 × Int32 × (Nat → Int64) × (Nat → Int64) × (Nat → Int32)) :=
  bd1 (f_X11_warTrouble la_lanes) fun r_1 =>
  bd2 (f_X11_isRefused el_refusal r_1) fun r_3 el_refusal_4 =>
  (if r_3 = 0 then
  bd3 (f_X6_settle la_lanes la_deep la_beasts la_who la_kind la_mood no_dead no_wet no_strong no_wounds pl_worths pl_most pl_lanes) fun pl_worths_7 pl_most_8 pl_lanes_9 =>
  bd1 (f_X6_livingLeftOut la_beasts no_dead pl_lanes_9) fun r_11 =>
  some (r_11, el_refusal_4, pl_worths_7, pl_most_8, pl_lanes_9)
  else
  some ((-1), el_refusal_4, pl_worths, pl_most, pl_lanes))
noncomputable def f_X11_toOpen (el_refusal : Int32) (la_lanes : Int32) (la_deep : Int32) (la_beasts : Int32) (la_who : Nat → Int32) (la_kind : Nat → Int32) (la_mood : Nat → Int32) (no_dead : Int32) (no_wet : Int32) (no_strong : Nat → Int32) (no_at : Nat → Int32) (no_wounds : Nat → Int32) : Option (Int32 × Int32) :=
  bd1 (f_X11_warTrouble la_lanes) fun r_1 =>
  bd2 (f_X11_isRefused el_refusal r_1) fun r_3 el_refusal_4 =>
  (if r_3 = 0 then
  bd1 (f_X1_laneBestOpened la_lanes la_deep la_beasts la_who la_kind la_mood no_dead no_wet no_strong no_at no_wounds) fun r_7 =>
  some (r_7, el_refusal_4)
  else
  some ((-1), el_refusal_4))
noncomputable def f_X11_rests (el_refusal : Int32) (la_lanes : Int32) (la_deep : Int32) (la_beasts : Int32) (la_who : Nat → Int32) (la_kind : Nat → Int32) (la_mood : Nat → Int32) (no_dead : Int32) (no_wet : Int32) (no_strong : Nat → Int32) (no_wounds : Nat → Int32) (ga_worthInOpen : Int64) (ga_worths : Nat → Int64) (p1 : Int32) : Option (Int32 × Int32 × Int64 × (Nat → Int64)) :=
  bd1 (f_X11_beastTrouble la_beasts p1) fun r_1 =>
  bd2 (f_X11_isRefused el_refusal r_1) fun r_3 el_refusal_4 =>
  (if r_3 = 0 then
  bd2 (f_X1_weigh la_lanes la_deep la_who la_kind la_mood no_dead no_wet no_strong no_wounds ga_worthInOpen ga_worths p1) fun ga_worthInOpen_7 ga_worths_8 =>
  bd1 (f_X1_countRests la_lanes ga_worthInOpen_7 ga_worths_8) fun r_10 =>
  some (r_10, el_refusal_4, ga_worthInOpen_7, ga_worths_8)
  else
  some ((-1), el_refusal_4, ga_worthInOpen, ga_worths))
noncomputable def f_X11_rest (el_refusal : Int32) (la_lanes : Int32) (la_deep : Int32) (la_beasts : Int32) (la_who : Nat → Int32) (la_kind : Nat → Int32) (la_mood : Nat → Int32) (no_dead : Int32) (no_wet : Int32) (no_strong : Nat → Int32) (no_wounds : Nat → Int32) (ga_worthInOpen : Int64) (ga_worths : Nat → Int64) (p1 : Int32) : Option (Int32 × Int32 × Int64 × (Nat → Int64)) :=
  bd1 (f_X11_beastTrouble la_beasts p1) fun r_1 =>
  bd2 (f_X11_isRefused el_refusal r_1) fun r_3 el_refusal_4 =>
  (if r_3 = 0 then
  bd2 (f_X1_weigh la_lanes la_deep la_who la_kind la_mood no_dead no_wet no_strong no_wounds ga_worthInOpen ga_worths p1) fun ga_worthInOpen_7 ga_worths_8 =>
  bd1 (f_X1_firstRest la_lanes ga_worthInOpen_7 ga_worths_8) fun r_10 =>
  some (r_10, el_refusal_4, ga_worthInOpen_7, ga_worths_8)
  else
  some ((-1), el_refusal_4, ga_worthInOpen, ga_worths))
noncomputable def f_X11_weeks (el_refusal : Int32) (la_lanes : Int32) (la_deep : Int32) (la_beasts : Int32) (la_who : Nat → Int32) (la_kind : Nat → Int32) (la_mood : Nat → Int32) (no_dead : Int32) (no_wet : Int32) (no_wounds : Nat → Int32) (p1 : Int32) : Option (Int32 × Int32) :=
  bd1 (f_X11_horseTrouble la_lanes la_who p1 (0 : Int32)) fun r_1 =>
  bd2 (f_X11_isRefused el_refusal r_1) fun r_3 el_refusal_4 =>
  (if r_3 = 0 then
  bd1 (f_X4_leastWeeks la_deep la_beasts la_kind la_mood no_dead no_wet no_wounds) fun r_7 =>
  some (r_7, el_refusal_4)
  else
  some ((-1), el_refusal_4))
noncomputable def f_X11_sale (el_refusal : Int32) (la_lanes : Int32) (la_beasts : Int32) (la_price : Nat → Int32) (no_dead : Int32) (p1 : Int32) : Option (Int32 × Int32) :=
  bd1 (f_X11_saleTrouble la_lanes p1) fun r_1 =>
  bd2 (f_X11_isRefused el_refusal r_1) fun r_3 el_refusal_4 =>
  (if r_3 = 0 then
  bd1 (f_X11_fewestToSell la_beasts la_price no_dead p1) fun r_7 =>
  some (r_7, el_refusal_4)
  else
  some ((-1), el_refusal_4))
noncomputable def f_X11_saleOver_B33 (la_lanes : Int32) (la_beasts : Int32) (la_price : Nat → Int32) (no_dead : Int32) (x1 : Int32) (x2 : Int32) (t1 : Int32) (el_refusal : Int32) : Option (Int32 × Int32) :=
  bd2 (f_X11_isRefused el_refusal t1) fun r_9 el_refusal_10 =>
  (if r_9 = 0 then
  bd1 (f_X11_priceOf la_beasts la_price x2) fun r_13 =>
  some (r_13 - x1, el_refusal_10)
  else
  some ((-1), el_refusal_10))
noncomputable def f_X11_saleOver (el_refusal : Int32) (la_lanes : Int32) (la_beasts : Int32) (la_price : Nat → Int32) (no_dead : Int32) (p1 : Int32) : Option (Int32 × Int32) :=
  bd1 (f_X11_saleTrouble la_lanes p1) fun r_1 =>
  bd2 (f_X11_isRefused el_refusal r_1) fun r_3 el_refusal_4 =>
  (if r_3 = 0 then
  bd1 (f_X11_fewestToSell la_beasts la_price no_dead p1) fun r_7 =>
  (if r_7 = (-2) then
  f_X11_saleOver_B33 la_lanes la_beasts la_price no_dead p1 r_7 6 el_refusal_4
  else
  f_X11_saleOver_B33 la_lanes la_beasts la_price no_dead p1 r_7 0 el_refusal_4)
  else
  some ((-1), el_refusal_4))
noncomputable def f_X11_reach (el_refusal : Int32) (la_cities : Int32) (la_passBetween : Nat → Int32) (p1 : Int32) : Option (Int32 × Int32) :=
  bd1 (f_X11_cityTrouble la_cities p1) fun r_1 =>
  bd2 (f_X11_isRefused el_refusal r_1) fun r_3 el_refusal_4 =>
  (if r_3 = 0 then
  bd1 (f_X3_citiesFrom la_cities la_passBetween p1) fun r_7 =>
  some (r_7, el_refusal_4)
  else
  some ((-1), el_refusal_4))
noncomputable def f_X11_fits (el_refusal : Int32) (la_lanes : Int32) (la_beasts : Int32) (la_turned : Int32) (la_kind : Nat → Int32) (la_mood : Nat → Int32) (no_dead : Int32) (no_wet : Int32) (no_at : Nat → Int32) (tr_sets : Int32) (tr_inSome : Int32) (tr_inAll : Int32) (tr_turns : Nat → Int32) (tr_setsWith : Nat → Int32) : Option (Int32 × Int32 × Int32 × Int32 × Int32 × (Nat → Int32) × (Nat → Int32)) :=
  bd1 (f_X11_warTrouble la_lanes) fun r_1 =>
  bd2 (f_X11_isRefused el_refusal r_1) fun r_3 el_refusal_4 =>
  (if r_3 = 0 then
  bd5 (f_X10_findSets la_beasts la_turned la_kind la_mood no_dead no_wet no_at tr_sets tr_inSome tr_inAll tr_turns tr_setsWith) fun tr_sets_7 tr_inSome_8 tr_inAll_9 tr_turns_10 tr_setsWith_11 =>
  some (tr_sets_7, el_refusal_4, tr_sets_7, tr_inSome_8, tr_inAll_9, tr_turns_10, tr_setsWith_11)
  else
  some ((-1), el_refusal_4, tr_sets, tr_inSome, tr_inAll, tr_turns, tr_setsWith))
noncomputable def f_X11_could (el_refusal : Int32) (la_lanes : Int32) (la_beasts : Int32) (la_turned : Int32) (la_kind : Nat → Int32) (la_mood : Nat → Int32) (no_dead : Int32) (no_wet : Int32) (no_at : Nat → Int32) (tr_sets : Int32) (tr_inSome : Int32) (tr_inAll : Int32) (tr_turns : Nat → Int32) (tr_setsWith : Nat → Int32) : Option (Int32 × Int32 × Int32 × Int32 × Int32 × (Nat → Int32) × (Nat → Int32)) :=
  bd1 (f_X11_warTrouble la_lanes) fun r_1 =>
  bd2 (f_X11_isRefused el_refusal r_1) fun r_3 el_refusal_4 =>
  (if r_3 = 0 then
  bd5 (f_X10_findSets la_beasts la_turned la_kind la_mood no_dead no_wet no_at tr_sets tr_inSome tr_inAll tr_turns tr_setsWith) fun tr_sets_7 tr_inSome_8 tr_inAll_9 tr_turns_10 tr_setsWith_11 =>
  some (tr_inSome_8, el_refusal_4, tr_sets_7, tr_inSome_8, tr_inAll_9, tr_turns_10, tr_setsWith_11)
  else
  some ((-1), el_refusal_4, tr_sets, tr_inSome, tr_inAll, tr_turns, tr_setsWith))
noncomputable def f_X11_surely (el_refusal : Int32) (la_lanes : Int32) (la_beasts : Int32) (la_turned : Int32) (la_kind : Nat → Int32) (la_mood : Nat → Int32) (no_dead : Int32) (no_wet : Int32) (no_at : Nat → Int32) (tr_sets : Int32) (tr_inSome : Int32) (tr_inAll : Int32) (tr_turns : Nat → Int32) (tr_setsWith : Nat → Int32) : Option (Int32 × Int32 × Int32 × Int32 × Int32 × (Nat → Int32) × (Nat → Int32)) :=
  bd1 (f_X11_warTrouble la_lanes) fun r_1 =>
  bd2 (f_X11_isRefused el_refusal r_1) fun r_3 el_refusal_4 =>
  (if r_3 = 0 then
  bd5 (f_X10_findSets la_beasts la_turned la_kind la_mood no_dead no_wet no_at tr_sets tr_inSome tr_inAll tr_turns tr_setsWith) fun tr_sets_7 tr_inSome_8 tr_inAll_9 tr_turns_10 tr_setsWith_11 =>
  some (tr_inAll_9, el_refusal_4, tr_sets_7, tr_inSome_8, tr_inAll_9, tr_turns_10, tr_setsWith_11)
  else
  some ((-1), el_refusal_4, tr_sets, tr_inSome, tr_inAll, tr_turns, tr_setsWith))
noncomputable def f_X11_ask (el_refusal : Int32) (la_lanes : Int32) (la_beasts : Int32) (la_turned : Int32) (la_kind : Nat → Int32) (la_mood : Nat → Int32) (no_dead : Int32) (no_wet : Int32) (no_at : Nat → Int32) (tr_sets : Int32) (tr_inSome : Int32) (tr_inAll : Int32) (tr_turns : Nat → Int32) (tr_setsWith : Nat → Int32) : Option (Int32 × Int32 × Int32 × Int32 × Int32 × (Nat → Int32) × (Nat → Int32)) :=
  bd1 (f_X11_warTrouble la_lanes) fun r_1 =>
  bd2 (f_X11_isRefused el_refusal r_1) fun r_3 el_refusal_4 =>
  (if r_3 = 0 then
  bd5 (f_X10_findSets la_beasts la_turned la_kind la_mood no_dead no_wet no_at tr_sets tr_inSome tr_inAll tr_turns tr_setsWith) fun tr_sets_7 tr_inSome_8 tr_inAll_9 tr_turns_10 tr_setsWith_11 =>
  bd1 (f_X10_bestToAsk la_beasts tr_sets_7 tr_setsWith_11) fun r_13 =>
  some (r_13, el_refusal_4, tr_sets_7, tr_inSome_8, tr_inAll_9, tr_turns_10, tr_setsWith_11)
  else
  some ((-1), el_refusal_4, tr_sets, tr_inSome, tr_inAll, tr_turns, tr_setsWith))
noncomputable def f_X11_turnedBy (el_refusal : Int32) (la_beasts : Int32) (la_kind : Nat → Int32) (la_mood : Nat → Int32) (no_dead : Int32) (no_wet : Int32) (no_at : Nat → Int32) (p1 : Int32) : Option (Int32 × Int32) :=
  bd1 (f_X11_beastTrouble la_beasts p1) fun r_1 =>
  bd2 (f_X11_isRefused el_refusal r_1) fun r_3 el_refusal_4 =>
  (if r_3 = 0 then
  bd1 (f_X10_turnBy la_beasts la_kind la_mood no_dead no_wet no_at p1) fun r_7 =>
  some (r_7, el_refusal_4)
  else
  some ((-1), el_refusal_4))
noncomputable def f_X11_move (el_refusal : Int32) (la_lanes : Int32) (la_beasts : Int32) (no_dead : Int32) (no_wet : Int32) (no_drawn : Int32) (no_strong : Nat → Int32) (no_at : Nat → Int32) (no_wounds : Nat → Int32) (pa_latest : Int32) (pa_acts : Int32) (pa_kept : Nat → Option Nat) (ks_dead : Int32) (ks_wet : Int32) (ks_drawn : Int32) (ks_strong : Nat → Int32) (ks_at : Nat → Int32) (ks_wounds : Nat → Int32) (p1 : Int32) (p2 : Int32) : Option (Int32 × Int32 × (Nat → Int32) × Int32 × Int32 × Int32 × Int32 × Int32 × (Nat → Int32) × (Nat → Int32) × (Nat → Int32)) :=
  bd1 (f_X11_moveTrouble la_lanes la_beasts no_dead no_at p1 p2) fun r_1 =>
  bd2 (f_X11_isRefused el_refusal r_1) fun r_3 el_refusal_4 =>
  (if r_3 = 0 then
  bd8 (f_X5_keep no_dead no_wet no_drawn no_strong no_at no_wounds pa_latest pa_acts pa_kept ks_dead ks_wet ks_drawn ks_strong ks_at ks_wounds) fun pa_latest_7 pa_acts_8 ks_dead_9 ks_wet_10 ks_drawn_11 ks_strong_12 ks_at_13 ks_wounds_14 =>
  gIn p1 5 <|
  some (1, el_refusal_4, upd no_at p1.toNatClampNeg p2, pa_latest_7, pa_acts_8, ks_dead_9, ks_wet_10, ks_drawn_11, ks_strong_12, ks_at_13, ks_wounds_14)
  else
  some (0, el_refusal_4, no_at, pa_latest, pa_acts, ks_dead, ks_wet, ks_drawn, ks_strong, ks_at, ks_wounds))
noncomputable def f_X11_wound_B18 (la_beasts : Int32) (la_kind : Nat → Int32) (no_dead : Int32) (no_wet : Int32) (no_drawn : Int32) (no_strong : Nat → Int32) (no_at : Nat → Int32) (pa_kept : Nat → Option Nat) (x1 : Int32) (x2 : Int32) (t2 : Int32) (t3 : Int32) (el_refusal : Int32) (no_wounds : Nat → Int32) (pa_latest : Int32) (pa_acts : Int32) (ks_dead : Int32) (ks_wet : Int32) (ks_drawn : Int32) (ks_strong : Nat → Int32) (ks_at : Nat → Int32) (ks_wounds : Nat → Int32) : Option (Int32 × Int32 × (Nat → Int32) × Int32 × Int32 × Int32 × Int32 × Int32 × (Nat → Int32) × (Nat → Int32) × (Nat → Int32)) :=
  bd1 (f_X11_livingTrouble la_beasts no_dead t2 t3) fun r_4 =>
  bd2 (f_X11_isRefused el_refusal r_4) fun r_6 el_refusal_7 =>
  (if r_6 = 0 then
  bd8 (f_X5_keep no_dead no_wet no_drawn no_strong no_at no_wounds pa_latest pa_acts pa_kept ks_dead ks_wet ks_drawn ks_strong ks_at ks_wounds) fun pa_latest_10 pa_acts_11 ks_dead_12 ks_wet_13 ks_drawn_14 ks_strong_15 ks_at_16 ks_wounds_17 =>
  gIn x1 5 <|
  gIn x1 5 <|
  bd1 (f_X4_forceOf la_kind no_dead (upd no_wounds x1.toNatClampNeg ((no_wounds x1.toNatClampNeg) + x2)) x1) fun r_21 =>
  some (r_21, el_refusal_7, upd no_wounds x1.toNatClampNeg ((no_wounds x1.toNatClampNeg) + x2), pa_latest_10, pa_acts_11, ks_dead_12, ks_wet_13, ks_drawn_14, ks_strong_15, ks_at_16, ks_wounds_17)
  else
  some ((-1), el_refusal_7, no_wounds, pa_latest, pa_acts, ks_dead, ks_wet, ks_drawn, ks_strong, ks_at, ks_wounds))
noncomputable def f_X11_wound (el_refusal : Int32) (la_beasts : Int32) (la_kind : Nat → Int32) (no_dead : Int32) (no_wet : Int32) (no_drawn : Int32) (no_strong : Nat → Int32) (no_at : Nat → Int32) (no_wounds : Nat → Int32) (pa_latest : Int32) (pa_acts : Int32) (pa_kept : Nat → Option Nat) (ks_dead : Int32) (ks_wet : Int32) (ks_drawn : Int32) (ks_strong : Nat → Int32) (ks_at : Nat → Int32) (ks_wounds : Nat → Int32) (p1 : Int32) (p2 : Int32) : Option (Int32 × Int32 × (Nat → Int32) × Int32 × Int32 × Int32 × Int32 × Int32 × (Nat → Int32) × (Nat → Int32) × (Nat → Int32)) :=
  bd1 (f_X11_outside  p2 (1 : Int32) (30 : Int32)) fun r_1 =>
  (if r_1 = 0 then
  f_X11_wound_B18 la_beasts la_kind no_dead no_wet no_drawn no_strong no_at pa_kept p1 p2 p1 0 el_refusal no_wounds pa_latest pa_acts ks_dead ks_wet ks_drawn ks_strong ks_at ks_wounds
  else
  f_X11_wound_B18 la_beasts la_kind no_dead no_wet no_drawn no_strong no_at pa_kept p1 p2 p1 2 el_refusal no_wounds pa_latest pa_acts ks_dead ks_wet ks_drawn ks_strong ks_at ks_wounds)
noncomputable def f_X11_hammer (el_refusal : Int32) (la_beasts : Int32) (no_dead : Int32) (no_wet : Int32) (no_drawn : Int32) (no_strong : Nat → Int32) (no_at : Nat → Int32) (no_wounds : Nat → Int32) (pa_latest : Int32) (pa_acts : Int32) (pa_kept : Nat → Option Nat) (ks_dead : Int32) (ks_wet : Int32) (ks_drawn : Int32) (ks_strong : Nat → Int32) (ks_at : Nat → Int32) (ks_wounds : Nat → Int32) (p1 : Int32) : Option (Int32 × Int32 × Int32 × Int32 × Int32 × Int32 × Int32 × Int32 × (Nat → Int32) × (Nat → Int32) × (Nat → Int32)) :=
  bd1 (f_X11_livingTrouble la_beasts no_dead p1 (0 : Int32)) fun r_1 =>
  bd2 (f_X11_isRefused el_refusal r_1) fun r_3 el_refusal_4 =>
  (if r_3 = 0 then
  bd8 (f_X5_keep no_dead no_wet no_drawn no_strong no_at no_wounds pa_latest pa_acts pa_kept ks_dead ks_wet ks_drawn ks_strong ks_at ks_wounds) fun pa_latest_7 pa_acts_8 ks_dead_9 ks_wet_10 ks_drawn_11 ks_strong_12 ks_at_13 ks_wounds_14 =>
  some (1, el_refusal_4, no_dead ||| ((1 : Int32) <<< (p1 &&& 31)), pa_latest_7, pa_acts_8, ks_dead_9, ks_wet_10, ks_drawn_11, ks_strong_12, ks_at_13, ks_wounds_14)
  else
  some (0, el_refusal_4, no_dead, pa_latest, pa_acts, ks_dead, ks_wet, ks_drawn, ks_strong, ks_at, ks_wounds))
noncomputable def f_X11_teach_B18 (la_lanes : Int32) (la_who : Nat → Int32) (no_dead : Int32) (no_wet : Int32) (no_drawn : Int32) (no_at : Nat → Int32) (no_wounds : Nat → Int32) (pa_kept : Nat → Option Nat) (x1 : Int32) (x2 : Int32) (t2 : Int32) (t3 : Int32) (el_refusal : Int32) (no_strong : Nat → Int32) (pa_latest : Int32) (pa_acts : Int32) (ks_dead : Int32) (ks_wet : Int32) (ks_drawn : Int32) (ks_strong : Nat → Int32) (ks_at : Nat → Int32) (ks_wounds : Nat → Int32) : Option (Int32 × Int32 × (Nat → Int32) × Int32 × Int32 × Int32 × Int32 × Int32 × (Nat → Int32) × (Nat → Int32) × (Nat → Int32)) :=
  bd1 (f_X11_horseTrouble la_lanes la_who t2 t3) fun r_4 =>
  bd2 (f_X11_isRefused el_refusal r_4) fun r_6 el_refusal_7 =>
  (if r_6 = 0 then
  bd8 (f_X5_keep no_dead no_wet no_drawn no_strong no_at no_wounds pa_latest pa_acts pa_kept ks_dead ks_wet ks_drawn ks_strong ks_at ks_wounds) fun pa_latest_10 pa_acts_11 ks_dead_12 ks_wet_13 ks_drawn_14 ks_strong_15 ks_at_16 ks_wounds_17 =>
  gIn x1 6 <|
  gIn x1 6 <|
  gIn x1 6 <|
  some ((upd no_strong x1.toNatClampNeg (if ((no_strong x1.toNatClampNeg) + x2) < 30 then (no_strong x1.toNatClampNeg) + x2 else 30)) x1.toNatClampNeg, el_refusal_7, upd no_strong x1.toNatClampNeg (if ((no_strong x1.toNatClampNeg) + x2) < 30 then (no_strong x1.toNatClampNeg) + x2 else 30), pa_latest_10, pa_acts_11, ks_dead_12, ks_wet_13, ks_drawn_14, ks_strong_15, ks_at_16, ks_wounds_17)
  else
  some ((-1), el_refusal_7, no_strong, pa_latest, pa_acts, ks_dead, ks_wet, ks_drawn, ks_strong, ks_at, ks_wounds))
noncomputable def f_X11_teach (el_refusal : Int32) (la_lanes : Int32) (la_who : Nat → Int32) (no_dead : Int32) (no_wet : Int32) (no_drawn : Int32) (no_strong : Nat → Int32) (no_at : Nat → Int32) (no_wounds : Nat → Int32) (pa_latest : Int32) (pa_acts : Int32) (pa_kept : Nat → Option Nat) (ks_dead : Int32) (ks_wet : Int32) (ks_drawn : Int32) (ks_strong : Nat → Int32) (ks_at : Nat → Int32) (ks_wounds : Nat → Int32) (p1 : Int32) (p2 : Int32) : Option (Int32 × Int32 × (Nat → Int32) × Int32 × Int32 × Int32 × Int32 × Int32 × (Nat → Int32) × (Nat → Int32) × (Nat → Int32)) :=
  bd1 (f_X11_outside  p2 (1 : Int32) (30 : Int32)) fun r_1 =>
  (if r_1 = 0 then
  f_X11_teach_B18 la_lanes la_who no_dead no_wet no_drawn no_at no_wounds pa_kept p1 p2 p1 0 el_refusal no_strong pa_latest pa_acts ks_dead ks_wet ks_drawn ks_strong ks_at ks_wounds
  else
  f_X11_teach_B18 la_lanes la_who no_dead no_wet no_drawn no_at no_wounds pa_kept p1 p2 p1 2 el_refusal no_strong pa_latest pa_acts ks_dead ks_wet ks_drawn ks_strong ks_at ks_wounds)
noncomputable def f_X11_rain_B31 (la_lanes : Int32) (no_dead : Int32) (no_drawn : Int32) (no_strong : Nat → Int32) (no_at : Nat → Int32) (no_wounds : Nat → Int32) (pa_kept : Nat → Option Nat) (x1 : Int32) (t1 : Int32) (el_refusal : Int32) (no_wet : Int32) (pa_latest : Int32) (pa_acts : Int32) (ks_dead : Int32) (ks_wet : Int32) (ks_drawn : Int32) (ks_strong : Nat → Int32) (ks_at : Nat → Int32) (ks_wounds : Nat → Int32) : Option (Int32 × Int32 × Int32 × Int32 × Int32 × Int32 × Int32 × Int32 × (Nat → Int32) × (Nat → Int32) × (Nat → Int32)) :=
  bd2 (f_X11_isRefused el_refusal t1) fun r_4 el_refusal_5 =>
  (if r_4 = 0 then
  bd8 (f_X5_keep no_dead no_wet no_drawn no_strong no_at no_wounds pa_latest pa_acts pa_kept ks_dead ks_wet ks_drawn ks_strong ks_at ks_wounds) fun pa_latest_8 pa_acts_9 ks_dead_10 ks_wet_11 ks_drawn_12 ks_strong_13 ks_at_14 ks_wounds_15 =>
  some (1, el_refusal_5, x1, pa_latest_8, pa_acts_9, ks_dead_10, ks_wet_11, ks_drawn_12, ks_strong_13, ks_at_14, ks_wounds_15)
  else
  some (0, el_refusal_5, no_wet, pa_latest, pa_acts, ks_dead, ks_wet, ks_drawn, ks_strong, ks_at, ks_wounds))
noncomputable def f_X11_rain (el_refusal : Int32) (la_lanes : Int32) (no_dead : Int32) (no_wet : Int32) (no_drawn : Int32) (no_strong : Nat → Int32) (no_at : Nat → Int32) (no_wounds : Nat → Int32) (pa_latest : Int32) (pa_acts : Int32) (pa_kept : Nat → Option Nat) (ks_dead : Int32) (ks_wet : Int32) (ks_drawn : Int32) (ks_strong : Nat → Int32) (ks_at : Nat → Int32) (ks_wounds : Nat → Int32) (p1 : Int32) : Option (Int32 × Int32 × Int32 × Int32 × Int32 × Int32 × Int32 × Int32 × (Nat → Int32) × (Nat → Int32) × (Nat → Int32)) :=
  bd1 (f_X2_isTold la_lanes) fun r_1 =>
  (if r_1 = 0 then
  f_X11_rain_B31 la_lanes no_dead no_drawn no_strong no_at no_wounds pa_kept p1 1 el_refusal no_wet pa_latest pa_acts ks_dead ks_wet ks_drawn ks_strong ks_at ks_wounds
  else
  (if no_wet = p1 then
  f_X11_rain_B31 la_lanes no_dead no_drawn no_strong no_at no_wounds pa_kept p1 5 el_refusal no_wet pa_latest pa_acts ks_dead ks_wet ks_drawn ks_strong ks_at ks_wounds
  else
  f_X11_rain_B31 la_lanes no_dead no_drawn no_strong no_at no_wounds pa_kept p1 0 el_refusal no_wet pa_latest pa_acts ks_dead ks_wet ks_drawn ks_strong ks_at ks_wounds))
noncomputable def f_X11_seed_B31 (la_lanes : Int32) (x1 : Int32) (t1 : Int32) (el_refusal : Int32) (no_drawn : Int32) : Option (Int32 × Int32 × Int32) :=
  bd2 (f_X11_isRefused el_refusal t1) fun r_7 el_refusal_8 =>
  (if r_7 = 0 then
  some (1, el_refusal_8, x1)
  else
  some (0, el_refusal_8, no_drawn))
noncomputable def f_X11_seed (el_refusal : Int32) (la_lanes : Int32) (no_drawn : Int32) (p1 : Int32) : Option (Int32 × Int32 × Int32) :=
  bd1 (f_X2_isTold la_lanes) fun r_1 =>
  (if r_1 = 0 then
  f_X11_seed_B31 la_lanes p1 1 el_refusal no_drawn
  else
  bd1 (f_X11_outside  p1 (0 : Int32) (65536 : Int32)) fun r_4 =>
  (if r_4 = 0 then
  f_X11_seed_B31 la_lanes p1 0 el_refusal no_drawn
  else
  f_X11_seed_B31 la_lanes p1 2 el_refusal no_drawn))
noncomputable def f_X11_undo_B21 (pa_kept : Nat → Option Nat) (ks_dead : Int32) (ks_wet : Int32) (ks_drawn : Int32) (ks_strong : Nat → Int32) (ks_at : Nat → Int32) (ks_wounds : Nat → Int32) (t1 : Int32) (el_refusal : Int32) (no_dead : Int32) (no_wet : Int32) (no_drawn : Int32) (no_strong : Nat → Int32) (no_at : Nat → Int32) (no_wounds : Nat → Int32) (pa_latest : Int32) (pa_acts : Int32) : Option (Int32 × Int32 × Int32 × Int32 × Int32 × (Nat → Int32) × (Nat → Int32) × (Nat → Int32) × Int32 × Int32) :=
  bd2 (f_X11_isRefused el_refusal t1) fun r_12 el_refusal_13 =>
  (if r_12 = 0 then
  some (1, el_refusal_13, no_dead, no_wet, no_drawn, no_strong, no_at, no_wounds, pa_latest, pa_acts)
  else
  some (0, el_refusal_13, no_dead, no_wet, no_drawn, no_strong, no_at, no_wounds, pa_latest, pa_acts))
noncomputable def f_X11_undo (el_refusal : Int32) (no_dead : Int32) (no_wet : Int32) (no_drawn : Int32) (no_strong : Nat → Int32) (no_at : Nat → Int32) (no_wounds : Nat → Int32) (pa_latest : Int32) (pa_acts : Int32) (pa_kept : Nat → Option Nat) (ks_dead : Int32) (ks_wet : Int32) (ks_drawn : Int32) (ks_strong : Nat → Int32) (ks_at : Nat → Int32) (ks_wounds : Nat → Int32) : Option (Int32 × Int32 × Int32 × Int32 × Int32 × (Nat → Int32) × (Nat → Int32) × (Nat → Int32) × Int32 × Int32) :=
  bd9 (f_X5_takeBack no_dead no_wet no_drawn no_strong no_at no_wounds pa_latest pa_acts pa_kept ks_dead ks_wet ks_drawn ks_strong ks_at ks_wounds) fun r_1 no_dead_2 no_wet_3 no_drawn_4 no_strong_5 no_at_6 no_wounds_7 pa_latest_8 pa_acts_9 =>
  (if r_1 = 0 then
  f_X11_undo_B21 pa_kept ks_dead ks_wet ks_drawn ks_strong ks_at ks_wounds 6 el_refusal no_dead_2 no_wet_3 no_drawn_4 no_strong_5 no_at_6 no_wounds_7 pa_latest_8 pa_acts_9
  else
  f_X11_undo_B21 pa_kept ks_dead ks_wet ks_drawn ks_strong ks_at ks_wounds 0 el_refusal no_dead_2 no_wet_3 no_drawn_4 no_strong_5 no_at_6 no_wounds_7 pa_latest_8 pa_acts_9)
noncomputable def f_X11_mark_B31 (la_lanes : Int32) (no_dead : Int32) (no_wet : Int32) (no_drawn : Int32) (no_strong : Nat → Int32) (no_at : Nat → Int32) (no_wounds : Nat → Int32) (pa_marked : Nat → Option Nat) (t1 : Int32) (el_refusal : Int32) (pa_marks : Int32) (mk_dead : Int32) (mk_wet : Int32) (mk_drawn : Int32) (mk_strong : Nat → Int32) (mk_at : Nat → Int32) (mk_wounds : Nat → Int32) : Option (Int32 × Int32 × Int32 × Int32 × Int32 × Int32 × (Nat → Int32) × (Nat → Int32) × (Nat → Int32)) :=
  bd2 (f_X11_isRefused el_refusal t1) fun r_4 el_refusal_5 =>
  (if r_4 = 0 then
  bd8 (f_X5_addMark no_dead no_wet no_drawn no_strong no_at no_wounds pa_marks pa_marked mk_dead mk_wet mk_drawn mk_strong mk_at mk_wounds) fun r_8 pa_marks_9 mk_dead_10 mk_wet_11 mk_drawn_12 mk_strong_13 mk_at_14 mk_wounds_15 =>
  some (r_8, el_refusal_5, pa_marks_9, mk_dead_10, mk_wet_11, mk_drawn_12, mk_strong_13, mk_at_14, mk_wounds_15)
  else
  some ((-1), el_refusal_5, pa_marks, mk_dead, mk_wet, mk_drawn, mk_strong, mk_at, mk_wounds))
noncomputable def f_X11_mark (el_refusal : Int32) (la_lanes : Int32) (no_dead : Int32) (no_wet : Int32) (no_drawn : Int32) (no_strong : Nat → Int32) (no_at : Nat → Int32) (no_wounds : Nat → Int32) (pa_marks : Int32) (pa_marked : Nat → Option Nat) (mk_dead : Int32) (mk_wet : Int32) (mk_drawn : Int32) (mk_strong : Nat → Int32) (mk_at : Nat → Int32) (mk_wounds : Nat → Int32) : Option (Int32 × Int32 × Int32 × Int32 × Int32 × Int32 × (Nat → Int32) × (Nat → Int32) × (Nat → Int32)) :=
  bd1 (f_X2_isTold la_lanes) fun r_1 =>
  (if r_1 = 0 then
  f_X11_mark_B31 la_lanes no_dead no_wet no_drawn no_strong no_at no_wounds pa_marked 1 el_refusal pa_marks mk_dead mk_wet mk_drawn mk_strong mk_at mk_wounds
  else
  (if pa_marks < 3 then
  f_X11_mark_B31 la_lanes no_dead no_wet no_drawn no_strong no_at no_wounds pa_marked 0 el_refusal pa_marks mk_dead mk_wet mk_drawn mk_strong mk_at mk_wounds
  else
  f_X11_mark_B31 la_lanes no_dead no_wet no_drawn no_strong no_at no_wounds pa_marked 3 el_refusal pa_marks mk_dead mk_wet mk_drawn mk_strong mk_at mk_wounds))
noncomputable def f_X11_back_B21 (pa_marks : Int32) (pa_marked : Nat → Option Nat) (mk_dead : Int32) (mk_wet : Int32) (mk_drawn : Int32) (mk_strong : Nat → Int32) (mk_at : Nat → Int32) (mk_wounds : Nat → Int32) (t1 : Int32) (el_refusal : Int32) (no_dead : Int32) (no_wet : Int32) (no_drawn : Int32) (no_strong : Nat → Int32) (no_at : Nat → Int32) (no_wounds : Nat → Int32) (pa_acts : Int32) : Option (Int32 × Int32 × Int32 × Int32 × Int32 × (Nat → Int32) × (Nat → Int32) × (Nat → Int32) × Int32) :=
  bd2 (f_X11_isRefused el_refusal t1) fun r_11 el_refusal_12 =>
  (if r_11 = 0 then
  some (1, el_refusal_12, no_dead, no_wet, no_drawn, no_strong, no_at, no_wounds, pa_acts)
  else
  some (0, el_refusal_12, no_dead, no_wet, no_drawn, no_strong, no_at, no_wounds, pa_acts))
noncomputable def f_X11_back (el_refusal : Int32) (no_dead : Int32) (no_wet : Int32) (no_drawn : Int32) (no_strong : Nat → Int32) (no_at : Nat → Int32) (no_wounds : Nat → Int32) (pa_acts : Int32) (pa_marks : Int32) (pa_marked : Nat → Option Nat) (mk_dead : Int32) (mk_wet : Int32) (mk_drawn : Int32) (mk_strong : Nat → Int32) (mk_at : Nat → Int32) (mk_wounds : Nat → Int32) (p1 : Int32) : Option (Int32 × Int32 × Int32 × Int32 × Int32 × (Nat → Int32) × (Nat → Int32) × (Nat → Int32) × Int32) :=
  bd8 (f_X5_goBack no_dead no_wet no_drawn no_strong no_at no_wounds pa_acts pa_marks pa_marked mk_dead mk_wet mk_drawn mk_strong mk_at mk_wounds p1) fun r_1 no_dead_2 no_wet_3 no_drawn_4 no_strong_5 no_at_6 no_wounds_7 pa_acts_8 =>
  (if r_1 = 0 then
  f_X11_back_B21 pa_marks pa_marked mk_dead mk_wet mk_drawn mk_strong mk_at mk_wounds 1 el_refusal no_dead_2 no_wet_3 no_drawn_4 no_strong_5 no_at_6 no_wounds_7 pa_acts_8
  else
  f_X11_back_B21 pa_marks pa_marked mk_dead mk_wet mk_drawn mk_strong mk_at mk_wounds 0 el_refusal no_dead_2 no_wet_3 no_drawn_4 no_strong_5 no_at_6 no_wounds_7 pa_acts_8)
noncomputable def f_X11_march (el_refusal : Int32) (la_cities : Int32) (la_passBetween : Nat → Int32) (ma_cities : Int32) (ma_come : Int32) (ma_walked : Nat → Int32) (ma_way : Nat → Int32) (p1 : Int32) (p2 : Int32) (p3 : Int32) : Option (Int32 × Int32 × Int32 × Int32 × (Nat → Int32) × (Nat → Int32)) :=
  bd1 (f_X11_marchTrouble la_cities p1 p2 p3) fun r_1 =>
  bd2 (f_X11_isRefused el_refusal r_1) fun r_3 el_refusal_4 =>
  (if r_3 = 0 then
  bd5 (f_X3_mostThatCome la_cities la_passBetween ma_cities ma_come ma_walked ma_way p1 p2 p3) fun r_7 ma_cities_8 ma_come_9 ma_walked_10 ma_way_11 =>
  some (r_7, el_refusal_4, ma_cities_8, ma_come_9, ma_walked_10, ma_way_11)
  else
  some ((-1), el_refusal_4, ma_cities, ma_come, ma_walked, ma_way))
noncomputable def f_X11_marchAt_B51 (la_cities : Int32) (la_passBetween : Nat → Int32) (x4 : Int32) (t1 : Int32) (el_refusal : Int32) (ma_cities : Int32) (ma_come : Int32) (ma_walked : Nat → Int32) (ma_way : Nat → Int32) : Option (Int32 × Int32 × Int32 × Int32 × (Nat → Int32) × (Nat → Int32)) :=
  bd2 (f_X11_isRefused el_refusal t1) fun r_18 el_refusal_19 =>
  (if r_18 = 0 then
  bd1 (f_X3_cityOnWay ma_cities ma_way x4) fun r_22 =>
  some (r_22, el_refusal_19, ma_cities, ma_come, ma_walked, ma_way)
  else
  some ((-1), el_refusal_19, ma_cities, ma_come, ma_walked, ma_way))
noncomputable def f_X11_marchAt (el_refusal : Int32) (la_cities : Int32) (la_passBetween : Nat → Int32) (ma_cities : Int32) (ma_come : Int32) (ma_walked : Nat → Int32) (ma_way : Nat → Int32) (p1 : Int32) (p2 : Int32) (p3 : Int32) (p4 : Int32) : Option (Int32 × Int32 × Int32 × Int32 × (Nat → Int32) × (Nat → Int32)) :=
  bd1 (f_X11_marchTrouble la_cities p1 p2 p3) fun r_1 =>
  bd2 (f_X11_isRefused el_refusal r_1) fun r_3 el_refusal_4 =>
  (if r_3 = 0 then
  bd5 (f_X3_mostThatCome la_cities la_passBetween ma_cities ma_come ma_walked ma_way p1 p2 p3) fun r_7 ma_cities_8 ma_come_9 ma_walked_10 ma_way_11 =>
  bd1 (f_X3_citiesOnWay ma_cities_8) fun r_13 =>
  bd1 (f_X11_outside  p4 (0 : Int32) (r_13 - 1)) fun r_15 =>
  (if r_15 = 0 then
  f_X11_marchAt_B51 la_cities la_passBetween p4 0 el_refusal_4 ma_cities_8 ma_come_9 ma_walked_10 ma_way_11
  else
  f_X11_marchAt_B51 la_cities la_passBetween p4 1 el_refusal_4 ma_cities_8 ma_come_9 ma_walked_10 ma_way_11)
  else
  some ((-1), el_refusal_4, ma_cities, ma_come, ma_walked, ma_way))
noncomputable def f_X11_worstPass (el_refusal : Int32) (la_cities : Int32) (la_passBetween : Nat → Int32) (ma_cities : Int32) (ma_come : Int32) (ma_walked : Nat → Int32) (ma_way : Nat → Int32) (p1 : Int32) (p2 : Int32) (p3 : Int32) : Option (Int32 × Int32 × Int32 × Int32 × (Nat → Int32) × (Nat → Int32)) :=
  bd1 (f_X11_marchTrouble la_cities p1 p2 p3) fun r_1 =>
  bd2 (f_X11_isRefused el_refusal r_1) fun r_3 el_refusal_4 =>
  (if r_3 = 0 then
  bd5 (f_X3_dearestPass la_cities la_passBetween ma_cities ma_come ma_walked ma_way p1 p2 p3) fun r_7 ma_cities_8 ma_come_9 ma_walked_10 ma_way_11 =>
  some (r_7, el_refusal_4, ma_cities_8, ma_come_9, ma_walked_10, ma_way_11)
  else
  some ((-1), el_refusal_4, ma_cities, ma_come, ma_walked, ma_way))
noncomputable def f_X11_setOut (el_refusal : Int32) (la_cities : Int32) (la_passBetween : Nat → Int32) (ma_cities : Int32) (ma_come : Int32) (ma_walked : Nat → Int32) (ma_way : Nat → Int32) (p1 : Int32) (p2 : Int32) (p3 : Int32) : Option (Int32 × Int32 × Int32 × Int32 × (Nat → Int32) × (Nat → Int32)) :=
  bd1 (f_X11_marchTrouble la_cities p1 p2 p3) fun r_1 =>
  bd2 (f_X11_isRefused el_refusal r_1) fun r_3 el_refusal_4 =>
  (if r_3 = 0 then
  bd5 (f_X3_leastThatSetOut la_cities la_passBetween ma_cities ma_come ma_walked ma_way p1 p2 p3) fun r_7 ma_cities_8 ma_come_9 ma_walked_10 ma_way_11 =>
  some (r_7, el_refusal_4, ma_cities_8, ma_come_9, ma_walked_10, ma_way_11)
  else
  some ((-1), el_refusal_4, ma_cities, ma_come, ma_walked, ma_way))
noncomputable def f_X11_battles (el_refusal : Int32) (la_lanes : Int32) (la_deep : Int32) (la_beasts : Int32) (la_who : Nat → Int32) (la_kind : Nat → Int32) (la_mood : Nat → Int32) (no_dead : Int32) (no_wet : Int32) (no_strong : Nat → Int32) (no_at : Nat → Int32) (no_wounds : Nat → Int32) (fi_drawn : Int32) (fi_foeHarm : Int32) (fi_ownHarm : Int32) (fi_gotAcross : Int32) (fi_foeHarmInAll : Int32) (fi_ownHarmInAll : Int32) (fi_wins : Int32) (fi_left : Nat → Int32) (fi_crossings : Nat → Int32) (p1 : Int32) (p2 : Int32) (p3 : Int32) : Option (Int32 × Int32 × Int32 × Int32 × Int32 × Int32 × Int32 × Int32 × Int32 × (Nat → Int32) × (Nat → Int32)) :=
  bd1 (f_X2_isTold la_lanes) fun r_1 =>
  bd1 (f_X11_battlesTrouble  r_1 p1 p2) fun r_4 =>
  bd2 (f_X11_isRefused el_refusal r_4) fun r_6 el_refusal_7 =>
  (if r_6 = 0 then
  bd9 (f_X0_fightMany la_deep la_beasts la_who la_kind la_mood no_dead no_wet no_strong no_at no_wounds fi_drawn fi_foeHarm fi_ownHarm fi_gotAcross fi_foeHarmInAll fi_ownHarmInAll fi_wins fi_left fi_crossings p1 p2) fun fi_drawn_10 fi_foeHarm_11 fi_ownHarm_12 fi_gotAcross_13 fi_foeHarmInAll_14 fi_ownHarmInAll_15 fi_wins_16 fi_left_17 fi_crossings_18 =>
  (if p3 = 0 then
  some (fi_foeHarmInAll_14, el_refusal_7, fi_drawn_10, fi_foeHarm_11, fi_ownHarm_12, fi_gotAcross_13, fi_foeHarmInAll_14, fi_ownHarmInAll_15, fi_wins_16, fi_left_17, fi_crossings_18)
  else
  some (fi_ownHarmInAll_15, el_refusal_7, fi_drawn_10, fi_foeHarm_11, fi_ownHarm_12, fi_gotAcross_13, fi_foeHarmInAll_14, fi_ownHarmInAll_15, fi_wins_16, fi_left_17, fi_crossings_18))
  else
  some ((-1), el_refusal_7, fi_drawn, fi_foeHarm, fi_ownHarm, fi_gotAcross, fi_foeHarmInAll, fi_ownHarmInAll, fi_wins, fi_left, fi_crossings))
noncomputable def f_X11_won (el_refusal : Int32) (la_lanes : Int32) (la_deep : Int32) (la_beasts : Int32) (la_who : Nat → Int32) (la_kind : Nat → Int32) (la_mood : Nat → Int32) (no_dead : Int32) (no_wet : Int32) (no_strong : Nat → Int32) (no_at : Nat → Int32) (no_wounds : Nat → Int32) (fi_drawn : Int32) (fi_foeHarm : Int32) (fi_ownHarm : Int32) (fi_gotAcross : Int32) (fi_foeHarmInAll : Int32) (fi_ownHarmInAll : Int32) (fi_wins : Int32) (fi_left : Nat → Int32) (fi_crossings : Nat → Int32) (p1 : Int32) (p2 : Int32) : Option (Int32 × Int32 × Int32 × Int32 × Int32 × Int32 × Int32 × Int32 × Int32 × (Nat → Int32) × (Nat → Int32)) :=
  bd1 (f_X2_isTold la_lanes) fun r_1 =>
  bd1 (f_X11_battlesTrouble  r_1 p1 p2) fun r_4 =>
  bd2 (f_X11_isRefused el_refusal r_4) fun r_6 el_refusal_7 =>
  (if r_6 = 0 then
  bd9 (f_X0_fightMany la_deep la_beasts la_who la_kind la_mood no_dead no_wet no_strong no_at no_wounds fi_drawn fi_foeHarm fi_ownHarm fi_gotAcross fi_foeHarmInAll fi_ownHarmInAll fi_wins fi_left fi_crossings p1 p2) fun fi_drawn_10 fi_foeHarm_11 fi_ownHarm_12 fi_gotAcross_13 fi_foeHarmInAll_14 fi_ownHarmInAll_15 fi_wins_16 fi_left_17 fi_crossings_18 =>
  some (fi_wins_16, el_refusal_7, fi_drawn_10, fi_foeHarm_11, fi_ownHarm_12, fi_gotAcross_13, fi_foeHarmInAll_14, fi_ownHarmInAll_15, fi_wins_16, fi_left_17, fi_crossings_18)
  else
  some ((-1), el_refusal_7, fi_drawn, fi_foeHarm, fi_ownHarm, fi_gotAcross, fi_foeHarmInAll, fi_ownHarmInAll, fi_wins, fi_left, fi_crossings))
noncomputable def f_X11_acrossIn (el_refusal : Int32) (la_deep : Int32) (la_beasts : Int32) (la_who : Nat → Int32) (la_kind : Nat → Int32) (la_mood : Nat → Int32) (no_dead : Int32) (no_wet : Int32) (no_strong : Nat → Int32) (no_at : Nat → Int32) (no_wounds : Nat → Int32) (fi_drawn : Int32) (fi_foeHarm : Int32) (fi_ownHarm : Int32) (fi_gotAcross : Int32) (fi_foeHarmInAll : Int32) (fi_ownHarmInAll : Int32) (fi_wins : Int32) (fi_left : Nat → Int32) (fi_crossings : Nat → Int32) (p1 : Int32) (p2 : Int32) (p3 : Int32) : Option (Int32 × Int32 × Int32 × Int32 × Int32 × Int32 × Int32 × Int32 × Int32 × (Nat → Int32) × (Nat → Int32)) :=
  bd1 (f_X2_hasBeast la_beasts p1) fun r_1 =>
  bd1 (f_X11_battlesTrouble  r_1 p2 p3) fun r_4 =>
  bd2 (f_X11_isRefused el_refusal r_4) fun r_6 el_refusal_7 =>
  (if r_6 = 0 then
  bd9 (f_X0_fightMany la_deep la_beasts la_who la_kind la_mood no_dead no_wet no_strong no_at no_wounds fi_drawn fi_foeHarm fi_ownHarm fi_gotAcross fi_foeHarmInAll fi_ownHarmInAll fi_wins fi_left fi_crossings p2 p3) fun fi_drawn_10 fi_foeHarm_11 fi_ownHarm_12 fi_gotAcross_13 fi_foeHarmInAll_14 fi_ownHarmInAll_15 fi_wins_16 fi_left_17 fi_crossings_18 =>
  gIn p1 5 <|
  some (fi_crossings_18 p1.toNatClampNeg, el_refusal_7, fi_drawn_10, fi_foeHarm_11, fi_ownHarm_12, fi_gotAcross_13, fi_foeHarmInAll_14, fi_ownHarmInAll_15, fi_wins_16, fi_left_17, fi_crossings_18)
  else
  some ((-1), el_refusal_7, fi_drawn, fi_foeHarm, fi_ownHarm, fi_gotAcross, fi_foeHarmInAll, fi_ownHarmInAll, fi_wins, fi_left, fi_crossings))
noncomputable def f_X11_battle (el_refusal : Int32) (la_lanes : Int32) (la_deep : Int32) (la_beasts : Int32) (la_who : Nat → Int32) (la_kind : Nat → Int32) (la_mood : Nat → Int32) (no_dead : Int32) (no_wet : Int32) (no_drawn : Int32) (no_strong : Nat → Int32) (no_at : Nat → Int32) (no_wounds : Nat → Int32) (pa_latest : Int32) (pa_acts : Int32) (pa_kept : Nat → Option Nat) (ks_dead : Int32) (ks_wet : Int32) (ks_drawn : Int32) (ks_strong : Nat → Int32) (ks_at : Nat → Int32) (ks_wounds : Nat → Int32) (fi_drawn : Int32) (fi_foeHarm : Int32) (fi_ownHarm : Int32) (fi_gotAcross : Int32) (fi_left : Nat → Int32) : Option (Int32 × Int32 × Int32 × (Nat → Int32) × Int32 × Int32 × Int32 × Int32 × Int32 × (Nat → Int32) × (Nat → Int32) × (Nat → Int32) × Int32 × Int32 × Int32 × Int32 × (Nat → Int32)) :=
  bd1 (f_X11_warTrouble la_lanes) fun r_1 =>
  bd2 (f_X11_isRefused el_refusal r_1) fun r_3 el_refusal_4 =>
  (if r_3 = 0 then
  bd8 (f_X5_keep no_dead no_wet no_drawn no_strong no_at no_wounds pa_latest pa_acts pa_kept ks_dead ks_wet ks_drawn ks_strong ks_at ks_wounds) fun pa_latest_7 pa_acts_8 ks_dead_9 ks_wet_10 ks_drawn_11 ks_strong_12 ks_at_13 ks_wounds_14 =>
  bd5 (f_X0_fightFrom la_deep la_beasts la_who la_kind la_mood no_dead no_wet no_strong no_at no_wounds fi_drawn fi_foeHarm fi_ownHarm fi_gotAcross fi_left no_drawn) fun fi_drawn_16 fi_foeHarm_17 fi_ownHarm_18 fi_gotAcross_19 fi_left_20 =>
  bd2 (f_X0_leaveBehind no_drawn no_strong fi_drawn_16 fi_left_20) fun no_drawn_22 no_strong_23 =>
  some (fi_foeHarm_17, el_refusal_4, no_drawn_22, no_strong_23, pa_latest_7, pa_acts_8, ks_dead_9, ks_wet_10, ks_drawn_11, ks_strong_12, ks_at_13, ks_wounds_14, fi_drawn_16, fi_foeHarm_17, fi_ownHarm_18, fi_gotAcross_19, fi_left_20)
  else
  some ((-1), el_refusal_4, no_drawn, no_strong, pa_latest, pa_acts, ks_dead, ks_wet, ks_drawn, ks_strong, ks_at, ks_wounds, fi_drawn, fi_foeHarm, fi_ownHarm, fi_gotAcross, fi_left))
noncomputable def f_X11_war_B67 (tape : Nat → Int32) (t1 : Int32) (el_bytes : Int32) (el_refusal : Int32) (el_faultTold : Int32) (el_faultPlace : Int32) (rd_names : Int32) (rd_faultFound : Int32) (rd_faultAt : Int32) (rd_nameStarts : Nat → Int32) (rd_nameEnds : Nat → Int32) (rd_nameNumbers : Nat → Int32) (rd_nameIsBeast : Nat → Int32) (tk_limit : Int32) (tk_start : Int32) (tk_end : Int32) (tk_sort : Int32) (dr_lanes : Int32) (dr_deep : Int32) (dr_lanesTold : Int32) (dr_beasts : Int32) (dr_cities : Int32) (dr_passes : Int32) (dr_turned : Int32) (dr_who : Nat → Int32) (dr_firstStrong : Nat → Int32) (dr_kind : Nat → Int32) (dr_firstLane : Nat → Int32) (dr_mood : Nat → Int32) (dr_price : Nat → Int32) (dr_passBetween : Nat → Int32) (la_lanes : Int32) (la_deep : Int32) (la_lanesTold : Int32) (la_beasts : Int32) (la_cities : Int32) (la_passes : Int32) (la_turned : Int32) (la_who : Nat → Int32) (la_firstStrong : Nat → Int32) (la_kind : Nat → Int32) (la_firstLane : Nat → Int32) (la_mood : Nat → Int32) (la_price : Nat → Int32) (la_passBetween : Nat → Int32) (no_dead : Int32) (no_wet : Int32) (no_drawn : Int32) (no_strong : Nat → Int32) (no_at : Nat → Int32) (no_wounds : Nat → Int32) (pa_acts : Int32) (pa_marks : Int32) : Option (Int32 × Int32 × Int32 × Int32 × Int32 × Int32 × Int32 × Int32 × (Nat → Int32) × (Nat → Int32) × (Nat → Int32) × (Nat → Int32) × Int32 × Int32 × Int32 × Int32 × Int32 × Int32 × Int32 × Int32 × Int32 × Int32 × Int32 × (Nat → Int32) × (Nat → Int32) × (Nat → Int32) × (Nat → Int32) × (Nat → Int32) × (Nat → Int32) × (Nat → Int32) × Int32 × Int32 × Int32 × Int32 × Int32 × Int32 × Int32 × (Nat → Int32) × (Nat → Int32) × (Nat → Int32) × (Nat → Int32) × (Nat → Int32) × (Nat → Int32) × (Nat → Int32) × Int32 × Int32 × Int32 × (Nat → Int32) × (Nat → Int32) × (Nat → Int32) × Int32 × Int32) :=
  bd2 (f_X11_isRefused el_refusal t1) fun r_35 el_refusal_36 =>
  (if r_35 = 0 then
  bd14 (f_X2_copyOf la_lanes la_deep la_lanesTold la_beasts la_cities la_passes la_turned la_who la_firstStrong la_kind la_firstLane la_mood la_price la_passBetween dr_lanes dr_deep dr_lanesTold dr_beasts dr_cities dr_passes dr_turned dr_who dr_firstStrong dr_kind dr_firstLane dr_mood dr_price dr_passBetween) fun la_lanes_39 la_deep_40 la_lanesTold_41 la_beasts_42 la_cities_43 la_passes_44 la_turned_45 la_who_46 la_firstStrong_47 la_kind_48 la_firstLane_49 la_mood_50 la_price_51 la_passBetween_52 =>
  bd6 (f_X8_begin la_firstStrong_47 la_firstLane_49 no_dead no_wet no_drawn no_strong no_at no_wounds) fun no_dead_54 no_wet_55 no_drawn_56 no_strong_57 no_at_58 no_wounds_59 =>
  bd2 (f_X5_forget pa_acts pa_marks) fun pa_acts_61 pa_marks_62 =>
  some (la_beasts_42, el_bytes, el_refusal_36, el_faultTold, el_faultPlace, rd_names, rd_faultFound, rd_faultAt, rd_nameStarts, rd_nameEnds, rd_nameNumbers, rd_nameIsBeast, tk_limit, tk_start, tk_end, tk_sort, dr_lanes, dr_deep, dr_lanesTold, dr_beasts, dr_cities, dr_passes, dr_turned, dr_who, dr_firstStrong, dr_kind, dr_firstLane, dr_mood, dr_price, dr_passBetween, la_lanes_39, la_deep_40, la_lanesTold_41, la_beasts_42, la_cities_43, la_passes_44, la_turned_45, la_who_46, la_firstStrong_47, la_kind_48, la_firstLane_49, la_mood_50, la_price_51, la_passBetween_52, no_dead_54, no_wet_55, no_drawn_56, no_strong_57, no_at_58, no_wounds_59, pa_acts_61, pa_marks_62)
  else
  some ((-1), el_bytes, el_refusal_36, el_faultTold, el_faultPlace, rd_names, rd_faultFound, rd_faultAt, rd_nameStarts, rd_nameEnds, rd_nameNumbers, rd_nameIsBeast, tk_limit, tk_start, tk_end, tk_sort, dr_lanes, dr_deep, dr_lanesTold, dr_beasts, dr_cities, dr_passes, dr_turned, dr_who, dr_firstStrong, dr_kind, dr_firstLane, dr_mood, dr_price, dr_passBetween, la_lanes, la_deep, la_lanesTold, la_beasts, la_cities, la_passes, la_turned, la_who, la_firstStrong, la_kind, la_firstLane, la_mood, la_price, la_passBetween, no_dead, no_wet, no_drawn, no_strong, no_at, no_wounds, pa_acts, pa_marks))
noncomputable def f_X11_war_B18 (tape : Nat → Int32) (x1 : Int32) (t1 : Int32) (el_bytes : Int32) (el_refusal : Int32) (el_faultTold : Int32) (el_faultPlace : Int32) (rd_names : Int32) (rd_faultFound : Int32) (rd_faultAt : Int32) (rd_nameStarts : Nat → Int32) (rd_nameEnds : Nat → Int32) (rd_nameNumbers : Nat → Int32) (rd_nameIsBeast : Nat → Int32) (tk_limit : Int32) (tk_start : Int32) (tk_end : Int32) (tk_sort : Int32) (dr_lanes : Int32) (dr_deep : Int32) (dr_lanesTold : Int32) (dr_beasts : Int32) (dr_cities : Int32) (dr_passes : Int32) (dr_turned : Int32) (dr_who : Nat → Int32) (dr_firstStrong : Nat → Int32) (dr_kind : Nat → Int32) (dr_firstLane : Nat → Int32) (dr_mood : Nat → Int32) (dr_price : Nat → Int32) (dr_passBetween : Nat → Int32) (la_lanes : Int32) (la_deep : Int32) (la_lanesTold : Int32) (la_beasts : Int32) (la_cities : Int32) (la_passes : Int32) (la_turned : Int32) (la_who : Nat → Int32) (la_firstStrong : Nat → Int32) (la_kind : Nat → Int32) (la_firstLane : Nat → Int32) (la_mood : Nat → Int32) (la_price : Nat → Int32) (la_passBetween : Nat → Int32) (no_dead : Int32) (no_wet : Int32) (no_drawn : Int32) (no_strong : Nat → Int32) (no_at : Nat → Int32) (no_wounds : Nat → Int32) (pa_acts : Int32) (pa_marks : Int32) : Option (Int32 × Int32 × Int32 × Int32 × Int32 × Int32 × Int32 × Int32 × (Nat → Int32) × (Nat → Int32) × (Nat → Int32) × (Nat → Int32) × Int32 × Int32 × Int32 × Int32 × Int32 × Int32 × Int32 × Int32 × Int32 × Int32 × Int32 × (Nat → Int32) × (Nat → Int32) × (Nat → Int32) × (Nat → Int32) × (Nat → Int32) × (Nat → Int32) × (Nat → Int32) × Int32 × Int32 × Int32 × Int32 × Int32 × Int32 × Int32 × (Nat → Int32) × (Nat → Int32) × (Nat → Int32) × (Nat → Int32) × (Nat → Int32) × (Nat → Int32) × (Nat → Int32) × Int32 × Int32 × Int32 × (Nat → Int32) × (Nat → Int32) × (Nat → Int32) × Int32 × Int32) :=
  bd2 (f_X11_isRefused el_refusal t1) fun r_4 el_refusal_5 =>
  (if r_4 = 0 then
  bd26 (f_X7_readText tape rd_names rd_faultFound rd_faultAt rd_nameStarts rd_nameEnds rd_nameNumbers rd_nameIsBeast tk_limit tk_start tk_end tk_sort dr_lanes dr_deep dr_lanesTold dr_beasts dr_cities dr_passes dr_turned dr_who dr_firstStrong dr_kind dr_firstLane dr_mood dr_price dr_passBetween x1) fun r_8 rd_names_9 rd_faultFound_10 rd_faultAt_11 rd_nameStarts_12 rd_nameEnds_13 rd_nameNumbers_14 rd_nameIsBeast_15 tk_limit_16 tk_start_17 tk_end_18 tk_sort_19 dr_lanes_20 dr_deep_21 dr_lanesTold_22 dr_beasts_23 dr_cities_24 dr_passes_25 dr_turned_26 dr_who_27 dr_firstStrong_28 dr_kind_29 dr_firstLane_30 dr_mood_31 dr_price_32 dr_passBetween_33 =>
  (if r_8 = 0 then
  f_X11_war_B67 tape 0 0 el_refusal_5 r_8 rd_faultAt_11 rd_names_9 rd_faultFound_10 rd_faultAt_11 rd_nameStarts_12 rd_nameEnds_13 rd_nameNumbers_14 rd_nameIsBeast_15 tk_limit_16 tk_start_17 tk_end_18 tk_sort_19 dr_lanes_20 dr_deep_21 dr_lanesTold_22 dr_beasts_23 dr_cities_24 dr_passes_25 dr_turned_26 dr_who_27 dr_firstStrong_28 dr_kind_29 dr_firstLane_30 dr_mood_31 dr_price_32 dr_passBetween_33 la_lanes la_deep la_lanesTold la_beasts la_cities la_passes la_turned la_who la_firstStrong la_kind la_firstLane la_mood la_price la_passBetween no_dead no_wet no_drawn no_strong no_at no_wounds pa_acts pa_marks
  else
  f_X11_war_B67 tape 4 0 el_refusal_5 r_8 rd_faultAt_11 rd_names_9 rd_faultFound_10 rd_faultAt_11 rd_nameStarts_12 rd_nameEnds_13 rd_nameNumbers_14 rd_nameIsBeast_15 tk_limit_16 tk_start_17 tk_end_18 tk_sort_19 dr_lanes_20 dr_deep_21 dr_lanesTold_22 dr_beasts_23 dr_cities_24 dr_passes_25 dr_turned_26 dr_who_27 dr_firstStrong_28 dr_kind_29 dr_firstLane_30 dr_mood_31 dr_price_32 dr_passBetween_33 la_lanes la_deep la_lanesTold la_beasts la_cities la_passes la_turned la_who la_firstStrong la_kind la_firstLane la_mood la_price la_passBetween no_dead no_wet no_drawn no_strong no_at no_wounds pa_acts pa_marks)
  else
  some ((-1), el_bytes, el_refusal_5, el_faultTold, el_faultPlace, rd_names, rd_faultFound, rd_faultAt, rd_nameStarts, rd_nameEnds, rd_nameNumbers, rd_nameIsBeast, tk_limit, tk_start, tk_end, tk_sort, dr_lanes, dr_deep, dr_lanesTold, dr_beasts, dr_cities, dr_passes, dr_turned, dr_who, dr_firstStrong, dr_kind, dr_firstLane, dr_mood, dr_price, dr_passBetween, la_lanes, la_deep, la_lanesTold, la_beasts, la_cities, la_passes, la_turned, la_who, la_firstStrong, la_kind, la_firstLane, la_mood, la_price, la_passBetween, no_dead, no_wet, no_drawn, no_strong, no_at, no_wounds, pa_acts, pa_marks))
noncomputable def f_X11_war (el_bytes : Int32) (el_refusal : Int32) (el_faultTold : Int32) (el_faultPlace : Int32) (tape : Nat → Int32) (rd_names : Int32) (rd_faultFound : Int32) (rd_faultAt : Int32) (rd_nameStarts : Nat → Int32) (rd_nameEnds : Nat → Int32) (rd_nameNumbers : Nat → Int32) (rd_nameIsBeast : Nat → Int32) (tk_limit : Int32) (tk_start : Int32) (tk_end : Int32) (tk_sort : Int32) (dr_lanes : Int32) (dr_deep : Int32) (dr_lanesTold : Int32) (dr_beasts : Int32) (dr_cities : Int32) (dr_passes : Int32) (dr_turned : Int32) (dr_who : Nat → Int32) (dr_firstStrong : Nat → Int32) (dr_kind : Nat → Int32) (dr_firstLane : Nat → Int32) (dr_mood : Nat → Int32) (dr_price : Nat → Int32) (dr_passBetween : Nat → Int32) (la_lanes : Int32) (la_deep : Int32) (la_lanesTold : Int32) (la_beasts : Int32) (la_cities : Int32) (la_passes : Int32) (la_turned : Int32) (la_who : Nat → Int32) (la_firstStrong : Nat → Int32) (la_kind : Nat → Int32) (la_firstLane : Nat → Int32) (la_mood : Nat → Int32) (la_price : Nat → Int32) (la_passBetween : Nat → Int32) (no_dead : Int32) (no_wet : Int32) (no_drawn : Int32) (no_strong : Nat → Int32) (no_at : Nat → Int32) (no_wounds : Nat → Int32) (pa_acts : Int32) (pa_marks : Int32) (p1 : Int32) : Option (Int32 × Int32 × Int32 × Int32 × Int32 × Int32 × Int32 × Int32 × (Nat → Int32) × (Nat → Int32) × (Nat → Int32) × (Nat → Int32) × Int32 × Int32 × Int32 × Int32 × Int32 × Int32 × Int32 × Int32 × Int32 × Int32 × Int32 × (Nat → Int32) × (Nat → Int32) × (Nat → Int32) × (Nat → Int32) × (Nat → Int32) × (Nat → Int32) × (Nat → Int32) × Int32 × Int32 × Int32 × Int32 × Int32 × Int32 × Int32 × (Nat → Int32) × (Nat → Int32) × (Nat → Int32) × (Nat → Int32) × (Nat → Int32) × (Nat → Int32) × (Nat → Int32) × Int32 × Int32 × Int32 × (Nat → Int32) × (Nat → Int32) × (Nat → Int32) × Int32 × Int32) :=
  bd1 (f_X11_outside  p1 (0 : Int32) el_bytes) fun r_1 =>
  (if r_1 = 0 then
  f_X11_war_B18 tape p1 0 el_bytes el_refusal el_faultTold el_faultPlace rd_names rd_faultFound rd_faultAt rd_nameStarts rd_nameEnds rd_nameNumbers rd_nameIsBeast tk_limit tk_start tk_end tk_sort dr_lanes dr_deep dr_lanesTold dr_beasts dr_cities dr_passes dr_turned dr_who dr_firstStrong dr_kind dr_firstLane dr_mood dr_price dr_passBetween la_lanes la_deep la_lanesTold la_beasts la_cities la_passes la_turned la_who la_firstStrong la_kind la_firstLane la_mood la_price la_passBetween no_dead no_wet no_drawn no_strong no_at no_wounds pa_acts pa_marks
  else
  f_X11_war_B18 tape p1 2 el_bytes el_refusal el_faultTold el_faultPlace rd_names rd_faultFound rd_faultAt rd_nameStarts rd_nameEnds rd_nameNumbers rd_nameIsBeast tk_limit tk_start tk_end tk_sort dr_lanes dr_deep dr_lanesTold dr_beasts dr_cities dr_passes dr_turned dr_who dr_firstStrong dr_kind dr_firstLane dr_mood dr_price dr_passBetween la_lanes la_deep la_lanesTold la_beasts la_cities la_passes la_turned la_who la_firstStrong la_kind la_firstLane la_mood la_price la_passBetween no_dead no_wet no_drawn no_strong no_at no_wounds pa_acts pa_marks)
noncomputable def f_X12_find_b2 (re_names : Int32) (re_name : Nat → Int64) (x1 : Int64) (k2 : Int32 → Option (Int32)) (x3 : Int32) : Option (Int32) :=
  (if re_names ≤ x3 then
  some ((-1))
  else
  gIn x3 11 <|
  (if (re_name x3.toNatClampNeg) = x1 then
  some (x3)
  else
  k2 (x3 + 1)))
noncomputable def f_X12_find_L2 (re_names : Int32) (re_name : Nat → Int64) (x1 : Int64) : Nat → Int32 → Option (Int32)
  | 0 => fun _ => none
  | n + 1 => f_X12_find_b2 re_names re_name x1 (f_X12_find_L2 re_names re_name x1 n)
noncomputable def f_X12_find (re_names : Int32) (re_name : Nat → Int64) (p1 : Int64) : Option (Int32) :=
  f_X12_find_L2 re_names re_name p1 fuelN 0
noncomputable def f_X13_thrown (mo_thrown : Int32) : Option (Int32) :=
  some (mo_thrown)
noncomputable def f_X13_refused (mo_trouble : Int32) (mo_where : Int32) (p1 : Int32) : Option (Int32 × Int32 × Int32) :=
  some ((-1), p1, (-1))
noncomputable def f_X13_lost (mo_trouble : Int32) (mo_where : Int32) (p1 : Int32) : Option (Int64 × Int32 × Int32) :=
  bd3 (f_X13_refused mo_trouble mo_where p1) fun r_1 mo_trouble_2 mo_where_3 =>
  some ((-9223372036854775808), mo_trouble_2, mo_where_3)
noncomputable def f_X13_denied (mo_trouble : Int32) (mo_where : Int32) (p1 : Int32) : Option (Int32 × Int32 × Int32) :=
  bd3 (f_X13_refused mo_trouble mo_where p1) fun r_1 mo_trouble_2 mo_where_3 =>
  some (0, mo_trouble_2, mo_where_3)
noncomputable def f_X13_good (mo_trouble : Int32) (mo_where : Int32) (p1 : Int32) : Option (Int32 × Int32 × Int32) :=
  some (p1, 0, (-1))
noncomputable def f_X13_granted (mo_trouble : Int32) (mo_where : Int32) : Option (Int32 × Int32 × Int32) :=
  bd3 (f_X13_good mo_trouble mo_where (0 : Int32)) fun r_1 mo_trouble_2 mo_where_3 =>
  some (1, mo_trouble_2, mo_where_3)
noncomputable def f_X13_in (p0 : Int32) (p1 : Int32) (p2 : Int32) : Option (Int32) :=
  (if p0 < p1 then
  some (0)
  else
  (if p2 < p0 then
  some (0)
  else
  some (1)))
noncomputable def f_X13_bit (p0 : Int32) (p1 : Int32) : Option (Int32) :=
  (if ((p0 >>> (p1 &&& 31)) &&& 1) = 1 then
  some (1)
  else
  some (0))
noncomputable def f_X13_bits_b4 (k4 : Int32 → Int32 → Option (Int32)) (x1 : Int32) (x2 : Int32) : Option (Int32) :=
  (if x2 = 0 then
  some (x1)
  else
  k4 (x1 + 1) (x2 &&& (x2 - 1)))
noncomputable def f_X13_bits_L4 : Nat → Int32 → Int32 → Option (Int32)
  | 0 => fun _ _ => none
  | n + 1 => f_X13_bits_b4 (f_X13_bits_L4 n)
noncomputable def f_X13_bits (p0 : Int32) : Option (Int32) :=
  f_X13_bits_L4 fuelN 0 p0
noncomputable def f_X13_common_b17 (k17 : Int64 → Int64 → Option (Int64)) (x4 : Int64) (x6 : Int64) : Option (Int64) :=
  (if x6 = 0 then
  some (x4)
  else
  if x6 = 0 then none else
  k17 x6 (x4 - x4 / x6 * x6))
noncomputable def f_X13_common_L17 : Nat → Int64 → Int64 → Option (Int64)
  | 0 => fun _ _ => none
  | n + 1 => f_X13_common_b17 (f_X13_common_L17 n)
noncomputable def f_X13_common_B12 (x2 : Int64) (t0 : Int64) : Option (Int64) :=
  f_X13_common_L17 fuelN t0 x2
noncomputable def f_X13_common (p0 : Int64) (p2 : Int64) : Option (Int64) :=
  (if 0 ≤ p0 then
  f_X13_common_B12 p2 p0
  else
  f_X13_common_B12 p2 (-p0))
noncomputable def f_X13_fraction_B16 (x1 : Int64) (x3 : Int64) (t0 : Int64) (mo_trouble : Int32) (mo_where : Int32) : Option (Int64 × Int32 × Int32) :=
  bd1 (f_X13_common  x1 x3) fun r_5 =>
  if r_5 = 0 then none else
  some (t0 / r_5, mo_trouble, mo_where)
noncomputable def f_X13_fraction (mo_trouble : Int32) (mo_where : Int32) (p1 : Int64) (p3 : Int64) (p5 : Int32) : Option (Int64 × Int32 × Int32) :=
  bd3 (f_X13_good mo_trouble mo_where (0 : Int32)) fun r_1 mo_trouble_2 mo_where_3 =>
  (if p5 = 0 then
  f_X13_fraction_B16 p1 p3 p1 mo_trouble_2 mo_where_3
  else
  f_X13_fraction_B16 p1 p3 p3 mo_trouble_2 mo_where_3)
noncomputable def f_X13_power_b5 (x0 : Int64) (x2 : Int32) (k5 : Int64 → Int32 → Option (Int64)) (x3 : Int64) (x5 : Int32) : Option (Int64) :=
  (if x2 ≤ x5 then
  some (x3)
  else
  k5 (x3 * x0) (x5 + 1))
noncomputable def f_X13_power_L5 (x0 : Int64) (x2 : Int32) : Nat → Int64 → Int32 → Option (Int64)
  | 0 => fun _ _ => none
  | n + 1 => f_X13_power_b5 x0 x2 (f_X13_power_L5 x0 x2 n)
noncomputable def f_X13_power (p0 : Int64) (p2 : Int32) : Option (Int64) :=
  f_X13_power_L5 p0 p2 fuelN 1 0
noncomputable def f_X13_byteAt (mo_size : Int32) (mo_tape : Nat → Int32) (p1 : Int32) : Option (Int32) :=
  (if mo_size ≤ p1 then
  some ((-1))
  else
  gIn p1 900 <|
  some ((mo_tape p1.toNatClampNeg) &&& 255))
noncomputable def f_X13_isLetter (p0 : Int32) : Option (Int32) :=
  (if p0 < 97 then
  some (0)
  else
  (if 122 < p0 then
  some (0)
  else
  some (1)))
noncomputable def f_X13_isDigit (p0 : Int32) : Option (Int32) :=
  (if p0 < 48 then
  some (0)
  else
  (if 57 < p0 then
  some (0)
  else
  some (1)))
noncomputable def f_X13_packed_b4 (p0 : Nat) (k4 : Int64 → Int32 → Option (Int64)) (x1 : Int64) (x3 : Int32) : Option (Int64) :=
  (if (nI (lenT.getD p0 0)) ≤ x3 then
  some (x1)
  else
  gIn x3 (lenT.getD p0 0) <|
  k4 ((32 * x1) + ((((sch p0 x3.toNatClampNeg) - 97) + 1).toInt64)) (x3 + 1))
noncomputable def f_X13_packed_L4 (p0 : Nat) : Nat → Int64 → Int32 → Option (Int64)
  | 0 => fun _ _ => none
  | n + 1 => f_X13_packed_b4 p0 (f_X13_packed_L4 p0 n)
noncomputable def f_X13_packed (p0 : Nat) : Option (Int64) :=
  f_X13_packed_L4 p0 fuelN 0 0
noncomputable def f_X13_goesOn_B231 (mo_size : Int32) (mo_tape : Nat → Int32) (x2 : Int32) (mo_spot : Int32) (mo_sort : Int32) (mo_place : Int32) (mo_number : Int32) (mo_word : Int64) : Option (Int32 × Int32 × Int32 × Int32 × Int64) :=
  (if 3 < x2 then
  some (mo_spot, mo_sort, mo_place, mo_number, mo_word)
  else
  some (mo_spot, 3, mo_place, mo_number, mo_word))
noncomputable def f_X13_goesOn_B215 (k173 : Int32 → Int32 → Int32 → Option (Int32 × Int32 × Int32 × Int32 × Int64)) (mo_size : Int32) (mo_tape : Nat → Int32) (x2 : Int32) (mo_spot : Int32) (mo_sort : Int32) (mo_place : Int32) (mo_number : Int32) (mo_word : Int64) : Option (Int32 × Int32 × Int32 × Int32 × Int64) :=
  k173 (x2 + 1) (mo_spot + 1) mo_number
noncomputable def f_X13_goesOn_b173 (mo_size : Int32) (mo_tape : Nat → Int32) (mo_sort : Int32) (mo_place : Int32) (mo_word : Int64) (k173 : Int32 → Int32 → Int32 → Option (Int32 × Int32 × Int32 × Int32 × Int64)) (x2 : Int32) (mo_spot : Int32) (mo_number : Int32) : Option (Int32 × Int32 × Int32 × Int32 × Int64) :=
  bd1 (f_X13_byteAt mo_size mo_tape mo_spot) fun r_11 =>
  bd1 (f_X13_isDigit  r_11) fun r_13 =>
  (if r_13 = 0 then
  f_X13_goesOn_B231 mo_size mo_tape x2 mo_spot mo_sort mo_place mo_number mo_word
  else
  (if 3 ≤ x2 then
  f_X13_goesOn_B215 k173 mo_size mo_tape x2 mo_spot mo_sort mo_place mo_number mo_word
  else
  bd1 (f_X13_byteAt mo_size mo_tape mo_spot) fun r_16 =>
  f_X13_goesOn_B215 k173 mo_size mo_tape x2 mo_spot mo_sort mo_place (((10 * mo_number) + r_16) - 48) mo_word))
noncomputable def f_X13_goesOn_L173 (mo_size : Int32) (mo_tape : Nat → Int32) (mo_sort : Int32) (mo_place : Int32) (mo_word : Int64) : Nat → Int32 → Int32 → Int32 → Option (Int32 × Int32 × Int32 × Int32 × Int64)
  | 0 => fun _ _ _ => none
  | n + 1 => f_X13_goesOn_b173 mo_size mo_tape mo_sort mo_place mo_word (f_X13_goesOn_L173 mo_size mo_tape mo_sort mo_place mo_word n)
noncomputable def f_X13_goesOn_B147 (mo_size : Int32) (mo_tape : Nat → Int32) (x2 : Int32) (mo_spot : Int32) (mo_sort : Int32) (mo_place : Int32) (mo_number : Int32) (mo_word : Int64) : Option (Int32 × Int32 × Int32 × Int32 × Int64) :=
  (if 8 < x2 then
  some (mo_spot, mo_sort, mo_place, mo_number, mo_word)
  else
  some (mo_spot, 2, mo_place, mo_number, mo_word))
noncomputable def f_X13_goesOn_B131 (k84 : Int32 → Int32 → Int64 → Option (Int32 × Int32 × Int32 × Int32 × Int64)) (mo_size : Int32) (mo_tape : Nat → Int32) (x2 : Int32) (mo_spot : Int32) (mo_sort : Int32) (mo_place : Int32) (mo_number : Int32) (mo_word : Int64) : Option (Int32 × Int32 × Int32 × Int32 × Int64) :=
  k84 (x2 + 1) (mo_spot + 1) mo_word
noncomputable def f_X13_goesOn_b84 (mo_size : Int32) (mo_tape : Nat → Int32) (mo_sort : Int32) (mo_place : Int32) (mo_number : Int32) (k84 : Int32 → Int32 → Int64 → Option (Int32 × Int32 × Int32 × Int32 × Int64)) (x2 : Int32) (mo_spot : Int32) (mo_word : Int64) : Option (Int32 × Int32 × Int32 × Int32 × Int64) :=
  bd1 (f_X13_byteAt mo_size mo_tape mo_spot) fun r_18 =>
  bd1 (f_X13_isLetter  r_18) fun r_20 =>
  (if r_20 = 0 then
  f_X13_goesOn_B147 mo_size mo_tape x2 mo_spot mo_sort mo_place mo_number mo_word
  else
  (if 8 ≤ x2 then
  f_X13_goesOn_B131 k84 mo_size mo_tape x2 mo_spot mo_sort mo_place mo_number mo_word
  else
  bd1 (f_X13_byteAt mo_size mo_tape mo_spot) fun r_23 =>
  f_X13_goesOn_B131 k84 mo_size mo_tape x2 mo_spot mo_sort mo_place mo_number ((32 * mo_word) + (((r_23 - 97) + 1).toInt64))))
noncomputable def f_X13_goesOn_L84 (mo_size : Int32) (mo_tape : Nat → Int32) (mo_sort : Int32) (mo_place : Int32) (mo_number : Int32) : Nat → Int32 → Int32 → Int64 → Option (Int32 × Int32 × Int32 × Int32 × Int64)
  | 0 => fun _ _ _ => none
  | n + 1 => f_X13_goesOn_b84 mo_size mo_tape mo_sort mo_place mo_number (f_X13_goesOn_L84 mo_size mo_tape mo_sort mo_place mo_number n)
noncomputable def f_X13_goesOn_B35 (mo_size : Int32) (mo_tape : Nat → Int32) (mo_spot : Int32) (mo_sort : Int32) (mo_place : Int32) (mo_number : Int32) (mo_word : Int64) : Option (Int32 × Int32 × Int32 × Int32 × Int64) :=
  bd1 (f_X13_byteAt mo_size mo_tape mo_spot) fun r_3 =>
  (if r_3 = (-1) then
  some (mo_spot, 1, mo_spot, mo_number, mo_word)
  else
  bd1 (f_X13_isLetter  r_3) fun r_5 =>
  (if r_5 = 0 then
  bd1 (f_X13_isDigit  r_3) fun r_8 =>
  (if r_8 = 0 then
  (if r_3 = 59 then
  some (mo_spot + 1, 4, mo_spot, mo_number, mo_word)
  else
  some (mo_spot, 0, mo_spot, mo_number, mo_word))
  else
  f_X13_goesOn_L173 mo_size mo_tape 0 mo_spot mo_word fuelN 0 mo_spot 0)
  else
  f_X13_goesOn_L84 mo_size mo_tape 0 mo_spot mo_number fuelN 0 mo_spot 0))
noncomputable def f_X13_goesOn_b9 (mo_size : Int32) (mo_tape : Nat → Int32) (mo_sort : Int32) (mo_place : Int32) (mo_number : Int32) (mo_word : Int64) (k9 : Int32 → Option (Int32 × Int32 × Int32 × Int32 × Int64)) (mo_spot : Int32) : Option (Int32 × Int32 × Int32 × Int32 × Int64) :=
  bd1 (f_X13_byteAt mo_size mo_tape mo_spot) fun r_1 =>
  (if r_1 = 32 then
  k9 (mo_spot + 1)
  else
  f_X13_goesOn_B35 mo_size mo_tape mo_spot mo_sort mo_place mo_number mo_word)
noncomputable def f_X13_goesOn_L9 (mo_size : Int32) (mo_tape : Nat → Int32) (mo_sort : Int32) (mo_place : Int32) (mo_number : Int32) (mo_word : Int64) : Nat → Int32 → Option (Int32 × Int32 × Int32 × Int32 × Int64)
  | 0 => fun _ => none
  | n + 1 => f_X13_goesOn_b9 mo_size mo_tape mo_sort mo_place mo_number mo_word (f_X13_goesOn_L9 mo_size mo_tape mo_sort mo_place mo_number mo_word n)
noncomputable def f_X13_goesOn (mo_size : Int32) (mo_spot : Int32) (mo_sort : Int32) (mo_place : Int32) (mo_number : Int32) (mo_word : Int64) (mo_tape : Nat → Int32) : Option (Int32 × Int32 × Int32 × Int32 × Int64) :=
  (if mo_sort = 5 then
  some (mo_spot, mo_sort, mo_place, mo_number, mo_word)
  else
  f_X13_goesOn_L9 mo_size mo_tape mo_sort mo_place mo_number mo_word fuelN mo_spot)
noncomputable def f_X13_flaw (mo_sort : Int32) (mo_place : Int32) (mo_fault : Int32) (mo_wrongAt : Int32) (p1 : Int32) : Option (Int32 × Int32 × Int32) :=
  (if mo_sort = 5 then
  some (mo_sort, mo_fault, mo_wrongAt)
  else
  some (5, p1, mo_place))
noncomputable def f_X13_isWord (mo_sort : Int32) (mo_word : Int64) (p1 : Nat) : Option (Int32) :=
  (if mo_sort = 2 then
  bd1 (f_X13_packed  p1) fun r_1 =>
  (if mo_word = r_1 then
  some (1)
  else
  some (0))
  else
  some (0))
noncomputable def f_X13_eatsSemicolon_B13 (mo_size : Int32) (mo_tape : Nat → Int32) (t0 : Int32) (mo_spot : Int32) (mo_sort : Int32) (mo_place : Int32) (mo_number : Int32) (mo_word : Int64) : Option (Int32 × Int32 × Int32 × Int32 × Int32 × Int64) :=
  (if t0 = 0 then
  some (t0, mo_spot, mo_sort, mo_place, mo_number, mo_word)
  else
  bd5 (f_X13_goesOn mo_size mo_spot mo_sort mo_place mo_number mo_word mo_tape) fun mo_spot_1 mo_sort_2 mo_place_3 mo_number_4 mo_word_5 =>
  some (t0, mo_spot_1, mo_sort_2, mo_place_3, mo_number_4, mo_word_5))
noncomputable def f_X13_eatsSemicolon (mo_size : Int32) (mo_spot : Int32) (mo_sort : Int32) (mo_place : Int32) (mo_number : Int32) (mo_word : Int64) (mo_tape : Nat → Int32) : Option (Int32 × Int32 × Int32 × Int32 × Int32 × Int64) :=
  (if mo_sort = 4 then
  f_X13_eatsSemicolon_B13 mo_size mo_tape 1 mo_spot mo_sort mo_place mo_number mo_word
  else
  f_X13_eatsSemicolon_B13 mo_size mo_tape 0 mo_spot mo_sort mo_place mo_number mo_word)
noncomputable def f_X13_needs_B13 (p1 : Nat) (mo_size : Int32) (mo_tape : Nat → Int32) (mo_spot : Int32) (mo_sort : Int32) (mo_place : Int32) (mo_number : Int32) (mo_fault : Int32) (mo_wrongAt : Int32) (mo_word : Int64) : Option (Int32 × Int32 × Int32 × Int32 × Int32 × Int32 × Int64) :=
  bd5 (f_X13_goesOn mo_size mo_spot mo_sort mo_place mo_number mo_word mo_tape) fun mo_spot_4 mo_sort_5 mo_place_6 mo_number_7 mo_word_8 =>
  some (mo_spot_4, mo_sort_5, mo_place_6, mo_number_7, mo_fault, mo_wrongAt, mo_word_8)
noncomputable def f_X13_needs (mo_size : Int32) (mo_spot : Int32) (mo_sort : Int32) (mo_place : Int32) (mo_number : Int32) (mo_fault : Int32) (mo_wrongAt : Int32) (mo_word : Int64) (mo_tape : Nat → Int32) (p1 : Nat) : Option (Int32 × Int32 × Int32 × Int32 × Int32 × Int32 × Int64) :=
  bd1 (f_X13_isWord mo_sort mo_word p1) fun r_1 =>
  (if r_1 = 0 then
  bd3 (f_X13_flaw mo_sort mo_place mo_fault mo_wrongAt (1 : Int32)) fun mo_sort_10 mo_fault_11 mo_wrongAt_12 =>
  f_X13_needs_B13 p1 mo_size mo_tape mo_spot mo_sort_10 mo_place mo_number mo_fault_11 mo_wrongAt_12 mo_word
  else
  f_X13_needs_B13 p1 mo_size mo_tape mo_spot mo_sort mo_place mo_number mo_fault mo_wrongAt mo_word)
noncomputable def f_X13_bounded_B33 (mo_place : Int32) (mo_number : Int32) (x1 : Int32) (mo_sort : Int32) (mo_fault : Int32) (mo_wrongAt : Int32) : Option (Int32 × Int32 × Int32 × Int32) :=
  (if mo_sort = 5 then
  some (x1, mo_sort, mo_fault, mo_wrongAt)
  else
  some (mo_number, mo_sort, mo_fault, mo_wrongAt))
noncomputable def f_X13_bounded (mo_sort : Int32) (mo_place : Int32) (mo_number : Int32) (mo_fault : Int32) (mo_wrongAt : Int32) (p1 : Int32) (p2 : Int32) : Option (Int32 × Int32 × Int32 × Int32) :=
  (if mo_sort = 3 then
  bd1 (f_X13_in  mo_number p1 p2) fun r_1 =>
  (if r_1 = 0 then
  bd3 (f_X13_flaw mo_sort mo_place mo_fault mo_wrongAt (4 : Int32)) fun mo_sort_4 mo_fault_5 mo_wrongAt_6 =>
  f_X13_bounded_B33 mo_place mo_number p1 mo_sort_4 mo_fault_5 mo_wrongAt_6
  else
  f_X13_bounded_B33 mo_place mo_number p1 mo_sort mo_fault mo_wrongAt)
  else
  bd3 (f_X13_flaw mo_sort mo_place mo_fault mo_wrongAt (1 : Int32)) fun mo_sort_8 mo_fault_9 mo_wrongAt_10 =>
  f_X13_bounded_B33 mo_place mo_number p1 mo_sort_8 mo_fault_9 mo_wrongAt_10)
noncomputable def f_X13_readWhole (mo_size : Int32) (mo_spot : Int32) (mo_sort : Int32) (mo_place : Int32) (mo_number : Int32) (mo_fault : Int32) (mo_wrongAt : Int32) (mo_word : Int64) (mo_tape : Nat → Int32) (p1 : Int32) (p2 : Int32) : Option (Int32 × Int32 × Int32 × Int32 × Int32 × Int32 × Int32 × Int64) :=
  bd4 (f_X13_bounded mo_sort mo_place mo_number mo_fault mo_wrongAt p1 p2) fun r_1 mo_sort_2 mo_fault_3 mo_wrongAt_4 =>
  bd5 (f_X13_goesOn mo_size mo_spot mo_sort_2 mo_place mo_number mo_word mo_tape) fun mo_spot_6 mo_sort_7 mo_place_8 mo_number_9 mo_word_10 =>
  some (r_1, mo_spot_6, mo_sort_7, mo_place_8, mo_number_9, mo_fault_3, mo_wrongAt_4, mo_word_10)
noncomputable def f_X13_readPart (mo_size : Int32) (mo_spot : Int32) (mo_sort : Int32) (mo_place : Int32) (mo_number : Int32) (mo_fault : Int32) (mo_wrongAt : Int32) (mo_word : Int64) (mo_tape : Nat → Int32) (p1 : Nat) (p2 : Int32) (p3 : Int32) : Option (Int32 × Int32 × Int32 × Int32 × Int32 × Int32 × Int32 × Int64) :=
  bd7 (f_X13_needs mo_size mo_spot mo_sort mo_place mo_number mo_fault mo_wrongAt mo_word mo_tape p1) fun mo_spot_1 mo_sort_2 mo_place_3 mo_number_4 mo_fault_5 mo_wrongAt_6 mo_word_7 =>
  bd8 (f_X13_readWhole mo_size mo_spot_1 mo_sort_2 mo_place_3 mo_number_4 mo_fault_5 mo_wrongAt_6 mo_word_7 mo_tape p2 p3) fun r_9 mo_spot_10 mo_sort_11 mo_place_12 mo_number_13 mo_fault_14 mo_wrongAt_15 mo_word_16 =>
  some (r_9, mo_spot_10, mo_sort_11, mo_place_12, mo_number_13, mo_fault_14, mo_wrongAt_15, mo_word_16)
noncomputable def f_X13_isName (mo_sort : Int32) (mo_word : Int64) : Option (Int32) :=
  (if mo_sort = 2 then
  bd1 (f_X13_isWord mo_sort mo_word 1) fun r_1 =>
  (if r_1 = 0 then
  bd1 (f_X13_isWord mo_sort mo_word 2) fun r_4 =>
  (if r_4 = 0 then
  bd1 (f_X13_isWord mo_sort mo_word 3) fun r_7 =>
  (if r_7 = 0 then
  bd1 (f_X13_isWord mo_sort mo_word 4) fun r_10 =>
  (if r_10 = 0 then
  bd1 (f_X13_isWord mo_sort mo_word 5) fun r_13 =>
  (if r_13 = 0 then
  bd1 (f_X13_isWord mo_sort mo_word 6) fun r_16 =>
  (if r_16 = 0 then
  some (1)
  else
  some (0))
  else
  some (0))
  else
  some (0))
  else
  some (0))
  else
  some (0))
  else
  some (0))
  else
  some (0))
noncomputable def f_X13_lineBegins_B26 (mo_size : Int32) (mo_tape : Nat → Int32) (re_lanes : Int32) (mo_spot : Int32) (mo_sort : Int32) (mo_place : Int32) (mo_number : Int32) (mo_fault : Int32) (mo_wrongAt : Int32) (mo_word : Int64) : Option (Int32 × Int32 × Int32 × Int32 × Int32 × Int32 × Int64) :=
  bd5 (f_X13_goesOn mo_size mo_spot mo_sort mo_place mo_number mo_word mo_tape) fun mo_spot_1 mo_sort_2 mo_place_3 mo_number_4 mo_word_5 =>
  some (mo_spot_1, mo_sort_2, mo_place_3, mo_number_4, mo_fault, mo_wrongAt, mo_word_5)
noncomputable def f_X13_lineBegins_B10 (mo_size : Int32) (mo_tape : Nat → Int32) (re_lanes : Int32) (mo_spot : Int32) (mo_sort : Int32) (mo_place : Int32) (mo_number : Int32) (mo_fault : Int32) (mo_wrongAt : Int32) (mo_word : Int64) : Option (Int32 × Int32 × Int32 × Int32 × Int32 × Int32 × Int64) :=
  (if re_lanes = 0 then
  bd3 (f_X13_flaw mo_sort mo_place mo_fault mo_wrongAt (6 : Int32)) fun mo_sort_7 mo_fault_8 mo_wrongAt_9 =>
  f_X13_lineBegins_B26 mo_size mo_tape re_lanes mo_spot mo_sort_7 mo_place mo_number mo_fault_8 mo_wrongAt_9 mo_word
  else
  f_X13_lineBegins_B26 mo_size mo_tape re_lanes mo_spot mo_sort mo_place mo_number mo_fault mo_wrongAt mo_word)
noncomputable def f_X13_lineBegins (mo_size : Int32) (mo_spot : Int32) (mo_sort : Int32) (mo_place : Int32) (mo_number : Int32) (mo_fault : Int32) (mo_wrongAt : Int32) (mo_word : Int64) (mo_tape : Nat → Int32) (re_lanes : Int32) (p1 : Int32) (p2 : Int32) : Option (Int32 × Int32 × Int32 × Int32 × Int32 × Int32 × Int64) :=
  (if p1 = p2 then
  bd3 (f_X13_flaw mo_sort mo_place mo_fault mo_wrongAt (5 : Int32)) fun mo_sort_11 mo_fault_12 mo_wrongAt_13 =>
  f_X13_lineBegins_B10 mo_size mo_tape re_lanes mo_spot mo_sort_11 mo_place mo_number mo_fault_12 mo_wrongAt_13 mo_word
  else
  f_X13_lineBegins_B10 mo_size mo_tape re_lanes mo_spot mo_sort mo_place mo_number mo_fault mo_wrongAt mo_word)
noncomputable def f_X13_readFresh_B32 (mo_size : Int32) (mo_tape : Nat → Int32) (re_names : Int32) (re_name : Nat → Int64) (mo_spot : Int32) (mo_sort : Int32) (mo_place : Int32) (mo_number : Int32) (mo_fault : Int32) (mo_wrongAt : Int32) (mo_word : Int64) : Option (Int64 × Int32 × Int32 × Int32 × Int32 × Int32 × Int32 × Int64) :=
  bd5 (f_X13_goesOn mo_size mo_spot mo_sort mo_place mo_number mo_word mo_tape) fun mo_spot_6 mo_sort_7 mo_place_8 mo_number_9 mo_word_10 =>
  some (mo_word, mo_spot_6, mo_sort_7, mo_place_8, mo_number_9, mo_fault, mo_wrongAt, mo_word_10)
noncomputable def f_X13_readFresh_B12 (mo_size : Int32) (mo_tape : Nat → Int32) (re_names : Int32) (re_name : Nat → Int64) (mo_spot : Int32) (mo_sort : Int32) (mo_place : Int32) (mo_number : Int32) (mo_fault : Int32) (mo_wrongAt : Int32) (mo_word : Int64) : Option (Int64 × Int32 × Int32 × Int32 × Int32 × Int32 × Int32 × Int64) :=
  bd1 (f_X12_find re_names re_name mo_word) fun r_4 =>
  (if r_4 = (-1) then
  f_X13_readFresh_B32 mo_size mo_tape re_names re_name mo_spot mo_sort mo_place mo_number mo_fault mo_wrongAt mo_word
  else
  bd3 (f_X13_flaw mo_sort mo_place mo_fault mo_wrongAt (3 : Int32)) fun mo_sort_12 mo_fault_13 mo_wrongAt_14 =>
  f_X13_readFresh_B32 mo_size mo_tape re_names re_name mo_spot mo_sort_12 mo_place mo_number mo_fault_13 mo_wrongAt_14 mo_word)
noncomputable def f_X13_readFresh (mo_size : Int32) (mo_spot : Int32) (mo_sort : Int32) (mo_place : Int32) (mo_number : Int32) (mo_fault : Int32) (mo_wrongAt : Int32) (mo_word : Int64) (mo_tape : Nat → Int32) (re_names : Int32) (re_name : Nat → Int64) : Option (Int64 × Int32 × Int32 × Int32 × Int32 × Int32 × Int32 × Int64) :=
  bd1 (f_X13_isName mo_sort mo_word) fun r_1 =>
  (if r_1 = 0 then
  bd3 (f_X13_flaw mo_sort mo_place mo_fault mo_wrongAt (1 : Int32)) fun mo_sort_16 mo_fault_17 mo_wrongAt_18 =>
  f_X13_readFresh_B12 mo_size mo_tape re_names re_name mo_spot mo_sort_16 mo_place mo_number mo_fault_17 mo_wrongAt_18 mo_word
  else
  f_X13_readFresh_B12 mo_size mo_tape re_names re_name mo_spot mo_sort mo_place mo_number mo_fault mo_wrongAt mo_word)
noncomputable def f_X13_names (re_names : Int32) (re_name : Nat → Int64) (re_nameSort : Nat → Int32) (re_numberOf : Nat → Int32) (p1 : Int64) (p3 : Int32) (p4 : Int32) : Option (Int32 × (Nat → Int64) × (Nat → Int32) × (Nat → Int32)) :=
  gIn re_names 11 <|
  gIn re_names 11 <|
  gIn re_names 11 <|
  some (re_names + 1, vp_updL re_name re_names.toNatClampNeg p1, upd re_nameSort re_names.toNatClampNeg p3, upd re_numberOf re_names.toNatClampNeg p4)
noncomputable def f_X13_knownOne_B47 (mo_place : Int32) (mo_word : Int64) (re_names : Int32) (re_name : Nat → Int64) (re_nameSort : Nat → Int32) (re_numberOf : Nat → Int32) (x2 : Int32) (mo_sort : Int32) (mo_fault : Int32) (mo_wrongAt : Int32) : Option (Int32 × Int32 × Int32 × Int32) :=
  (if mo_sort = 5 then
  some (0, mo_sort, mo_fault, mo_wrongAt)
  else
  gIn x2 11 <|
  some (re_numberOf x2.toNatClampNeg, mo_sort, mo_fault, mo_wrongAt))
noncomputable def f_X13_knownOne_B42 (mo_place : Int32) (mo_word : Int64) (re_names : Int32) (re_name : Nat → Int64) (re_nameSort : Nat → Int32) (re_numberOf : Nat → Int32) (x2 : Int32) (mo_sort : Int32) (mo_fault : Int32) (mo_wrongAt : Int32) : Option (Int32 × Int32 × Int32 × Int32) :=
  bd3 (f_X13_flaw mo_sort mo_place mo_fault mo_wrongAt (2 : Int32)) fun mo_sort_6 mo_fault_7 mo_wrongAt_8 =>
  f_X13_knownOne_B47 mo_place mo_word re_names re_name re_nameSort re_numberOf x2 mo_sort_6 mo_fault_7 mo_wrongAt_8
noncomputable def f_X13_knownOne_B12 (mo_place : Int32) (mo_word : Int64) (re_names : Int32) (re_name : Nat → Int64) (re_nameSort : Nat → Int32) (re_numberOf : Nat → Int32) (x1 : Int32) (mo_sort : Int32) (mo_fault : Int32) (mo_wrongAt : Int32) : Option (Int32 × Int32 × Int32 × Int32) :=
  bd1 (f_X12_find re_names re_name mo_word) fun r_4 =>
  (if r_4 = (-1) then
  f_X13_knownOne_B42 mo_place mo_word re_names re_name re_nameSort re_numberOf r_4 mo_sort mo_fault mo_wrongAt
  else
  gIn r_4 11 <|
  (if (re_nameSort r_4.toNatClampNeg) = x1 then
  f_X13_knownOne_B47 mo_place mo_word re_names re_name re_nameSort re_numberOf r_4 mo_sort mo_fault mo_wrongAt
  else
  f_X13_knownOne_B42 mo_place mo_word re_names re_name re_nameSort re_numberOf r_4 mo_sort mo_fault mo_wrongAt))
noncomputable def f_X13_knownOne (mo_sort : Int32) (mo_place : Int32) (mo_fault : Int32) (mo_wrongAt : Int32) (mo_word : Int64) (re_names : Int32) (re_name : Nat → Int64) (re_nameSort : Nat → Int32) (re_numberOf : Nat → Int32) (p1 : Int32) : Option (Int32 × Int32 × Int32 × Int32) :=
  bd1 (f_X13_isName mo_sort mo_word) fun r_1 =>
  (if r_1 = 0 then
  bd3 (f_X13_flaw mo_sort mo_place mo_fault mo_wrongAt (1 : Int32)) fun mo_sort_12 mo_fault_13 mo_wrongAt_14 =>
  f_X13_knownOne_B12 mo_place mo_word re_names re_name re_nameSort re_numberOf p1 mo_sort_12 mo_fault_13 mo_wrongAt_14
  else
  f_X13_knownOne_B12 mo_place mo_word re_names re_name re_nameSort re_numberOf p1 mo_sort mo_fault mo_wrongAt)
noncomputable def f_X13_readField_B15 (mo_size : Int32) (mo_tape : Nat → Int32) (mo_spot : Int32) (mo_sort : Int32) (mo_place : Int32) (mo_number : Int32) (mo_fault : Int32) (mo_wrongAt : Int32) (mo_word : Int64) (re_lanes : Int32) (re_deep : Int32) : Option (Int32 × Int32 × Int32 × Int32 × Int32 × Int32 × Int64 × Int32 × Int32) :=
  bd5 (f_X13_goesOn mo_size mo_spot mo_sort mo_place mo_number mo_word mo_tape) fun mo_spot_1 mo_sort_2 mo_place_3 mo_number_4 mo_word_5 =>
  bd8 (f_X13_readPart mo_size mo_spot_1 mo_sort_2 mo_place_3 mo_number_4 mo_fault mo_wrongAt mo_word_5 mo_tape 7 (2 : Int32) (6 : Int32)) fun r_7 mo_spot_8 mo_sort_9 mo_place_10 mo_number_11 mo_fault_12 mo_wrongAt_13 mo_word_14 =>
  bd8 (f_X13_readPart mo_size mo_spot_8 mo_sort_9 mo_place_10 mo_number_11 mo_fault_12 mo_wrongAt_13 mo_word_14 mo_tape 8 (1 : Int32) (5 : Int32)) fun r_16 mo_spot_17 mo_sort_18 mo_place_19 mo_number_20 mo_fault_21 mo_wrongAt_22 mo_word_23 =>
  (if mo_sort_18 = 5 then
  some (mo_spot_17, mo_sort_18, mo_place_19, mo_number_20, mo_fault_21, mo_wrongAt_22, mo_word_23, re_lanes, re_deep)
  else
  some (mo_spot_17, mo_sort_18, mo_place_19, mo_number_20, mo_fault_21, mo_wrongAt_22, mo_word_23, r_7, r_16))
noncomputable def f_X13_readField (mo_size : Int32) (mo_spot : Int32) (mo_sort : Int32) (mo_place : Int32) (mo_number : Int32) (mo_fault : Int32) (mo_wrongAt : Int32) (mo_word : Int64) (mo_tape : Nat → Int32) (re_lanes : Int32) (re_deep : Int32) : Option (Int32 × Int32 × Int32 × Int32 × Int32 × Int32 × Int64 × Int32 × Int32) :=
  (if re_lanes ≤ 0 then
  f_X13_readField_B15 mo_size mo_tape mo_spot mo_sort mo_place mo_number mo_fault mo_wrongAt mo_word re_lanes re_deep
  else
  bd3 (f_X13_flaw mo_sort mo_place mo_fault mo_wrongAt (3 : Int32)) fun mo_sort_25 mo_fault_26 mo_wrongAt_27 =>
  f_X13_readField_B15 mo_size mo_tape mo_spot mo_sort_25 mo_place mo_number mo_fault_26 mo_wrongAt_27 mo_word re_lanes re_deep)
noncomputable def f_X13_readLane_B148 (mo_size : Int32) (mo_tape : Nat → Int32) (re_lanes : Int32) (x1 : Int32) (x2 : Int32) (t0 : Int32) (mo_spot : Int32) (mo_sort : Int32) (mo_place : Int32) (mo_number : Int32) (mo_fault : Int32) (mo_wrongAt : Int32) (mo_laneTold : Int32) (mo_word : Int64) (re_told : Int32) (re_who : Nat → Int32) (re_strong : Nat → Int32) : Option (Int32 × Int32 × Int32 × Int32 × Int32 × Int32 × Int32 × Int64 × Int32 × (Nat → Int32) × (Nat → Int32)) :=
  (if mo_sort = 5 then
  some (mo_spot, mo_sort, mo_place, mo_number, mo_fault, mo_wrongAt, mo_laneTold, mo_word, re_told, re_who, re_strong)
  else
  gIn x1 6 <|
  gIn x1 6 <|
  some (mo_spot, mo_sort, mo_place, mo_number, mo_fault, mo_wrongAt, mo_laneTold ||| ((1 : Int32) <<< (x1 &&& 31)), mo_word, re_told + 1, upd re_who x1.toNatClampNeg x2, upd re_strong x1.toNatClampNeg t0))
noncomputable def f_X13_readLane_B113 (mo_size : Int32) (mo_tape : Nat → Int32) (re_lanes : Int32) (x1 : Int32) (x2 : Int32) (mo_spot : Int32) (mo_sort : Int32) (mo_place : Int32) (mo_number : Int32) (mo_fault : Int32) (mo_wrongAt : Int32) (mo_laneTold : Int32) (mo_word : Int64) (re_told : Int32) (re_who : Nat → Int32) (re_strong : Nat → Int32) : Option (Int32 × Int32 × Int32 × Int32 × Int32 × Int32 × Int32 × Int64 × Int32 × (Nat → Int32) × (Nat → Int32)) :=
  bd5 (f_X13_goesOn mo_size mo_spot mo_sort mo_place mo_number mo_word mo_tape) fun mo_spot_32 mo_sort_33 mo_place_34 mo_number_35 mo_word_36 =>
  (if x2 = 2 then
  bd8 (f_X13_readWhole mo_size mo_spot_32 mo_sort_33 mo_place_34 mo_number_35 mo_fault mo_wrongAt mo_word_36 mo_tape (0 : Int32) (60 : Int32)) fun r_49 mo_spot_50 mo_sort_51 mo_place_52 mo_number_53 mo_fault_54 mo_wrongAt_55 mo_word_56 =>
  f_X13_readLane_B148 mo_size mo_tape re_lanes x1 x2 r_49 mo_spot_50 mo_sort_51 mo_place_52 mo_number_53 mo_fault_54 mo_wrongAt_55 mo_laneTold mo_word_56 re_told re_who re_strong
  else
  (if x2 = 3 then
  bd8 (f_X13_readWhole mo_size mo_spot_32 mo_sort_33 mo_place_34 mo_number_35 mo_fault mo_wrongAt mo_word_36 mo_tape (0 : Int32) (30 : Int32)) fun r_40 mo_spot_41 mo_sort_42 mo_place_43 mo_number_44 mo_fault_45 mo_wrongAt_46 mo_word_47 =>
  f_X13_readLane_B148 mo_size mo_tape re_lanes x1 x2 r_40 mo_spot_41 mo_sort_42 mo_place_43 mo_number_44 mo_fault_45 mo_wrongAt_46 mo_laneTold mo_word_47 re_told re_who re_strong
  else
  f_X13_readLane_B148 mo_size mo_tape re_lanes x1 x2 0 mo_spot_32 mo_sort_33 mo_place_34 mo_number_35 mo_fault mo_wrongAt mo_laneTold mo_word_36 re_told re_who re_strong))
noncomputable def f_X13_readLane_B102 (mo_size : Int32) (mo_tape : Nat → Int32) (re_lanes : Int32) (x1 : Int32) (t0 : Int32) (mo_spot : Int32) (mo_sort : Int32) (mo_place : Int32) (mo_number : Int32) (mo_fault : Int32) (mo_wrongAt : Int32) (mo_laneTold : Int32) (mo_word : Int64) (re_told : Int32) (re_who : Nat → Int32) (re_strong : Nat → Int32) : Option (Int32 × Int32 × Int32 × Int32 × Int32 × Int32 × Int32 × Int64 × Int32 × (Nat → Int32) × (Nat → Int32)) :=
  (if t0 = (-1) then
  bd3 (f_X13_flaw mo_sort mo_place mo_fault mo_wrongAt (1 : Int32)) fun mo_sort_58 mo_fault_59 mo_wrongAt_60 =>
  f_X13_readLane_B113 mo_size mo_tape re_lanes x1 t0 mo_spot mo_sort_58 mo_place mo_number mo_fault_59 mo_wrongAt_60 mo_laneTold mo_word re_told re_who re_strong
  else
  f_X13_readLane_B113 mo_size mo_tape re_lanes x1 t0 mo_spot mo_sort mo_place mo_number mo_fault mo_wrongAt mo_laneTold mo_word re_told re_who re_strong)
noncomputable def f_X13_readLane_B45 (mo_size : Int32) (mo_tape : Nat → Int32) (re_lanes : Int32) (x1 : Int32) (mo_spot : Int32) (mo_sort : Int32) (mo_place : Int32) (mo_number : Int32) (mo_fault : Int32) (mo_wrongAt : Int32) (mo_laneTold : Int32) (mo_word : Int64) (re_told : Int32) (re_who : Nat → Int32) (re_strong : Nat → Int32) : Option (Int32 × Int32 × Int32 × Int32 × Int32 × Int32 × Int32 × Int64 × Int32 × (Nat → Int32) × (Nat → Int32)) :=
  bd5 (f_X13_goesOn mo_size mo_spot mo_sort mo_place mo_number mo_word mo_tape) fun mo_spot_14 mo_sort_15 mo_place_16 mo_number_17 mo_word_18 =>
  bd1 (f_X13_isWord mo_sort_15 mo_word_18 9) fun r_20 =>
  (if r_20 = 0 then
  bd1 (f_X13_isWord mo_sort_15 mo_word_18 10) fun r_23 =>
  (if r_23 = 0 then
  bd1 (f_X13_isWord mo_sort_15 mo_word_18 11) fun r_26 =>
  (if r_26 = 0 then
  bd1 (f_X13_isWord mo_sort_15 mo_word_18 12) fun r_29 =>
  (if r_29 = 0 then
  f_X13_readLane_B102 mo_size mo_tape re_lanes x1 (-1) mo_spot_14 mo_sort_15 mo_place_16 mo_number_17 mo_fault mo_wrongAt mo_laneTold mo_word_18 re_told re_who re_strong
  else
  f_X13_readLane_B102 mo_size mo_tape re_lanes x1 3 mo_spot_14 mo_sort_15 mo_place_16 mo_number_17 mo_fault mo_wrongAt mo_laneTold mo_word_18 re_told re_who re_strong)
  else
  f_X13_readLane_B102 mo_size mo_tape re_lanes x1 2 mo_spot_14 mo_sort_15 mo_place_16 mo_number_17 mo_fault mo_wrongAt mo_laneTold mo_word_18 re_told re_who re_strong)
  else
  f_X13_readLane_B102 mo_size mo_tape re_lanes x1 1 mo_spot_14 mo_sort_15 mo_place_16 mo_number_17 mo_fault mo_wrongAt mo_laneTold mo_word_18 re_told re_who re_strong)
  else
  f_X13_readLane_B102 mo_size mo_tape re_lanes x1 0 mo_spot_14 mo_sort_15 mo_place_16 mo_number_17 mo_fault mo_wrongAt mo_laneTold mo_word_18 re_told re_who re_strong)
noncomputable def f_X13_readLane (mo_size : Int32) (mo_spot : Int32) (mo_sort : Int32) (mo_place : Int32) (mo_number : Int32) (mo_fault : Int32) (mo_wrongAt : Int32) (mo_laneTold : Int32) (mo_word : Int64) (mo_tape : Nat → Int32) (re_lanes : Int32) (re_told : Int32) (re_who : Nat → Int32) (re_strong : Nat → Int32) : Option (Int32 × Int32 × Int32 × Int32 × Int32 × Int32 × Int32 × Int64 × Int32 × (Nat → Int32) × (Nat → Int32)) :=
  bd7 (f_X13_lineBegins mo_size mo_spot mo_sort mo_place mo_number mo_fault mo_wrongAt mo_word mo_tape re_lanes (0 : Int32) (1 : Int32)) fun mo_spot_1 mo_sort_2 mo_place_3 mo_number_4 mo_fault_5 mo_wrongAt_6 mo_word_7 =>
  bd4 (f_X13_bounded mo_sort_2 mo_place_3 mo_number_4 mo_fault_5 mo_wrongAt_6 (0 : Int32) (re_lanes - 1)) fun r_9 mo_sort_10 mo_fault_11 mo_wrongAt_12 =>
  (if mo_sort_10 = 5 then
  f_X13_readLane_B45 mo_size mo_tape re_lanes r_9 mo_spot_1 mo_sort_10 mo_place_3 mo_number_4 mo_fault_11 mo_wrongAt_12 mo_laneTold mo_word_7 re_told re_who re_strong
  else
  bd1 (f_X13_bit  mo_laneTold r_9) fun r_62 =>
  (if r_62 = 0 then
  f_X13_readLane_B45 mo_size mo_tape re_lanes r_9 mo_spot_1 mo_sort_10 mo_place_3 mo_number_4 mo_fault_11 mo_wrongAt_12 mo_laneTold mo_word_7 re_told re_who re_strong
  else
  bd3 (f_X13_flaw mo_sort_10 mo_place_3 mo_fault_11 mo_wrongAt_12 (3 : Int32)) fun mo_sort_65 mo_fault_66 mo_wrongAt_67 =>
  f_X13_readLane_B45 mo_size mo_tape re_lanes r_9 mo_spot_1 mo_sort_65 mo_place_3 mo_number_4 mo_fault_66 mo_wrongAt_67 mo_laneTold mo_word_7 re_told re_who re_strong))
noncomputable def f_X13_readBeast_B84 (mo_size : Int32) (mo_tape : Nat → Int32) (re_lanes : Int32) (x1 : Int64) (x3 : Int32) (mo_spot : Int32) (mo_sort : Int32) (mo_place : Int32) (mo_number : Int32) (mo_fault : Int32) (mo_wrongAt : Int32) (mo_word : Int64) (re_beasts : Int32) (re_names : Int32) (re_kind : Nat → Int32) (re_lane : Nat → Int32) (re_mood : Nat → Int32) (re_price : Nat → Int32) (re_name : Nat → Int64) (re_nameSort : Nat → Int32) (re_numberOf : Nat → Int32) : Option (Int32 × Int32 × Int32 × Int32 × Int32 × Int32 × Int64 × Int32 × Int32 × (Nat → Int32) × (Nat → Int32) × (Nat → Int32) × (Nat → Int32) × (Nat → Int64) × (Nat → Int32) × (Nat → Int32)) :=
  bd5 (f_X13_goesOn mo_size mo_spot mo_sort mo_place mo_number mo_word mo_tape) fun mo_spot_30 mo_sort_31 mo_place_32 mo_number_33 mo_word_34 =>
  bd8 (f_X13_readPart mo_size mo_spot_30 mo_sort_31 mo_place_32 mo_number_33 mo_fault mo_wrongAt mo_word_34 mo_tape 17 (0 : Int32) (re_lanes - 1)) fun r_36 mo_spot_37 mo_sort_38 mo_place_39 mo_number_40 mo_fault_41 mo_wrongAt_42 mo_word_43 =>
  bd8 (f_X13_readPart mo_size mo_spot_37 mo_sort_38 mo_place_39 mo_number_40 mo_fault_41 mo_wrongAt_42 mo_word_43 mo_tape 18 (0 : Int32) (100 : Int32)) fun r_45 mo_spot_46 mo_sort_47 mo_place_48 mo_number_49 mo_fault_50 mo_wrongAt_51 mo_word_52 =>
  bd8 (f_X13_readPart mo_size mo_spot_46 mo_sort_47 mo_place_48 mo_number_49 mo_fault_50 mo_wrongAt_51 mo_word_52 mo_tape 19 (1 : Int32) (99 : Int32)) fun r_54 mo_spot_55 mo_sort_56 mo_place_57 mo_number_58 mo_fault_59 mo_wrongAt_60 mo_word_61 =>
  (if mo_sort_56 = 5 then
  some (mo_spot_55, mo_sort_56, mo_place_57, mo_number_58, mo_fault_59, mo_wrongAt_60, mo_word_61, re_beasts, re_names, re_kind, re_lane, re_mood, re_price, re_name, re_nameSort, re_numberOf)
  else
  bd4 (f_X13_names re_names re_name re_nameSort re_numberOf x1 (0 : Int32) re_beasts) fun re_names_63 re_name_64 re_nameSort_65 re_numberOf_66 =>
  gIn re_beasts 5 <|
  gIn re_beasts 5 <|
  gIn re_beasts 5 <|
  gIn re_beasts 5 <|
  some (mo_spot_55, mo_sort_56, mo_place_57, mo_number_58, mo_fault_59, mo_wrongAt_60, mo_word_61, re_beasts + 1, re_names_63, upd re_kind re_beasts.toNatClampNeg x3, upd re_lane re_beasts.toNatClampNeg r_36, upd re_mood re_beasts.toNatClampNeg r_45, upd re_price re_beasts.toNatClampNeg r_54, re_name_64, re_nameSort_65, re_numberOf_66))
noncomputable def f_X13_readBeast_B73 (mo_size : Int32) (mo_tape : Nat → Int32) (re_lanes : Int32) (x1 : Int64) (t0 : Int32) (mo_spot : Int32) (mo_sort : Int32) (mo_place : Int32) (mo_number : Int32) (mo_fault : Int32) (mo_wrongAt : Int32) (mo_word : Int64) (re_beasts : Int32) (re_names : Int32) (re_kind : Nat → Int32) (re_lane : Nat → Int32) (re_mood : Nat → Int32) (re_price : Nat → Int32) (re_name : Nat → Int64) (re_nameSort : Nat → Int32) (re_numberOf : Nat → Int32) : Option (Int32 × Int32 × Int32 × Int32 × Int32 × Int32 × Int64 × Int32 × Int32 × (Nat → Int32) × (Nat → Int32) × (Nat → Int32) × (Nat → Int32) × (Nat → Int64) × (Nat → Int32) × (Nat → Int32)) :=
  (if t0 = (-1) then
  bd3 (f_X13_flaw mo_sort mo_place mo_fault mo_wrongAt (1 : Int32)) fun mo_sort_72 mo_fault_73 mo_wrongAt_74 =>
  f_X13_readBeast_B84 mo_size mo_tape re_lanes x1 t0 mo_spot mo_sort_72 mo_place mo_number mo_fault_73 mo_wrongAt_74 mo_word re_beasts re_names re_kind re_lane re_mood re_price re_name re_nameSort re_numberOf
  else
  f_X13_readBeast_B84 mo_size mo_tape re_lanes x1 t0 mo_spot mo_sort mo_place mo_number mo_fault mo_wrongAt mo_word re_beasts re_names re_kind re_lane re_mood re_price re_name re_nameSort re_numberOf)
noncomputable def f_X13_readBeast (mo_size : Int32) (mo_spot : Int32) (mo_sort : Int32) (mo_place : Int32) (mo_number : Int32) (mo_fault : Int32) (mo_wrongAt : Int32) (mo_word : Int64) (mo_tape : Nat → Int32) (re_lanes : Int32) (re_beasts : Int32) (re_names : Int32) (re_kind : Nat → Int32) (re_lane : Nat → Int32) (re_mood : Nat → Int32) (re_price : Nat → Int32) (re_name : Nat → Int64) (re_nameSort : Nat → Int32) (re_numberOf : Nat → Int32) : Option (Int32 × Int32 × Int32 × Int32 × Int32 × Int32 × Int64 × Int32 × Int32 × (Nat → Int32) × (Nat → Int32) × (Nat → Int32) × (Nat → Int32) × (Nat → Int64) × (Nat → Int32) × (Nat → Int32)) :=
  bd7 (f_X13_lineBegins mo_size mo_spot mo_sort mo_place mo_number mo_fault mo_wrongAt mo_word mo_tape re_lanes re_beasts (5 : Int32)) fun mo_spot_1 mo_sort_2 mo_place_3 mo_number_4 mo_fault_5 mo_wrongAt_6 mo_word_7 =>
  bd8 (f_X13_readFresh mo_size mo_spot_1 mo_sort_2 mo_place_3 mo_number_4 mo_fault_5 mo_wrongAt_6 mo_word_7 mo_tape re_names re_name) fun r_9 mo_spot_10 mo_sort_11 mo_place_12 mo_number_13 mo_fault_14 mo_wrongAt_15 mo_word_16 =>
  bd1 (f_X13_isWord mo_sort_11 mo_word_16 13) fun r_18 =>
  (if r_18 = 0 then
  bd1 (f_X13_isWord mo_sort_11 mo_word_16 14) fun r_21 =>
  (if r_21 = 0 then
  bd1 (f_X13_isWord mo_sort_11 mo_word_16 15) fun r_24 =>
  (if r_24 = 0 then
  bd1 (f_X13_isWord mo_sort_11 mo_word_16 16) fun r_27 =>
  (if r_27 = 0 then
  f_X13_readBeast_B73 mo_size mo_tape re_lanes r_9 (-1) mo_spot_10 mo_sort_11 mo_place_12 mo_number_13 mo_fault_14 mo_wrongAt_15 mo_word_16 re_beasts re_names re_kind re_lane re_mood re_price re_name re_nameSort re_numberOf
  else
  f_X13_readBeast_B73 mo_size mo_tape re_lanes r_9 3 mo_spot_10 mo_sort_11 mo_place_12 mo_number_13 mo_fault_14 mo_wrongAt_15 mo_word_16 re_beasts re_names re_kind re_lane re_mood re_price re_name re_nameSort re_numberOf)
  else
  f_X13_readBeast_B73 mo_size mo_tape re_lanes r_9 2 mo_spot_10 mo_sort_11 mo_place_12 mo_number_13 mo_fault_14 mo_wrongAt_15 mo_word_16 re_beasts re_names re_kind re_lane re_mood re_price re_name re_nameSort re_numberOf)
  else
  f_X13_readBeast_B73 mo_size mo_tape re_lanes r_9 1 mo_spot_10 mo_sort_11 mo_place_12 mo_number_13 mo_fault_14 mo_wrongAt_15 mo_word_16 re_beasts re_names re_kind re_lane re_mood re_price re_name re_nameSort re_numberOf)
  else
  f_X13_readBeast_B73 mo_size mo_tape re_lanes r_9 0 mo_spot_10 mo_sort_11 mo_place_12 mo_number_13 mo_fault_14 mo_wrongAt_15 mo_word_16 re_beasts re_names re_kind re_lane re_mood re_price re_name re_nameSort re_numberOf)
noncomputable def f_X13_readCity_B96 (mo_size : Int32) (mo_tape : Nat → Int32) (re_lanes : Int32) (mo_spot : Int32) (mo_sort : Int32) (mo_place : Int32) (mo_number : Int32) (mo_fault : Int32) (mo_wrongAt : Int32) (mo_word : Int64) (re_cities : Int32) (re_names : Int32) (re_loses : Nat → Int32) (re_name : Nat → Int64) (re_nameSort : Nat → Int32) (re_numberOf : Nat → Int32) : Option (Int32 × Int32 × Int32 × Int32 × Int32 × Int32 × Int64 × Int32 × Int32 × (Nat → Int32) × (Nat → Int64) × (Nat → Int32) × (Nat → Int32)) :=
  some (mo_spot, mo_sort, mo_place, mo_number, mo_fault, mo_wrongAt, mo_word, re_cities + 1, re_names, re_loses, re_name, re_nameSort, re_numberOf)
noncomputable def f_X13_readCity_b42 (mo_size : Int32) (mo_tape : Nat → Int32) (re_lanes : Int32) (mo_spot : Int32) (mo_sort : Int32) (mo_place : Int32) (mo_number : Int32) (mo_fault : Int32) (mo_wrongAt : Int32) (mo_word : Int64) (re_cities : Int32) (re_names : Int32) (re_name : Nat → Int64) (re_nameSort : Nat → Int32) (re_numberOf : Nat → Int32) (k42 : Int32 → (Nat → Int32) → Option (Int32 × Int32 × Int32 × Int32 × Int32 × Int32 × Int64 × Int32 × Int32 × (Nat → Int32) × (Nat → Int64) × (Nat → Int32) × (Nat → Int32))) (x3 : Int32) (re_loses : Nat → Int32) : Option (Int32 × Int32 × Int32 × Int32 × Int32 × Int32 × Int64 × Int32 × Int32 × (Nat → Int32) × (Nat → Int64) × (Nat → Int32) × (Nat → Int32)) :=
  (if 6 ≤ x3 then
  f_X13_readCity_B96 mo_size mo_tape re_lanes mo_spot mo_sort mo_place mo_number mo_fault mo_wrongAt mo_word re_cities re_names re_loses re_name re_nameSort re_numberOf
  else
  gIn ((6 * re_cities) + x3) 36 <|
  gIn ((6 * x3) + re_cities) 36 <|
  k42 (x3 + 1) (upd (upd re_loses ((6 * re_cities) + x3).toNatClampNeg (-1)) ((6 * x3) + re_cities).toNatClampNeg (-1)))
noncomputable def f_X13_readCity_L42 (mo_size : Int32) (mo_tape : Nat → Int32) (re_lanes : Int32) (mo_spot : Int32) (mo_sort : Int32) (mo_place : Int32) (mo_number : Int32) (mo_fault : Int32) (mo_wrongAt : Int32) (mo_word : Int64) (re_cities : Int32) (re_names : Int32) (re_name : Nat → Int64) (re_nameSort : Nat → Int32) (re_numberOf : Nat → Int32) : Nat → Int32 → (Nat → Int32) → Option (Int32 × Int32 × Int32 × Int32 × Int32 × Int32 × Int64 × Int32 × Int32 × (Nat → Int32) × (Nat → Int64) × (Nat → Int32) × (Nat → Int32))
  | 0 => fun _ _ => none
  | n + 1 => f_X13_readCity_b42 mo_size mo_tape re_lanes mo_spot mo_sort mo_place mo_number mo_fault mo_wrongAt mo_word re_cities re_names re_name re_nameSort re_numberOf (f_X13_readCity_L42 mo_size mo_tape re_lanes mo_spot mo_sort mo_place mo_number mo_fault mo_wrongAt mo_word re_cities re_names re_name re_nameSort re_numberOf n)
noncomputable def f_X13_readCity (mo_size : Int32) (mo_spot : Int32) (mo_sort : Int32) (mo_place : Int32) (mo_number : Int32) (mo_fault : Int32) (mo_wrongAt : Int32) (mo_word : Int64) (mo_tape : Nat → Int32) (re_lanes : Int32) (re_cities : Int32) (re_names : Int32) (re_loses : Nat → Int32) (re_name : Nat → Int64) (re_nameSort : Nat → Int32) (re_numberOf : Nat → Int32) : Option (Int32 × Int32 × Int32 × Int32 × Int32 × Int32 × Int64 × Int32 × Int32 × (Nat → Int32) × (Nat → Int64) × (Nat → Int32) × (Nat → Int32)) :=
  bd7 (f_X13_lineBegins mo_size mo_spot mo_sort mo_place mo_number mo_fault mo_wrongAt mo_word mo_tape re_lanes re_cities (6 : Int32)) fun mo_spot_1 mo_sort_2 mo_place_3 mo_number_4 mo_fault_5 mo_wrongAt_6 mo_word_7 =>
  bd8 (f_X13_readFresh mo_size mo_spot_1 mo_sort_2 mo_place_3 mo_number_4 mo_fault_5 mo_wrongAt_6 mo_word_7 mo_tape re_names re_name) fun r_9 mo_spot_10 mo_sort_11 mo_place_12 mo_number_13 mo_fault_14 mo_wrongAt_15 mo_word_16 =>
  (if mo_sort_11 = 5 then
  some (mo_spot_10, mo_sort_11, mo_place_12, mo_number_13, mo_fault_14, mo_wrongAt_15, mo_word_16, re_cities, re_names, re_loses, re_name, re_nameSort, re_numberOf)
  else
  bd4 (f_X13_names re_names re_name re_nameSort re_numberOf r_9 (1 : Int32) re_cities) fun re_names_18 re_name_19 re_nameSort_20 re_numberOf_21 =>
  f_X13_readCity_L42 mo_size mo_tape re_lanes mo_spot_10 mo_sort_11 mo_place_12 mo_number_13 mo_fault_14 mo_wrongAt_15 mo_word_16 re_cities re_names_18 re_name_19 re_nameSort_20 re_numberOf_21 fuelN 0 re_loses)
noncomputable def f_X13_readPass_B65 (mo_size : Int32) (mo_tape : Nat → Int32) (re_lanes : Int32) (re_names : Int32) (re_name : Nat → Int64) (re_nameSort : Nat → Int32) (re_numberOf : Nat → Int32) (x1 : Int32) (x2 : Int32) (mo_spot : Int32) (mo_sort : Int32) (mo_place : Int32) (mo_number : Int32) (mo_fault : Int32) (mo_wrongAt : Int32) (mo_word : Int64) (re_passes : Int32) (re_loses : Nat → Int32) : Option (Int32 × Int32 × Int32 × Int32 × Int32 × Int32 × Int64 × Int32 × (Nat → Int32)) :=
  bd5 (f_X13_goesOn mo_size mo_spot mo_sort mo_place mo_number mo_word mo_tape) fun mo_spot_25 mo_sort_26 mo_place_27 mo_number_28 mo_word_29 =>
  bd8 (f_X13_readPart mo_size mo_spot_25 mo_sort_26 mo_place_27 mo_number_28 mo_fault mo_wrongAt mo_word_29 mo_tape 20 (0 : Int32) (99 : Int32)) fun r_31 mo_spot_32 mo_sort_33 mo_place_34 mo_number_35 mo_fault_36 mo_wrongAt_37 mo_word_38 =>
  (if mo_sort_33 = 5 then
  some (mo_spot_32, mo_sort_33, mo_place_34, mo_number_35, mo_fault_36, mo_wrongAt_37, mo_word_38, re_passes, re_loses)
  else
  gIn ((6 * x1) + x2) 36 <|
  gIn ((6 * x2) + x1) 36 <|
  some (mo_spot_32, mo_sort_33, mo_place_34, mo_number_35, mo_fault_36, mo_wrongAt_37, mo_word_38, re_passes + 1, upd (upd re_loses ((6 * x1) + x2).toNatClampNeg r_31) ((6 * x2) + x1).toNatClampNeg r_31))
noncomputable def f_X13_readPass_B60 (mo_size : Int32) (mo_tape : Nat → Int32) (re_lanes : Int32) (re_names : Int32) (re_name : Nat → Int64) (re_nameSort : Nat → Int32) (re_numberOf : Nat → Int32) (x1 : Int32) (x2 : Int32) (mo_spot : Int32) (mo_sort : Int32) (mo_place : Int32) (mo_number : Int32) (mo_fault : Int32) (mo_wrongAt : Int32) (mo_word : Int64) (re_passes : Int32) (re_loses : Nat → Int32) : Option (Int32 × Int32 × Int32 × Int32 × Int32 × Int32 × Int64 × Int32 × (Nat → Int32)) :=
  bd3 (f_X13_flaw mo_sort mo_place mo_fault mo_wrongAt (3 : Int32)) fun mo_sort_42 mo_fault_43 mo_wrongAt_44 =>
  f_X13_readPass_B65 mo_size mo_tape re_lanes re_names re_name re_nameSort re_numberOf x1 x2 mo_spot mo_sort_42 mo_place mo_number mo_fault_43 mo_wrongAt_44 mo_word re_passes re_loses
noncomputable def f_X13_readPass (mo_size : Int32) (mo_spot : Int32) (mo_sort : Int32) (mo_place : Int32) (mo_number : Int32) (mo_fault : Int32) (mo_wrongAt : Int32) (mo_word : Int64) (mo_tape : Nat → Int32) (re_lanes : Int32) (re_passes : Int32) (re_names : Int32) (re_loses : Nat → Int32) (re_name : Nat → Int64) (re_nameSort : Nat → Int32) (re_numberOf : Nat → Int32) : Option (Int32 × Int32 × Int32 × Int32 × Int32 × Int32 × Int64 × Int32 × (Nat → Int32)) :=
  bd7 (f_X13_lineBegins mo_size mo_spot mo_sort mo_place mo_number mo_fault mo_wrongAt mo_word mo_tape re_lanes re_passes (9 : Int32)) fun mo_spot_1 mo_sort_2 mo_place_3 mo_number_4 mo_fault_5 mo_wrongAt_6 mo_word_7 =>
  bd4 (f_X13_knownOne mo_sort_2 mo_place_3 mo_fault_5 mo_wrongAt_6 mo_word_7 re_names re_name re_nameSort re_numberOf (1 : Int32)) fun r_9 mo_sort_10 mo_fault_11 mo_wrongAt_12 =>
  bd5 (f_X13_goesOn mo_size mo_spot_1 mo_sort_10 mo_place_3 mo_number_4 mo_word_7 mo_tape) fun mo_spot_14 mo_sort_15 mo_place_16 mo_number_17 mo_word_18 =>
  bd4 (f_X13_knownOne mo_sort_15 mo_place_16 mo_fault_11 mo_wrongAt_12 mo_word_18 re_names re_name re_nameSort re_numberOf (1 : Int32)) fun r_20 mo_sort_21 mo_fault_22 mo_wrongAt_23 =>
  (if mo_sort_21 = 5 then
  f_X13_readPass_B65 mo_size mo_tape re_lanes re_names re_name re_nameSort re_numberOf r_9 r_20 mo_spot_14 mo_sort_21 mo_place_16 mo_number_17 mo_fault_22 mo_wrongAt_23 mo_word_18 re_passes re_loses
  else
  (if r_9 = r_20 then
  f_X13_readPass_B60 mo_size mo_tape re_lanes re_names re_name re_nameSort re_numberOf r_9 r_20 mo_spot_14 mo_sort_21 mo_place_16 mo_number_17 mo_fault_22 mo_wrongAt_23 mo_word_18 re_passes re_loses
  else
  gIn ((6 * r_9) + r_20) 36 <|
  (if (re_loses ((6 * r_9) + r_20).toNatClampNeg) = (-1) then
  f_X13_readPass_B65 mo_size mo_tape re_lanes re_names re_name re_nameSort re_numberOf r_9 r_20 mo_spot_14 mo_sort_21 mo_place_16 mo_number_17 mo_fault_22 mo_wrongAt_23 mo_word_18 re_passes re_loses
  else
  f_X13_readPass_B60 mo_size mo_tape re_lanes re_names re_name re_nameSort re_numberOf r_9 r_20 mo_spot_14 mo_sort_21 mo_place_16 mo_number_17 mo_fault_22 mo_wrongAt_23 mo_word_18 re_passes re_loses)))
noncomputable def f_X13_readTurned_B39 (mo_size : Int32) (mo_tape : Nat → Int32) (re_lanes : Int32) (re_names : Int32) (re_name : Nat → Int64) (re_nameSort : Nat → Int32) (re_numberOf : Nat → Int32) (x1 : Int32) (mo_spot : Int32) (mo_sort : Int32) (mo_place : Int32) (mo_number : Int32) (mo_fault : Int32) (mo_wrongAt : Int32) (mo_word : Int64) (re_turned : Int32) : Option (Int32 × Int32 × Int32 × Int32 × Int32 × Int32 × Int64 × Int32) :=
  bd5 (f_X13_goesOn mo_size mo_spot mo_sort mo_place mo_number mo_word mo_tape) fun mo_spot_14 mo_sort_15 mo_place_16 mo_number_17 mo_word_18 =>
  (if mo_sort_15 = 5 then
  some (mo_spot_14, mo_sort_15, mo_place_16, mo_number_17, mo_fault, mo_wrongAt, mo_word_18, re_turned)
  else
  some (mo_spot_14, mo_sort_15, mo_place_16, mo_number_17, mo_fault, mo_wrongAt, mo_word_18, re_turned ||| ((1 : Int32) <<< (x1 &&& 31))))
noncomputable def f_X13_readTurned (mo_size : Int32) (mo_spot : Int32) (mo_sort : Int32) (mo_place : Int32) (mo_number : Int32) (mo_fault : Int32) (mo_wrongAt : Int32) (mo_word : Int64) (mo_tape : Nat → Int32) (re_lanes : Int32) (re_turned : Int32) (re_names : Int32) (re_name : Nat → Int64) (re_nameSort : Nat → Int32) (re_numberOf : Nat → Int32) : Option (Int32 × Int32 × Int32 × Int32 × Int32 × Int32 × Int64 × Int32) :=
  bd7 (f_X13_lineBegins mo_size mo_spot mo_sort mo_place mo_number mo_fault mo_wrongAt mo_word mo_tape re_lanes (0 : Int32) (1 : Int32)) fun mo_spot_1 mo_sort_2 mo_place_3 mo_number_4 mo_fault_5 mo_wrongAt_6 mo_word_7 =>
  bd4 (f_X13_knownOne mo_sort_2 mo_place_3 mo_fault_5 mo_wrongAt_6 mo_word_7 re_names re_name re_nameSort re_numberOf (0 : Int32)) fun r_9 mo_sort_10 mo_fault_11 mo_wrongAt_12 =>
  (if mo_sort_10 = 5 then
  f_X13_readTurned_B39 mo_size mo_tape re_lanes re_names re_name re_nameSort re_numberOf r_9 mo_spot_1 mo_sort_10 mo_place_3 mo_number_4 mo_fault_11 mo_wrongAt_12 mo_word_7 re_turned
  else
  bd1 (f_X13_bit  re_turned r_9) fun r_20 =>
  (if r_20 = 0 then
  f_X13_readTurned_B39 mo_size mo_tape re_lanes re_names re_name re_nameSort re_numberOf r_9 mo_spot_1 mo_sort_10 mo_place_3 mo_number_4 mo_fault_11 mo_wrongAt_12 mo_word_7 re_turned
  else
  bd3 (f_X13_flaw mo_sort_10 mo_place_3 mo_fault_11 mo_wrongAt_12 (3 : Int32)) fun mo_sort_23 mo_fault_24 mo_wrongAt_25 =>
  f_X13_readTurned_B39 mo_size mo_tape re_lanes re_names re_name re_nameSort re_numberOf r_9 mo_spot_1 mo_sort_23 mo_place_3 mo_number_4 mo_fault_24 mo_wrongAt_25 mo_word_7 re_turned))
noncomputable def f_X13_feed_B76 (k23 : Int32 → Int32 → (Nat → Int32) → Option (Int32 × Int32 × Int32 × (Nat → Int32))) (x1 : Int32) (x2 : Int32) (x3 : Int32) (x4 : Int32) (x5 : Int32) (x6 : Int32) (t0 : Int32) (mo_thrown : Int32) (mo_taped : Int32) (mo_tape : Nat → Int32) : Option (Int32 × Int32 × Int32 × (Nat → Int32)) :=
  gIn mo_taped 900 <|
  k23 (x6 + 1) (mo_taped + 1) (upd mo_tape mo_taped.toNatClampNeg (vp_nar .byte ((t0 >>> ((24 - (8 * (x6 - x6 / 4 * 4))) &&& 31)).toInt8.toInt32)))
noncomputable def f_X13_feed_b23 (x1 : Int32) (x2 : Int32) (x3 : Int32) (x4 : Int32) (x5 : Int32) (mo_thrown : Int32) (k23 : Int32 → Int32 → (Nat → Int32) → Option (Int32 × Int32 × Int32 × (Nat → Int32))) (x6 : Int32) (mo_taped : Int32) (mo_tape : Nat → Int32) : Option (Int32 × Int32 × Int32 × (Nat → Int32)) :=
  (if 20 ≤ x6 then
  some (mo_taped, mo_thrown, mo_taped, mo_tape)
  else
  (if 4 ≤ x6 then
  (if 8 ≤ x6 then
  (if 12 ≤ x6 then
  (if 16 ≤ x6 then
  f_X13_feed_B76 k23 x1 x2 x3 x4 x5 x6 x5 mo_thrown mo_taped mo_tape
  else
  f_X13_feed_B76 k23 x1 x2 x3 x4 x5 x6 x4 mo_thrown mo_taped mo_tape)
  else
  f_X13_feed_B76 k23 x1 x2 x3 x4 x5 x6 x3 mo_thrown mo_taped mo_tape)
  else
  f_X13_feed_B76 k23 x1 x2 x3 x4 x5 x6 x2 mo_thrown mo_taped mo_tape)
  else
  f_X13_feed_B76 k23 x1 x2 x3 x4 x5 x6 x1 mo_thrown mo_taped mo_tape))
noncomputable def f_X13_feed_L23 (x1 : Int32) (x2 : Int32) (x3 : Int32) (x4 : Int32) (x5 : Int32) (mo_thrown : Int32) : Nat → Int32 → Int32 → (Nat → Int32) → Option (Int32 × Int32 × Int32 × (Nat → Int32))
  | 0 => fun _ _ _ => none
  | n + 1 => f_X13_feed_b23 x1 x2 x3 x4 x5 mo_thrown (f_X13_feed_L23 x1 x2 x3 x4 x5 mo_thrown n)
noncomputable def f_X13_feed (mo_thrown : Int32) (mo_taped : Int32) (mo_tape : Nat → Int32) (p1 : Int32) (p2 : Int32) (p3 : Int32) (p4 : Int32) (p5 : Int32) : Option (Int32 × Int32 × Int32 × (Nat → Int32)) :=
  (if (mo_taped + 20) ≤ 900 then
  f_X13_feed_L23 p1 p2 p3 p4 p5 0 fuelN 0 mo_taped mo_tape
  else
  some ((-1), 0, mo_taped, mo_tape))
noncomputable def f_X13_fault (mo_thrown : Int32) (mo_fault : Int32) : Option (Int32 × Int32) :=
  some (mo_fault, 0)
noncomputable def f_X13_where (mo_thrown : Int32) (mo_where : Int32) : Option (Int32 × Int32) :=
  some (mo_where, 0)
noncomputable def f_X13_tries_b2 (mo_v : Nat → Int32) (k2 : Int32 → (Nat → Int32) → Option ((Nat → Int32))) (x1 : Int32) (mo_x : Nat → Int32) : Option ((Nat → Int32)) :=
  (if 19 ≤ x1 then
  some (mo_x)
  else
  gIn x1 19 <|
  gIn x1 19 <|
  k2 (x1 + 1) (upd mo_x x1.toNatClampNeg (mo_v x1.toNatClampNeg)))
noncomputable def f_X13_tries_L2 (mo_v : Nat → Int32) : Nat → Int32 → (Nat → Int32) → Option ((Nat → Int32))
  | 0 => fun _ _ => none
  | n + 1 => f_X13_tries_b2 mo_v (f_X13_tries_L2 mo_v n)
noncomputable def f_X13_tries (mo_v : Nat → Int32) (mo_x : Nat → Int32) : Option ((Nat → Int32)) :=
  f_X13_tries_L2 mo_v fuelN 0 mo_x
noncomputable def f_X13_isLane (wa_lanes : Int32) (p1 : Int32) : Option (Int32) :=
  (if p1 < 0 then
  some (0)
  else
  (if wa_lanes ≤ p1 then
  some (0)
  else
  some (1)))
noncomputable def f_X13_isBeast (wa_beasts : Int32) (p1 : Int32) : Option (Int32) :=
  (if p1 < 0 then
  some (0)
  else
  (if wa_beasts ≤ p1 then
  some (0)
  else
  some (1)))
noncomputable def f_X13_isCity (wa_cities : Int32) (p1 : Int32) : Option (Int32) :=
  (if p1 < 0 then
  some (0)
  else
  (if wa_cities ≤ p1 then
  some (0)
  else
  some (1)))
noncomputable def f_X13_isDead (mo_v : Nat → Int32) (p1 : Int32) : Option (Int32) :=
  bd1 (f_X13_bit  (mo_v (10 : Int32).toNatClampNeg) p1) fun r_1 =>
  some (r_1)
noncomputable def f_X13_forceOf_B65 (mo_v : Nat → Int32) (wa_kind : Nat → Int32) (x1 : Int32) (t0 : Int32) : Option (Int32) :=
  gIn (5 + x1) 19 <|
  (if (t0 - (mo_v (5 + x1).toNatClampNeg)) ≤ 0 then
  some (0)
  else
  some (t0 - (mo_v (5 + x1).toNatClampNeg)))
noncomputable def f_X13_forceOf (mo_v : Nat → Int32) (wa_kind : Nat → Int32) (p1 : Int32) : Option (Int32) :=
  bd1 (f_X13_isDead mo_v p1) fun r_1 =>
  (if r_1 = 0 then
  gIn p1 5 <|
  (if (wa_kind p1.toNatClampNeg) = 1 then
  f_X13_forceOf_B65 mo_v wa_kind p1 5
  else
  gIn p1 5 <|
  (if (wa_kind p1.toNatClampNeg) = 2 then
  f_X13_forceOf_B65 mo_v wa_kind p1 30
  else
  gIn p1 5 <|
  (if (wa_kind p1.toNatClampNeg) = 3 then
  f_X13_forceOf_B65 mo_v wa_kind p1 25
  else
  f_X13_forceOf_B65 mo_v wa_kind p1 20)))
  else
  some (0))
noncomputable def f_X13_holdBy (wa_kind : Nat → Int32) (p1 : Int32) (p2 : Int32) (p3 : Int32) : Option (Int32) :=
  gIn p1 5 <|
  (if (wa_kind p1.toNatClampNeg) = 1 then
  (if p2 ≤ 20 then
  some (0)
  else
  some (p2 - 20))
  else
  (if (wa_kind p1.toNatClampNeg) = 2 then
  (if 80 ≤ p2 then
  some (100)
  else
  some (p2 + 20))
  else
  (if (wa_kind p1.toNatClampNeg) = 3 then
  (if p3 = 0 then
  some (p2)
  else
  some (p2 / 2))
  else
  some (p2))))
noncomputable def f_X13_harmBy (mo_v : Nat → Int32) (wa_kind : Nat → Int32) (p1 : Int32) (p2 : Int32) (p3 : Int32) (p4 : Int32) : Option (Int32) :=
  bd1 (f_X13_forceOf mo_v wa_kind p1) fun r_1 =>
  bd1 (f_X13_isDead mo_v p1) fun r_3 =>
  (if r_3 = 0 then
  (if p2 = 1 then
  gIn p1 5 <|
  (if (wa_kind p1.toNatClampNeg) = 2 then
  (if p4 = 0 then
  some (10)
  else
  some (0))
  else
  (if p4 = 0 then
  some (0)
  else
  some (r_1)))
  else
  (if p2 = 2 then
  (if r_1 ≤ p3 then
  (if p4 = 0 then
  some (r_1 / 2)
  else
  some (r_1))
  else
  (if p4 = 0 then
  some (p3)
  else
  some (0)))
  else
  (if p2 = 3 then
  (if p4 = 0 then
  (if 8 ≤ p3 then
  (if r_1 ≤ p3 then
  some (0)
  else
  some (r_1 - p3))
  else
  some (15))
  else
  some (0))
  else
  some (0))))
  else
  some (0))
noncomputable def f_X13_meetsIn (mo_v : Nat → Int32) (wa_who : Nat → Int32) (wa_kind : Nat → Int32) (p1 : Int32) (p2 : Int32) (p3 : Int32) : Option (Int32) :=
  gIn p2 6 <|
  gIn (11 + p2) 19 <|
  bd1 (f_X13_harmBy mo_v wa_kind p1 (wa_who p2.toNatClampNeg) (mo_v (11 + p2).toNatClampNeg) p3) fun r_3 =>
  some (r_3)
noncomputable def f_X13_whole (wa_deep : Int32) : Option (Int64) :=
  bd1 (f_X13_power  (100 : Int64) wa_deep) fun r_1 =>
  some (r_1)
noncomputable def f_X13_lane_B22 (mo_v : Nat → Int32) (wa_lanes : Int32) (wa_beasts : Int32) (wa_who : Nat → Int32) (mo_thrown : Int32) (mo_trouble : Int32) (mo_where : Int32) : Option (Int32 × Int32 × Int32 × Int32) :=
  bd3 (f_X13_refused mo_trouble mo_where (1 : Int32)) fun r_4 mo_trouble_5 mo_where_6 =>
  some (r_4, mo_thrown, mo_trouble_5, mo_where_6)
noncomputable def f_X13_lane_B119 (mo_v : Nat → Int32) (wa_lanes : Int32) (wa_beasts : Int32) (wa_who : Nat → Int32) (x3 : Int32) (mo_thrown : Int32) (mo_trouble : Int32) (mo_where : Int32) : Option (Int32 × Int32 × Int32 × Int32) :=
  bd3 (f_X13_good mo_trouble mo_where x3) fun r_11 mo_trouble_12 mo_where_13 =>
  some (r_11, mo_thrown, mo_trouble_12, mo_where_13)
noncomputable def f_X13_lane_B111 (k68 : Int32 → Int32 → Option (Int32 × Int32 × Int32 × Int32)) (mo_v : Nat → Int32) (wa_lanes : Int32) (wa_beasts : Int32) (wa_who : Nat → Int32) (x1 : Int32) (x4 : Int32) (t0 : Int32) (t1 : Int32) (mo_thrown : Int32) (mo_trouble : Int32) (mo_where : Int32) : Option (Int32 × Int32 × Int32 × Int32) :=
  k68 (t0 ||| t1) (x4 + 1)
noncomputable def f_X13_lane_B110 (k68 : Int32 → Int32 → Option (Int32 × Int32 × Int32 × Int32)) (mo_v : Nat → Int32) (wa_lanes : Int32) (wa_beasts : Int32) (wa_who : Nat → Int32) (x1 : Int32) (x4 : Int32) (t0 : Int32) (mo_thrown : Int32) (mo_trouble : Int32) (mo_where : Int32) : Option (Int32 × Int32 × Int32 × Int32) :=
  f_X13_lane_B111 k68 mo_v wa_lanes wa_beasts wa_who x1 x4 t0 0 mo_thrown mo_trouble mo_where
noncomputable def f_X13_lane_b68 (mo_v : Nat → Int32) (wa_lanes : Int32) (wa_beasts : Int32) (wa_who : Nat → Int32) (x1 : Int32) (mo_thrown : Int32) (mo_trouble : Int32) (mo_where : Int32) (k68 : Int32 → Int32 → Option (Int32 × Int32 × Int32 × Int32)) (x3 : Int32) (x4 : Int32) : Option (Int32 × Int32 × Int32 × Int32) :=
  (if wa_beasts ≤ x4 then
  f_X13_lane_B119 mo_v wa_lanes wa_beasts wa_who x3 mo_thrown mo_trouble mo_where
  else
  gIn (0 + x4) 19 <|
  (if (mo_v (0 + x4).toNatClampNeg) = x1 then
  bd1 (f_X13_isDead mo_v x4) fun r_16 =>
  (if r_16 = 0 then
  f_X13_lane_B111 k68 mo_v wa_lanes wa_beasts wa_who x1 x4 x3 ((1 : Int32) <<< (x4 &&& 31)) mo_thrown mo_trouble mo_where
  else
  f_X13_lane_B110 k68 mo_v wa_lanes wa_beasts wa_who x1 x4 x3 mo_thrown mo_trouble mo_where)
  else
  f_X13_lane_B110 k68 mo_v wa_lanes wa_beasts wa_who x1 x4 x3 mo_thrown mo_trouble mo_where))
noncomputable def f_X13_lane_L68 (mo_v : Nat → Int32) (wa_lanes : Int32) (wa_beasts : Int32) (wa_who : Nat → Int32) (x1 : Int32) (mo_thrown : Int32) (mo_trouble : Int32) (mo_where : Int32) : Nat → Int32 → Int32 → Option (Int32 × Int32 × Int32 × Int32)
  | 0 => fun _ _ => none
  | n + 1 => f_X13_lane_b68 mo_v wa_lanes wa_beasts wa_who x1 mo_thrown mo_trouble mo_where (f_X13_lane_L68 mo_v wa_lanes wa_beasts wa_who x1 mo_thrown mo_trouble mo_where n)
noncomputable def f_X13_lane_B59 (mo_v : Nat → Int32) (wa_lanes : Int32) (wa_beasts : Int32) (wa_who : Nat → Int32) (t1 : Int32) (mo_thrown : Int32) (mo_trouble : Int32) (mo_where : Int32) : Option (Int32 × Int32 × Int32 × Int32) :=
  bd3 (f_X13_good mo_trouble mo_where t1) fun r_20 mo_trouble_21 mo_where_22 =>
  some (r_20, mo_thrown, mo_trouble_21, mo_where_22)
noncomputable def f_X13_lane (mo_thrown : Int32) (mo_trouble : Int32) (mo_where : Int32) (mo_v : Nat → Int32) (wa_lanes : Int32) (wa_beasts : Int32) (wa_who : Nat → Int32) (p1 : Int32) (p2 : Int32) : Option (Int32 × Int32 × Int32 × Int32) :=
  bd1 (f_X13_isLane wa_lanes p1) fun r_1 =>
  (if r_1 = 0 then
  f_X13_lane_B22 mo_v wa_lanes wa_beasts wa_who 0 mo_trouble mo_where
  else
  bd1 (f_X13_in  p2 (0 : Int32) (2 : Int32)) fun r_8 =>
  (if r_8 = 0 then
  f_X13_lane_B22 mo_v wa_lanes wa_beasts wa_who 0 mo_trouble mo_where
  else
  (if 2 ≤ p2 then
  f_X13_lane_L68 mo_v wa_lanes wa_beasts wa_who p1 0 mo_trouble mo_where fuelN 0 0
  else
  (if p2 = 0 then
  gIn p1 6 <|
  f_X13_lane_B59 mo_v wa_lanes wa_beasts wa_who (wa_who p1.toNatClampNeg) 0 mo_trouble mo_where
  else
  gIn (11 + p1) 19 <|
  f_X13_lane_B59 mo_v wa_lanes wa_beasts wa_who (mo_v (11 + p1).toNatClampNeg) 0 mo_trouble mo_where))))
noncomputable def f_X13_meets_B35 (mo_v : Nat → Int32) (wa_lanes : Int32) (wa_beasts : Int32) (wa_who : Nat → Int32) (wa_kind : Nat → Int32) (mo_thrown : Int32) (mo_trouble : Int32) (mo_where : Int32) : Option (Int32 × Int32 × Int32 × Int32) :=
  bd3 (f_X13_refused mo_trouble mo_where (1 : Int32)) fun r_4 mo_trouble_5 mo_where_6 =>
  some (r_4, mo_thrown, mo_trouble_5, mo_where_6)
noncomputable def f_X13_meets (mo_thrown : Int32) (mo_trouble : Int32) (mo_where : Int32) (mo_v : Nat → Int32) (wa_lanes : Int32) (wa_beasts : Int32) (wa_who : Nat → Int32) (wa_kind : Nat → Int32) (p1 : Int32) (p2 : Int32) (p3 : Int32) : Option (Int32 × Int32 × Int32 × Int32) :=
  bd1 (f_X13_isBeast wa_beasts p1) fun r_1 =>
  (if r_1 = 0 then
  f_X13_meets_B35 mo_v wa_lanes wa_beasts wa_who wa_kind 0 mo_trouble mo_where
  else
  bd1 (f_X13_isLane wa_lanes p2) fun r_8 =>
  (if r_8 = 0 then
  f_X13_meets_B35 mo_v wa_lanes wa_beasts wa_who wa_kind 0 mo_trouble mo_where
  else
  bd1 (f_X13_meetsIn mo_v wa_who wa_kind p1 p2 p3) fun r_11 =>
  bd3 (f_X13_good mo_trouble mo_where r_11) fun r_13 mo_trouble_14 mo_where_15 =>
  some (r_13, 0, mo_trouble_14, mo_where_15)))
noncomputable def f_X13_worthHeld (mo_v : Nat → Int32) (wa_deep : Int32) (wa_who : Nat → Int32) (wa_kind : Nat → Int32) (p1 : Int32) (p2 : Int32) (p3 : Int32) : Option (Int64) :=
  bd1 (f_X13_isDead mo_v p1) fun r_1 =>
  (if r_1 = 0 then
  bd1 (f_X13_power  p3.toInt64 wa_deep) fun r_4 =>
  bd1 (f_X13_meetsIn mo_v wa_who wa_kind p1 p2 (0 : Int32)) fun r_6 =>
  bd1 (f_X13_meetsIn mo_v wa_who wa_kind p1 p2 (1 : Int32)) fun r_8 =>
  bd1 (f_X13_whole wa_deep) fun r_10 =>
  bd1 (f_X13_forceOf mo_v wa_kind p1) fun r_12 =>
  some ((r_4 * ((r_6 - r_8).toInt64)) - ((r_10 - r_4) * ((r_12 / 2).toInt64)))
  else
  some (0))
noncomputable def f_X13_worthIf_B21 (mo_v : Nat → Int32) (wa_lanes : Int32) (wa_deep : Int32) (wa_beasts : Int32) (wa_who : Nat → Int32) (wa_kind : Nat → Int32) (wa_mood : Nat → Int32) (mo_thrown : Int32) (mo_trouble : Int32) (mo_where : Int32) : Option (Int64 × Int32 × Int32 × Int32) :=
  bd3 (f_X13_lost mo_trouble mo_where (1 : Int32)) fun r_4 mo_trouble_5 mo_where_6 =>
  some (r_4, mo_thrown, mo_trouble_5, mo_where_6)
noncomputable def f_X13_worthIf (mo_thrown : Int32) (mo_trouble : Int32) (mo_where : Int32) (mo_v : Nat → Int32) (wa_lanes : Int32) (wa_deep : Int32) (wa_beasts : Int32) (wa_who : Nat → Int32) (wa_kind : Nat → Int32) (wa_mood : Nat → Int32) (p1 : Int32) (p2 : Int32) (p3 : Int32) (p4 : Int32) : Option (Int64 × Int32 × Int32 × Int32) :=
  bd1 (f_X13_isBeast wa_beasts p1) fun r_1 =>
  (if r_1 = 0 then
  f_X13_worthIf_B21 mo_v wa_lanes wa_deep wa_beasts wa_who wa_kind wa_mood 0 mo_trouble mo_where
  else
  bd1 (f_X13_isLane wa_lanes p2) fun r_8 =>
  (if r_8 = 0 then
  f_X13_worthIf_B21 mo_v wa_lanes wa_deep wa_beasts wa_who wa_kind wa_mood 0 mo_trouble mo_where
  else
  gIn p1 5 <|
  bd1 (f_X13_holdBy wa_kind p1 (wa_mood p1.toNatClampNeg) p3) fun r_12 =>
  bd1 (f_X13_worthHeld mo_v wa_deep wa_who wa_kind p1 p2 r_12) fun r_14 =>
  bd1 (f_X13_whole wa_deep) fun r_16 =>
  bd3 (f_X13_fraction mo_trouble mo_where r_14 r_16 p4) fun r_18 mo_trouble_19 mo_where_20 =>
  some (r_18, 0, mo_trouble_19, mo_where_20)))
noncomputable def f_X13_moodFor_B21 (mo_v : Nat → Int32) (wa_lanes : Int32) (wa_deep : Int32) (wa_beasts : Int32) (wa_who : Nat → Int32) (wa_kind : Nat → Int32) (mo_thrown : Int32) (mo_trouble : Int32) (mo_where : Int32) : Option (Int32 × Int32 × Int32 × Int32) :=
  bd3 (f_X13_refused mo_trouble mo_where (1 : Int32)) fun r_4 mo_trouble_5 mo_where_6 =>
  some (r_4, mo_thrown, mo_trouble_5, mo_where_6)
noncomputable def f_X13_moodFor_B80 (mo_v : Nat → Int32) (wa_lanes : Int32) (wa_deep : Int32) (wa_beasts : Int32) (wa_who : Nat → Int32) (wa_kind : Nat → Int32) (mo_thrown : Int32) (mo_trouble : Int32) (mo_where : Int32) : Option (Int32 × Int32 × Int32 × Int32) :=
  bd3 (f_X13_good mo_trouble mo_where ((-2) : Int32)) fun r_11 mo_trouble_12 mo_where_13 =>
  some (r_11, mo_thrown, mo_trouble_12, mo_where_13)
noncomputable def f_X13_moodFor_B57 (k29 : Int32 → Option (Int32 × Int32 × Int32 × Int32)) (mo_v : Nat → Int32) (wa_lanes : Int32) (wa_deep : Int32) (wa_beasts : Int32) (wa_who : Nat → Int32) (wa_kind : Nat → Int32) (x1 : Int32) (x2 : Int32) (x3 : Int32) (t1 : Int32) (t2 : Int32) (t4 : Int32) (t5 : Int32) (t6 : Int32) (mo_thrown : Int32) (mo_trouble : Int32) (mo_where : Int32) : Option (Int32 × Int32 × Int32 × Int32) :=
  bd1 (f_X13_holdBy wa_kind t4 t5 t6) fun r_15 =>
  bd1 (f_X13_worthHeld mo_v wa_deep wa_who wa_kind t1 t2 r_15) fun r_17 =>
  (if r_17 ≤ 0 then
  k29 (x3 + 1)
  else
  bd3 (f_X13_good mo_trouble mo_where x3) fun r_19 mo_trouble_20 mo_where_21 =>
  some (r_19, mo_thrown, mo_trouble_20, mo_where_21))
noncomputable def f_X13_moodFor_b29 (mo_v : Nat → Int32) (wa_lanes : Int32) (wa_deep : Int32) (wa_beasts : Int32) (wa_who : Nat → Int32) (wa_kind : Nat → Int32) (x1 : Int32) (x2 : Int32) (mo_thrown : Int32) (mo_trouble : Int32) (mo_where : Int32) (k29 : Int32 → Option (Int32 × Int32 × Int32 × Int32)) (x3 : Int32) : Option (Int32 × Int32 × Int32 × Int32) :=
  (if 100 < x3 then
  f_X13_moodFor_B80 mo_v wa_lanes wa_deep wa_beasts wa_who wa_kind mo_thrown mo_trouble mo_where
  else
  (if (mo_v (17 : Int32).toNatClampNeg) = 1 then
  f_X13_moodFor_B57 k29 mo_v wa_lanes wa_deep wa_beasts wa_who wa_kind x1 x2 x3 x1 x2 x1 x3 1 mo_thrown mo_trouble mo_where
  else
  f_X13_moodFor_B57 k29 mo_v wa_lanes wa_deep wa_beasts wa_who wa_kind x1 x2 x3 x1 x2 x1 x3 0 mo_thrown mo_trouble mo_where))
noncomputable def f_X13_moodFor_L29 (mo_v : Nat → Int32) (wa_lanes : Int32) (wa_deep : Int32) (wa_beasts : Int32) (wa_who : Nat → Int32) (wa_kind : Nat → Int32) (x1 : Int32) (x2 : Int32) (mo_thrown : Int32) (mo_trouble : Int32) (mo_where : Int32) : Nat → Int32 → Option (Int32 × Int32 × Int32 × Int32)
  | 0 => fun _ => none
  | n + 1 => f_X13_moodFor_b29 mo_v wa_lanes wa_deep wa_beasts wa_who wa_kind x1 x2 mo_thrown mo_trouble mo_where (f_X13_moodFor_L29 mo_v wa_lanes wa_deep wa_beasts wa_who wa_kind x1 x2 mo_thrown mo_trouble mo_where n)
noncomputable def f_X13_moodFor (mo_thrown : Int32) (mo_trouble : Int32) (mo_where : Int32) (mo_v : Nat → Int32) (wa_lanes : Int32) (wa_deep : Int32) (wa_beasts : Int32) (wa_who : Nat → Int32) (wa_kind : Nat → Int32) (p1 : Int32) (p2 : Int32) : Option (Int32 × Int32 × Int32 × Int32) :=
  bd1 (f_X13_isBeast wa_beasts p1) fun r_1 =>
  (if r_1 = 0 then
  f_X13_moodFor_B21 mo_v wa_lanes wa_deep wa_beasts wa_who wa_kind 0 mo_trouble mo_where
  else
  bd1 (f_X13_isLane wa_lanes p2) fun r_8 =>
  (if r_8 = 0 then
  f_X13_moodFor_B21 mo_v wa_lanes wa_deep wa_beasts wa_who wa_kind 0 mo_trouble mo_where
  else
  f_X13_moodFor_L29 mo_v wa_lanes wa_deep wa_beasts wa_who wa_kind p1 p2 0 mo_trouble mo_where fuelN 0))
noncomputable def f_X13_areUnlike_B60 (k4 : Int32 → Int32 → Option (Int32)) (mo_put : Nat → Int32) (wa_lanes : Int32) (wa_beasts : Int32) (x1 : Int32) (x2 : Int32) : Option (Int32) :=
  k4 x1 (x2 + 1)
noncomputable def f_X13_areUnlike_b4 (mo_put : Nat → Int32) (wa_lanes : Int32) (wa_beasts : Int32) (k4 : Int32 → Int32 → Option (Int32)) (x1 : Int32) (x2 : Int32) : Option (Int32) :=
  (if wa_beasts ≤ x2 then
  some (1)
  else
  gIn x2 5 <|
  (if (mo_put x2.toNatClampNeg) = wa_lanes then
  f_X13_areUnlike_B60 k4 mo_put wa_lanes wa_beasts x1 x2
  else
  gIn x2 5 <|
  bd1 (f_X13_bit  x1 (mo_put x2.toNatClampNeg)) fun r_3 =>
  (if r_3 = 0 then
  gIn x2 5 <|
  f_X13_areUnlike_B60 k4 mo_put wa_lanes wa_beasts (x1 ||| ((1 : Int32) <<< ((mo_put x2.toNatClampNeg) &&& 31))) x2
  else
  some (0))))
noncomputable def f_X13_areUnlike_L4 (mo_put : Nat → Int32) (wa_lanes : Int32) (wa_beasts : Int32) : Nat → Int32 → Int32 → Option (Int32)
  | 0 => fun _ _ => none
  | n + 1 => f_X13_areUnlike_b4 mo_put wa_lanes wa_beasts (f_X13_areUnlike_L4 mo_put wa_lanes wa_beasts n)
noncomputable def f_X13_areUnlike (mo_put : Nat → Int32) (wa_lanes : Int32) (wa_beasts : Int32) : Option (Int32) :=
  f_X13_areUnlike_L4 mo_put wa_lanes wa_beasts fuelN 0 0
noncomputable def f_X13_nextPut_B60 (k10 : Int32 → (Nat → Int32) → Option (Int32 × (Nat → Int32))) (mo_v : Nat → Int32) (wa_lanes : Int32) (wa_beasts : Int32) (x1 : Int32) (mo_put : Nat → Int32) : Option (Int32 × (Nat → Int32)) :=
  k10 (x1 + (-1)) mo_put
noncomputable def f_X13_nextPut_b10 (mo_v : Nat → Int32) (wa_lanes : Int32) (wa_beasts : Int32) (k10 : Int32 → (Nat → Int32) → Option (Int32 × (Nat → Int32))) (x1 : Int32) (mo_put : Nat → Int32) : Option (Int32 × (Nat → Int32)) :=
  (if x1 < 0 then
  some (0, mo_put)
  else
  bd1 (f_X13_isDead mo_v x1) fun r_1 =>
  (if r_1 = 0 then
  gIn x1 5 <|
  gIn x1 5 <|
  gIn x1 5 <|
  (if wa_lanes < ((upd mo_put x1.toNatClampNeg ((mo_put x1.toNatClampNeg) + 1)) x1.toNatClampNeg) then
  gIn x1 5 <|
  f_X13_nextPut_B60 k10 mo_v wa_lanes wa_beasts x1 (upd (upd mo_put x1.toNatClampNeg ((mo_put x1.toNatClampNeg) + 1)) x1.toNatClampNeg 0)
  else
  some (1, upd mo_put x1.toNatClampNeg ((mo_put x1.toNatClampNeg) + 1)))
  else
  f_X13_nextPut_B60 k10 mo_v wa_lanes wa_beasts x1 mo_put))
noncomputable def f_X13_nextPut_L10 (mo_v : Nat → Int32) (wa_lanes : Int32) (wa_beasts : Int32) : Nat → Int32 → (Nat → Int32) → Option (Int32 × (Nat → Int32))
  | 0 => fun _ _ => none
  | n + 1 => f_X13_nextPut_b10 mo_v wa_lanes wa_beasts (f_X13_nextPut_L10 mo_v wa_lanes wa_beasts n)
noncomputable def f_X13_nextPut (mo_v : Nat → Int32) (mo_put : Nat → Int32) (wa_lanes : Int32) (wa_beasts : Int32) : Option (Int32 × (Nat → Int32)) :=
  f_X13_nextPut_L10 mo_v wa_lanes wa_beasts fuelN (wa_beasts - 1) mo_put
noncomputable def f_X13_priceOf_B37 (k4 : Int32 → Int32 → Option (Int32)) (wa_beasts : Int32) (wa_price : Nat → Int32) (x1 : Int32) (x3 : Int32) (t0 : Int32) (t1 : Int32) : Option (Int32) :=
  k4 (t0 + t1) (x3 + 1)
noncomputable def f_X13_priceOf_b4 (wa_beasts : Int32) (wa_price : Nat → Int32) (x1 : Int32) (k4 : Int32 → Int32 → Option (Int32)) (x2 : Int32) (x3 : Int32) : Option (Int32) :=
  (if wa_beasts ≤ x3 then
  some (x2)
  else
  bd1 (f_X13_bit  x1 x3) fun r_1 =>
  (if r_1 = 0 then
  f_X13_priceOf_B37 k4 wa_beasts wa_price x1 x3 x2 0
  else
  gIn x3 5 <|
  f_X13_priceOf_B37 k4 wa_beasts wa_price x1 x3 x2 (wa_price x3.toNatClampNeg)))
noncomputable def f_X13_priceOf_L4 (wa_beasts : Int32) (wa_price : Nat → Int32) (x1 : Int32) : Nat → Int32 → Int32 → Option (Int32)
  | 0 => fun _ _ => none
  | n + 1 => f_X13_priceOf_b4 wa_beasts wa_price x1 (f_X13_priceOf_L4 wa_beasts wa_price x1 n)
noncomputable def f_X13_priceOf (wa_beasts : Int32) (wa_price : Nat → Int32) (p1 : Int32) : Option (Int32) :=
  f_X13_priceOf_L4 wa_beasts wa_price p1 fuelN 0 0
noncomputable def f_X13_sold_B58 (k5 : Int32 → Int32 → Option (Int32)) (mo_v : Nat → Int32) (wa_beasts : Int32) (wa_price : Nat → Int32) (x1 : Int32) (x2 : Int32) (x3 : Int32) : Option (Int32) :=
  k5 x2 (x3 + 1)
noncomputable def f_X13_sold_B56 (k5 : Int32 → Int32 → Option (Int32)) (mo_v : Nat → Int32) (wa_beasts : Int32) (wa_price : Nat → Int32) (x1 : Int32) (x3 : Int32) : Option (Int32) :=
  f_X13_sold_B58 k5 mo_v wa_beasts wa_price x1 x3 x3
noncomputable def f_X13_sold_b5 (mo_v : Nat → Int32) (wa_beasts : Int32) (wa_price : Nat → Int32) (x1 : Int32) (k5 : Int32 → Int32 → Option (Int32)) (x2 : Int32) (x3 : Int32) : Option (Int32) :=
  (if ((1 : Int32) <<< (wa_beasts &&& 31)) ≤ x3 then
  some (x2)
  else
  (if (x3 &&& (mo_v (10 : Int32).toNatClampNeg)) = 0 then
  bd1 (f_X13_priceOf wa_beasts wa_price x3) fun r_1 =>
  (if r_1 < x1 then
  f_X13_sold_B58 k5 mo_v wa_beasts wa_price x1 x2 x3
  else
  (if x2 = (-2) then
  f_X13_sold_B56 k5 mo_v wa_beasts wa_price x1 x3
  else
  bd1 (f_X13_bits  x3) fun r_3 =>
  bd1 (f_X13_bits  x2) fun r_5 =>
  (if r_5 ≤ r_3 then
  f_X13_sold_B58 k5 mo_v wa_beasts wa_price x1 x2 x3
  else
  f_X13_sold_B56 k5 mo_v wa_beasts wa_price x1 x3)))
  else
  f_X13_sold_B58 k5 mo_v wa_beasts wa_price x1 x2 x3))
noncomputable def f_X13_sold_L5 (mo_v : Nat → Int32) (wa_beasts : Int32) (wa_price : Nat → Int32) (x1 : Int32) : Nat → Int32 → Int32 → Option (Int32)
  | 0 => fun _ _ => none
  | n + 1 => f_X13_sold_b5 mo_v wa_beasts wa_price x1 (f_X13_sold_L5 mo_v wa_beasts wa_price x1 n)
noncomputable def f_X13_sold (mo_v : Nat → Int32) (wa_beasts : Int32) (wa_price : Nat → Int32) (p1 : Int32) : Option (Int32) :=
  f_X13_sold_L5 mo_v wa_beasts wa_price p1 fuelN (-2) 0
noncomputable def f_X13_sale (mo_thrown : Int32) (mo_trouble : Int32) (mo_where : Int32) (mo_v : Nat → Int32) (wa_beasts : Int32) (wa_price : Nat → Int32) (p1 : Int32) : Option (Int32 × Int32 × Int32 × Int32) :=
  bd1 (f_X13_in  p1 (0 : Int32) (500 : Int32)) fun r_1 =>
  (if r_1 = 0 then
  bd3 (f_X13_refused mo_trouble mo_where (2 : Int32)) fun r_4 mo_trouble_5 mo_where_6 =>
  some (r_4, 0, mo_trouble_5, mo_where_6)
  else
  bd1 (f_X13_sold mo_v wa_beasts wa_price p1) fun r_8 =>
  bd3 (f_X13_good mo_trouble mo_where r_8) fun r_10 mo_trouble_11 mo_where_12 =>
  some (r_10, 0, mo_trouble_11, mo_where_12))
noncomputable def f_X13_saleOver (mo_thrown : Int32) (mo_trouble : Int32) (mo_where : Int32) (mo_v : Nat → Int32) (wa_beasts : Int32) (wa_price : Nat → Int32) (p1 : Int32) : Option (Int32 × Int32 × Int32 × Int32) :=
  bd1 (f_X13_in  p1 (0 : Int32) (500 : Int32)) fun r_1 =>
  (if r_1 = 0 then
  bd3 (f_X13_refused mo_trouble mo_where (2 : Int32)) fun r_16 mo_trouble_17 mo_where_18 =>
  some (r_16, 0, mo_trouble_17, mo_where_18)
  else
  bd1 (f_X13_sold mo_v wa_beasts wa_price p1) fun r_4 =>
  (if r_4 = (-2) then
  bd3 (f_X13_refused mo_trouble mo_where (6 : Int32)) fun r_12 mo_trouble_13 mo_where_14 =>
  some (r_12, 0, mo_trouble_13, mo_where_14)
  else
  bd1 (f_X13_priceOf wa_beasts wa_price r_4) fun r_6 =>
  bd3 (f_X13_good mo_trouble mo_where (r_6 - p1)) fun r_8 mo_trouble_9 mo_where_10 =>
  some (r_8, 0, mo_trouble_9, mo_where_10)))
noncomputable def f_X13_over (p0 : Int32) (p1 : Int32) : Option (Int32) :=
  some ((p0 * (100 - p1)) / 100)
noncomputable def f_X13_comes_b35 (mo_row : Nat → Int32) (mo_left : Nat → Int32) (x1 : Int32) (mo_bestSize : Int32) (mo_bestLeft : Int32) (k35 : Int32 → (Nat → Int32) → Option (Int32 × Int32 × (Nat → Int32))) (x2 : Int32) (mo_best : Nat → Int32) : Option (Int32 × Int32 × (Nat → Int32)) :=
  (if x1 ≤ x2 then
  some (mo_bestSize, mo_bestLeft, mo_best)
  else
  gIn x2 6 <|
  gIn x2 6 <|
  k35 (x2 + 1) (upd mo_best x2.toNatClampNeg (mo_row x2.toNatClampNeg)))
noncomputable def f_X13_comes_L35 (mo_row : Nat → Int32) (mo_left : Nat → Int32) (x1 : Int32) (mo_bestSize : Int32) (mo_bestLeft : Int32) : Nat → Int32 → (Nat → Int32) → Option (Int32 × Int32 × (Nat → Int32))
  | 0 => fun _ _ => none
  | n + 1 => f_X13_comes_b35 mo_row mo_left x1 mo_bestSize mo_bestLeft (f_X13_comes_L35 mo_row mo_left x1 mo_bestSize mo_bestLeft n)
noncomputable def f_X13_comes (mo_bestSize : Int32) (mo_bestLeft : Int32) (mo_row : Nat → Int32) (mo_best : Nat → Int32) (mo_left : Nat → Int32) (p1 : Int32) : Option (Int32 × Int32 × (Nat → Int32)) :=
  gIn (p1 - 1) 6 <|
  (if mo_bestLeft < (mo_left (p1 - 1).toNatClampNeg) then
  gIn (p1 - 1) 6 <|
  f_X13_comes_L35 mo_row mo_left p1 p1 (mo_left (p1 - 1).toNatClampNeg) fuelN 0 mo_best
  else
  some (mo_bestSize, mo_bestLeft, mo_best))
noncomputable def f_X13_refusesMarch_B16 (wa_cities : Int32) : Option (Int32) :=
  some (1)
noncomputable def f_X13_refusesMarch (wa_cities : Int32) (p1 : Int32) (p2 : Int32) (p3 : Int32) : Option (Int32) :=
  bd1 (f_X13_isCity wa_cities p1) fun r_1 =>
  (if r_1 = 0 then
  f_X13_refusesMarch_B16 wa_cities
  else
  bd1 (f_X13_isCity wa_cities p2) fun r_4 =>
  (if r_4 = 0 then
  f_X13_refusesMarch_B16 wa_cities
  else
  bd1 (f_X13_in  p3 (0 : Int32) (999 : Int32)) fun r_7 =>
  (if r_7 = 0 then
  some (2)
  else
  some (0))))
noncomputable def f_X13_reach_B121 (wa_cities : Int32) (wa_loses : Nat → Int32) (x2 : Int32) (mo_thrown : Int32) (mo_trouble : Int32) (mo_where : Int32) : Option (Int32 × Int32 × Int32 × Int32) :=
  bd3 (f_X13_good mo_trouble mo_where x2) fun r_4 mo_trouble_5 mo_where_6 =>
  some (r_4, mo_thrown, mo_trouble_5, mo_where_6)
noncomputable def f_X13_reach_B115 (k25 : Int32 → Int32 → Option (Int32 × Int32 × Int32 × Int32)) (wa_cities : Int32) (wa_loses : Nat → Int32) (x2 : Int32) (x3 : Int32) (mo_thrown : Int32) (mo_trouble : Int32) (mo_where : Int32) : Option (Int32 × Int32 × Int32 × Int32) :=
  k25 x2 (x3 + 1)
noncomputable def f_X13_reach_B109 (k25 : Int32 → Int32 → Option (Int32 × Int32 × Int32 × Int32)) (k34 : Int32 → Int32 → Option (Int32 × Int32 × Int32 × Int32)) (wa_cities : Int32) (wa_loses : Nat → Int32) (x2 : Int32) (x3 : Int32) (x4 : Int32) (mo_thrown : Int32) (mo_trouble : Int32) (mo_where : Int32) : Option (Int32 × Int32 × Int32 × Int32) :=
  k34 x2 (x4 + 1)
noncomputable def f_X13_reach_b34 (k25 : Int32 → Int32 → Option (Int32 × Int32 × Int32 × Int32)) (wa_cities : Int32) (wa_loses : Nat → Int32) (x3 : Int32) (mo_thrown : Int32) (mo_trouble : Int32) (mo_where : Int32) (k34 : Int32 → Int32 → Option (Int32 × Int32 × Int32 × Int32)) (x2 : Int32) (x4 : Int32) : Option (Int32 × Int32 × Int32 × Int32) :=
  (if 36 ≤ x4 then
  f_X13_reach_B115 k25 wa_cities wa_loses x2 x3 mo_thrown mo_trouble mo_where
  else
  (if wa_cities ≤ (x4 / 6) then
  f_X13_reach_B109 k25 k34 wa_cities wa_loses x2 x3 x4 mo_thrown mo_trouble mo_where
  else
  (if wa_cities ≤ (x4 - x4 / 6 * 6) then
  f_X13_reach_B109 k25 k34 wa_cities wa_loses x2 x3 x4 mo_thrown mo_trouble mo_where
  else
  bd1 (f_X13_bit  x2 (x4 / 6)) fun r_8 =>
  (if r_8 = 0 then
  f_X13_reach_B109 k25 k34 wa_cities wa_loses x2 x3 x4 mo_thrown mo_trouble mo_where
  else
  gIn x4 36 <|
  (if (wa_loses x4.toNatClampNeg) = (-1) then
  f_X13_reach_B109 k25 k34 wa_cities wa_loses x2 x3 x4 mo_thrown mo_trouble mo_where
  else
  f_X13_reach_B109 k25 k34 wa_cities wa_loses (x2 ||| ((1 : Int32) <<< ((x4 - x4 / 6 * 6) &&& 31))) x3 x4 mo_thrown mo_trouble mo_where)))))
noncomputable def f_X13_reach_L34 (k25 : Int32 → Int32 → Option (Int32 × Int32 × Int32 × Int32)) (wa_cities : Int32) (wa_loses : Nat → Int32) (x3 : Int32) (mo_thrown : Int32) (mo_trouble : Int32) (mo_where : Int32) : Nat → Int32 → Int32 → Option (Int32 × Int32 × Int32 × Int32)
  | 0 => fun _ _ => none
  | n + 1 => f_X13_reach_b34 k25 wa_cities wa_loses x3 mo_thrown mo_trouble mo_where (f_X13_reach_L34 k25 wa_cities wa_loses x3 mo_thrown mo_trouble mo_where n)
noncomputable def f_X13_reach_b25 (wa_cities : Int32) (wa_loses : Nat → Int32) (mo_thrown : Int32) (mo_trouble : Int32) (mo_where : Int32) (k25 : Int32 → Int32 → Option (Int32 × Int32 × Int32 × Int32)) (x2 : Int32) (x3 : Int32) : Option (Int32 × Int32 × Int32 × Int32) :=
  (if 6 ≤ x3 then
  f_X13_reach_B121 wa_cities wa_loses x2 mo_thrown mo_trouble mo_where
  else
  f_X13_reach_L34 k25 wa_cities wa_loses x3 mo_thrown mo_trouble mo_where fuelN x2 0)
noncomputable def f_X13_reach_L25 (wa_cities : Int32) (wa_loses : Nat → Int32) (mo_thrown : Int32) (mo_trouble : Int32) (mo_where : Int32) : Nat → Int32 → Int32 → Option (Int32 × Int32 × Int32 × Int32)
  | 0 => fun _ _ => none
  | n + 1 => f_X13_reach_b25 wa_cities wa_loses mo_thrown mo_trouble mo_where (f_X13_reach_L25 wa_cities wa_loses mo_thrown mo_trouble mo_where n)
noncomputable def f_X13_reach (mo_thrown : Int32) (mo_trouble : Int32) (mo_where : Int32) (wa_cities : Int32) (wa_loses : Nat → Int32) (p1 : Int32) : Option (Int32 × Int32 × Int32 × Int32) :=
  bd1 (f_X13_isCity wa_cities p1) fun r_1 =>
  (if r_1 = 0 then
  bd3 (f_X13_refused mo_trouble mo_where (1 : Int32)) fun r_12 mo_trouble_13 mo_where_14 =>
  some (r_12, 0, mo_trouble_13, mo_where_14)
  else
  f_X13_reach_L25 wa_cities wa_loses 0 mo_trouble mo_where fuelN ((1 : Int32) <<< (p1 &&& 31)) 0)
noncomputable def f_X13_leaves (mo_sets : Int32) (mo_counts : Nat → Int32) (p1 : Int32) : Option (Int32) :=
  gIn p1 5 <|
  gIn p1 5 <|
  (if (mo_counts p1.toNatClampNeg) ≤ (mo_sets - (mo_counts p1.toNatClampNeg)) then
  gIn p1 5 <|
  some (mo_sets - (mo_counts p1.toNatClampNeg))
  else
  gIn p1 5 <|
  some (mo_counts p1.toNatClampNeg))
noncomputable def f_X13_refusesBattles (p1 : Int32) (p2 : Int32) (p3 : Int32) : Option (Int32) :=
  (if p1 = 0 then
  some (1)
  else
  bd1 (f_X13_in  p2 (0 : Int32) (65536 : Int32)) fun r_1 =>
  (if r_1 = 0 then
  some (2)
  else
  bd1 (f_X13_in  p3 (1 : Int32) (90 : Int32)) fun r_4 =>
  (if r_4 = 0 then
  some (2)
  else
  some (0))))
noncomputable def f_X13_remembers_B83 (mo_v : Nat → Int32) (mo_acts : Int32) (mo_past : Nat → Int32) : Option (Int32 × (Nat → Int32)) :=
  some (mo_acts + 1, mo_past)
noncomputable def f_X13_remembers_b51 (mo_v : Nat → Int32) (mo_acts : Int32) (k51 : Int32 → (Nat → Int32) → Option (Int32 × (Nat → Int32))) (x1 : Int32) (mo_past : Nat → Int32) : Option (Int32 × (Nat → Int32)) :=
  (if 19 ≤ x1 then
  f_X13_remembers_B83 mo_v mo_acts mo_past
  else
  gIn x1 19 <|
  gIn ((19 * mo_acts) + x1) 304 <|
  k51 (x1 + 1) (upd mo_past ((19 * mo_acts) + x1).toNatClampNeg (mo_v x1.toNatClampNeg)))
noncomputable def f_X13_remembers_L51 (mo_v : Nat → Int32) (mo_acts : Int32) : Nat → Int32 → (Nat → Int32) → Option (Int32 × (Nat → Int32))
  | 0 => fun _ _ => none
  | n + 1 => f_X13_remembers_b51 mo_v mo_acts (f_X13_remembers_L51 mo_v mo_acts n)
noncomputable def f_X13_remembers_B49 (mo_v : Nat → Int32) (mo_acts : Int32) (mo_past : Nat → Int32) : Option (Int32 × (Nat → Int32)) :=
  f_X13_remembers_L51 mo_v mo_acts fuelN 0 mo_past
noncomputable def f_X13_remembers_B39 (mo_v : Nat → Int32) (mo_acts : Int32) (mo_past : Nat → Int32) : Option (Int32 × (Nat → Int32)) :=
  f_X13_remembers_B49 mo_v (mo_acts - 1) mo_past
noncomputable def f_X13_remembers_b11 (mo_v : Nat → Int32) (mo_acts : Int32) (k11 : Int32 → (Nat → Int32) → Option (Int32 × (Nat → Int32))) (x1 : Int32) (mo_past : Nat → Int32) : Option (Int32 × (Nat → Int32)) :=
  (if 285 ≤ x1 then
  f_X13_remembers_B39 mo_v mo_acts mo_past
  else
  gIn (x1 + 19) 304 <|
  gIn x1 304 <|
  k11 (x1 + 1) (upd mo_past x1.toNatClampNeg (mo_past (x1 + 19).toNatClampNeg)))
noncomputable def f_X13_remembers_L11 (mo_v : Nat → Int32) (mo_acts : Int32) : Nat → Int32 → (Nat → Int32) → Option (Int32 × (Nat → Int32))
  | 0 => fun _ _ => none
  | n + 1 => f_X13_remembers_b11 mo_v mo_acts (f_X13_remembers_L11 mo_v mo_acts n)
noncomputable def f_X13_remembers (mo_acts : Int32) (mo_v : Nat → Int32) (mo_past : Nat → Int32) : Option (Int32 × (Nat → Int32)) :=
  (if mo_acts = 16 then
  f_X13_remembers_L11 mo_v mo_acts fuelN 0 mo_past
  else
  f_X13_remembers_B49 mo_v mo_acts mo_past)
noncomputable def f_X13_move_B21 (wa_lanes : Int32) (wa_beasts : Int32) (mo_thrown : Int32) (mo_trouble : Int32) (mo_where : Int32) (mo_acts : Int32) (mo_v : Nat → Int32) (mo_past : Nat → Int32) : Option (Int32 × Int32 × Int32 × Int32 × Int32 × (Nat → Int32) × (Nat → Int32)) :=
  bd3 (f_X13_denied mo_trouble mo_where (1 : Int32)) fun r_4 mo_trouble_5 mo_where_6 =>
  some (r_4, mo_thrown, mo_trouble_5, mo_where_6, mo_acts, mo_v, mo_past)
noncomputable def f_X13_move_B47 (wa_lanes : Int32) (wa_beasts : Int32) (mo_thrown : Int32) (mo_trouble : Int32) (mo_where : Int32) (mo_acts : Int32) (mo_v : Nat → Int32) (mo_past : Nat → Int32) : Option (Int32 × Int32 × Int32 × Int32 × Int32 × (Nat → Int32) × (Nat → Int32)) :=
  bd3 (f_X13_denied mo_trouble mo_where (5 : Int32)) fun r_13 mo_trouble_14 mo_where_15 =>
  some (r_13, mo_thrown, mo_trouble_14, mo_where_15, mo_acts, mo_v, mo_past)
noncomputable def f_X13_move (mo_thrown : Int32) (mo_trouble : Int32) (mo_where : Int32) (mo_acts : Int32) (mo_v : Nat → Int32) (mo_past : Nat → Int32) (wa_lanes : Int32) (wa_beasts : Int32) (p1 : Int32) (p2 : Int32) : Option (Int32 × Int32 × Int32 × Int32 × Int32 × (Nat → Int32) × (Nat → Int32)) :=
  bd1 (f_X13_isBeast wa_beasts p1) fun r_1 =>
  (if r_1 = 0 then
  f_X13_move_B21 wa_lanes wa_beasts 0 mo_trouble mo_where mo_acts mo_v mo_past
  else
  bd1 (f_X13_isLane wa_lanes p2) fun r_9 =>
  (if r_9 = 0 then
  f_X13_move_B21 wa_lanes wa_beasts 0 mo_trouble mo_where mo_acts mo_v mo_past
  else
  gIn (0 + p1) 19 <|
  (if (mo_v (0 + p1).toNatClampNeg) = p2 then
  f_X13_move_B47 wa_lanes wa_beasts 0 mo_trouble mo_where mo_acts mo_v mo_past
  else
  bd1 (f_X13_isDead mo_v p1) fun r_18 =>
  (if r_18 = 0 then
  bd2 (f_X13_remembers mo_acts mo_v mo_past) fun mo_acts_21 mo_past_22 =>
  gIn (0 + p1) 19 <|
  bd3 (f_X13_granted mo_trouble mo_where) fun r_25 mo_trouble_26 mo_where_27 =>
  some (r_25, 0, mo_trouble_26, mo_where_27, mo_acts_21, upd mo_v (0 + p1).toNatClampNeg p2, mo_past_22)
  else
  f_X13_move_B47 wa_lanes wa_beasts 0 mo_trouble mo_where mo_acts mo_v mo_past))))
noncomputable def f_X13_wound (mo_thrown : Int32) (mo_trouble : Int32) (mo_where : Int32) (mo_acts : Int32) (mo_v : Nat → Int32) (mo_past : Nat → Int32) (wa_beasts : Int32) (wa_kind : Nat → Int32) (p1 : Int32) (p2 : Int32) : Option (Int32 × Int32 × Int32 × Int32 × Int32 × (Nat → Int32) × (Nat → Int32)) :=
  bd1 (f_X13_isBeast wa_beasts p1) fun r_1 =>
  (if r_1 = 0 then
  bd3 (f_X13_refused mo_trouble mo_where (1 : Int32)) fun r_29 mo_trouble_30 mo_where_31 =>
  some (r_29, 0, mo_trouble_30, mo_where_31, mo_acts, mo_v, mo_past)
  else
  bd1 (f_X13_in  p2 (1 : Int32) (30 : Int32)) fun r_4 =>
  (if r_4 = 0 then
  bd3 (f_X13_refused mo_trouble mo_where (2 : Int32)) fun r_25 mo_trouble_26 mo_where_27 =>
  some (r_25, 0, mo_trouble_26, mo_where_27, mo_acts, mo_v, mo_past)
  else
  bd1 (f_X13_isDead mo_v p1) fun r_7 =>
  (if r_7 = 0 then
  bd2 (f_X13_remembers mo_acts mo_v mo_past) fun mo_acts_10 mo_past_11 =>
  gIn (5 + p1) 19 <|
  gIn (5 + p1) 19 <|
  bd1 (f_X13_forceOf (upd mo_v (5 + p1).toNatClampNeg ((mo_v (5 + p1).toNatClampNeg) + p2)) wa_kind p1) fun r_15 =>
  bd3 (f_X13_good mo_trouble mo_where r_15) fun r_17 mo_trouble_18 mo_where_19 =>
  some (r_17, 0, mo_trouble_18, mo_where_19, mo_acts_10, upd mo_v (5 + p1).toNatClampNeg ((mo_v (5 + p1).toNatClampNeg) + p2), mo_past_11)
  else
  bd3 (f_X13_refused mo_trouble mo_where (5 : Int32)) fun r_21 mo_trouble_22 mo_where_23 =>
  some (r_21, 0, mo_trouble_22, mo_where_23, mo_acts, mo_v, mo_past))))
noncomputable def f_X13_hammer (mo_thrown : Int32) (mo_trouble : Int32) (mo_where : Int32) (mo_acts : Int32) (mo_v : Nat → Int32) (mo_past : Nat → Int32) (wa_beasts : Int32) (p1 : Int32) : Option (Int32 × Int32 × Int32 × Int32 × Int32 × (Nat → Int32) × (Nat → Int32)) :=
  bd1 (f_X13_isBeast wa_beasts p1) fun r_1 =>
  (if r_1 = 0 then
  bd3 (f_X13_denied mo_trouble mo_where (1 : Int32)) fun r_20 mo_trouble_21 mo_where_22 =>
  some (r_20, 0, mo_trouble_21, mo_where_22, mo_acts, mo_v, mo_past)
  else
  bd1 (f_X13_isDead mo_v p1) fun r_4 =>
  (if r_4 = 0 then
  bd2 (f_X13_remembers mo_acts mo_v mo_past) fun mo_acts_7 mo_past_8 =>
  bd3 (f_X13_granted mo_trouble mo_where) fun r_10 mo_trouble_11 mo_where_12 =>
  some (r_10, 0, mo_trouble_11, mo_where_12, mo_acts_7, upd mo_v ((10 : Int32).toNatClampNeg) ((mo_v (10 : Int32).toNatClampNeg) ||| ((1 : Int32) <<< (p1 &&& 31))), mo_past_8)
  else
  bd3 (f_X13_denied mo_trouble mo_where (5 : Int32)) fun r_15 mo_trouble_16 mo_where_17 =>
  some (r_15, 0, mo_trouble_16, mo_where_17, mo_acts, mo_v, mo_past)))
noncomputable def f_X13_teach_B98 (wa_lanes : Int32) (wa_who : Nat → Int32) (x1 : Int32) (t1 : Int32) (t2 : Int32) (mo_thrown : Int32) (mo_trouble : Int32) (mo_where : Int32) (mo_acts : Int32) (mo_v : Nat → Int32) (mo_past : Nat → Int32) : Option (Int32 × Int32 × Int32 × Int32 × Int32 × (Nat → Int32) × (Nat → Int32)) :=
  gIn t1 19 <|
  gIn (11 + x1) 19 <|
  bd3 (f_X13_good mo_trouble mo_where ((upd mo_v t1.toNatClampNeg t2) (11 + x1).toNatClampNeg)) fun r_14 mo_trouble_15 mo_where_16 =>
  some (r_14, mo_thrown, mo_trouble_15, mo_where_16, mo_acts, upd mo_v t1.toNatClampNeg t2, mo_past)
