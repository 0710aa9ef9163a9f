noncomputable def f_X13_teach (mo_thrown : Int32) (mo_trouble : Int32) (mo_where : Int32) (mo_acts : Int32) (mo_v : Nat → Int32) (mo_past : Nat → Int32) (wa_lanes : Int32) (wa_who : Nat → Int32) (p1 : Int32) (p2 : Int32) : Option (Int32 × Int32 × Int32 × Int32 × Int32 × (Nat → Int32) × (Nat → Int32)) :=
  bd1 (f_X13_isLane wa_lanes p1) fun r_1 =>
  (if r_1 = 0 then
  bd3 (f_X13_refused mo_trouble mo_where (1 : Int32)) fun r_27 mo_trouble_28 mo_where_29 =>
  some (r_27, 0, mo_trouble_28, mo_where_29, mo_acts, mo_v, mo_past)
  else
  bd1 (f_X13_in  p2 (1 : Int32) (30 : Int32)) fun r_4 =>
  (if r_4 = 0 then
  bd3 (f_X13_refused mo_trouble mo_where (2 : Int32)) fun r_23 mo_trouble_24 mo_where_25 =>
  some (r_23, 0, mo_trouble_24, mo_where_25, mo_acts, mo_v, mo_past)
  else
  gIn p1 6 <|
  (if (wa_who p1.toNatClampNeg) = 3 then
  bd2 (f_X13_remembers mo_acts mo_v mo_past) fun mo_acts_8 mo_past_9 =>
  gIn (11 + p1) 19 <|
  (if 30 ≤ ((mo_v (11 + p1).toNatClampNeg) + p2) then
  f_X13_teach_B98 wa_lanes wa_who p1 (11 + p1) 30 0 mo_trouble mo_where mo_acts_8 mo_v mo_past_9
  else
  gIn (11 + p1) 19 <|
  f_X13_teach_B98 wa_lanes wa_who p1 (11 + p1) ((mo_v (11 + p1).toNatClampNeg) + p2) 0 mo_trouble mo_where mo_acts_8 mo_v mo_past_9)
  else
  bd3 (f_X13_refused mo_trouble mo_where (5 : Int32)) fun r_19 mo_trouble_20 mo_where_21 =>
  some (r_19, 0, mo_trouble_20, mo_where_21, mo_acts, mo_v, mo_past))))
noncomputable def f_X13_rain_B63 (t1 : Int32) (t2 : Int32) (mo_thrown : Int32) (mo_trouble : Int32) (mo_where : Int32) (mo_acts : Int32) (mo_v : Nat → Int32) (mo_past : Nat → Int32) : Option (Int32 × Int32 × Int32 × Int32 × Int32 × (Nat → Int32) × (Nat → Int32)) :=
  gIn t1 19 <|
  bd3 (f_X13_granted mo_trouble mo_where) fun r_5 mo_trouble_6 mo_where_7 =>
  some (r_5, mo_thrown, mo_trouble_6, mo_where_7, mo_acts, upd mo_v t1.toNatClampNeg t2, mo_past)
noncomputable def f_X13_rain_B34 (x1 : Int32) (t0 : Int32) (mo_thrown : Int32) (mo_trouble : Int32) (mo_where : Int32) (mo_acts : Int32) (mo_v : Nat → Int32) (mo_past : Nat → Int32) : Option (Int32 × Int32 × Int32 × Int32 × Int32 × (Nat → Int32) × (Nat → Int32)) :=
  (if t0 = x1 then
  bd3 (f_X13_denied mo_trouble mo_where (5 : Int32)) fun r_10 mo_trouble_11 mo_where_12 =>
  some (r_10, mo_thrown, mo_trouble_11, mo_where_12, mo_acts, mo_v, mo_past)
  else
  bd2 (f_X13_remembers mo_acts mo_v mo_past) fun mo_acts_1 mo_past_2 =>
  (if x1 = 0 then
  f_X13_rain_B63 17 0 mo_thrown mo_trouble mo_where mo_acts_1 mo_v mo_past_2
  else
  f_X13_rain_B63 17 1 mo_thrown mo_trouble mo_where mo_acts_1 mo_v mo_past_2))
noncomputable def f_X13_rain (mo_thrown : Int32) (mo_trouble : Int32) (mo_where : Int32) (mo_acts : Int32) (mo_v : Nat → Int32) (mo_past : Nat → Int32) (p1 : Int32) : Option (Int32 × Int32 × Int32 × Int32 × Int32 × (Nat → Int32) × (Nat → Int32)) :=
  (if (mo_v (17 : Int32).toNatClampNeg) = 1 then
  f_X13_rain_B34 p1 1 0 mo_trouble mo_where mo_acts mo_v mo_past
  else
  f_X13_rain_B34 p1 0 0 mo_trouble mo_where mo_acts mo_v mo_past)
noncomputable def f_X13_seed (mo_thrown : Int32) (mo_trouble : Int32) (mo_where : Int32) (mo_v : Nat → Int32) (p1 : Int32) : Option (Int32 × Int32 × Int32 × Int32 × (Nat → Int32)) :=
  bd1 (f_X13_in  p1 (0 : Int32) (65536 : Int32)) fun r_1 =>
  (if r_1 = 0 then
  bd3 (f_X13_denied mo_trouble mo_where (2 : Int32)) fun r_9 mo_trouble_10 mo_where_11 =>
  some (r_9, 0, mo_trouble_10, mo_where_11, mo_v)
  else
  bd3 (f_X13_granted mo_trouble mo_where) fun r_4 mo_trouble_5 mo_where_6 =>
  some (r_4, 0, mo_trouble_5, mo_where_6, upd mo_v ((18 : Int32).toNatClampNeg) p1))
noncomputable def f_X13_undo_B70 (mo_past : Nat → Int32) (mo_thrown : Int32) (mo_trouble : Int32) (mo_where : Int32) (mo_acts : Int32) (mo_v : Nat → Int32) : Option (Int32 × Int32 × Int32 × Int32 × Int32 × (Nat → Int32)) :=
  bd3 (f_X13_granted mo_trouble mo_where) fun r_1 mo_trouble_2 mo_where_3 =>
  some (r_1, mo_thrown, mo_trouble_2, mo_where_3, mo_acts, mo_v)
noncomputable def f_X13_undo_b38 (mo_past : Nat → Int32) (mo_thrown : Int32) (mo_trouble : Int32) (mo_where : Int32) (mo_acts : Int32) (k38 : Int32 → (Nat → Int32) → Option (Int32 × Int32 × Int32 × Int32 × Int32 × (Nat → Int32))) (x1 : Int32) (mo_v : Nat → Int32) : Option (Int32 × Int32 × Int32 × Int32 × Int32 × (Nat → Int32)) :=
  (if 19 ≤ x1 then
  f_X13_undo_B70 mo_past mo_thrown mo_trouble mo_where mo_acts mo_v
  else
  gIn ((19 * mo_acts) + x1) 304 <|
  gIn x1 19 <|
  k38 (x1 + 1) (upd mo_v x1.toNatClampNeg (mo_past ((19 * mo_acts) + x1).toNatClampNeg)))
noncomputable def f_X13_undo_L38 (mo_past : Nat → Int32) (mo_thrown : Int32) (mo_trouble : Int32) (mo_where : Int32) (mo_acts : Int32) : Nat → Int32 → (Nat → Int32) → Option (Int32 × Int32 × Int32 × Int32 × Int32 × (Nat → Int32))
  | 0 => fun _ _ => none
  | n + 1 => f_X13_undo_b38 mo_past mo_thrown mo_trouble mo_where mo_acts (f_X13_undo_L38 mo_past mo_thrown mo_trouble mo_where mo_acts n)
noncomputable def f_X13_undo (mo_thrown : Int32) (mo_trouble : Int32) (mo_where : Int32) (mo_acts : Int32) (mo_v : Nat → Int32) (mo_past : Nat → Int32) : Option (Int32 × Int32 × Int32 × Int32 × Int32 × (Nat → Int32)) :=
  (if mo_acts = 0 then
  bd3 (f_X13_denied mo_trouble mo_where (6 : Int32)) fun r_8 mo_trouble_9 mo_where_10 =>
  some (r_8, 0, mo_trouble_9, mo_where_10, mo_acts, mo_v)
  else
  f_X13_undo_L38 mo_past 0 mo_trouble mo_where (mo_acts - 1) fuelN 0 mo_v)
noncomputable def f_X13_mark_B66 (mo_v : Nat → Int32) (mo_thrown : Int32) (mo_trouble : Int32) (mo_where : Int32) (mo_marks : Int32) (mo_kept : Nat → Int32) : Option (Int32 × Int32 × Int32 × Int32 × Int32 × (Nat → Int32)) :=
  bd3 (f_X13_good mo_trouble mo_where ((mo_marks + 1) - 1)) fun r_1 mo_trouble_2 mo_where_3 =>
  some (r_1, mo_thrown, mo_trouble_2, mo_where_3, mo_marks + 1, mo_kept)
noncomputable def f_X13_mark_b34 (mo_v : Nat → Int32) (mo_thrown : Int32) (mo_trouble : Int32) (mo_where : Int32) (mo_marks : Int32) (k34 : Int32 → (Nat → Int32) → Option (Int32 × Int32 × Int32 × Int32 × Int32 × (Nat → Int32))) (x1 : Int32) (mo_kept : Nat → Int32) : Option (Int32 × Int32 × Int32 × Int32 × Int32 × (Nat → Int32)) :=
  (if 19 ≤ x1 then
  f_X13_mark_B66 mo_v mo_thrown mo_trouble mo_where mo_marks mo_kept
  else
  gIn x1 19 <|
  gIn ((19 * mo_marks) + x1) 57 <|
  k34 (x1 + 1) (upd mo_kept ((19 * mo_marks) + x1).toNatClampNeg (mo_v x1.toNatClampNeg)))
noncomputable def f_X13_mark_L34 (mo_v : Nat → Int32) (mo_thrown : Int32) (mo_trouble : Int32) (mo_where : Int32) (mo_marks : Int32) : Nat → Int32 → (Nat → Int32) → Option (Int32 × Int32 × Int32 × Int32 × Int32 × (Nat → Int32))
  | 0 => fun _ _ => none
  | n + 1 => f_X13_mark_b34 mo_v mo_thrown mo_trouble mo_where mo_marks (f_X13_mark_L34 mo_v mo_thrown mo_trouble mo_where mo_marks n)
noncomputable def f_X13_mark (mo_thrown : Int32) (mo_trouble : Int32) (mo_where : Int32) (mo_marks : Int32) (mo_v : Nat → Int32) (mo_kept : Nat → Int32) : Option (Int32 × Int32 × Int32 × Int32 × Int32 × (Nat → Int32)) :=
  (if mo_marks = 3 then
  bd3 (f_X13_refused mo_trouble mo_where (3 : Int32)) fun r_7 mo_trouble_8 mo_where_9 =>
  some (r_7, 0, mo_trouble_8, mo_where_9, mo_marks, mo_kept)
  else
  f_X13_mark_L34 mo_v 0 mo_trouble mo_where mo_marks fuelN 0 mo_kept)
noncomputable def f_X13_back_B24 (mo_marks : Int32) (mo_kept : Nat → Int32) (mo_thrown : Int32) (mo_trouble : Int32) (mo_where : Int32) (mo_acts : Int32) (mo_v : Nat → Int32) : Option (Int32 × Int32 × Int32 × Int32 × Int32 × (Nat → Int32)) :=
  bd3 (f_X13_denied mo_trouble mo_where (1 : Int32)) fun r_1 mo_trouble_2 mo_where_3 =>
  some (r_1, mo_thrown, mo_trouble_2, mo_where_3, mo_acts, mo_v)
noncomputable def f_X13_back_B61 (mo_marks : Int32) (mo_kept : Nat → Int32) (mo_thrown : Int32) (mo_trouble : Int32) (mo_where : Int32) (mo_acts : Int32) (mo_v : Nat → Int32) : Option (Int32 × Int32 × Int32 × Int32 × Int32 × (Nat → Int32)) :=
  bd3 (f_X13_granted mo_trouble mo_where) fun r_6 mo_trouble_7 mo_where_8 =>
  some (r_6, mo_thrown, mo_trouble_7, mo_where_8, 0, mo_v)
noncomputable def f_X13_back_b32 (mo_marks : Int32) (mo_kept : Nat → Int32) (x1 : Int32) (mo_thrown : Int32) (mo_trouble : Int32) (mo_where : Int32) (mo_acts : Int32) (k32 : Int32 → (Nat → Int32) → Option (Int32 × Int32 × Int32 × Int32 × Int32 × (Nat → Int32))) (x2 : Int32) (mo_v : Nat → Int32) : Option (Int32 × Int32 × Int32 × Int32 × Int32 × (Nat → Int32)) :=
  (if 19 ≤ x2 then
  f_X13_back_B61 mo_marks mo_kept mo_thrown mo_trouble mo_where mo_acts mo_v
  else
  gIn ((19 * x1) + x2) 57 <|
  gIn x2 19 <|
  k32 (x2 + 1) (upd mo_v x2.toNatClampNeg (mo_kept ((19 * x1) + x2).toNatClampNeg)))
noncomputable def f_X13_back_L32 (mo_marks : Int32) (mo_kept : Nat → Int32) (x1 : Int32) (mo_thrown : Int32) (mo_trouble : Int32) (mo_where : Int32) (mo_acts : Int32) : Nat → Int32 → (Nat → Int32) → Option (Int32 × Int32 × Int32 × Int32 × Int32 × (Nat → Int32))
  | 0 => fun _ _ => none
  | n + 1 => f_X13_back_b32 mo_marks mo_kept x1 mo_thrown mo_trouble mo_where mo_acts (f_X13_back_L32 mo_marks mo_kept x1 mo_thrown mo_trouble mo_where mo_acts n)
noncomputable def f_X13_back (mo_thrown : Int32) (mo_trouble : Int32) (mo_where : Int32) (mo_acts : Int32) (mo_marks : Int32) (mo_v : Nat → Int32) (mo_kept : Nat → Int32) (p1 : Int32) : Option (Int32 × Int32 × Int32 × Int32 × Int32 × (Nat → Int32)) :=
  (if p1 < 0 then
  f_X13_back_B24 mo_marks mo_kept 0 mo_trouble mo_where mo_acts mo_v
  else
  (if p1 < mo_marks then
  f_X13_back_L32 mo_marks mo_kept p1 0 mo_trouble mo_where mo_acts fuelN 0 mo_v
  else
  f_X13_back_B24 mo_marks mo_kept 0 mo_trouble mo_where mo_acts mo_v))
noncomputable def f_X13_led_B54 (mo_v : Nat → Int32) (wa_beasts : Int32) (mo_thrown : Int32) : Option (Int32 × Int32) :=
  some (0, 1)
noncomputable def f_X13_led_B48 (k9 : Int32 → Int32 → Option (Int32 × Int32)) (mo_v : Nat → Int32) (wa_beasts : Int32) (x1 : Int32) (x2 : Int32) (x3 : Int32) (mo_thrown : Int32) : Option (Int32 × Int32) :=
  k9 x2 (x3 + 1)
noncomputable def f_X13_led_b9 (mo_v : Nat → Int32) (wa_beasts : Int32) (x1 : Int32) (mo_thrown : Int32) (k9 : Int32 → Int32 → Option (Int32 × Int32)) (x2 : Int32) (x3 : Int32) : Option (Int32 × Int32) :=
  (if wa_beasts ≤ x3 then
  f_X13_led_B54 mo_v wa_beasts mo_thrown
  else
  bd1 (f_X13_isDead mo_v x3) fun r_1 =>
  (if r_1 = 0 then
  f_X13_led_B48 k9 mo_v wa_beasts x1 x2 x3 mo_thrown
  else
  (if x2 = x1 then
  some (x3, mo_thrown)
  else
  f_X13_led_B48 k9 mo_v wa_beasts x1 (x2 + 1) x3 mo_thrown)))
noncomputable def f_X13_led_L9 (mo_v : Nat → Int32) (wa_beasts : Int32) (x1 : Int32) (mo_thrown : Int32) : Nat → Int32 → Int32 → Option (Int32 × Int32)
  | 0 => fun _ _ => none
  | n + 1 => f_X13_led_b9 mo_v wa_beasts x1 mo_thrown (f_X13_led_L9 mo_v wa_beasts x1 mo_thrown n)
noncomputable def f_X13_led (mo_thrown : Int32) (mo_v : Nat → Int32) (wa_beasts : Int32) (p1 : Int32) : Option (Int32 × Int32) :=
  f_X13_led_L9 mo_v wa_beasts p1 0 fuelN 0 0
noncomputable def f_X13_size (mo_thrown : Int32) (mo_taped : Int32) (mo_acts : Int32) (mo_marks : Int32) (mo_v : Nat → Int32) (wa_lanes : Int32) (wa_deep : Int32) (wa_told : Int32) (wa_beasts : Int32) (wa_cities : Int32) (wa_passes : Int32) (wa_turned : Int32) (p1 : Int32) : Option (Int32 × Int32) :=
  (if p1 = 11 then
  some (mo_taped, 0)
  else
  bd1 (f_X13_in  p1 (0 : Int32) (10 : Int32)) fun r_1 =>
  (if r_1 = 0 then
  some ((-1), 0)
  else
  (if p1 = 0 then
  some (wa_lanes, 0)
  else
  (if p1 = 1 then
  some (wa_deep, 0)
  else
  (if p1 = 2 then
  some (wa_told, 0)
  else
  (if p1 = 3 then
  some (wa_beasts, 0)
  else
  (if p1 = 4 then
  some (wa_cities, 0)
  else
  (if p1 = 5 then
  some (wa_passes, 0)
  else
  (if p1 = 6 then
  bd1 (f_X13_bits  wa_turned) fun r_4 =>
  some (r_4, 0)
  else
  (if p1 = 7 then
  some (mo_v (17 : Int32).toNatClampNeg, 0)
  else
  (if p1 = 8 then
  some (mo_v (18 : Int32).toNatClampNeg, 0)
  else
  (if p1 = 9 then
  some (mo_acts, 0)
  else
  some (mo_marks, 0)))))))))))))
noncomputable def f_X13_trouble (mo_thrown : Int32) (mo_trouble : Int32) : Option (Int32 × Int32) :=
  some (mo_trouble, 0)
noncomputable def f_X13_readLine (mo_size : Int32) (mo_spot : Int32) (mo_sort : Int32) (mo_place : Int32) (mo_number : Int32) (mo_fault : Int32) (mo_wrongAt : Int32) (mo_laneTold : Int32) (mo_word : Int64) (mo_tape : Nat → Int32) (re_lanes : Int32) (re_deep : Int32) (re_told : Int32) (re_beasts : Int32) (re_cities : Int32) (re_passes : Int32) (re_turned : Int32) (re_names : Int32) (re_who : Nat → Int32) (re_strong : Nat → Int32) (re_kind : Nat → Int32) (re_lane : Nat → Int32) (re_mood : Nat → Int32) (re_price : Nat → Int32) (re_loses : Nat → Int32) (re_name : Nat → Int64) (re_nameSort : Nat → Int32) (re_numberOf : Nat → Int32) : Option (Int32 × Int32 × Int32 × Int32 × Int32 × Int32 × Int32 × Int64 × Int32 × Int32 × Int32 × Int32 × Int32 × Int32 × Int32 × Int32 × (Nat → Int32) × (Nat → Int32) × (Nat → Int32) × (Nat → Int32) × (Nat → Int32) × (Nat → Int32) × (Nat → Int32) × (Nat → Int64) × (Nat → Int32) × (Nat → Int32)) :=
  bd1 (f_X13_isWord mo_sort mo_word 1) fun r_1 =>
  (if r_1 = 0 then
  bd1 (f_X13_isWord mo_sort mo_word 2) fun r_4 =>
  (if r_4 = 0 then
  bd1 (f_X13_isWord mo_sort mo_word 3) fun r_7 =>
  (if r_7 = 0 then
  bd1 (f_X13_isWord mo_sort mo_word 4) fun r_10 =>
  (if r_10 = 0 then
  bd1 (f_X13_isWord mo_sort mo_word 5) fun r_13 =>
  (if r_13 = 0 then
  bd1 (f_X13_isWord mo_sort mo_word 6) fun r_16 =>
  (if r_16 = 0 then
  bd3 (f_X13_flaw mo_sort mo_place mo_fault mo_wrongAt (1 : Int32)) fun mo_sort_19 mo_fault_20 mo_wrongAt_21 =>
  some (mo_spot, mo_sort_19, mo_place, mo_number, mo_fault_20, mo_wrongAt_21, mo_laneTold, mo_word, re_lanes, re_deep, re_told, re_beasts, re_cities, re_passes, re_turned, re_names, re_who, re_strong, re_kind, re_lane, re_mood, re_price, re_loses, re_name, re_nameSort, re_numberOf)
  else
  bd8 (f_X13_readTurned mo_size mo_spot mo_sort mo_place mo_number mo_fault mo_wrongAt mo_word mo_tape re_lanes re_turned re_names re_name re_nameSort re_numberOf) fun mo_spot_23 mo_sort_24 mo_place_25 mo_number_26 mo_fault_27 mo_wrongAt_28 mo_word_29 re_turned_30 =>
  some (mo_spot_23, mo_sort_24, mo_place_25, mo_number_26, mo_fault_27, mo_wrongAt_28, mo_laneTold, mo_word_29, re_lanes, re_deep, re_told, re_beasts, re_cities, re_passes, re_turned_30, re_names, re_who, re_strong, re_kind, re_lane, re_mood, re_price, re_loses, re_name, re_nameSort, re_numberOf))
  else
  bd9 (f_X13_readPass mo_size mo_spot mo_sort mo_place mo_number mo_fault mo_wrongAt mo_word mo_tape re_lanes re_passes re_names re_loses re_name re_nameSort re_numberOf) fun mo_spot_32 mo_sort_33 mo_place_34 mo_number_35 mo_fault_36 mo_wrongAt_37 mo_word_38 re_passes_39 re_loses_40 =>
  some (mo_spot_32, mo_sort_33, mo_place_34, mo_number_35, mo_fault_36, mo_wrongAt_37, mo_laneTold, mo_word_38, re_lanes, re_deep, re_told, re_beasts, re_cities, re_passes_39, re_turned, re_names, re_who, re_strong, re_kind, re_lane, re_mood, re_price, re_loses_40, re_name, re_nameSort, re_numberOf))
  else
  bd13 (f_X13_readCity mo_size mo_spot mo_sort mo_place mo_number mo_fault mo_wrongAt mo_word mo_tape re_lanes re_cities re_names re_loses re_name re_nameSort re_numberOf) fun mo_spot_42 mo_sort_43 mo_place_44 mo_number_45 mo_fault_46 mo_wrongAt_47 mo_word_48 re_cities_49 re_names_50 re_loses_51 re_name_52 re_nameSort_53 re_numberOf_54 =>
  some (mo_spot_42, mo_sort_43, mo_place_44, mo_number_45, mo_fault_46, mo_wrongAt_47, mo_laneTold, mo_word_48, re_lanes, re_deep, re_told, re_beasts, re_cities_49, re_passes, re_turned, re_names_50, re_who, re_strong, re_kind, re_lane, re_mood, re_price, re_loses_51, re_name_52, re_nameSort_53, re_numberOf_54))
  else
  bd16 (f_X13_readBeast mo_size mo_spot mo_sort mo_place mo_number mo_fault mo_wrongAt mo_word mo_tape re_lanes re_beasts re_names re_kind re_lane re_mood re_price re_name re_nameSort re_numberOf) fun mo_spot_56 mo_sort_57 mo_place_58 mo_number_59 mo_fault_60 mo_wrongAt_61 mo_word_62 re_beasts_63 re_names_64 re_kind_65 re_lane_66 re_mood_67 re_price_68 re_name_69 re_nameSort_70 re_numberOf_71 =>
  some (mo_spot_56, mo_sort_57, mo_place_58, mo_number_59, mo_fault_60, mo_wrongAt_61, mo_laneTold, mo_word_62, re_lanes, re_deep, re_told, re_beasts_63, re_cities, re_passes, re_turned, re_names_64, re_who, re_strong, re_kind_65, re_lane_66, re_mood_67, re_price_68, re_loses, re_name_69, re_nameSort_70, re_numberOf_71))
  else
  bd11 (f_X13_readLane mo_size mo_spot mo_sort mo_place mo_number mo_fault mo_wrongAt mo_laneTold mo_word mo_tape re_lanes re_told re_who re_strong) fun mo_spot_73 mo_sort_74 mo_place_75 mo_number_76 mo_fault_77 mo_wrongAt_78 mo_laneTold_79 mo_word_80 re_told_81 re_who_82 re_strong_83 =>
  some (mo_spot_73, mo_sort_74, mo_place_75, mo_number_76, mo_fault_77, mo_wrongAt_78, mo_laneTold_79, mo_word_80, re_lanes, re_deep, re_told_81, re_beasts, re_cities, re_passes, re_turned, re_names, re_who_82, re_strong_83, re_kind, re_lane, re_mood, re_price, re_loses, re_name, re_nameSort, re_numberOf))
  else
  bd9 (f_X13_readField mo_size mo_spot mo_sort mo_place mo_number mo_fault mo_wrongAt mo_word mo_tape re_lanes re_deep) fun mo_spot_85 mo_sort_86 mo_place_87 mo_number_88 mo_fault_89 mo_wrongAt_90 mo_word_91 re_lanes_92 re_deep_93 =>
  some (mo_spot_85, mo_sort_86, mo_place_87, mo_number_88, mo_fault_89, mo_wrongAt_90, mo_laneTold, mo_word_91, re_lanes_92, re_deep_93, re_told, re_beasts, re_cities, re_passes, re_turned, re_names, re_who, re_strong, re_kind, re_lane, re_mood, re_price, re_loses, re_name, re_nameSort, re_numberOf))
noncomputable def f_X13_holdOf_B27 (mo_v : Nat → Int32) (wa_kind : Nat → Int32) (wa_mood : Nat → Int32) (t1 : Int32) (t2 : Int32) (t3 : Int32) : Option (Int32) :=
  bd1 (f_X13_holdBy wa_kind t1 t2 t3) fun r_2 =>
  some (r_2)
noncomputable def f_X13_holdOf (mo_v : Nat → Int32) (wa_kind : Nat → Int32) (wa_mood : Nat → Int32) (p1 : Int32) : Option (Int32) :=
  gIn p1 5 <|
  (if (mo_v (17 : Int32).toNatClampNeg) = 1 then
  f_X13_holdOf_B27 mo_v wa_kind wa_mood p1 (wa_mood p1.toNatClampNeg) 1
  else
  f_X13_holdOf_B27 mo_v wa_kind wa_mood p1 (wa_mood p1.toNatClampNeg) 0)
noncomputable def f_X13_holds (mo_v : Nat → Int32) (wa_deep : Int32) (wa_kind : Nat → Int32) (wa_mood : Nat → Int32) (p1 : Int32) : Option (Int64) :=
  bd1 (f_X13_isDead mo_v p1) fun r_1 =>
  (if r_1 = 0 then
  bd1 (f_X13_holdOf mo_v wa_kind wa_mood p1) fun r_4 =>
  bd1 (f_X13_power  r_4.toInt64 wa_deep) fun r_6 =>
  some (r_6)
  else
  some (0))
noncomputable def f_X13_meanBy (mo_v : Nat → Int32) (wa_deep : Int32) (wa_kind : Nat → Int32) (wa_mood : Nat → Int32) (p1 : Int32) (p2 : Int32) (p3 : Int32) : Option (Int64) :=
  bd1 (f_X13_holds mo_v wa_deep wa_kind wa_mood p1) fun r_1 =>
  (if p3 = 0 then
  some ((r_1 * p2.toInt64) + 0)
  else
  bd1 (f_X13_whole wa_deep) fun r_3 =>
  bd1 (f_X13_holds mo_v wa_deep wa_kind wa_mood p1) fun r_5 =>
  bd1 (f_X13_forceOf mo_v wa_kind p1) fun r_7 =>
  some ((r_1 * p2.toInt64) + ((r_3 - r_5) * ((r_7 / 2).toInt64))))
noncomputable def f_X13_worthBy (mo_v : Nat → Int32) (wa_deep : Int32) (wa_kind : Nat → Int32) (wa_mood : Nat → Int32) (p1 : Int32) (p2 : Int32) (p3 : Int32) : Option (Int64) :=
  bd1 (f_X13_harmBy mo_v wa_kind p1 p2 p3 (0 : Int32)) fun r_1 =>
  bd1 (f_X13_meanBy mo_v wa_deep wa_kind wa_mood p1 r_1 (0 : Int32)) fun r_3 =>
  bd1 (f_X13_harmBy mo_v wa_kind p1 p2 p3 (1 : Int32)) fun r_5 =>
  bd1 (f_X13_meanBy mo_v wa_deep wa_kind wa_mood p1 r_5 (1 : Int32)) fun r_7 =>
  some (r_3 - r_7)
noncomputable def f_X13_worthIn (mo_v : Nat → Int32) (wa_deep : Int32) (wa_who : Nat → Int32) (wa_kind : Nat → Int32) (wa_mood : Nat → Int32) (p1 : Int32) (p2 : Int32) : Option (Int64) :=
  gIn p2 6 <|
  gIn (11 + p2) 19 <|
  bd1 (f_X13_worthBy mo_v wa_deep wa_kind wa_mood p1 (wa_who p2.toNatClampNeg) (mo_v (11 + p2).toNatClampNeg)) fun r_3 =>
  some (r_3)
noncomputable def f_X13_beast_B23 (mo_v : Nat → Int32) (wa_beasts : Int32) (wa_kind : Nat → Int32) (wa_mood : Nat → Int32) (wa_price : Nat → Int32) (mo_thrown : Int32) (mo_trouble : Int32) (mo_where : Int32) : Option (Int32 × Int32 × Int32 × Int32) :=
  bd3 (f_X13_refused mo_trouble mo_where (1 : Int32)) fun r_4 mo_trouble_5 mo_where_6 =>
  some (r_4, mo_thrown, mo_trouble_5, mo_where_6)
noncomputable def f_X13_beast_B174 (mo_v : Nat → Int32) (wa_beasts : Int32) (wa_kind : Nat → Int32) (wa_mood : Nat → Int32) (wa_price : Nat → Int32) (t1 : Int32) (mo_thrown : Int32) (mo_trouble : Int32) (mo_where : Int32) : Option (Int32 × Int32 × Int32 × Int32) :=
  bd3 (f_X13_good mo_trouble mo_where t1) fun r_51 mo_trouble_52 mo_where_53 =>
  some (r_51, mo_thrown, mo_trouble_52, mo_where_53)
noncomputable def f_X13_beast (mo_thrown : Int32) (mo_trouble : Int32) (mo_where : Int32) (mo_v : Nat → Int32) (wa_beasts : Int32) (wa_kind : Nat → Int32) (wa_mood : Nat → Int32) (wa_price : Nat → Int32) (p1 : Int32) (p2 : Int32) : Option (Int32 × Int32 × Int32 × Int32) :=
  bd1 (f_X13_isBeast wa_beasts p1) fun r_1 =>
  (if r_1 = 0 then
  f_X13_beast_B23 mo_v wa_beasts wa_kind wa_mood wa_price 0 mo_trouble mo_where
  else
  bd1 (f_X13_in  p2 (0 : Int32) (7 : Int32)) fun r_8 =>
  (if r_8 = 0 then
  f_X13_beast_B23 mo_v wa_beasts wa_kind wa_mood wa_price 0 mo_trouble mo_where
  else
  (if p2 = 0 then
  gIn p1 5 <|
  bd3 (f_X13_good mo_trouble mo_where (wa_kind p1.toNatClampNeg)) fun r_12 mo_trouble_13 mo_where_14 =>
  some (r_12, 0, mo_trouble_13, mo_where_14)
  else
  (if p2 = 1 then
  gIn (0 + p1) 19 <|
  bd3 (f_X13_good mo_trouble mo_where (mo_v (0 + p1).toNatClampNeg)) fun r_17 mo_trouble_18 mo_where_19 =>
  some (r_17, 0, mo_trouble_18, mo_where_19)
  else
  (if p2 = 2 then
  gIn p1 5 <|
  bd3 (f_X13_good mo_trouble mo_where (wa_mood p1.toNatClampNeg)) fun r_22 mo_trouble_23 mo_where_24 =>
  some (r_22, 0, mo_trouble_23, mo_where_24)
  else
  (if p2 = 3 then
  gIn p1 5 <|
  bd3 (f_X13_good mo_trouble mo_where (wa_price p1.toNatClampNeg)) fun r_27 mo_trouble_28 mo_where_29 =>
  some (r_27, 0, mo_trouble_28, mo_where_29)
  else
  (if p2 = 4 then
  bd1 (f_X13_forceOf mo_v wa_kind p1) fun r_31 =>
  bd3 (f_X13_good mo_trouble mo_where r_31) fun r_33 mo_trouble_34 mo_where_35 =>
  some (r_33, 0, mo_trouble_34, mo_where_35)
  else
  (if p2 = 5 then
  bd1 (f_X13_holdOf mo_v wa_kind wa_mood p1) fun r_37 =>
  bd3 (f_X13_good mo_trouble mo_where r_37) fun r_39 mo_trouble_40 mo_where_41 =>
  some (r_39, 0, mo_trouble_40, mo_where_41)
  else
  (if p2 = 6 then
  gIn (5 + p1) 19 <|
  bd3 (f_X13_good mo_trouble mo_where (mo_v (5 + p1).toNatClampNeg)) fun r_44 mo_trouble_45 mo_where_46 =>
  some (r_44, 0, mo_trouble_45, mo_where_46)
  else
  bd1 (f_X13_isDead mo_v p1) fun r_48 =>
  (if r_48 = 0 then
  f_X13_beast_B174 mo_v wa_beasts wa_kind wa_mood wa_price 0 0 mo_trouble mo_where
  else
  f_X13_beast_B174 mo_v wa_beasts wa_kind wa_mood wa_price 1 0 mo_trouble mo_where))))))))))
noncomputable def f_X13_across (mo_thrown : Int32) (mo_trouble : Int32) (mo_where : Int32) (mo_v : Nat → Int32) (wa_deep : Int32) (wa_beasts : Int32) (wa_kind : Nat → Int32) (wa_mood : Nat → Int32) (p1 : Int32) (p2 : Int32) : Option (Int64 × Int32 × Int32 × Int32) :=
  bd1 (f_X13_isBeast wa_beasts p1) fun r_1 =>
  (if r_1 = 0 then
  bd3 (f_X13_refused mo_trouble mo_where (1 : Int32)) fun r_4 mo_trouble_5 mo_where_6 =>
  some (r_4.toInt64, 0, mo_trouble_5, mo_where_6)
  else
  bd1 (f_X13_holds mo_v wa_deep wa_kind wa_mood p1) fun r_8 =>
  bd1 (f_X13_whole wa_deep) fun r_10 =>
  bd3 (f_X13_fraction mo_trouble mo_where r_8 r_10 p2) fun r_12 mo_trouble_13 mo_where_14 =>
  some (r_12, 0, mo_trouble_13, mo_where_14))
noncomputable def f_X13_mean_B47 (mo_v : Nat → Int32) (wa_lanes : Int32) (wa_deep : Int32) (wa_beasts : Int32) (wa_who : Nat → Int32) (wa_kind : Nat → Int32) (wa_mood : Nat → Int32) (mo_thrown : Int32) (mo_trouble : Int32) (mo_where : Int32) : Option (Int64 × Int32 × Int32 × Int32) :=
  bd3 (f_X13_refused mo_trouble mo_where (1 : Int32)) fun r_4 mo_trouble_5 mo_where_6 =>
  some (r_4.toInt64, mo_thrown, mo_trouble_5, mo_where_6)
noncomputable def f_X13_mean (mo_thrown : Int32) (mo_trouble : Int32) (mo_where : Int32) (mo_v : Nat → Int32) (wa_lanes : Int32) (wa_deep : Int32) (wa_beasts : Int32) (wa_who : Nat → Int32) (wa_kind : Nat → Int32) (wa_mood : Nat → Int32) (p1 : Int32) (p2 : Int32) (p3 : Int32) (p4 : Int32) : Option (Int64 × Int32 × Int32 × Int32) :=
  bd1 (f_X13_isBeast wa_beasts p1) fun r_1 =>
  (if r_1 = 0 then
  f_X13_mean_B47 mo_v wa_lanes wa_deep wa_beasts wa_who wa_kind wa_mood 0 mo_trouble mo_where
  else
  bd1 (f_X13_isLane wa_lanes p2) fun r_8 =>
  (if r_8 = 0 then
  f_X13_mean_B47 mo_v wa_lanes wa_deep wa_beasts wa_who wa_kind wa_mood 0 mo_trouble mo_where
  else
  bd1 (f_X13_meetsIn mo_v wa_who wa_kind p1 p2 p3) fun r_11 =>
  bd1 (f_X13_meanBy mo_v wa_deep wa_kind wa_mood p1 r_11 p3) fun r_13 =>
  bd1 (f_X13_whole wa_deep) fun r_15 =>
  bd3 (f_X13_fraction mo_trouble mo_where r_13 r_15 p4) fun r_17 mo_trouble_18 mo_where_19 =>
  some (r_17, 0, mo_trouble_18, mo_where_19)))
noncomputable def f_X13_worth_B39 (mo_v : Nat → Int32) (wa_lanes : Int32) (wa_deep : Int32) (wa_beasts : Int32) (wa_who : Nat → Int32) (wa_kind : Nat → Int32) (wa_mood : Nat → Int32) (mo_thrown : Int32) (mo_trouble : Int32) (mo_where : Int32) : Option (Int64 × Int32 × Int32 × Int32) :=
  bd3 (f_X13_lost mo_trouble mo_where (1 : Int32)) fun r_4 mo_trouble_5 mo_where_6 =>
  some (r_4, mo_thrown, mo_trouble_5, mo_where_6)
noncomputable def f_X13_worth (mo_thrown : Int32) (mo_trouble : Int32) (mo_where : Int32) (mo_v : Nat → Int32) (wa_lanes : Int32) (wa_deep : Int32) (wa_beasts : Int32) (wa_who : Nat → Int32) (wa_kind : Nat → Int32) (wa_mood : Nat → Int32) (p1 : Int32) (p2 : Int32) (p3 : Int32) : Option (Int64 × Int32 × Int32 × Int32) :=
  bd1 (f_X13_isBeast wa_beasts p1) fun r_1 =>
  (if r_1 = 0 then
  f_X13_worth_B39 mo_v wa_lanes wa_deep wa_beasts wa_who wa_kind wa_mood 0 mo_trouble mo_where
  else
  bd1 (f_X13_isLane wa_lanes p2) fun r_8 =>
  (if r_8 = 0 then
  f_X13_worth_B39 mo_v wa_lanes wa_deep wa_beasts wa_who wa_kind wa_mood 0 mo_trouble mo_where
  else
  bd1 (f_X13_worthIn mo_v wa_deep wa_who wa_kind wa_mood p1 p2) fun r_11 =>
  bd1 (f_X13_whole wa_deep) fun r_13 =>
  bd3 (f_X13_fraction mo_trouble mo_where r_11 r_13 p3) fun r_15 mo_trouble_16 mo_where_17 =>
  some (r_15, 0, mo_trouble_16, mo_where_17)))
noncomputable def f_X13_toHammer_B77 (mo_v : Nat → Int32) (wa_deep : Int32) (wa_beasts : Int32) (wa_who : Nat → Int32) (wa_kind : Nat → Int32) (wa_mood : Nat → Int32) (x1 : Int32) (mo_thrown : Int32) (mo_trouble : Int32) (mo_where : Int32) : Option (Int32 × Int32 × Int32 × Int32) :=
  bd3 (f_X13_good mo_trouble mo_where x1) fun r_1 mo_trouble_2 mo_where_3 =>
  some (r_1, mo_thrown, mo_trouble_2, mo_where_3)
noncomputable def f_X13_toHammer_B71 (k26 : Int32 → Int64 → Int32 → Option (Int32 × Int32 × Int32 × Int32)) (mo_v : Nat → Int32) (wa_deep : Int32) (wa_beasts : Int32) (wa_who : Nat → Int32) (wa_kind : Nat → Int32) (wa_mood : Nat → Int32) (x1 : Int32) (x2 : Int64) (x4 : Int32) (mo_thrown : Int32) (mo_trouble : Int32) (mo_where : Int32) : Option (Int32 × Int32 × Int32 × Int32) :=
  k26 x1 x2 (x4 + 1)
noncomputable def f_X13_toHammer_b26 (mo_v : Nat → Int32) (wa_deep : Int32) (wa_beasts : Int32) (wa_who : Nat → Int32) (wa_kind : Nat → Int32) (wa_mood : Nat → Int32) (mo_thrown : Int32) (mo_trouble : Int32) (mo_where : Int32) (k26 : Int32 → Int64 → Int32 → Option (Int32 × Int32 × Int32 × Int32)) (x1 : Int32) (x2 : Int64) (x4 : Int32) : Option (Int32 × Int32 × Int32 × Int32) :=
  (if wa_beasts ≤ x4 then
  f_X13_toHammer_B77 mo_v wa_deep wa_beasts wa_who wa_kind wa_mood x1 mo_thrown mo_trouble mo_where
  else
  gIn (0 + x4) 19 <|
  bd1 (f_X13_worthIn mo_v wa_deep wa_who wa_kind wa_mood x4 (mo_v (0 + x4).toNatClampNeg)) fun r_6 =>
  (if r_6 < x2 then
  f_X13_toHammer_B71 k26 mo_v wa_deep wa_beasts wa_who wa_kind wa_mood x4 r_6 x4 mo_thrown mo_trouble mo_where
  else
  f_X13_toHammer_B71 k26 mo_v wa_deep wa_beasts wa_who wa_kind wa_mood x1 x2 x4 mo_thrown mo_trouble mo_where))
noncomputable def f_X13_toHammer_L26 (mo_v : Nat → Int32) (wa_deep : Int32) (wa_beasts : Int32) (wa_who : Nat → Int32) (wa_kind : Nat → Int32) (wa_mood : Nat → Int32) (mo_thrown : Int32) (mo_trouble : Int32) (mo_where : Int32) : Nat → Int32 → Int64 → Int32 → Option (Int32 × Int32 × Int32 × Int32)
  | 0 => fun _ _ _ => none
  | n + 1 => f_X13_toHammer_b26 mo_v wa_deep wa_beasts wa_who wa_kind wa_mood mo_thrown mo_trouble mo_where (f_X13_toHammer_L26 mo_v wa_deep wa_beasts wa_who wa_kind wa_mood mo_thrown mo_trouble mo_where n)
noncomputable def f_X13_toHammer (mo_thrown : Int32) (mo_trouble : Int32) (mo_where : Int32) (mo_v : Nat → Int32) (wa_deep : Int32) (wa_beasts : Int32) (wa_who : Nat → Int32) (wa_kind : Nat → Int32) (wa_mood : Nat → Int32) : Option (Int32 × Int32 × Int32 × Int32) :=
  f_X13_toHammer_L26 mo_v wa_deep wa_beasts wa_who wa_kind wa_mood 0 mo_trouble mo_where fuelN (-2) 0 0
noncomputable def f_X13_bestLane_B58 (mo_v : Nat → Int32) (wa_lanes : Int32) (wa_deep : Int32) (wa_beasts : Int32) (wa_who : Nat → Int32) (wa_kind : Nat → Int32) (wa_mood : Nat → Int32) (x2 : Int32) (mo_thrown : Int32) (mo_trouble : Int32) (mo_where : Int32) : Option (Int32 × Int32 × Int32 × Int32) :=
  bd3 (f_X13_good mo_trouble mo_where x2) fun r_4 mo_trouble_5 mo_where_6 =>
  some (r_4, mo_thrown, mo_trouble_5, mo_where_6)
noncomputable def f_X13_bestLane_B52 (k23 : Int32 → Int32 → Option (Int32 × Int32 × Int32 × Int32)) (mo_v : Nat → Int32) (wa_lanes : Int32) (wa_deep : Int32) (wa_beasts : Int32) (wa_who : Nat → Int32) (wa_kind : Nat → Int32) (wa_mood : Nat → Int32) (x1 : Int32) (x2 : Int32) (x3 : Int32) (mo_thrown : Int32) (mo_trouble : Int32) (mo_where : Int32) : Option (Int32 × Int32 × Int32 × Int32) :=
  k23 x2 (x3 + 1)
noncomputable def f_X13_bestLane_b23 (mo_v : Nat → Int32) (wa_lanes : Int32) (wa_deep : Int32) (wa_beasts : Int32) (wa_who : Nat → Int32) (wa_kind : Nat → Int32) (wa_mood : Nat → Int32) (x1 : Int32) (mo_thrown : Int32) (mo_trouble : Int32) (mo_where : Int32) (k23 : Int32 → Int32 → Option (Int32 × Int32 × Int32 × Int32)) (x2 : Int32) (x3 : Int32) : Option (Int32 × Int32 × Int32 × Int32) :=
  (if wa_lanes ≤ x3 then
  f_X13_bestLane_B58 mo_v wa_lanes wa_deep wa_beasts wa_who wa_kind wa_mood x2 mo_thrown mo_trouble mo_where
  else
  bd1 (f_X13_worthIn mo_v wa_deep wa_who wa_kind wa_mood x1 x3) fun r_8 =>
  bd1 (f_X13_worthIn mo_v wa_deep wa_who wa_kind wa_mood x1 x2) fun r_10 =>
  (if r_8 ≤ r_10 then
  f_X13_bestLane_B52 k23 mo_v wa_lanes wa_deep wa_beasts wa_who wa_kind wa_mood x1 x2 x3 mo_thrown mo_trouble mo_where
  else
  f_X13_bestLane_B52 k23 mo_v wa_lanes wa_deep wa_beasts wa_who wa_kind wa_mood x1 x3 x3 mo_thrown mo_trouble mo_where))
noncomputable def f_X13_bestLane_L23 (mo_v : Nat → Int32) (wa_lanes : Int32) (wa_deep : Int32) (wa_beasts : Int32) (wa_who : Nat → Int32) (wa_kind : Nat → Int32) (wa_mood : Nat → Int32) (x1 : Int32) (mo_thrown : Int32) (mo_trouble : Int32) (mo_where : Int32) : Nat → Int32 → Int32 → Option (Int32 × Int32 × Int32 × Int32)
  | 0 => fun _ _ => none
  | n + 1 => f_X13_bestLane_b23 mo_v wa_lanes wa_deep wa_beasts wa_who wa_kind wa_mood x1 mo_thrown mo_trouble mo_where (f_X13_bestLane_L23 mo_v wa_lanes wa_deep wa_beasts wa_who wa_kind wa_mood x1 mo_thrown mo_trouble mo_where n)
noncomputable def f_X13_bestLane (mo_thrown : Int32) (mo_trouble : Int32) (mo_where : Int32) (mo_v : Nat → Int32) (wa_lanes : Int32) (wa_deep : Int32) (wa_beasts : Int32) (wa_who : Nat → Int32) (wa_kind : Nat → Int32) (wa_mood : Nat → Int32) (p1 : Int32) : Option (Int32 × Int32 × Int32 × Int32) :=
  bd1 (f_X13_isBeast wa_beasts p1) fun r_1 =>
  (if r_1 = 0 then
  bd3 (f_X13_refused mo_trouble mo_where (1 : Int32)) fun r_12 mo_trouble_13 mo_where_14 =>
  some (r_12, 0, mo_trouble_13, mo_where_14)
  else
  f_X13_bestLane_L23 mo_v wa_lanes wa_deep wa_beasts wa_who wa_kind wa_mood p1 0 mo_trouble mo_where fuelN 0 1)
noncomputable def f_X13_meanNow (mo_v : Nat → Int32) (wa_deep : Int32) (wa_who : Nat → Int32) (wa_kind : Nat → Int32) (wa_mood : Nat → Int32) (p1 : Int32) (p2 : Int32) : Option (Int64) :=
  gIn (0 + p1) 19 <|
  bd1 (f_X13_meetsIn mo_v wa_who wa_kind p1 (mo_v (0 + p1).toNatClampNeg) p2) fun r_2 =>
  bd1 (f_X13_meanBy mo_v wa_deep wa_kind wa_mood p1 r_2 p2) fun r_4 =>
  some (r_4)
noncomputable def f_X13_all_B52 (mo_v : Nat → Int32) (wa_deep : Int32) (wa_beasts : Int32) (wa_who : Nat → Int32) (wa_kind : Nat → Int32) (wa_mood : Nat → Int32) (x2 : Int32) (x3 : Int64) (mo_thrown : Int32) (mo_trouble : Int32) (mo_where : Int32) : Option (Int64 × Int32 × Int32 × Int32) :=
  bd1 (f_X13_whole wa_deep) fun r_1 =>
  bd3 (f_X13_fraction mo_trouble mo_where x3 r_1 x2) fun r_3 mo_trouble_4 mo_where_5 =>
  some (r_3, mo_thrown, mo_trouble_4, mo_where_5)
noncomputable def f_X13_all_b24 (mo_v : Nat → Int32) (wa_deep : Int32) (wa_beasts : Int32) (wa_who : Nat → Int32) (wa_kind : Nat → Int32) (wa_mood : Nat → Int32) (x1 : Int32) (x2 : Int32) (mo_thrown : Int32) (mo_trouble : Int32) (mo_where : Int32) (k24 : Int64 → Int32 → Option (Int64 × Int32 × Int32 × Int32)) (x3 : Int64) (x5 : Int32) : Option (Int64 × Int32 × Int32 × Int32) :=
  (if wa_beasts ≤ x5 then
  f_X13_all_B52 mo_v wa_deep wa_beasts wa_who wa_kind wa_mood x2 x3 mo_thrown mo_trouble mo_where
  else
  bd1 (f_X13_meanNow mo_v wa_deep wa_who wa_kind wa_mood x5 x1) fun r_7 =>
  k24 (x3 + r_7) (x5 + 1))
noncomputable def f_X13_all_L24 (mo_v : Nat → Int32) (wa_deep : Int32) (wa_beasts : Int32) (wa_who : Nat → Int32) (wa_kind : Nat → Int32) (wa_mood : Nat → Int32) (x1 : Int32) (x2 : Int32) (mo_thrown : Int32) (mo_trouble : Int32) (mo_where : Int32) : Nat → Int64 → Int32 → Option (Int64 × Int32 × Int32 × Int32)
  | 0 => fun _ _ => none
  | n + 1 => f_X13_all_b24 mo_v wa_deep wa_beasts wa_who wa_kind wa_mood x1 x2 mo_thrown mo_trouble mo_where (f_X13_all_L24 mo_v wa_deep wa_beasts wa_who wa_kind wa_mood x1 x2 mo_thrown mo_trouble mo_where n)
noncomputable def f_X13_all (mo_thrown : Int32) (mo_trouble : Int32) (mo_where : Int32) (mo_v : Nat → Int32) (wa_deep : Int32) (wa_beasts : Int32) (wa_who : Nat → Int32) (wa_kind : Nat → Int32) (wa_mood : Nat → Int32) (p1 : Int32) (p2 : Int32) : Option (Int64 × Int32 × Int32 × Int32) :=
  f_X13_all_L24 mo_v wa_deep wa_beasts wa_who wa_kind wa_mood p1 p2 0 mo_trouble mo_where fuelN 0 0
noncomputable def f_X13_worst_B70 (mo_v : Nat → Int32) (wa_deep : Int32) (wa_beasts : Int32) (wa_who : Nat → Int32) (wa_kind : Nat → Int32) (wa_mood : Nat → Int32) (x1 : Int32) (mo_thrown : Int32) (mo_trouble : Int32) (mo_where : Int32) : Option (Int32 × Int32 × Int32 × Int32) :=
  bd3 (f_X13_good mo_trouble mo_where x1) fun r_1 mo_trouble_2 mo_where_3 =>
  some (r_1, mo_thrown, mo_trouble_2, mo_where_3)
noncomputable def f_X13_worst_B64 (k26 : Int32 → Int64 → Int32 → Option (Int32 × Int32 × Int32 × Int32)) (mo_v : Nat → Int32) (wa_deep : Int32) (wa_beasts : Int32) (wa_who : Nat → Int32) (wa_kind : Nat → Int32) (wa_mood : Nat → Int32) (x1 : Int32) (x2 : Int64) (x4 : Int32) (mo_thrown : Int32) (mo_trouble : Int32) (mo_where : Int32) : Option (Int32 × Int32 × Int32 × Int32) :=
  k26 x1 x2 (x4 + 1)
noncomputable def f_X13_worst_b26 (mo_v : Nat → Int32) (wa_deep : Int32) (wa_beasts : Int32) (wa_who : Nat → Int32) (wa_kind : Nat → Int32) (wa_mood : Nat → Int32) (mo_thrown : Int32) (mo_trouble : Int32) (mo_where : Int32) (k26 : Int32 → Int64 → Int32 → Option (Int32 × Int32 × Int32 × Int32)) (x1 : Int32) (x2 : Int64) (x4 : Int32) : Option (Int32 × Int32 × Int32 × Int32) :=
  (if wa_beasts ≤ x4 then
  f_X13_worst_B70 mo_v wa_deep wa_beasts wa_who wa_kind wa_mood x1 mo_thrown mo_trouble mo_where
  else
  bd1 (f_X13_meanNow mo_v wa_deep wa_who wa_kind wa_mood x4 (1 : Int32)) fun r_5 =>
  (if x2 < r_5 then
  bd1 (f_X13_meanNow mo_v wa_deep wa_who wa_kind wa_mood x4 (1 : Int32)) fun r_7 =>
  f_X13_worst_B64 k26 mo_v wa_deep wa_beasts wa_who wa_kind wa_mood x4 r_7 x4 mo_thrown mo_trouble mo_where
  else
  f_X13_worst_B64 k26 mo_v wa_deep wa_beasts wa_who wa_kind wa_mood x1 x2 x4 mo_thrown mo_trouble mo_where))
noncomputable def f_X13_worst_L26 (mo_v : Nat → Int32) (wa_deep : Int32) (wa_beasts : Int32) (wa_who : Nat → Int32) (wa_kind : Nat → Int32) (wa_mood : Nat → Int32) (mo_thrown : Int32) (mo_trouble : Int32) (mo_where : Int32) : Nat → Int32 → Int64 → Int32 → Option (Int32 × Int32 × Int32 × Int32)
  | 0 => fun _ _ _ => none
  | n + 1 => f_X13_worst_b26 mo_v wa_deep wa_beasts wa_who wa_kind wa_mood mo_thrown mo_trouble mo_where (f_X13_worst_L26 mo_v wa_deep wa_beasts wa_who wa_kind wa_mood mo_thrown mo_trouble mo_where n)
noncomputable def f_X13_worst (mo_thrown : Int32) (mo_trouble : Int32) (mo_where : Int32) (mo_v : Nat → Int32) (wa_deep : Int32) (wa_beasts : Int32) (wa_who : Nat → Int32) (wa_kind : Nat → Int32) (wa_mood : Nat → Int32) : Option (Int32 × Int32 × Int32 × Int32) :=
  f_X13_worst_L26 mo_v wa_deep wa_beasts wa_who wa_kind wa_mood 0 mo_trouble mo_where fuelN (-2) 0 0
noncomputable def f_X13_takesPut_b72 (mo_v : Nat → Int32) (mo_put : Nat → Int32) (wa_lanes : Int32) (wa_deep : Int32) (wa_beasts : Int32) (wa_who : Nat → Int32) (wa_kind : Nat → Int32) (wa_mood : Nat → Int32) (mo_bestSum : Int64) (k72 : Int32 → (Nat → Int32) → Option (Int64 × (Nat → Int32))) (x3 : Int32) (mo_bestPut : Nat → Int32) : Option (Int64 × (Nat → Int32)) :=
  (if 5 ≤ x3 then
  some (mo_bestSum, mo_bestPut)
  else
  gIn x3 5 <|
  gIn x3 5 <|
  k72 (x3 + 1) (upd mo_bestPut x3.toNatClampNeg (mo_put x3.toNatClampNeg)))
noncomputable def f_X13_takesPut_L72 (mo_v : Nat → Int32) (mo_put : Nat → Int32) (wa_lanes : Int32) (wa_deep : Int32) (wa_beasts : Int32) (wa_who : Nat → Int32) (wa_kind : Nat → Int32) (wa_mood : Nat → Int32) (mo_bestSum : Int64) : Nat → Int32 → (Nat → Int32) → Option (Int64 × (Nat → Int32))
  | 0 => fun _ _ => none
  | n + 1 => f_X13_takesPut_b72 mo_v mo_put wa_lanes wa_deep wa_beasts wa_who wa_kind wa_mood mo_bestSum (f_X13_takesPut_L72 mo_v mo_put wa_lanes wa_deep wa_beasts wa_who wa_kind wa_mood mo_bestSum n)
noncomputable def f_X13_takesPut_B55 (mo_v : Nat → Int32) (mo_put : Nat → Int32) (wa_lanes : Int32) (wa_deep : Int32) (wa_beasts : Int32) (wa_who : Nat → Int32) (wa_kind : Nat → Int32) (wa_mood : Nat → Int32) (x1 : Int64) (mo_bestSum : Int64) (mo_bestPut : Nat → Int32) : Option (Int64 × (Nat → Int32)) :=
  (if mo_bestSum < x1 then
  f_X13_takesPut_L72 mo_v mo_put wa_lanes wa_deep wa_beasts wa_who wa_kind wa_mood x1 fuelN 0 mo_bestPut
  else
  some (mo_bestSum, mo_bestPut))
noncomputable def f_X13_takesPut_B47 (k4 : Int64 → Int32 → Option (Int64 × (Nat → Int32))) (mo_v : Nat → Int32) (mo_put : Nat → Int32) (wa_lanes : Int32) (wa_deep : Int32) (wa_beasts : Int32) (wa_who : Nat → Int32) (wa_kind : Nat → Int32) (wa_mood : Nat → Int32) (x3 : Int32) (t0 : Int64) (t1 : Int64) (mo_bestSum : Int64) (mo_bestPut : Nat → Int32) : Option (Int64 × (Nat → Int32)) :=
  k4 (t0 + t1) (x3 + 1)
noncomputable def f_X13_takesPut_b4 (mo_v : Nat → Int32) (mo_put : Nat → Int32) (wa_lanes : Int32) (wa_deep : Int32) (wa_beasts : Int32) (wa_who : Nat → Int32) (wa_kind : Nat → Int32) (wa_mood : Nat → Int32) (mo_bestSum : Int64) (mo_bestPut : Nat → Int32) (k4 : Int64 → Int32 → Option (Int64 × (Nat → Int32))) (x1 : Int64) (x3 : Int32) : Option (Int64 × (Nat → Int32)) :=
  (if wa_beasts ≤ x3 then
  f_X13_takesPut_B55 mo_v mo_put wa_lanes wa_deep wa_beasts wa_who wa_kind wa_mood x1 mo_bestSum mo_bestPut
  else
  gIn x3 5 <|
  (if (mo_put x3.toNatClampNeg) = wa_lanes then
  f_X13_takesPut_B47 k4 mo_v mo_put wa_lanes wa_deep wa_beasts wa_who wa_kind wa_mood x3 x1 0 mo_bestSum mo_bestPut
  else
  gIn x3 5 <|
  bd1 (f_X13_worthIn mo_v wa_deep wa_who wa_kind wa_mood x3 (mo_put x3.toNatClampNeg)) fun r_5 =>
  f_X13_takesPut_B47 k4 mo_v mo_put wa_lanes wa_deep wa_beasts wa_who wa_kind wa_mood x3 x1 r_5 mo_bestSum mo_bestPut))
noncomputable def f_X13_takesPut_L4 (mo_v : Nat → Int32) (mo_put : Nat → Int32) (wa_lanes : Int32) (wa_deep : Int32) (wa_beasts : Int32) (wa_who : Nat → Int32) (wa_kind : Nat → Int32) (wa_mood : Nat → Int32) (mo_bestSum : Int64) (mo_bestPut : Nat → Int32) : Nat → Int64 → Int32 → Option (Int64 × (Nat → Int32))
  | 0 => fun _ _ => none
  | n + 1 => f_X13_takesPut_b4 mo_v mo_put wa_lanes wa_deep wa_beasts wa_who wa_kind wa_mood mo_bestSum mo_bestPut (f_X13_takesPut_L4 mo_v mo_put wa_lanes wa_deep wa_beasts wa_who wa_kind wa_mood mo_bestSum mo_bestPut n)
noncomputable def f_X13_takesPut (mo_bestSum : Int64) (mo_v : Nat → Int32) (mo_put : Nat → Int32) (mo_bestPut : Nat → Int32) (wa_lanes : Int32) (wa_deep : Int32) (wa_beasts : Int32) (wa_who : Nat → Int32) (wa_kind : Nat → Int32) (wa_mood : Nat → Int32) : Option (Int64 × (Nat → Int32)) :=
  f_X13_takesPut_L4 mo_v mo_put wa_lanes wa_deep wa_beasts wa_who wa_kind wa_mood mo_bestSum mo_bestPut fuelN 0 0
noncomputable def f_X13_sumOpen_B57 (k5 : Int64 → Int32 → Option (Int64)) (mo_v : Nat → Int32) (wa_deep : Int32) (wa_beasts : Int32) (wa_who : Nat → Int32) (wa_kind : Nat → Int32) (wa_mood : Nat → Int32) (x1 : Int32) (x4 : Int32) (t0 : Int64) (t1 : Int64) : Option (Int64) :=
  k5 (t0 + t1) (x4 + 1)
noncomputable def f_X13_sumOpen_b5 (mo_v : Nat → Int32) (wa_deep : Int32) (wa_beasts : Int32) (wa_who : Nat → Int32) (wa_kind : Nat → Int32) (wa_mood : Nat → Int32) (x1 : Int32) (k5 : Int64 → Int32 → Option (Int64)) (x2 : Int64) (x4 : Int32) : Option (Int64) :=
  (if wa_beasts ≤ x4 then
  some (x2)
  else
  gIn (0 + x4) 19 <|
  (if (mo_v (0 + x4).toNatClampNeg) = x1 then
  bd1 (f_X13_worthBy mo_v wa_deep wa_kind wa_mood x4 (0 : Int32) (0 : Int32)) fun r_5 =>
  f_X13_sumOpen_B57 k5 mo_v wa_deep wa_beasts wa_who wa_kind wa_mood x1 x4 x2 r_5
  else
  gIn (0 + x4) 19 <|
  bd1 (f_X13_worthIn mo_v wa_deep wa_who wa_kind wa_mood x4 (mo_v (0 + x4).toNatClampNeg)) fun r_3 =>
  f_X13_sumOpen_B57 k5 mo_v wa_deep wa_beasts wa_who wa_kind wa_mood x1 x4 x2 r_3))
noncomputable def f_X13_sumOpen_L5 (mo_v : Nat → Int32) (wa_deep : Int32) (wa_beasts : Int32) (wa_who : Nat → Int32) (wa_kind : Nat → Int32) (wa_mood : Nat → Int32) (x1 : Int32) : Nat → Int64 → Int32 → Option (Int64)
  | 0 => fun _ _ => none
  | n + 1 => f_X13_sumOpen_b5 mo_v wa_deep wa_beasts wa_who wa_kind wa_mood x1 (f_X13_sumOpen_L5 mo_v wa_deep wa_beasts wa_who wa_kind wa_mood x1 n)
noncomputable def f_X13_sumOpen (mo_v : Nat → Int32) (wa_deep : Int32) (wa_beasts : Int32) (wa_who : Nat → Int32) (wa_kind : Nat → Int32) (wa_mood : Nat → Int32) (p1 : Int32) : Option (Int64) :=
  f_X13_sumOpen_L5 mo_v wa_deep wa_beasts wa_who wa_kind wa_mood p1 fuelN 0 0
noncomputable def f_X13_toOpen_B72 (mo_v : Nat → Int32) (wa_lanes : Int32) (wa_deep : Int32) (wa_beasts : Int32) (wa_who : Nat → Int32) (wa_kind : Nat → Int32) (wa_mood : Nat → Int32) (x1 : Int32) (mo_thrown : Int32) (mo_trouble : Int32) (mo_where : Int32) : Option (Int32 × Int32 × Int32 × Int32) :=
  bd3 (f_X13_good mo_trouble mo_where x1) fun r_3 mo_trouble_4 mo_where_5 =>
  some (r_3, mo_thrown, mo_trouble_4, mo_where_5)
noncomputable def f_X13_toOpen_B66 (k30 : Int32 → Int64 → Int32 → Option (Int32 × Int32 × Int32 × Int32)) (mo_v : Nat → Int32) (wa_lanes : Int32) (wa_deep : Int32) (wa_beasts : Int32) (wa_who : Nat → Int32) (wa_kind : Nat → Int32) (wa_mood : Nat → Int32) (x1 : Int32) (x2 : Int64) (x4 : Int32) (mo_thrown : Int32) (mo_trouble : Int32) (mo_where : Int32) : Option (Int32 × Int32 × Int32 × Int32) :=
  k30 x1 x2 (x4 + 1)
noncomputable def f_X13_toOpen_b30 (mo_v : Nat → Int32) (wa_lanes : Int32) (wa_deep : Int32) (wa_beasts : Int32) (wa_who : Nat → Int32) (wa_kind : Nat → Int32) (wa_mood : Nat → Int32) (mo_thrown : Int32) (mo_trouble : Int32) (mo_where : Int32) (k30 : Int32 → Int64 → Int32 → Option (Int32 × Int32 × Int32 × Int32)) (x1 : Int32) (x2 : Int64) (x4 : Int32) : Option (Int32 × Int32 × Int32 × Int32) :=
  (if wa_lanes ≤ x4 then
  f_X13_toOpen_B72 mo_v wa_lanes wa_deep wa_beasts wa_who wa_kind wa_mood x1 mo_thrown mo_trouble mo_where
  else
  bd1 (f_X13_sumOpen mo_v wa_deep wa_beasts wa_who wa_kind wa_mood x4) fun r_7 =>
  (if r_7 < x2 then
  bd1 (f_X13_sumOpen mo_v wa_deep wa_beasts wa_who wa_kind wa_mood x4) fun r_9 =>
  f_X13_toOpen_B66 k30 mo_v wa_lanes wa_deep wa_beasts wa_who wa_kind wa_mood x4 r_9 x4 mo_thrown mo_trouble mo_where
  else
  f_X13_toOpen_B66 k30 mo_v wa_lanes wa_deep wa_beasts wa_who wa_kind wa_mood x1 x2 x4 mo_thrown mo_trouble mo_where))
noncomputable def f_X13_toOpen_L30 (mo_v : Nat → Int32) (wa_lanes : Int32) (wa_deep : Int32) (wa_beasts : Int32) (wa_who : Nat → Int32) (wa_kind : Nat → Int32) (wa_mood : Nat → Int32) (mo_thrown : Int32) (mo_trouble : Int32) (mo_where : Int32) : Nat → Int32 → Int64 → Int32 → Option (Int32 × Int32 × Int32 × Int32)
  | 0 => fun _ _ _ => none
  | n + 1 => f_X13_toOpen_b30 mo_v wa_lanes wa_deep wa_beasts wa_who wa_kind wa_mood mo_thrown mo_trouble mo_where (f_X13_toOpen_L30 mo_v wa_lanes wa_deep wa_beasts wa_who wa_kind wa_mood mo_thrown mo_trouble mo_where n)
noncomputable def f_X13_toOpen (mo_thrown : Int32) (mo_trouble : Int32) (mo_where : Int32) (mo_v : Nat → Int32) (wa_lanes : Int32) (wa_deep : Int32) (wa_beasts : Int32) (wa_who : Nat → Int32) (wa_kind : Nat → Int32) (wa_mood : Nat → Int32) : Option (Int32 × Int32 × Int32 × Int32) :=
  bd1 (f_X13_sumOpen mo_v wa_deep wa_beasts wa_who wa_kind wa_mood ((-1) : Int32)) fun r_1 =>
  f_X13_toOpen_L30 mo_v wa_lanes wa_deep wa_beasts wa_who wa_kind wa_mood 0 mo_trouble mo_where fuelN (-2) r_1 0
noncomputable def f_X13_gameOf (mo_v : Nat → Int32) (wa_deep : Int32) (wa_who : Nat → Int32) (wa_kind : Nat → Int32) (wa_mood : Nat → Int32) (p1 : Int32) (p2 : Int32) (p3 : Int32) : Option (Int64) :=
  (if p2 = p3 then
  bd1 (f_X13_worthBy mo_v wa_deep wa_kind wa_mood p1 (0 : Int32) (0 : Int32)) fun r_3 =>
  some (r_3)
  else
  bd1 (f_X13_worthIn mo_v wa_deep wa_who wa_kind wa_mood p1 p2) fun r_1 =>
  some (r_1))
noncomputable def f_X13_isRest_b3 (mo_v : Nat → Int32) (wa_lanes : Int32) (wa_deep : Int32) (wa_who : Nat → Int32) (wa_kind : Nat → Int32) (wa_mood : Nat → Int32) (x1 : Int32) (x2 : Int32) (x3 : Int32) (k3 : Int32 → Option (Int32)) (x4 : Int32) : Option (Int32) :=
  (if wa_lanes ≤ x4 then
  some (1)
  else
  bd1 (f_X13_gameOf mo_v wa_deep wa_who wa_kind wa_mood x1 x4 x3) fun r_1 =>
  bd1 (f_X13_gameOf mo_v wa_deep wa_who wa_kind wa_mood x1 x2 x3) fun r_3 =>
  (if r_1 ≤ r_3 then
  bd1 (f_X13_gameOf mo_v wa_deep wa_who wa_kind wa_mood x1 x2 x4) fun r_5 =>
  bd1 (f_X13_gameOf mo_v wa_deep wa_who wa_kind wa_mood x1 x2 x3) fun r_7 =>
  (if r_7 ≤ r_5 then
  k3 (x4 + 1)
  else
  some (0))
  else
  some (0)))
noncomputable def f_X13_isRest_L3 (mo_v : Nat → Int32) (wa_lanes : Int32) (wa_deep : Int32) (wa_who : Nat → Int32) (wa_kind : Nat → Int32) (wa_mood : Nat → Int32) (x1 : Int32) (x2 : Int32) (x3 : Int32) : Nat → Int32 → Option (Int32)
  | 0 => fun _ => none
  | n + 1 => f_X13_isRest_b3 mo_v wa_lanes wa_deep wa_who wa_kind wa_mood x1 x2 x3 (f_X13_isRest_L3 mo_v wa_lanes wa_deep wa_who wa_kind wa_mood x1 x2 x3 n)
noncomputable def f_X13_isRest (mo_v : Nat → Int32) (wa_lanes : Int32) (wa_deep : Int32) (wa_who : Nat → Int32) (wa_kind : Nat → Int32) (wa_mood : Nat → Int32) (p1 : Int32) (p2 : Int32) (p3 : Int32) : Option (Int32) :=
  f_X13_isRest_L3 mo_v wa_lanes wa_deep wa_who wa_kind wa_mood p1 p2 p3 fuelN 0
noncomputable def f_X13_rests_B80 (mo_v : Nat → Int32) (wa_lanes : Int32) (wa_deep : Int32) (wa_beasts : Int32) (wa_who : Nat → Int32) (wa_kind : Nat → Int32) (wa_mood : Nat → Int32) (x2 : Int32) (mo_thrown : Int32) (mo_trouble : Int32) (mo_where : Int32) : Option (Int32 × Int32 × Int32 × Int32) :=
  bd3 (f_X13_good mo_trouble mo_where x2) fun r_4 mo_trouble_5 mo_where_6 =>
  some (r_4, mo_thrown, mo_trouble_5, mo_where_6)
noncomputable def f_X13_rests_B74 (k23 : Int32 → Int32 → Option (Int32 × Int32 × Int32 × Int32)) (mo_v : Nat → Int32) (wa_lanes : Int32) (wa_deep : Int32) (wa_beasts : Int32) (wa_who : Nat → Int32) (wa_kind : Nat → Int32) (wa_mood : Nat → Int32) (x1 : Int32) (x2 : Int32) (x3 : Int32) (mo_thrown : Int32) (mo_trouble : Int32) (mo_where : Int32) : Option (Int32 × Int32 × Int32 × Int32) :=
  k23 x2 (x3 + 1)
noncomputable def f_X13_rests_B66 (k23 : Int32 → Int32 → Option (Int32 × Int32 × Int32 × Int32)) (k37 : Int32 → Int32 → Option (Int32 × Int32 × Int32 × Int32)) (mo_v : Nat → Int32) (wa_lanes : Int32) (wa_deep : Int32) (wa_beasts : Int32) (wa_who : Nat → Int32) (wa_kind : Nat → Int32) (wa_mood : Nat → Int32) (x1 : Int32) (x3 : Int32) (x4 : Int32) (t0 : Int32) (t1 : Int32) (mo_thrown : Int32) (mo_trouble : Int32) (mo_where : Int32) : Option (Int32 × Int32 × Int32 × Int32) :=
  k37 (t0 + t1) (x4 + 1)
noncomputable def f_X13_rests_b37 (k23 : Int32 → Int32 → Option (Int32 × Int32 × Int32 × Int32)) (mo_v : Nat → Int32) (wa_lanes : Int32) (wa_deep : Int32) (wa_beasts : Int32) (wa_who : Nat → Int32) (wa_kind : Nat → Int32) (wa_mood : Nat → Int32) (x1 : Int32) (x3 : Int32) (mo_thrown : Int32) (mo_trouble : Int32) (mo_where : Int32) (k37 : Int32 → Int32 → Option (Int32 × Int32 × Int32 × Int32)) (x2 : Int32) (x4 : Int32) : Option (Int32 × Int32 × Int32 × Int32) :=
  (if wa_lanes ≤ x4 then
  f_X13_rests_B74 k23 mo_v wa_lanes wa_deep wa_beasts wa_who wa_kind wa_mood x1 x2 x3 mo_thrown mo_trouble mo_where
  else
  bd1 (f_X13_isRest mo_v wa_lanes wa_deep wa_who wa_kind wa_mood x1 x3 x4) fun r_8 =>
  (if r_8 = 0 then
  f_X13_rests_B66 k23 k37 mo_v wa_lanes wa_deep wa_beasts wa_who wa_kind wa_mood x1 x3 x4 x2 0 mo_thrown mo_trouble mo_where
  else
  f_X13_rests_B66 k23 k37 mo_v wa_lanes wa_deep wa_beasts wa_who wa_kind wa_mood x1 x3 x4 x2 1 mo_thrown mo_trouble mo_where))
noncomputable def f_X13_rests_L37 (k23 : Int32 → Int32 → Option (Int32 × Int32 × Int32 × Int32)) (mo_v : Nat → Int32) (wa_lanes : Int32) (wa_deep : Int32) (wa_beasts : Int32) (wa_who : Nat → Int32) (wa_kind : Nat → Int32) (wa_mood : Nat → Int32) (x1 : Int32) (x3 : Int32) (mo_thrown : Int32) (mo_trouble : Int32) (mo_where : Int32) : Nat → Int32 → Int32 → Option (Int32 × Int32 × Int32 × Int32)
  | 0 => fun _ _ => none
  | n + 1 => f_X13_rests_b37 k23 mo_v wa_lanes wa_deep wa_beasts wa_who wa_kind wa_mood x1 x3 mo_thrown mo_trouble mo_where (f_X13_rests_L37 k23 mo_v wa_lanes wa_deep wa_beasts wa_who wa_kind wa_mood x1 x3 mo_thrown mo_trouble mo_where n)
noncomputable def f_X13_rests_b23 (mo_v : Nat → Int32) (wa_lanes : Int32) (wa_deep : Int32) (wa_beasts : Int32) (wa_who : Nat → Int32) (wa_kind : Nat → Int32) (wa_mood : Nat → Int32) (x1 : Int32) (mo_thrown : Int32) (mo_trouble : Int32) (mo_where : Int32) (k23 : Int32 → Int32 → Option (Int32 × Int32 × Int32 × Int32)) (x2 : Int32) (x3 : Int32) : Option (Int32 × Int32 × Int32 × Int32) :=
  (if wa_lanes ≤ x3 then
  f_X13_rests_B80 mo_v wa_lanes wa_deep wa_beasts wa_who wa_kind wa_mood x2 mo_thrown mo_trouble mo_where
  else
  f_X13_rests_L37 k23 mo_v wa_lanes wa_deep wa_beasts wa_who wa_kind wa_mood x1 x3 mo_thrown mo_trouble mo_where fuelN x2 0)
noncomputable def f_X13_rests_L23 (mo_v : Nat → Int32) (wa_lanes : Int32) (wa_deep : Int32) (wa_beasts : Int32) (wa_who : Nat → Int32) (wa_kind : Nat → Int32) (wa_mood : Nat → Int32) (x1 : Int32) (mo_thrown : Int32) (mo_trouble : Int32) (mo_where : Int32) : Nat → Int32 → Int32 → Option (Int32 × Int32 × Int32 × Int32)
  | 0 => fun _ _ => none
  | n + 1 => f_X13_rests_b23 mo_v wa_lanes wa_deep wa_beasts wa_who wa_kind wa_mood x1 mo_thrown mo_trouble mo_where (f_X13_rests_L23 mo_v wa_lanes wa_deep wa_beasts wa_who wa_kind wa_mood x1 mo_thrown mo_trouble mo_where n)
noncomputable def f_X13_rests (mo_thrown : Int32) (mo_trouble : Int32) (mo_where : Int32) (mo_v : Nat → Int32) (wa_lanes : Int32) (wa_deep : Int32) (wa_beasts : Int32) (wa_who : Nat → Int32) (wa_kind : Nat → Int32) (wa_mood : Nat → Int32) (p1 : Int32) : Option (Int32 × Int32 × Int32 × Int32) :=
  bd1 (f_X13_isBeast wa_beasts p1) fun r_1 =>
  (if r_1 = 0 then
  bd3 (f_X13_refused mo_trouble mo_where (1 : Int32)) fun r_11 mo_trouble_12 mo_where_13 =>
  some (r_11, 0, mo_trouble_12, mo_where_13)
  else
  f_X13_rests_L23 mo_v wa_lanes wa_deep wa_beasts wa_who wa_kind wa_mood p1 0 mo_trouble mo_where fuelN 0 0)
noncomputable def f_X13_rest_B78 (mo_v : Nat → Int32) (wa_lanes : Int32) (wa_deep : Int32) (wa_beasts : Int32) (wa_who : Nat → Int32) (wa_kind : Nat → Int32) (wa_mood : Nat → Int32) (mo_thrown : Int32) (mo_trouble : Int32) (mo_where : Int32) : Option (Int32 × Int32 × Int32 × Int32) :=
  bd3 (f_X13_good mo_trouble mo_where ((-2) : Int32)) fun r_4 mo_trouble_5 mo_where_6 =>
  some (r_4, mo_thrown, mo_trouble_5, mo_where_6)
noncomputable def f_X13_rest_B72 (k21 : Int32 → Option (Int32 × Int32 × Int32 × Int32)) (mo_v : Nat → Int32) (wa_lanes : Int32) (wa_deep : Int32) (wa_beasts : Int32) (wa_who : Nat → Int32) (wa_kind : Nat → Int32) (wa_mood : Nat → Int32) (x1 : Int32) (x2 : Int32) (mo_thrown : Int32) (mo_trouble : Int32) (mo_where : Int32) : Option (Int32 × Int32 × Int32 × Int32) :=
  k21 (x2 + 1)
noncomputable def f_X13_rest_b34 (k21 : Int32 → Option (Int32 × Int32 × Int32 × Int32)) (mo_v : Nat → Int32) (wa_lanes : Int32) (wa_deep : Int32) (wa_beasts : Int32) (wa_who : Nat → Int32) (wa_kind : Nat → Int32) (wa_mood : Nat → Int32) (x1 : Int32) (x2 : Int32) (mo_thrown : Int32) (mo_trouble : Int32) (mo_where : Int32) (k34 : Int32 → Option (Int32 × Int32 × Int32 × Int32)) (x3 : Int32) : Option (Int32 × Int32 × Int32 × Int32) :=
  (if wa_lanes ≤ x3 then
  f_X13_rest_B72 k21 mo_v wa_lanes wa_deep wa_beasts wa_who wa_kind wa_mood x1 x2 mo_thrown mo_trouble mo_where
  else
  bd1 (f_X13_isRest mo_v wa_lanes wa_deep wa_who wa_kind wa_mood x1 x2 x3) fun r_8 =>
  (if r_8 = 0 then
  k34 (x3 + 1)
  else
  bd3 (f_X13_good mo_trouble mo_where ((10 * x2) + x3)) fun r_11 mo_trouble_12 mo_where_13 =>
  some (r_11, mo_thrown, mo_trouble_12, mo_where_13)))
noncomputable def f_X13_rest_L34 (k21 : Int32 → Option (Int32 × Int32 × Int32 × Int32)) (mo_v : Nat → Int32) (wa_lanes : Int32) (wa_deep : Int32) (wa_beasts : Int32) (wa_who : Nat → Int32) (wa_kind : Nat → Int32) (wa_mood : Nat → Int32) (x1 : Int32) (x2 : Int32) (mo_thrown : Int32) (mo_trouble : Int32) (mo_where : Int32) : Nat → Int32 → Option (Int32 × Int32 × Int32 × Int32)
  | 0 => fun _ => none
  | n + 1 => f_X13_rest_b34 k21 mo_v wa_lanes wa_deep wa_beasts wa_who wa_kind wa_mood x1 x2 mo_thrown mo_trouble mo_where (f_X13_rest_L34 k21 mo_v wa_lanes wa_deep wa_beasts wa_who wa_kind wa_mood x1 x2 mo_thrown mo_trouble mo_where n)
noncomputable def f_X13_rest_b21 (mo_v : Nat → Int32) (wa_lanes : Int32) (wa_deep : Int32) (wa_beasts : Int32) (wa_who : Nat → Int32) (wa_kind : Nat → Int32) (wa_mood : Nat → Int32) (x1 : Int32) (mo_thrown : Int32) (mo_trouble : Int32) (mo_where : Int32) (k21 : Int32 → Option (Int32 × Int32 × Int32 × Int32)) (x2 : Int32) : Option (Int32 × Int32 × Int32 × Int32) :=
  (if wa_lanes ≤ x2 then
  f_X13_rest_B78 mo_v wa_lanes wa_deep wa_beasts wa_who wa_kind wa_mood mo_thrown mo_trouble mo_where
  else
  f_X13_rest_L34 k21 mo_v wa_lanes wa_deep wa_beasts wa_who wa_kind wa_mood x1 x2 mo_thrown mo_trouble mo_where fuelN 0)
noncomputable def f_X13_rest_L21 (mo_v : Nat → Int32) (wa_lanes : Int32) (wa_deep : Int32) (wa_beasts : Int32) (wa_who : Nat → Int32) (wa_kind : Nat → Int32) (wa_mood : Nat → Int32) (x1 : Int32) (mo_thrown : Int32) (mo_trouble : Int32) (mo_where : Int32) : Nat → Int32 → Option (Int32 × Int32 × Int32 × Int32)
  | 0 => fun _ => none
  | n + 1 => f_X13_rest_b21 mo_v wa_lanes wa_deep wa_beasts wa_who wa_kind wa_mood x1 mo_thrown mo_trouble mo_where (f_X13_rest_L21 mo_v wa_lanes wa_deep wa_beasts wa_who wa_kind wa_mood x1 mo_thrown mo_trouble mo_where n)
noncomputable def f_X13_rest (mo_thrown : Int32) (mo_trouble : Int32) (mo_where : Int32) (mo_v : Nat → Int32) (wa_lanes : Int32) (wa_deep : Int32) (wa_beasts : Int32) (wa_who : Nat → Int32) (wa_kind : Nat → Int32) (wa_mood : Nat → Int32) (p1 : Int32) : Option (Int32 × Int32 × Int32 × Int32) :=
  bd1 (f_X13_isBeast wa_beasts p1) fun r_1 =>
  (if r_1 = 0 then
  bd3 (f_X13_refused mo_trouble mo_where (1 : Int32)) fun r_15 mo_trouble_16 mo_where_17 =>
  some (r_15, 0, mo_trouble_16, mo_where_17)
  else
  f_X13_rest_L21 mo_v wa_lanes wa_deep wa_beasts wa_who wa_kind wa_mood p1 0 mo_trouble mo_where fuelN 0)
noncomputable def f_X13_weeks_B117 (mo_v : Nat → Int32) (wa_lanes : Int32) (wa_deep : Int32) (wa_beasts : Int32) (wa_who : Nat → Int32) (wa_kind : Nat → Int32) (wa_mood : Nat → Int32) (mo_thrown : Int32) (mo_trouble : Int32) (mo_where : Int32) : Option (Int32 × Int32 × Int32 × Int32) :=
  bd3 (f_X13_good mo_trouble mo_where ((-2) : Int32)) fun r_5 mo_trouble_6 mo_where_7 =>
  some (r_5, mo_thrown, mo_trouble_6, mo_where_7)
noncomputable def f_X13_weeks_B101 (k40 : Int32 → Option (Int32 × Int32 × Int32 × Int32)) (mo_v : Nat → Int32) (wa_lanes : Int32) (wa_deep : Int32) (wa_beasts : Int32) (wa_who : Nat → Int32) (wa_kind : Nat → Int32) (wa_mood : Nat → Int32) (x2 : Int32) (x3 : Int32) (mo_thrown : Int32) (mo_trouble : Int32) (mo_where : Int32) : Option (Int32 × Int32 × Int32 × Int32) :=
  (if x3 = 0 then
  k40 (x2 + 1)
  else
  bd3 (f_X13_good mo_trouble mo_where x2) fun r_9 mo_trouble_10 mo_where_11 =>
  some (r_9, mo_thrown, mo_trouble_10, mo_where_11))
noncomputable def f_X13_weeks_B94 (k40 : Int32 → Option (Int32 × Int32 × Int32 × Int32)) (k51 : Int32 → Int32 → Option (Int32 × Int32 × Int32 × Int32)) (mo_v : Nat → Int32) (wa_lanes : Int32) (wa_deep : Int32) (wa_beasts : Int32) (wa_who : Nat → Int32) (wa_kind : Nat → Int32) (wa_mood : Nat → Int32) (x2 : Int32) (x4 : Int32) (t0 : Int32) (mo_thrown : Int32) (mo_trouble : Int32) (mo_where : Int32) : Option (Int32 × Int32 × Int32 × Int32) :=
  k51 t0 (x4 + 1)
noncomputable def f_X13_weeks_B93 (k40 : Int32 → Option (Int32 × Int32 × Int32 × Int32)) (k51 : Int32 → Int32 → Option (Int32 × Int32 × Int32 × Int32)) (mo_v : Nat → Int32) (wa_lanes : Int32) (wa_deep : Int32) (wa_beasts : Int32) (wa_who : Nat → Int32) (wa_kind : Nat → Int32) (wa_mood : Nat → Int32) (x2 : Int32) (x4 : Int32) (mo_thrown : Int32) (mo_trouble : Int32) (mo_where : Int32) : Option (Int32 × Int32 × Int32 × Int32) :=
  f_X13_weeks_B94 k40 k51 mo_v wa_lanes wa_deep wa_beasts wa_who wa_kind wa_mood x2 x4 0 mo_thrown mo_trouble mo_where
noncomputable def f_X13_weeks_B89 (k40 : Int32 → Option (Int32 × Int32 × Int32 × Int32)) (k51 : Int32 → Int32 → Option (Int32 × Int32 × Int32 × Int32)) (mo_v : Nat → Int32) (wa_lanes : Int32) (wa_deep : Int32) (wa_beasts : Int32) (wa_who : Nat → Int32) (wa_kind : Nat → Int32) (wa_mood : Nat → Int32) (x2 : Int32) (x4 : Int32) (mo_thrown : Int32) (mo_trouble : Int32) (mo_where : Int32) : Option (Int32 × Int32 × Int32 × Int32) :=
  f_X13_weeks_B94 k40 k51 mo_v wa_lanes wa_deep wa_beasts wa_who wa_kind wa_mood x2 x4 1 mo_thrown mo_trouble mo_where
noncomputable def f_X13_weeks_b51 (k40 : Int32 → Option (Int32 × Int32 × Int32 × Int32)) (mo_v : Nat → Int32) (wa_lanes : Int32) (wa_deep : Int32) (wa_beasts : Int32) (wa_who : Nat → Int32) (wa_kind : Nat → Int32) (wa_mood : Nat → Int32) (x2 : Int32) (mo_thrown : Int32) (mo_trouble : Int32) (mo_where : Int32) (k51 : Int32 → Int32 → Option (Int32 × Int32 × Int32 × Int32)) (x3 : Int32) (x4 : Int32) : Option (Int32 × Int32 × Int32 × Int32) :=
  (if wa_beasts ≤ x4 then
  f_X13_weeks_B101 k40 mo_v wa_lanes wa_deep wa_beasts wa_who wa_kind wa_mood x2 x3 mo_thrown mo_trouble mo_where
  else
  (if x3 = 0 then
  f_X13_weeks_B93 k40 k51 mo_v wa_lanes wa_deep wa_beasts wa_who wa_kind wa_mood x2 x4 mo_thrown mo_trouble mo_where
  else
  bd1 (f_X13_isDead mo_v x4) fun r_13 =>
  (if r_13 = 0 then
  bd1 (f_X13_worthBy mo_v wa_deep wa_kind wa_mood x4 (3 : Int32) x2) fun r_16 =>
  (if 0 < r_16 then
  f_X13_weeks_B93 k40 k51 mo_v wa_lanes wa_deep wa_beasts wa_who wa_kind wa_mood x2 x4 mo_thrown mo_trouble mo_where
  else
  f_X13_weeks_B89 k40 k51 mo_v wa_lanes wa_deep wa_beasts wa_who wa_kind wa_mood x2 x4 mo_thrown mo_trouble mo_where)
  else
  f_X13_weeks_B89 k40 k51 mo_v wa_lanes wa_deep wa_beasts wa_who wa_kind wa_mood x2 x4 mo_thrown mo_trouble mo_where)))
noncomputable def f_X13_weeks_L51 (k40 : Int32 → Option (Int32 × Int32 × Int32 × Int32)) (mo_v : Nat → Int32) (wa_lanes : Int32) (wa_deep : Int32) (wa_beasts : Int32) (wa_who : Nat → Int32) (wa_kind : Nat → Int32) (wa_mood : Nat → Int32) (x2 : Int32) (mo_thrown : Int32) (mo_trouble : Int32) (mo_where : Int32) : Nat → Int32 → Int32 → Option (Int32 × Int32 × Int32 × Int32)
  | 0 => fun _ _ => none
  | n + 1 => f_X13_weeks_b51 k40 mo_v wa_lanes wa_deep wa_beasts wa_who wa_kind wa_mood x2 mo_thrown mo_trouble mo_where (f_X13_weeks_L51 k40 mo_v wa_lanes wa_deep wa_beasts wa_who wa_kind wa_mood x2 mo_thrown mo_trouble mo_where n)
noncomputable def f_X13_weeks_b40 (mo_v : Nat → Int32) (wa_lanes : Int32) (wa_deep : Int32) (wa_beasts : Int32) (wa_who : Nat → Int32) (wa_kind : Nat → Int32) (wa_mood : Nat → Int32) (mo_thrown : Int32) (mo_trouble : Int32) (mo_where : Int32) (k40 : Int32 → Option (Int32 × Int32 × Int32 × Int32)) (x2 : Int32) : Option (Int32 × Int32 × Int32 × Int32) :=
  (if 30 < x2 then
  f_X13_weeks_B117 mo_v wa_lanes wa_deep wa_beasts wa_who wa_kind wa_mood mo_thrown mo_trouble mo_where
  else
  f_X13_weeks_L51 k40 mo_v wa_lanes wa_deep wa_beasts wa_who wa_kind wa_mood x2 mo_thrown mo_trouble mo_where fuelN 1 0)
noncomputable def f_X13_weeks_L40 (mo_v : Nat → Int32) (wa_lanes : Int32) (wa_deep : Int32) (wa_beasts : Int32) (wa_who : Nat → Int32) (wa_kind : Nat → Int32) (wa_mood : Nat → Int32) (mo_thrown : Int32) (mo_trouble : Int32) (mo_where : Int32) : Nat → Int32 → Option (Int32 × Int32 × Int32 × Int32)
  | 0 => fun _ => none
  | n + 1 => f_X13_weeks_b40 mo_v wa_lanes wa_deep wa_beasts wa_who wa_kind wa_mood mo_thrown mo_trouble mo_where (f_X13_weeks_L40 mo_v wa_lanes wa_deep wa_beasts wa_who wa_kind wa_mood mo_thrown mo_trouble mo_where n)
noncomputable def f_X13_weeks (mo_thrown : Int32) (mo_trouble : Int32) (mo_where : Int32) (mo_v : Nat → Int32) (wa_lanes : Int32) (wa_deep : Int32) (wa_beasts : Int32) (wa_who : Nat → Int32) (wa_kind : Nat → Int32) (wa_mood : Nat → Int32) (p1 : Int32) : Option (Int32 × Int32 × Int32 × Int32) :=
  bd1 (f_X13_isLane wa_lanes p1) fun r_1 =>
  (if r_1 = 0 then
  bd3 (f_X13_refused mo_trouble mo_where (1 : Int32)) fun r_22 mo_trouble_23 mo_where_24 =>
  some (r_22, 0, mo_trouble_23, mo_where_24)
  else
  gIn p1 6 <|
  (if (wa_who p1.toNatClampNeg) = 3 then
  f_X13_weeks_L40 mo_v wa_lanes wa_deep wa_beasts wa_who wa_kind wa_mood 0 mo_trouble mo_where fuelN 0
  else
  bd3 (f_X13_refused mo_trouble mo_where (5 : Int32)) fun r_18 mo_trouble_19 mo_where_20 =>
  some (r_18, 0, mo_trouble_19, mo_where_20)))
noncomputable def f_X13_marches_B172 (k51 : Int32 → Int32 → Int32 → Int32 → (Nat → Int32) → (Nat → Int32) → (Nat → Int32) → Option (Int32 × Int32 × (Nat → Int32) × (Nat → Int32) × (Nat → Int32))) (wa_cities : Int32) (wa_loses : Nat → Int32) (x2 : Int32) (x4 : Int32) (x5 : Int32) (mo_bestSize : Int32) (mo_bestLeft : Int32) (mo_row : Nat → Int32) (mo_best : Nat → Int32) (mo_left : Nat → Int32) : Option (Int32 × Int32 × (Nat → Int32) × (Nat → Int32) × (Nat → Int32)) :=
  gIn x5 6 <|
  (if (mo_row x5.toNatClampNeg) < wa_cities then
  gIn x5 6 <|
  gIn (x5 - 1) 6 <|
  gIn (x5 - 1) 6 <|
  gIn x5 6 <|
  gIn ((6 * (mo_row (x5 - 1).toNatClampNeg)) + (mo_row x5.toNatClampNeg)) 36 <|
  bd1 (f_X13_over  (mo_left (x5 - 1).toNatClampNeg) (wa_loses ((6 * (mo_row (x5 - 1).toNatClampNeg)) + (mo_row x5.toNatClampNeg)).toNatClampNeg)) fun r_11 =>
  gIn x5 6 <|
  gIn x5 6 <|
  (if (mo_row x5.toNatClampNeg) = x2 then
  bd3 (f_X13_comes mo_bestSize mo_bestLeft mo_row mo_best (upd mo_left x5.toNatClampNeg r_11) (x5 + 1)) fun mo_bestSize_16 mo_bestLeft_17 mo_best_18 =>
  k51 (x4 ||| ((1 : Int32) <<< ((mo_row x5.toNatClampNeg) &&& 31))) x5 mo_bestSize_16 mo_bestLeft_17 mo_row mo_best_18 (upd mo_left x5.toNatClampNeg r_11)
  else
  (if wa_cities ≤ (x5 + 1) then
  k51 (x4 ||| ((1 : Int32) <<< ((mo_row x5.toNatClampNeg) &&& 31))) x5 mo_bestSize mo_bestLeft mo_row mo_best (upd mo_left x5.toNatClampNeg r_11)
  else
  gIn (x5 + 1) 6 <|
  k51 (x4 ||| ((1 : Int32) <<< ((mo_row x5.toNatClampNeg) &&& 31))) (x5 + 1) mo_bestSize mo_bestLeft (upd mo_row (x5 + 1).toNatClampNeg (-1)) mo_best (upd mo_left x5.toNatClampNeg r_11)))
  else
  k51 x4 (x5 + (-1)) mo_bestSize mo_bestLeft mo_row mo_best mo_left)
noncomputable def f_X13_marches_B158 (k51 : Int32 → Int32 → Int32 → Int32 → (Nat → Int32) → (Nat → Int32) → (Nat → Int32) → Option (Int32 × Int32 × (Nat → Int32) × (Nat → Int32) × (Nat → Int32))) (k94 : (Nat → Int32) → Option (Int32 × Int32 × (Nat → Int32) × (Nat → Int32) × (Nat → Int32))) (wa_cities : Int32) (wa_loses : Nat → Int32) (x2 : Int32) (x4 : Int32) (x5 : Int32) (mo_bestSize : Int32) (mo_bestLeft : Int32) (mo_row : Nat → Int32) (mo_best : Nat → Int32) (mo_left : Nat → Int32) : Option (Int32 × Int32 × (Nat → Int32) × (Nat → Int32) × (Nat → Int32)) :=
  gIn x5 6 <|
  gIn x5 6 <|
  k94 (upd mo_row x5.toNatClampNeg ((mo_row x5.toNatClampNeg) + 1))
noncomputable def f_X13_marches_b94 (k51 : Int32 → Int32 → Int32 → Int32 → (Nat → Int32) → (Nat → Int32) → (Nat → Int32) → Option (Int32 × Int32 × (Nat → Int32) × (Nat → Int32) × (Nat → Int32))) (wa_cities : Int32) (wa_loses : Nat → Int32) (x2 : Int32) (x4 : Int32) (x5 : Int32) (mo_bestSize : Int32) (mo_bestLeft : Int32) (mo_best : Nat → Int32) (mo_left : Nat → Int32) (k94 : (Nat → Int32) → Option (Int32 × Int32 × (Nat → Int32) × (Nat → Int32) × (Nat → Int32))) (mo_row : Nat → Int32) : Option (Int32 × Int32 × (Nat → Int32) × (Nat → Int32) × (Nat → Int32)) :=
  gIn x5 6 <|
  (if wa_cities ≤ (mo_row x5.toNatClampNeg) then
  f_X13_marches_B172 k51 wa_cities wa_loses x2 x4 x5 mo_bestSize mo_bestLeft mo_row mo_best mo_left
  else
  gIn x5 6 <|
  bd1 (f_X13_bit  x4 (mo_row x5.toNatClampNeg)) fun r_21 =>
  (if r_21 = 0 then
  gIn (x5 - 1) 6 <|
  gIn x5 6 <|
  gIn ((6 * (mo_row (x5 - 1).toNatClampNeg)) + (mo_row x5.toNatClampNeg)) 36 <|
  (if (wa_loses ((6 * (mo_row (x5 - 1).toNatClampNeg)) + (mo_row x5.toNatClampNeg)).toNatClampNeg) = (-1) then
  f_X13_marches_B158 k51 k94 wa_cities wa_loses x2 x4 x5 mo_bestSize mo_bestLeft mo_row mo_best mo_left
  else
  f_X13_marches_B172 k51 wa_cities wa_loses x2 x4 x5 mo_bestSize mo_bestLeft mo_row mo_best mo_left)
  else
  f_X13_marches_B158 k51 k94 wa_cities wa_loses x2 x4 x5 mo_bestSize mo_bestLeft mo_row mo_best mo_left))
noncomputable def f_X13_marches_L94 (k51 : Int32 → Int32 → Int32 → Int32 → (Nat → Int32) → (Nat → Int32) → (Nat → Int32) → Option (Int32 × Int32 × (Nat → Int32) × (Nat → Int32) × (Nat → Int32))) (wa_cities : Int32) (wa_loses : Nat → Int32) (x2 : Int32) (x4 : Int32) (x5 : Int32) (mo_bestSize : Int32) (mo_bestLeft : Int32) (mo_best : Nat → Int32) (mo_left : Nat → Int32) : Nat → (Nat → Int32) → Option (Int32 × Int32 × (Nat → Int32) × (Nat → Int32) × (Nat → Int32))
  | 0 => fun _ => none
  | n + 1 => f_X13_marches_b94 k51 wa_cities wa_loses x2 x4 x5 mo_bestSize mo_bestLeft mo_best mo_left (f_X13_marches_L94 k51 wa_cities wa_loses x2 x4 x5 mo_bestSize mo_bestLeft mo_best mo_left n)
noncomputable def f_X13_marches_B83 (k51 : Int32 → Int32 → Int32 → Int32 → (Nat → Int32) → (Nat → Int32) → (Nat → Int32) → Option (Int32 × Int32 × (Nat → Int32) × (Nat → Int32) × (Nat → Int32))) (wa_cities : Int32) (wa_loses : Nat → Int32) (x2 : Int32) (x4 : Int32) (x5 : Int32) (mo_bestSize : Int32) (mo_bestLeft : Int32) (mo_row : Nat → Int32) (mo_best : Nat → Int32) (mo_left : Nat → Int32) : Option (Int32 × Int32 × (Nat → Int32) × (Nat → Int32) × (Nat → Int32)) :=
  gIn x5 6 <|
  gIn x5 6 <|
  f_X13_marches_L94 k51 wa_cities wa_loses x2 x4 x5 mo_bestSize mo_bestLeft mo_best mo_left fuelN (upd mo_row x5.toNatClampNeg ((mo_row x5.toNatClampNeg) + 1))
noncomputable def f_X13_marches_b51 (wa_cities : Int32) (wa_loses : Nat → Int32) (x2 : Int32) (k51 : Int32 → Int32 → Int32 → Int32 → (Nat → Int32) → (Nat → Int32) → (Nat → Int32) → Option (Int32 × Int32 × (Nat → Int32) × (Nat → Int32) × (Nat → Int32))) (x4 : Int32) (x5 : Int32) (mo_bestSize : Int32) (mo_bestLeft : Int32) (mo_row : Nat → Int32) (mo_best : Nat → Int32) (mo_left : Nat → Int32) : Option (Int32 × Int32 × (Nat → Int32) × (Nat → Int32) × (Nat → Int32)) :=
  (if x5 ≤ 0 then
  some (mo_bestSize, mo_bestLeft, mo_row, mo_best, mo_left)
  else
  gIn x5 6 <|
  (if (mo_row x5.toNatClampNeg) = (-1) then
  f_X13_marches_B83 k51 wa_cities wa_loses x2 x4 x5 mo_bestSize mo_bestLeft mo_row mo_best mo_left
  else
  gIn x5 6 <|
  f_X13_marches_B83 k51 wa_cities wa_loses x2 (x4 &&& (((1 : Int32) <<< ((mo_row x5.toNatClampNeg) &&& 31)) ^^^ (-1))) x5 mo_bestSize mo_bestLeft mo_row mo_best mo_left))
noncomputable def f_X13_marches_L51 (wa_cities : Int32) (wa_loses : Nat → Int32) (x2 : Int32) : Nat → Int32 → Int32 → Int32 → Int32 → (Nat → Int32) → (Nat → Int32) → (Nat → Int32) → Option (Int32 × Int32 × (Nat → Int32) × (Nat → Int32) × (Nat → Int32))
  | 0 => fun _ _ _ _ _ _ _ => none
  | n + 1 => f_X13_marches_b51 wa_cities wa_loses x2 (f_X13_marches_L51 wa_cities wa_loses x2 n)
noncomputable def f_X13_marches (mo_bestSize : Int32) (mo_bestLeft : Int32) (mo_row : Nat → Int32) (mo_best : Nat → Int32) (mo_left : Nat → Int32) (wa_cities : Int32) (wa_loses : Nat → Int32) (p1 : Int32) (p2 : Int32) (p3 : Int32) : Option (Int32 × Int32 × (Nat → Int32) × (Nat → Int32) × (Nat → Int32)) :=
  (if p1 = p2 then
  bd3 (f_X13_comes 0 (-2) (upd mo_row ((0 : Int32).toNatClampNeg) p1) mo_best (upd mo_left ((0 : Int32).toNatClampNeg) p3) (1 : Int32)) fun mo_bestSize_30 mo_bestLeft_31 mo_best_32 =>
  some (mo_bestSize_30, mo_bestLeft_31, upd mo_row ((0 : Int32).toNatClampNeg) p1, mo_best_32, upd mo_left ((0 : Int32).toNatClampNeg) p3)
  else
  f_X13_marches_L51 wa_cities wa_loses p2 fuelN ((1 : Int32) <<< (p1 &&& 31)) 1 0 (-2) (upd (upd mo_row ((0 : Int32).toNatClampNeg) p1) ((1 : Int32).toNatClampNeg) (-1)) mo_best (upd mo_left ((0 : Int32).toNatClampNeg) p3))
noncomputable def f_X13_march (mo_thrown : Int32) (mo_trouble : Int32) (mo_where : Int32) (mo_bestSize : Int32) (mo_bestLeft : Int32) (mo_row : Nat → Int32) (mo_best : Nat → Int32) (mo_left : Nat → Int32) (wa_cities : Int32) (wa_loses : Nat → Int32) (p1 : Int32) (p2 : Int32) (p3 : Int32) : Option (Int32 × Int32 × Int32 × Int32 × Int32 × Int32 × (Nat → Int32) × (Nat → Int32) × (Nat → Int32)) :=
  bd1 (f_X13_refusesMarch wa_cities p1 p2 p3) fun r_1 =>
  (if r_1 ≤ 0 then
  bd5 (f_X13_marches mo_bestSize mo_bestLeft mo_row mo_best mo_left wa_cities wa_loses p1 p2 p3) fun mo_bestSize_3 mo_bestLeft_4 mo_row_5 mo_best_6 mo_left_7 =>
  bd3 (f_X13_good mo_trouble mo_where mo_bestLeft_4) fun r_9 mo_trouble_10 mo_where_11 =>
  some (r_9, 0, mo_trouble_10, mo_where_11, mo_bestSize_3, mo_bestLeft_4, mo_row_5, mo_best_6, mo_left_7)
  else
  bd3 (f_X13_refused mo_trouble mo_where r_1) fun r_13 mo_trouble_14 mo_where_15 =>
  some (r_13, 0, mo_trouble_14, mo_where_15, mo_bestSize, mo_bestLeft, mo_row, mo_best, mo_left))
noncomputable def f_X13_marchAt_B61 (wa_cities : Int32) (wa_loses : Nat → Int32) (mo_thrown : Int32) (mo_trouble : Int32) (mo_where : Int32) (mo_bestSize : Int32) (mo_bestLeft : Int32) (mo_row : Nat → Int32) (mo_best : Nat → Int32) (mo_left : Nat → Int32) : Option (Int32 × Int32 × Int32 × Int32 × Int32 × Int32 × (Nat → Int32) × (Nat → Int32) × (Nat → Int32)) :=
  bd3 (f_X13_refused mo_trouble mo_where (1 : Int32)) fun r_9 mo_trouble_10 mo_where_11 =>
  some (r_9, mo_thrown, mo_trouble_10, mo_where_11, mo_bestSize, mo_bestLeft, mo_row, mo_best, mo_left)
noncomputable def f_X13_marchAt (mo_thrown : Int32) (mo_trouble : Int32) (mo_where : Int32) (mo_bestSize : Int32) (mo_bestLeft : Int32) (mo_row : Nat → Int32) (mo_best : Nat → Int32) (mo_left : Nat → Int32) (wa_cities : Int32) (wa_loses : Nat → Int32) (p1 : Int32) (p2 : Int32) (p3 : Int32) (p4 : Int32) : Option (Int32 × Int32 × Int32 × Int32 × Int32 × Int32 × (Nat → Int32) × (Nat → Int32) × (Nat → Int32)) :=
  bd1 (f_X13_refusesMarch wa_cities p1 p2 p3) fun r_1 =>
  (if r_1 ≤ 0 then
  bd5 (f_X13_marches mo_bestSize mo_bestLeft mo_row mo_best mo_left wa_cities wa_loses p1 p2 p3) fun mo_bestSize_3 mo_bestLeft_4 mo_row_5 mo_best_6 mo_left_7 =>
  (if p4 < 0 then
  f_X13_marchAt_B61 wa_cities wa_loses 0 mo_trouble mo_where mo_bestSize_3 mo_bestLeft_4 mo_row_5 mo_best_6 mo_left_7
  else
  (if mo_bestSize_3 ≤ p4 then
  f_X13_marchAt_B61 wa_cities wa_loses 0 mo_trouble mo_where mo_bestSize_3 mo_bestLeft_4 mo_row_5 mo_best_6 mo_left_7
  else
  gIn p4 6 <|
  bd3 (f_X13_good mo_trouble mo_where (mo_best_6 p4.toNatClampNeg)) fun r_14 mo_trouble_15 mo_where_16 =>
  some (r_14, 0, mo_trouble_15, mo_where_16, mo_bestSize_3, mo_bestLeft_4, mo_row_5, mo_best_6, mo_left_7)))
  else
  bd3 (f_X13_refused mo_trouble mo_where r_1) fun r_18 mo_trouble_19 mo_where_20 =>
  some (r_18, 0, mo_trouble_19, mo_where_20, mo_bestSize, mo_bestLeft, mo_row, mo_best, mo_left))
noncomputable def f_X13_worstPass_B139 (wa_cities : Int32) (wa_loses : Nat → Int32) (x5 : Int32) (mo_thrown : Int32) (mo_trouble : Int32) (mo_where : Int32) (mo_bestSize : Int32) (mo_bestLeft : Int32) (mo_row : Nat → Int32) (mo_best : Nat → Int32) (mo_left : Nat → Int32) : Option (Int32 × Int32 × Int32 × Int32 × Int32 × Int32 × (Nat → Int32) × (Nat → Int32) × (Nat → Int32)) :=
  bd3 (f_X13_good mo_trouble mo_where x5) fun r_9 mo_trouble_10 mo_where_11 =>
  some (r_9, mo_thrown, mo_trouble_10, mo_where_11, mo_bestSize, mo_bestLeft, mo_row, mo_best, mo_left)
noncomputable def f_X13_worstPass_B129 (k46 : Int32 → Int32 → Int32 → Int32 → Option (Int32 × Int32 × Int32 × Int32 × Int32 × Int32 × (Nat → Int32) × (Nat → Int32) × (Nat → Int32))) (wa_cities : Int32) (wa_loses : Nat → Int32) (x5 : Int32) (x6 : Int32) (x8 : Int32) (x9 : Int32) (mo_thrown : Int32) (mo_trouble : Int32) (mo_where : Int32) (mo_bestSize : Int32) (mo_bestLeft : Int32) (mo_row : Nat → Int32) (mo_best : Nat → Int32) (mo_left : Nat → Int32) : Option (Int32 × Int32 × Int32 × Int32 × Int32 × Int32 × (Nat → Int32) × (Nat → Int32) × (Nat → Int32)) :=
  k46 x5 x6 x9 (x8 + 1)
noncomputable def f_X13_worstPass_b46 (wa_cities : Int32) (wa_loses : Nat → Int32) (mo_thrown : Int32) (mo_trouble : Int32) (mo_where : Int32) (mo_bestSize : Int32) (mo_bestLeft : Int32) (mo_row : Nat → Int32) (mo_best : Nat → Int32) (mo_left : Nat → Int32) (k46 : Int32 → Int32 → Int32 → Int32 → Option (Int32 × Int32 × Int32 × Int32 × Int32 × Int32 × (Nat → Int32) × (Nat → Int32) × (Nat → Int32))) (x5 : Int32) (x6 : Int32) (x7 : Int32) (x8 : Int32) : Option (Int32 × Int32 × Int32 × Int32 × Int32 × Int32 × (Nat → Int32) × (Nat → Int32) × (Nat → Int32)) :=
  (if mo_bestSize ≤ x8 then
  f_X13_worstPass_B139 wa_cities wa_loses x5 mo_thrown mo_trouble mo_where mo_bestSize mo_bestLeft mo_row mo_best mo_left
  else
  gIn (x8 - 1) 6 <|
  gIn x8 6 <|
  gIn ((6 * (mo_best (x8 - 1).toNatClampNeg)) + (mo_best x8.toNatClampNeg)) 36 <|
  bd1 (f_X13_over  x7 (wa_loses ((6 * (mo_best (x8 - 1).toNatClampNeg)) + (mo_best x8.toNatClampNeg)).toNatClampNeg)) fun r_16 =>
  (if (x7 - r_16) ≤ x6 then
  f_X13_worstPass_B129 k46 wa_cities wa_loses x5 x6 x8 r_16 mo_thrown mo_trouble mo_where mo_bestSize mo_bestLeft mo_row mo_best mo_left
  else
  gIn (x8 - 1) 6 <|
  gIn x8 6 <|
  f_X13_worstPass_B129 k46 wa_cities wa_loses ((10 * (mo_best (x8 - 1).toNatClampNeg)) + (mo_best x8.toNatClampNeg)) (x7 - r_16) x8 r_16 mo_thrown mo_trouble mo_where mo_bestSize mo_bestLeft mo_row mo_best mo_left))
noncomputable def f_X13_worstPass_L46 (wa_cities : Int32) (wa_loses : Nat → Int32) (mo_thrown : Int32) (mo_trouble : Int32) (mo_where : Int32) (mo_bestSize : Int32) (mo_bestLeft : Int32) (mo_row : Nat → Int32) (mo_best : Nat → Int32) (mo_left : Nat → Int32) : Nat → Int32 → Int32 → Int32 → Int32 → Option (Int32 × Int32 × Int32 × Int32 × Int32 × Int32 × (Nat → Int32) × (Nat → Int32) × (Nat → Int32))
  | 0 => fun _ _ _ _ => none
  | n + 1 => f_X13_worstPass_b46 wa_cities wa_loses mo_thrown mo_trouble mo_where mo_bestSize mo_bestLeft mo_row mo_best mo_left (f_X13_worstPass_L46 wa_cities wa_loses mo_thrown mo_trouble mo_where mo_bestSize mo_bestLeft mo_row mo_best mo_left n)
noncomputable def f_X13_worstPass (mo_thrown : Int32) (mo_trouble : Int32) (mo_where : Int32) (mo_bestSize : Int32) (mo_bestLeft : Int32) (mo_row : Nat → Int32) (mo_best : Nat → Int32) (mo_left : Nat → Int32) (wa_cities : Int32) (wa_loses : Nat → Int32) (p1 : Int32) (p2 : Int32) (p3 : Int32) : Option (Int32 × Int32 × Int32 × Int32 × Int32 × Int32 × (Nat → Int32) × (Nat → Int32) × (Nat → Int32)) :=
  bd1 (f_X13_refusesMarch wa_cities p1 p2 p3) fun r_1 =>
  (if r_1 ≤ 0 then
  bd5 (f_X13_marches mo_bestSize mo_bestLeft mo_row mo_best mo_left wa_cities wa_loses p1 p2 p3) fun mo_bestSize_3 mo_bestLeft_4 mo_row_5 mo_best_6 mo_left_7 =>
  f_X13_worstPass_L46 wa_cities wa_loses 0 mo_trouble mo_where mo_bestSize_3 mo_bestLeft_4 mo_row_5 mo_best_6 mo_left_7 fuelN (-2) 0 p3 1
  else
  bd3 (f_X13_refused mo_trouble mo_where r_1) fun r_20 mo_trouble_21 mo_where_22 =>
  some (r_20, 0, mo_trouble_21, mo_where_22, mo_bestSize, mo_bestLeft, mo_row, mo_best, mo_left))
noncomputable def f_X13_setOut_B73 (wa_cities : Int32) (wa_loses : Nat → Int32) (mo_thrown : Int32) (mo_trouble : Int32) (mo_where : Int32) (mo_bestSize : Int32) (mo_bestLeft : Int32) (mo_row : Nat → Int32) (mo_best : Nat → Int32) (mo_left : Nat → Int32) : Option (Int32 × Int32 × Int32 × Int32 × Int32 × Int32 × (Nat → Int32) × (Nat → Int32) × (Nat → Int32)) :=
  bd3 (f_X13_good mo_trouble mo_where ((-2) : Int32)) fun r_3 mo_trouble_4 mo_where_5 =>
  some (r_3, mo_thrown, mo_trouble_4, mo_where_5, mo_bestSize, mo_bestLeft, mo_row, mo_best, mo_left)
noncomputable def f_X13_setOut_B67 (k29 : Int32 → Int32 → Int32 → (Nat → Int32) → (Nat → Int32) → (Nat → Int32) → Option (Int32 × Int32 × Int32 × Int32 × Int32 × Int32 × (Nat → Int32) × (Nat → Int32) × (Nat → Int32))) (wa_cities : Int32) (wa_loses : Nat → Int32) (x1 : Int32) (x2 : Int32) (x3 : Int32) (x5 : Int32) (mo_thrown : Int32) (mo_trouble : Int32) (mo_where : Int32) (mo_bestSize : Int32) (mo_bestLeft : Int32) (mo_row : Nat → Int32) (mo_best : Nat → Int32) (mo_left : Nat → Int32) : Option (Int32 × Int32 × Int32 × Int32 × Int32 × Int32 × (Nat → Int32) × (Nat → Int32) × (Nat → Int32)) :=
  k29 (x5 + 1) mo_bestSize mo_bestLeft mo_row mo_best mo_left
noncomputable def f_X13_setOut_b29 (wa_cities : Int32) (wa_loses : Nat → Int32) (x1 : Int32) (x2 : Int32) (x3 : Int32) (mo_thrown : Int32) (mo_trouble : Int32) (mo_where : Int32) (k29 : Int32 → Int32 → Int32 → (Nat → Int32) → (Nat → Int32) → (Nat → Int32) → Option (Int32 × Int32 × Int32 × Int32 × Int32 × Int32 × (Nat → Int32) × (Nat → Int32) × (Nat → Int32))) (x5 : Int32) (mo_bestSize : Int32) (mo_bestLeft : Int32) (mo_row : Nat → Int32) (mo_best : Nat → Int32) (mo_left : Nat → Int32) : Option (Int32 × Int32 × Int32 × Int32 × Int32 × Int32 × (Nat → Int32) × (Nat → Int32) × (Nat → Int32)) :=
  (if 999 < x5 then
  f_X13_setOut_B73 wa_cities wa_loses mo_thrown mo_trouble mo_where mo_bestSize mo_bestLeft mo_row mo_best mo_left
  else
  bd5 (f_X13_marches mo_bestSize mo_bestLeft mo_row mo_best mo_left wa_cities wa_loses x1 x2 x5) fun mo_bestSize_7 mo_bestLeft_8 mo_row_9 mo_best_10 mo_left_11 =>
  (if mo_bestSize_7 ≤ 0 then
  f_X13_setOut_B67 k29 wa_cities wa_loses x1 x2 x3 x5 mo_thrown mo_trouble mo_where mo_bestSize_7 mo_bestLeft_8 mo_row_9 mo_best_10 mo_left_11
  else
  (if mo_bestLeft_8 < x3 then
  f_X13_setOut_B67 k29 wa_cities wa_loses x1 x2 x3 x5 mo_thrown mo_trouble mo_where mo_bestSize_7 mo_bestLeft_8 mo_row_9 mo_best_10 mo_left_11
  else
  bd3 (f_X13_good mo_trouble mo_where x5) fun r_13 mo_trouble_14 mo_where_15 =>
  some (r_13, mo_thrown, mo_trouble_14, mo_where_15, mo_bestSize_7, mo_bestLeft_8, mo_row_9, mo_best_10, mo_left_11))))
noncomputable def f_X13_setOut_L29 (wa_cities : Int32) (wa_loses : Nat → Int32) (x1 : Int32) (x2 : Int32) (x3 : Int32) (mo_thrown : Int32) (mo_trouble : Int32) (mo_where : Int32) : Nat → Int32 → Int32 → Int32 → (Nat → Int32) → (Nat → Int32) → (Nat → Int32) → Option (Int32 × Int32 × Int32 × Int32 × Int32 × Int32 × (Nat → Int32) × (Nat → Int32) × (Nat → Int32))
  | 0 => fun _ _ _ _ _ _ => none
  | n + 1 => f_X13_setOut_b29 wa_cities wa_loses x1 x2 x3 mo_thrown mo_trouble mo_where (f_X13_setOut_L29 wa_cities wa_loses x1 x2 x3 mo_thrown mo_trouble mo_where n)
noncomputable def f_X13_setOut (mo_thrown : Int32) (mo_trouble : Int32) (mo_where : Int32) (mo_bestSize : Int32) (mo_bestLeft : Int32) (mo_row : Nat → Int32) (mo_best : Nat → Int32) (mo_left : Nat → Int32) (wa_cities : Int32) (wa_loses : Nat → Int32) (p1 : Int32) (p2 : Int32) (p3 : Int32) : Option (Int32 × Int32 × Int32 × Int32 × Int32 × Int32 × (Nat → Int32) × (Nat → Int32) × (Nat → Int32)) :=
  bd1 (f_X13_refusesMarch wa_cities p1 p2 p3) fun r_1 =>
  (if r_1 ≤ 0 then
  f_X13_setOut_L29 wa_cities wa_loses p1 p2 p3 0 mo_trouble mo_where fuelN 0 mo_bestSize mo_bestLeft mo_row mo_best mo_left
  else
  bd3 (f_X13_refused mo_trouble mo_where r_1) fun r_17 mo_trouble_18 mo_where_19 =>
  some (r_17, 0, mo_trouble_18, mo_where_19, mo_bestSize, mo_bestLeft, mo_row, mo_best, mo_left))
noncomputable def f_X13_turnedOf_B78 (k4 : Int32 → Int32 → Option (Int32)) (mo_v : Nat → Int32) (wa_beasts : Int32) (wa_kind : Nat → Int32) (wa_mood : Nat → Int32) (x1 : Int32) (x2 : Int32) (x3 : Int32) : Option (Int32) :=
  k4 x2 (x3 + 1)
noncomputable def f_X13_turnedOf_b4 (mo_v : Nat → Int32) (wa_beasts : Int32) (wa_kind : Nat → Int32) (wa_mood : Nat → Int32) (x1 : Int32) (k4 : Int32 → Int32 → Option (Int32)) (x2 : Int32) (x3 : Int32) : Option (Int32) :=
  (if wa_beasts ≤ x3 then
  some (x2)
  else
  gIn (0 + x3) 19 <|
  gIn (0 + x1) 19 <|
  bd1 (f_X13_isDead mo_v x1) fun r_3 =>
  (if r_3 = 0 then
  bd1 (f_X13_isDead mo_v x3) fun r_6 =>
  (if r_6 = 0 then
  (if ((mo_v (0 + x3).toNatClampNeg) - (mo_v (0 + x1).toNatClampNeg)) < (-1) then
  f_X13_turnedOf_B78 k4 mo_v wa_beasts wa_kind wa_mood x1 x2 x3
  else
  (if 1 < ((mo_v (0 + x3).toNatClampNeg) - (mo_v (0 + x1).toNatClampNeg)) then
  f_X13_turnedOf_B78 k4 mo_v wa_beasts wa_kind wa_mood x1 x2 x3
  else
  bd1 (f_X13_holdOf mo_v wa_kind wa_mood x3) fun r_9 =>
  (if 50 ≤ r_9 then
  f_X13_turnedOf_B78 k4 mo_v wa_beasts wa_kind wa_mood x1 x2 x3
  else
  f_X13_turnedOf_B78 k4 mo_v wa_beasts wa_kind wa_mood x1 (x2 ||| ((1 : Int32) <<< (x3 &&& 31))) x3)))
  else
  f_X13_turnedOf_B78 k4 mo_v wa_beasts wa_kind wa_mood x1 x2 x3)
  else
  f_X13_turnedOf_B78 k4 mo_v wa_beasts wa_kind wa_mood x1 x2 x3))
noncomputable def f_X13_turnedOf_L4 (mo_v : Nat → Int32) (wa_beasts : Int32) (wa_kind : Nat → Int32) (wa_mood : Nat → Int32) (x1 : Int32) : Nat → Int32 → Int32 → Option (Int32)
  | 0 => fun _ _ => none
  | n + 1 => f_X13_turnedOf_b4 mo_v wa_beasts wa_kind wa_mood x1 (f_X13_turnedOf_L4 mo_v wa_beasts wa_kind wa_mood x1 n)
noncomputable def f_X13_turnedOf (mo_v : Nat → Int32) (wa_beasts : Int32) (wa_kind : Nat → Int32) (wa_mood : Nat → Int32) (p1 : Int32) : Option (Int32) :=
  f_X13_turnedOf_L4 mo_v wa_beasts wa_kind wa_mood p1 fuelN 0 0
noncomputable def f_X13_trumpets_B158 (k27 : Int32 → Int32 → (Nat → Int32) → Option (Int32 × (Nat → Int32))) (mo_v : Nat → Int32) (wa_beasts : Int32) (wa_turned : Int32) (wa_kind : Nat → Int32) (wa_mood : Nat → Int32) (x1 : Int32) (mo_sets : Int32) (mo_counts : Nat → Int32) : Option (Int32 × (Nat → Int32)) :=
  k27 (x1 + 1) mo_sets mo_counts
noncomputable def f_X13_trumpets_B150 (k27 : Int32 → Int32 → (Nat → Int32) → Option (Int32 × (Nat → Int32))) (k119 : Int32 → (Nat → Int32) → Option (Int32 × (Nat → Int32))) (mo_v : Nat → Int32) (wa_beasts : Int32) (wa_turned : Int32) (wa_kind : Nat → Int32) (wa_mood : Nat → Int32) (x1 : Int32) (x3 : Int32) (t1 : Int32) (t2 : Int32) (t3 : Int32) (mo_sets : Int32) (mo_counts : Nat → Int32) : Option (Int32 × (Nat → Int32)) :=
  gIn t1 5 <|
  k119 (x3 + 1) (upd mo_counts t1.toNatClampNeg (t2 + t3))
noncomputable def f_X13_trumpets_b119 (k27 : Int32 → Int32 → (Nat → Int32) → Option (Int32 × (Nat → Int32))) (mo_v : Nat → Int32) (wa_beasts : Int32) (wa_turned : Int32) (wa_kind : Nat → Int32) (wa_mood : Nat → Int32) (x1 : Int32) (mo_sets : Int32) (k119 : Int32 → (Nat → Int32) → Option (Int32 × (Nat → Int32))) (x3 : Int32) (mo_counts : Nat → Int32) : Option (Int32 × (Nat → Int32)) :=
  (if wa_beasts ≤ x3 then
  f_X13_trumpets_B158 k27 mo_v wa_beasts wa_turned wa_kind wa_mood x1 mo_sets mo_counts
  else
  gIn x3 5 <|
  bd1 (f_X13_bit  x1 x3) fun r_2 =>
  (if r_2 = 0 then
  f_X13_trumpets_B150 k27 k119 mo_v wa_beasts wa_turned wa_kind wa_mood x1 x3 x3 (mo_counts x3.toNatClampNeg) 0 mo_sets mo_counts
  else
  f_X13_trumpets_B150 k27 k119 mo_v wa_beasts wa_turned wa_kind wa_mood x1 x3 x3 (mo_counts x3.toNatClampNeg) 1 mo_sets mo_counts))
noncomputable def f_X13_trumpets_L119 (k27 : Int32 → Int32 → (Nat → Int32) → Option (Int32 × (Nat → Int32))) (mo_v : Nat → Int32) (wa_beasts : Int32) (wa_turned : Int32) (wa_kind : Nat → Int32) (wa_mood : Nat → Int32) (x1 : Int32) (mo_sets : Int32) : Nat → Int32 → (Nat → Int32) → Option (Int32 × (Nat → Int32))
  | 0 => fun _ _ => none
  | n + 1 => f_X13_trumpets_b119 k27 mo_v wa_beasts wa_turned wa_kind wa_mood x1 mo_sets (f_X13_trumpets_L119 k27 mo_v wa_beasts wa_turned wa_kind wa_mood x1 mo_sets n)
noncomputable def f_X13_trumpets_B81 (k27 : Int32 → Int32 → (Nat → Int32) → Option (Int32 × (Nat → Int32))) (mo_v : Nat → Int32) (wa_beasts : Int32) (wa_turned : Int32) (wa_kind : Nat → Int32) (wa_mood : Nat → Int32) (x1 : Int32) (x2 : Int32) (mo_sets : Int32) (mo_counts : Nat → Int32) : Option (Int32 × (Nat → Int32)) :=
  (if (x1 &&& (mo_v (10 : Int32).toNatClampNeg)) = 0 then
  (if x2 = wa_turned then
  f_X13_trumpets_L119 k27 mo_v wa_beasts wa_turned wa_kind wa_mood x1 (mo_sets + 1) fuelN 0 mo_counts
  else
  f_X13_trumpets_B158 k27 mo_v wa_beasts wa_turned wa_kind wa_mood x1 mo_sets mo_counts)
  else
  f_X13_trumpets_B158 k27 mo_v wa_beasts wa_turned wa_kind wa_mood x1 mo_sets mo_counts)
noncomputable def f_X13_trumpets_B73 (k27 : Int32 → Int32 → (Nat → Int32) → Option (Int32 × (Nat → Int32))) (k44 : Int32 → Int32 → Option (Int32 × (Nat → Int32))) (mo_v : Nat → Int32) (wa_beasts : Int32) (wa_turned : Int32) (wa_kind : Nat → Int32) (wa_mood : Nat → Int32) (x1 : Int32) (x3 : Int32) (t0 : Int32) (t1 : Int32) (mo_sets : Int32) (mo_counts : Nat → Int32) : Option (Int32 × (Nat → Int32)) :=
  k44 (t0 ||| t1) (x3 + 1)
noncomputable def f_X13_trumpets_b44 (k27 : Int32 → Int32 → (Nat → Int32) → Option (Int32 × (Nat → Int32))) (mo_v : Nat → Int32) (wa_beasts : Int32) (wa_turned : Int32) (wa_kind : Nat → Int32) (wa_mood : Nat → Int32) (x1 : Int32) (mo_sets : Int32) (mo_counts : Nat → Int32) (k44 : Int32 → Int32 → Option (Int32 × (Nat → Int32))) (x2 : Int32) (x3 : Int32) : Option (Int32 × (Nat → Int32)) :=
  (if wa_beasts ≤ x3 then
  f_X13_trumpets_B81 k27 mo_v wa_beasts wa_turned wa_kind wa_mood x1 x2 mo_sets mo_counts
  else
  bd1 (f_X13_bit  x1 x3) fun r_6 =>
  (if r_6 = 0 then
  f_X13_trumpets_B73 k27 k44 mo_v wa_beasts wa_turned wa_kind wa_mood x1 x3 x2 0 mo_sets mo_counts
  else
  bd1 (f_X13_turnedOf mo_v wa_beasts wa_kind wa_mood x3) fun r_9 =>
  f_X13_trumpets_B73 k27 k44 mo_v wa_beasts wa_turned wa_kind wa_mood x1 x3 x2 r_9 mo_sets mo_counts))
noncomputable def f_X13_trumpets_L44 (k27 : Int32 → Int32 → (Nat → Int32) → Option (Int32 × (Nat → Int32))) (mo_v : Nat → Int32) (wa_beasts : Int32) (wa_turned : Int32) (wa_kind : Nat → Int32) (wa_mood : Nat → Int32) (x1 : Int32) (mo_sets : Int32) (mo_counts : Nat → Int32) : Nat → Int32 → Int32 → Option (Int32 × (Nat → Int32))
  | 0 => fun _ _ => none
  | n + 1 => f_X13_trumpets_b44 k27 mo_v wa_beasts wa_turned wa_kind wa_mood x1 mo_sets mo_counts (f_X13_trumpets_L44 k27 mo_v wa_beasts wa_turned wa_kind wa_mood x1 mo_sets mo_counts n)
noncomputable def f_X13_trumpets_b27 (mo_v : Nat → Int32) (wa_beasts : Int32) (wa_turned : Int32) (wa_kind : Nat → Int32) (wa_mood : Nat → Int32) (k27 : Int32 → Int32 → (Nat → Int32) → Option (Int32 × (Nat → Int32))) (x1 : Int32) (mo_sets : Int32) (mo_counts : Nat → Int32) : Option (Int32 × (Nat → Int32)) :=
  (if ((1 : Int32) <<< (wa_beasts &&& 31)) ≤ x1 then
  some (mo_sets, mo_counts)
  else
  f_X13_trumpets_L44 k27 mo_v wa_beasts wa_turned wa_kind wa_mood x1 mo_sets mo_counts fuelN 0 0)
noncomputable def f_X13_trumpets_L27 (mo_v : Nat → Int32) (wa_beasts : Int32) (wa_turned : Int32) (wa_kind : Nat → Int32) (wa_mood : Nat → Int32) : Nat → Int32 → Int32 → (Nat → Int32) → Option (Int32 × (Nat → Int32))
  | 0 => fun _ _ _ => none
  | n + 1 => f_X13_trumpets_b27 mo_v wa_beasts wa_turned wa_kind wa_mood (f_X13_trumpets_L27 mo_v wa_beasts wa_turned wa_kind wa_mood n)
noncomputable def f_X13_trumpets_B25 (mo_v : Nat → Int32) (wa_beasts : Int32) (wa_turned : Int32) (wa_kind : Nat → Int32) (wa_mood : Nat → Int32) (mo_sets : Int32) (mo_counts : Nat → Int32) : Option (Int32 × (Nat → Int32)) :=
  f_X13_trumpets_L27 mo_v wa_beasts wa_turned wa_kind wa_mood fuelN 1 mo_sets mo_counts
noncomputable def f_X13_trumpets_b7 (mo_v : Nat → Int32) (wa_beasts : Int32) (wa_turned : Int32) (wa_kind : Nat → Int32) (wa_mood : Nat → Int32) (mo_sets : Int32) (k7 : Int32 → (Nat → Int32) → Option (Int32 × (Nat → Int32))) (x1 : Int32) (mo_counts : Nat → Int32) : Option (Int32 × (Nat → Int32)) :=
  (if 5 ≤ x1 then
  f_X13_trumpets_B25 mo_v wa_beasts wa_turned wa_kind wa_mood mo_sets mo_counts
  else
  gIn x1 5 <|
  k7 (x1 + 1) (upd mo_counts x1.toNatClampNeg 0))
noncomputable def f_X13_trumpets_L7 (mo_v : Nat → Int32) (wa_beasts : Int32) (wa_turned : Int32) (wa_kind : Nat → Int32) (wa_mood : Nat → Int32) (mo_sets : Int32) : Nat → Int32 → (Nat → Int32) → Option (Int32 × (Nat → Int32))
  | 0 => fun _ _ => none
  | n + 1 => f_X13_trumpets_b7 mo_v wa_beasts wa_turned wa_kind wa_mood mo_sets (f_X13_trumpets_L7 mo_v wa_beasts wa_turned wa_kind wa_mood mo_sets n)
noncomputable def f_X13_trumpets (mo_sets : Int32) (mo_v : Nat → Int32) (mo_counts : Nat → Int32) (wa_beasts : Int32) (wa_turned : Int32) (wa_kind : Nat → Int32) (wa_mood : Nat → Int32) : Option (Int32 × (Nat → Int32)) :=
  f_X13_trumpets_L7 mo_v wa_beasts wa_turned wa_kind wa_mood 0 fuelN 0 mo_counts
noncomputable def f_X13_fits (mo_thrown : Int32) (mo_trouble : Int32) (mo_where : Int32) (mo_sets : Int32) (mo_v : Nat → Int32) (mo_counts : Nat → Int32) (wa_beasts : Int32) (wa_turned : Int32) (wa_kind : Nat → Int32) (wa_mood : Nat → Int32) : Option (Int32 × Int32 × Int32 × Int32 × Int32 × (Nat → Int32)) :=
  bd2 (f_X13_trumpets mo_sets mo_v mo_counts wa_beasts wa_turned wa_kind wa_mood) fun mo_sets_1 mo_counts_2 =>
  bd3 (f_X13_good mo_trouble mo_where mo_sets_1) fun r_4 mo_trouble_5 mo_where_6 =>
  some (r_4, 0, mo_trouble_5, mo_where_6, mo_sets_1, mo_counts_2)
noncomputable def f_X13_could_B62 (mo_v : Nat → Int32) (wa_beasts : Int32) (wa_turned : Int32) (wa_kind : Nat → Int32) (wa_mood : Nat → Int32) (x1 : Int32) (mo_thrown : Int32) (mo_trouble : Int32) (mo_where : Int32) (mo_sets : Int32) (mo_counts : Nat → Int32) : Option (Int32 × Int32 × Int32 × Int32 × Int32 × (Nat → Int32)) :=
  bd3 (f_X13_good mo_trouble mo_where x1) fun r_4 mo_trouble_5 mo_where_6 =>
  some (r_4, mo_thrown, mo_trouble_5, mo_where_6, mo_sets, mo_counts)
noncomputable def f_X13_could_B54 (k26 : Int32 → Int32 → Option (Int32 × Int32 × Int32 × Int32 × Int32 × (Nat → Int32))) (mo_v : Nat → Int32) (wa_beasts : Int32) (wa_turned : Int32) (wa_kind : Nat → Int32) (wa_mood : Nat → Int32) (x2 : Int32) (t0 : Int32) (t1 : Int32) (mo_thrown : Int32) (mo_trouble : Int32) (mo_where : Int32) (mo_sets : Int32) (mo_counts : Nat → Int32) : Option (Int32 × Int32 × Int32 × Int32 × Int32 × (Nat → Int32)) :=
  k26 (t0 ||| t1) (x2 + 1)
noncomputable def f_X13_could_b26 (mo_v : Nat → Int32) (wa_beasts : Int32) (wa_turned : Int32) (wa_kind : Nat → Int32) (wa_mood : Nat → Int32) (mo_thrown : Int32) (mo_trouble : Int32) (mo_where : Int32) (mo_sets : Int32) (mo_counts : Nat → Int32) (k26 : Int32 → Int32 → Option (Int32 × Int32 × Int32 × Int32 × Int32 × (Nat → Int32))) (x1 : Int32) (x2 : Int32) : Option (Int32 × Int32 × Int32 × Int32 × Int32 × (Nat → Int32)) :=
  (if wa_beasts ≤ x2 then
  f_X13_could_B62 mo_v wa_beasts wa_turned wa_kind wa_mood x1 mo_thrown mo_trouble mo_where mo_sets mo_counts
  else
  gIn x2 5 <|
  (if (mo_counts x2.toNatClampNeg) ≤ 0 then
  f_X13_could_B54 k26 mo_v wa_beasts wa_turned wa_kind wa_mood x2 x1 0 mo_thrown mo_trouble mo_where mo_sets mo_counts
  else
  f_X13_could_B54 k26 mo_v wa_beasts wa_turned wa_kind wa_mood x2 x1 ((1 : Int32) <<< (x2 &&& 31)) mo_thrown mo_trouble mo_where mo_sets mo_counts))
noncomputable def f_X13_could_L26 (mo_v : Nat → Int32) (wa_beasts : Int32) (wa_turned : Int32) (wa_kind : Nat → Int32) (wa_mood : Nat → Int32) (mo_thrown : Int32) (mo_trouble : Int32) (mo_where : Int32) (mo_sets : Int32) (mo_counts : Nat → Int32) : Nat → Int32 → Int32 → Option (Int32 × Int32 × Int32 × Int32 × Int32 × (Nat → Int32))
  | 0 => fun _ _ => none
  | n + 1 => f_X13_could_b26 mo_v wa_beasts wa_turned wa_kind wa_mood mo_thrown mo_trouble mo_where mo_sets mo_counts (f_X13_could_L26 mo_v wa_beasts wa_turned wa_kind wa_mood mo_thrown mo_trouble mo_where mo_sets mo_counts n)
noncomputable def f_X13_could (mo_thrown : Int32) (mo_trouble : Int32) (mo_where : Int32) (mo_sets : Int32) (mo_v : Nat → Int32) (mo_counts : Nat → Int32) (wa_beasts : Int32) (wa_turned : Int32) (wa_kind : Nat → Int32) (wa_mood : Nat → Int32) : Option (Int32 × Int32 × Int32 × Int32 × Int32 × (Nat → Int32)) :=
  bd2 (f_X13_trumpets mo_sets mo_v mo_counts wa_beasts wa_turned wa_kind wa_mood) fun mo_sets_1 mo_counts_2 =>
  f_X13_could_L26 mo_v wa_beasts wa_turned wa_kind wa_mood 0 mo_trouble mo_where mo_sets_1 mo_counts_2 fuelN 0 0
noncomputable def f_X13_surely_B73 (mo_v : Nat → Int32) (wa_beasts : Int32) (wa_turned : Int32) (wa_kind : Nat → Int32) (wa_mood : Nat → Int32) (x1 : Int32) (mo_thrown : Int32) (mo_trouble : Int32) (mo_where : Int32) (mo_sets : Int32) (mo_counts : Nat → Int32) : Option (Int32 × Int32 × Int32 × Int32 × Int32 × (Nat → Int32)) :=
  bd3 (f_X13_good mo_trouble mo_where x1) fun r_4 mo_trouble_5 mo_where_6 =>
  some (r_4, mo_thrown, mo_trouble_5, mo_where_6, mo_sets, mo_counts)
noncomputable def f_X13_surely_B65 (k26 : Int32 → Int32 → Option (Int32 × Int32 × Int32 × Int32 × Int32 × (Nat → Int32))) (mo_v : Nat → Int32) (wa_beasts : Int32) (wa_turned : Int32) (wa_kind : Nat → Int32) (wa_mood : Nat → Int32) (x2 : Int32) (t0 : Int32) (t1 : Int32) (mo_thrown : Int32) (mo_trouble : Int32) (mo_where : Int32) (mo_sets : Int32) (mo_counts : Nat → Int32) : Option (Int32 × Int32 × Int32 × Int32 × Int32 × (Nat → Int32)) :=
  k26 (t0 ||| t1) (x2 + 1)
noncomputable def f_X13_surely_B64 (k26 : Int32 → Int32 → Option (Int32 × Int32 × Int32 × Int32 × Int32 × (Nat → Int32))) (mo_v : Nat → Int32) (wa_beasts : Int32) (wa_turned : Int32) (wa_kind : Nat → Int32) (wa_mood : Nat → Int32) (x2 : Int32) (t0 : Int32) (mo_thrown : Int32) (mo_trouble : Int32) (mo_where : Int32) (mo_sets : Int32) (mo_counts : Nat → Int32) : Option (Int32 × Int32 × Int32 × Int32 × Int32 × (Nat → Int32)) :=
  f_X13_surely_B65 k26 mo_v wa_beasts wa_turned wa_kind wa_mood x2 t0 0 mo_thrown mo_trouble mo_where mo_sets mo_counts
noncomputable def f_X13_surely_b26 (mo_v : Nat → Int32) (wa_beasts : Int32) (wa_turned : Int32) (wa_kind : Nat → Int32) (wa_mood : Nat → Int32) (mo_thrown : Int32) (mo_trouble : Int32) (mo_where : Int32) (mo_sets : Int32) (mo_counts : Nat → Int32) (k26 : Int32 → Int32 → Option (Int32 × Int32 × Int32 × Int32 × Int32 × (Nat → Int32))) (x1 : Int32) (x2 : Int32) : Option (Int32 × Int32 × Int32 × Int32 × Int32 × (Nat → Int32)) :=
  (if wa_beasts ≤ x2 then
  f_X13_surely_B73 mo_v wa_beasts wa_turned wa_kind wa_mood x1 mo_thrown mo_trouble mo_where mo_sets mo_counts
  else
  (if mo_sets ≤ 0 then
  f_X13_surely_B64 k26 mo_v wa_beasts wa_turned wa_kind wa_mood x2 x1 mo_thrown mo_trouble mo_where mo_sets mo_counts
  else
  gIn x2 5 <|
  (if (mo_counts x2.toNatClampNeg) = mo_sets then
  f_X13_surely_B65 k26 mo_v wa_beasts wa_turned wa_kind wa_mood x2 x1 ((1 : Int32) <<< (x2 &&& 31)) mo_thrown mo_trouble mo_where mo_sets mo_counts
  else
  f_X13_surely_B64 k26 mo_v wa_beasts wa_turned wa_kind wa_mood x2 x1 mo_thrown mo_trouble mo_where mo_sets mo_counts)))
noncomputable def f_X13_surely_L26 (mo_v : Nat → Int32) (wa_beasts : Int32) (wa_turned : Int32) (wa_kind : Nat → Int32) (wa_mood : Nat → Int32) (mo_thrown : Int32) (mo_trouble : Int32) (mo_where : Int32) (mo_sets : Int32) (mo_counts : Nat → Int32) : Nat → Int32 → Int32 → Option (Int32 × Int32 × Int32 × Int32 × Int32 × (Nat → Int32))
  | 0 => fun _ _ => none
  | n + 1 => f_X13_surely_b26 mo_v wa_beasts wa_turned wa_kind wa_mood mo_thrown mo_trouble mo_where mo_sets mo_counts (f_X13_surely_L26 mo_v wa_beasts wa_turned wa_kind wa_mood mo_thrown mo_trouble mo_where mo_sets mo_counts n)
noncomputable def f_X13_surely (mo_thrown : Int32) (mo_trouble : Int32) (mo_where : Int32) (mo_sets : Int32) (mo_v : Nat → Int32) (mo_counts : Nat → Int32) (wa_beasts : Int32) (wa_turned : Int32) (wa_kind : Nat → Int32) (wa_mood : Nat → Int32) : Option (Int32 × Int32 × Int32 × Int32 × Int32 × (Nat → Int32)) :=
  bd2 (f_X13_trumpets mo_sets mo_v mo_counts wa_beasts wa_turned wa_kind wa_mood) fun mo_sets_1 mo_counts_2 =>
  f_X13_surely_L26 mo_v wa_beasts wa_turned wa_kind wa_mood 0 mo_trouble mo_where mo_sets_1 mo_counts_2 fuelN 0 0
noncomputable def f_X13_ask_B72 (mo_v : Nat → Int32) (wa_beasts : Int32) (wa_turned : Int32) (wa_kind : Nat → Int32) (wa_mood : Nat → Int32) (x1 : Int32) (mo_thrown : Int32) (mo_trouble : Int32) (mo_where : Int32) (mo_sets : Int32) (mo_counts : Nat → Int32) : Option (Int32 × Int32 × Int32 × Int32 × Int32 × (Nat → Int32)) :=
  bd3 (f_X13_good mo_trouble mo_where x1) fun r_4 mo_trouble_5 mo_where_6 =>
  some (r_4, mo_thrown, mo_trouble_5, mo_where_6, mo_sets, mo_counts)
noncomputable def f_X13_ask_B66 (k40 : Int32 → Int32 → Option (Int32 × Int32 × Int32 × Int32 × Int32 × (Nat → Int32))) (mo_v : Nat → Int32) (wa_beasts : Int32) (wa_turned : Int32) (wa_kind : Nat → Int32) (wa_mood : Nat → Int32) (x1 : Int32) (x2 : Int32) (mo_thrown : Int32) (mo_trouble : Int32) (mo_where : Int32) (mo_sets : Int32) (mo_counts : Nat → Int32) : Option (Int32 × Int32 × Int32 × Int32 × Int32 × (Nat → Int32)) :=
  k40 x1 (x2 + 1)
noncomputable def f_X13_ask_b40 (mo_v : Nat → Int32) (wa_beasts : Int32) (wa_turned : Int32) (wa_kind : Nat → Int32) (wa_mood : Nat → Int32) (mo_thrown : Int32) (mo_trouble : Int32) (mo_where : Int32) (mo_sets : Int32) (mo_counts : Nat → Int32) (k40 : Int32 → Int32 → Option (Int32 × Int32 × Int32 × Int32 × Int32 × (Nat → Int32))) (x1 : Int32) (x2 : Int32) : Option (Int32 × Int32 × Int32 × Int32 × Int32 × (Nat → Int32)) :=
  (if wa_beasts ≤ x2 then
  f_X13_ask_B72 mo_v wa_beasts wa_turned wa_kind wa_mood x1 mo_thrown mo_trouble mo_where mo_sets mo_counts
  else
  bd1 (f_X13_leaves mo_sets mo_counts x2) fun r_8 =>
  bd1 (f_X13_leaves mo_sets mo_counts x1) fun r_10 =>
  (if r_10 ≤ r_8 then
  f_X13_ask_B66 k40 mo_v wa_beasts wa_turned wa_kind wa_mood x1 x2 mo_thrown mo_trouble mo_where mo_sets mo_counts
  else
  f_X13_ask_B66 k40 mo_v wa_beasts wa_turned wa_kind wa_mood x2 x2 mo_thrown mo_trouble mo_where mo_sets mo_counts))
noncomputable def f_X13_ask_L40 (mo_v : Nat → Int32) (wa_beasts : Int32) (wa_turned : Int32) (wa_kind : Nat → Int32) (wa_mood : Nat → Int32) (mo_thrown : Int32) (mo_trouble : Int32) (mo_where : Int32) (mo_sets : Int32) (mo_counts : Nat → Int32) : Nat → Int32 → Int32 → Option (Int32 × Int32 × Int32 × Int32 × Int32 × (Nat → Int32))
  | 0 => fun _ _ => none
  | n + 1 => f_X13_ask_b40 mo_v wa_beasts wa_turned wa_kind wa_mood mo_thrown mo_trouble mo_where mo_sets mo_counts (f_X13_ask_L40 mo_v wa_beasts wa_turned wa_kind wa_mood mo_thrown mo_trouble mo_where mo_sets mo_counts n)
noncomputable def f_X13_ask (mo_thrown : Int32) (mo_trouble : Int32) (mo_where : Int32) (mo_sets : Int32) (mo_v : Nat → Int32) (mo_counts : Nat → Int32) (wa_beasts : Int32) (wa_turned : Int32) (wa_kind : Nat → Int32) (wa_mood : Nat → Int32) : Option (Int32 × Int32 × Int32 × Int32 × Int32 × (Nat → Int32)) :=
  bd2 (f_X13_trumpets mo_sets mo_v mo_counts wa_beasts wa_turned wa_kind wa_mood) fun mo_sets_1 mo_counts_2 =>
  (if mo_sets_1 = 0 then
  bd3 (f_X13_good mo_trouble mo_where ((-2) : Int32)) fun r_12 mo_trouble_13 mo_where_14 =>
  some (r_12, 0, mo_trouble_13, mo_where_14, mo_sets_1, mo_counts_2)
  else
  f_X13_ask_L40 mo_v wa_beasts wa_turned wa_kind wa_mood 0 mo_trouble mo_where mo_sets_1 mo_counts_2 fuelN 0 1)
noncomputable def f_X13_turnedBy (mo_thrown : Int32) (mo_trouble : Int32) (mo_where : Int32) (mo_v : Nat → Int32) (wa_beasts : Int32) (wa_kind : Nat → Int32) (wa_mood : Nat → Int32) (p1 : Int32) : Option (Int32 × Int32 × Int32 × Int32) :=
  bd1 (f_X13_isBeast wa_beasts p1) fun r_1 =>
  (if r_1 = 0 then
  bd3 (f_X13_refused mo_trouble mo_where (1 : Int32)) fun r_4 mo_trouble_5 mo_where_6 =>
  some (r_4, 0, mo_trouble_5, mo_where_6)
  else
  bd1 (f_X13_turnedOf mo_v wa_beasts wa_kind wa_mood p1) fun r_8 =>
  bd3 (f_X13_good mo_trouble mo_where r_8) fun r_10 mo_trouble_11 mo_where_12 =>
  some (r_10, 0, mo_trouble_11, mo_where_12))
noncomputable def f_X13_holdsOn_b2 (mo_v : Nat → Int32) (wa_deep : Int32) (wa_kind : Nat → Int32) (wa_mood : Nat → Int32) (x2 : Int32) (k2 : Int32 → (Nat → Int32) → Option (Int32 × (Nat → Int32))) (x3 : Int32) (row : Nat → Int32) : Option (Int32 × (Nat → Int32)) :=
  (if wa_deep ≤ x3 then
  some (1, row)
  else
  bd1 (f_X13_holdOf mo_v wa_kind wa_mood x2) fun r_1 =>
  (if (((upd row ((18 : Int32).toNatClampNeg) ((((75 * ((row (18 : Int32).toNatClampNeg).toInt64)) + 74) - ((75 * ((row (18 : Int32).toNatClampNeg).toInt64)) + 74) / 65537 * 65537).toInt32)) (18 : Int32).toNatClampNeg) - ((upd row ((18 : Int32).toNatClampNeg) ((((75 * ((row (18 : Int32).toNatClampNeg).toInt64)) + 74) - ((75 * ((row (18 : Int32).toNatClampNeg).toInt64)) + 74) / 65537 * 65537).toInt32)) (18 : Int32).toNatClampNeg) / 100 * 100) < r_1 then
  k2 (x3 + 1) (upd row ((18 : Int32).toNatClampNeg) ((((75 * ((row (18 : Int32).toNatClampNeg).toInt64)) + 74) - ((75 * ((row (18 : Int32).toNatClampNeg).toInt64)) + 74) / 65537 * 65537).toInt32))
  else
  some (0, upd row ((18 : Int32).toNatClampNeg) ((((75 * ((row (18 : Int32).toNatClampNeg).toInt64)) + 74) - ((75 * ((row (18 : Int32).toNatClampNeg).toInt64)) + 74) / 65537 * 65537).toInt32))))
noncomputable def f_X13_holdsOn_L2 (mo_v : Nat → Int32) (wa_deep : Int32) (wa_kind : Nat → Int32) (wa_mood : Nat → Int32) (x2 : Int32) : Nat → Int32 → (Nat → Int32) → Option (Int32 × (Nat → Int32))
  | 0 => fun _ _ => none
  | n + 1 => f_X13_holdsOn_b2 mo_v wa_deep wa_kind wa_mood x2 (f_X13_holdsOn_L2 mo_v wa_deep wa_kind wa_mood x2 n)
noncomputable def f_X13_holdsOn (mo_v : Nat → Int32) (wa_deep : Int32) (wa_kind : Nat → Int32) (wa_mood : Nat → Int32) (row : Nat → Int32) (p2 : Int32) : Option (Int32 × (Nat → Int32)) :=
  f_X13_holdsOn_L2 mo_v wa_deep wa_kind wa_mood p2 fuelN 0 row
noncomputable def f_X13_fights_B192 (k17 : Int32 → Int32 → Int32 → Int32 → (Nat → Int32) → Option (Int32 × Int32 × Int32 × (Nat → Int32))) (mo_v : Nat → Int32) (wa_deep : Int32) (wa_beasts : Int32) (wa_who : Nat → Int32) (wa_kind : Nat → Int32) (wa_mood : Nat → Int32) (x2 : Int32) (mo_foeHarm : Int32) (mo_ownHarm : Int32) (mo_across : Int32) (row : Nat → Int32) : Option (Int32 × Int32 × Int32 × (Nat → Int32)) :=
  k17 (x2 + 1) mo_foeHarm mo_ownHarm mo_across row
noncomputable def f_X13_fights_B191 (k17 : Int32 → Int32 → Int32 → Int32 → (Nat → Int32) → Option (Int32 × Int32 × Int32 × (Nat → Int32))) (mo_v : Nat → Int32) (wa_deep : Int32) (wa_beasts : Int32) (wa_who : Nat → Int32) (wa_kind : Nat → Int32) (wa_mood : Nat → Int32) (x2 : Int32) (t1 : Int32) (t2 : Int32) (mo_foeHarm : Int32) (mo_ownHarm : Int32) (mo_across : Int32) (row : Nat → Int32) : Option (Int32 × Int32 × Int32 × (Nat → Int32)) :=
  gIn t1 19 <|
  f_X13_fights_B192 k17 mo_v wa_deep wa_beasts wa_who wa_kind wa_mood x2 mo_foeHarm mo_ownHarm mo_across (upd row t1.toNatClampNeg t2)
noncomputable def f_X13_fights_b17 (mo_v : Nat → Int32) (wa_deep : Int32) (wa_beasts : Int32) (wa_who : Nat → Int32) (wa_kind : Nat → Int32) (wa_mood : Nat → Int32) (k17 : Int32 → Int32 → Int32 → Int32 → (Nat → Int32) → Option (Int32 × Int32 × Int32 × (Nat → Int32))) (x2 : Int32) (mo_foeHarm : Int32) (mo_ownHarm : Int32) (mo_across : Int32) (row : Nat → Int32) : Option (Int32 × Int32 × Int32 × (Nat → Int32)) :=
  (if wa_beasts ≤ x2 then
  some (mo_foeHarm, mo_ownHarm, mo_across, row)
  else
  bd1 (f_X13_isDead mo_v x2) fun r_1 =>
  (if r_1 = 0 then
  bd2 (f_X13_holdsOn mo_v wa_deep wa_kind wa_mood row x2) fun r_4 row_5 =>
  (if r_4 = 0 then
  bd1 (f_X13_forceOf mo_v wa_kind x2) fun r_21 =>
  f_X13_fights_B192 k17 mo_v wa_deep wa_beasts wa_who wa_kind wa_mood x2 mo_foeHarm (mo_ownHarm + (r_21 / 2)) mo_across row_5
  else
  gIn (0 + x2) 19 <|
  gIn (row_5 (0 + x2).toNatClampNeg) 6 <|
  gIn (11 + (row_5 (0 + x2).toNatClampNeg)) 19 <|
  bd1 (f_X13_harmBy mo_v wa_kind x2 (wa_who (row_5 (0 + x2).toNatClampNeg).toNatClampNeg) (row_5 (11 + (row_5 (0 + x2).toNatClampNeg)).toNatClampNeg) (0 : Int32)) fun r_11 =>
  gIn (row_5 (0 + x2).toNatClampNeg) 6 <|
  gIn (11 + (row_5 (0 + x2).toNatClampNeg)) 19 <|
  bd1 (f_X13_harmBy mo_v wa_kind x2 (wa_who (row_5 (0 + x2).toNatClampNeg).toNatClampNeg) (row_5 (11 + (row_5 (0 + x2).toNatClampNeg)).toNatClampNeg) (1 : Int32)) fun r_15 =>
  gIn (row_5 (0 + x2).toNatClampNeg) 6 <|
  (if (wa_who (row_5 (0 + x2).toNatClampNeg).toNatClampNeg) = 2 then
  gIn (11 + (row_5 (0 + x2).toNatClampNeg)) 19 <|
  (if (row_5 (11 + (row_5 (0 + x2).toNatClampNeg)).toNatClampNeg) ≤ r_11 then
  f_X13_fights_B191 k17 mo_v wa_deep wa_beasts wa_who wa_kind wa_mood x2 (11 + (row_5 (0 + x2).toNatClampNeg)) 0 (mo_foeHarm + r_11) (mo_ownHarm + r_15) (mo_across ||| ((1 : Int32) <<< (x2 &&& 31))) row_5
  else
  gIn (11 + (row_5 (0 + x2).toNatClampNeg)) 19 <|
  f_X13_fights_B191 k17 mo_v wa_deep wa_beasts wa_who wa_kind wa_mood x2 (11 + (row_5 (0 + x2).toNatClampNeg)) ((row_5 (11 + (row_5 (0 + x2).toNatClampNeg)).toNatClampNeg) - r_11) (mo_foeHarm + r_11) (mo_ownHarm + r_15) (mo_across ||| ((1 : Int32) <<< (x2 &&& 31))) row_5)
  else
  f_X13_fights_B192 k17 mo_v wa_deep wa_beasts wa_who wa_kind wa_mood x2 (mo_foeHarm + r_11) (mo_ownHarm + r_15) (mo_across ||| ((1 : Int32) <<< (x2 &&& 31))) row_5))
  else
  f_X13_fights_B192 k17 mo_v wa_deep wa_beasts wa_who wa_kind wa_mood x2 mo_foeHarm mo_ownHarm mo_across row))
noncomputable def f_X13_fights_L17 (mo_v : Nat → Int32) (wa_deep : Int32) (wa_beasts : Int32) (wa_who : Nat → Int32) (wa_kind : Nat → Int32) (wa_mood : Nat → Int32) : Nat → Int32 → Int32 → Int32 → Int32 → (Nat → Int32) → Option (Int32 × Int32 × Int32 × (Nat → Int32))
  | 0 => fun _ _ _ _ _ => none
  | n + 1 => f_X13_fights_b17 mo_v wa_deep wa_beasts wa_who wa_kind wa_mood (f_X13_fights_L17 mo_v wa_deep wa_beasts wa_who wa_kind wa_mood n)
noncomputable def f_X13_fights (mo_foeHarm : Int32) (mo_ownHarm : Int32) (mo_across : Int32) (mo_v : Nat → Int32) (wa_deep : Int32) (wa_beasts : Int32) (wa_who : Nat → Int32) (wa_kind : Nat → Int32) (wa_mood : Nat → Int32) (row : Nat → Int32) : Option (Int32 × Int32 × Int32 × (Nat → Int32)) :=
  f_X13_fights_L17 mo_v wa_deep wa_beasts wa_who wa_kind wa_mood fuelN 0 0 0 0 row
noncomputable def f_X13_fightsAll_B134 (k26 : Int32 → Int32 → Int32 → Int32 → Int32 → Int32 → Int32 → Int32 → Int32 → (Nat → Int32) → Option (Int32 × Int32 × Int32 × Int32 × Int32 × Int32 × Int32 × (Nat → Int32))) (mo_v : Nat → Int32) (wa_deep : Int32) (wa_beasts : Int32) (wa_who : Nat → Int32) (wa_kind : Nat → Int32) (wa_mood : Nat → Int32) (x2 : Int32) (x3 : Int32) (x4 : Int32) (x5 : Int32) (t1 : Int32) (t2 : Int32) (mo_foeHarm : Int32) (mo_ownHarm : Int32) (mo_across : Int32) (mo_sumFoe : Int32) (mo_sumOwn : Int32) (mo_sumWon : Int32) (mo_sumAcross : Int32) (mo_x : Nat → Int32) : Option (Int32 × Int32 × Int32 × Int32 × Int32 × Int32 × Int32 × (Nat → Int32)) :=
  k26 x4 (x5 + 1) mo_foeHarm mo_ownHarm mo_across mo_sumFoe mo_sumOwn mo_sumWon (t1 + t2) mo_x
noncomputable def f_X13_fightsAll_B109 (k26 : Int32 → Int32 → Int32 → Int32 → Int32 → Int32 → Int32 → Int32 → Int32 → (Nat → Int32) → Option (Int32 × Int32 × Int32 × Int32 × Int32 × Int32 × Int32 × (Nat → Int32))) (mo_v : Nat → Int32) (wa_deep : Int32) (wa_beasts : Int32) (wa_who : Nat → Int32) (wa_kind : Nat → Int32) (wa_mood : Nat → Int32) (x2 : Int32) (x3 : Int32) (x4 : Int32) (x5 : Int32) (t1 : Int32) (t2 : Int32) (mo_foeHarm : Int32) (mo_ownHarm : Int32) (mo_across : Int32) (mo_sumFoe : Int32) (mo_sumOwn : Int32) (mo_sumWon : Int32) (mo_sumAcross : Int32) (mo_x : Nat → Int32) : Option (Int32 × Int32 × Int32 × Int32 × Int32 × Int32 × Int32 × (Nat → Int32)) :=
  bd1 (f_X13_bit  mo_across x3) fun r_8 =>
  (if r_8 = 0 then
  f_X13_fightsAll_B134 k26 mo_v wa_deep wa_beasts wa_who wa_kind wa_mood x2 x3 x4 x5 mo_sumAcross 0 mo_foeHarm mo_ownHarm mo_across mo_sumFoe mo_sumOwn (t1 + t2) mo_sumAcross mo_x
  else
  f_X13_fightsAll_B134 k26 mo_v wa_deep wa_beasts wa_who wa_kind wa_mood x2 x3 x4 x5 mo_sumAcross 1 mo_foeHarm mo_ownHarm mo_across mo_sumFoe mo_sumOwn (t1 + t2) mo_sumAcross mo_x)
noncomputable def f_X13_fightsAll_b26 (mo_v : Nat → Int32) (wa_deep : Int32) (wa_beasts : Int32) (wa_who : Nat → Int32) (wa_kind : Nat → Int32) (wa_mood : Nat → Int32) (x2 : Int32) (x3 : Int32) (k26 : Int32 → Int32 → Int32 → Int32 → Int32 → Int32 → Int32 → Int32 → Int32 → (Nat → Int32) → Option (Int32 × Int32 × Int32 × Int32 × Int32 × Int32 × Int32 × (Nat → Int32))) (x4 : Int32) (x5 : Int32) (mo_foeHarm : Int32) (mo_ownHarm : Int32) (mo_across : Int32) (mo_sumFoe : Int32) (mo_sumOwn : Int32) (mo_sumWon : Int32) (mo_sumAcross : Int32) (mo_x : Nat → Int32) : Option (Int32 × Int32 × Int32 × Int32 × Int32 × Int32 × Int32 × (Nat → Int32)) :=
  (if x2 ≤ x5 then
  some (mo_foeHarm, mo_ownHarm, mo_across, mo_sumFoe, mo_sumOwn, mo_sumWon, mo_sumAcross, mo_x)
  else
  bd1 (f_X13_tries mo_v mo_x) fun mo_x_1 =>
  bd4 (f_X13_fights mo_foeHarm mo_ownHarm mo_across mo_v wa_deep wa_beasts wa_who wa_kind wa_mood (upd mo_x_1 ((18 : Int32).toNatClampNeg) x4)) fun mo_foeHarm_3 mo_ownHarm_4 mo_across_5 mo_x_6 =>
  (if mo_foeHarm_3 ≤ mo_ownHarm_4 then
  f_X13_fightsAll_B109 k26 mo_v wa_deep wa_beasts wa_who wa_kind wa_mood x2 x3 (mo_x_6 (18 : Int32).toNatClampNeg) x5 mo_sumWon 0 mo_foeHarm_3 mo_ownHarm_4 mo_across_5 (mo_sumFoe + mo_foeHarm_3) (mo_sumOwn + mo_ownHarm_4) mo_sumWon mo_sumAcross mo_x_6
  else
  f_X13_fightsAll_B109 k26 mo_v wa_deep wa_beasts wa_who wa_kind wa_mood x2 x3 (mo_x_6 (18 : Int32).toNatClampNeg) x5 mo_sumWon 1 mo_foeHarm_3 mo_ownHarm_4 mo_across_5 (mo_sumFoe + mo_foeHarm_3) (mo_sumOwn + mo_ownHarm_4) mo_sumWon mo_sumAcross mo_x_6))
noncomputable def f_X13_fightsAll_L26 (mo_v : Nat → Int32) (wa_deep : Int32) (wa_beasts : Int32) (wa_who : Nat → Int32) (wa_kind : Nat → Int32) (wa_mood : Nat → Int32) (x2 : Int32) (x3 : Int32) : Nat → Int32 → Int32 → Int32 → Int32 → Int32 → Int32 → Int32 → Int32 → Int32 → (Nat → Int32) → Option (Int32 × Int32 × Int32 × Int32 × Int32 × Int32 × Int32 × (Nat → Int32))
  | 0 => fun _ _ _ _ _ _ _ _ _ _ => none
  | n + 1 => f_X13_fightsAll_b26 mo_v wa_deep wa_beasts wa_who wa_kind wa_mood x2 x3 (f_X13_fightsAll_L26 mo_v wa_deep wa_beasts wa_who wa_kind wa_mood x2 x3 n)
noncomputable def f_X13_fightsAll (mo_foeHarm : Int32) (mo_ownHarm : Int32) (mo_across : Int32) (mo_sumFoe : Int32) (mo_sumOwn : Int32) (mo_sumWon : Int32) (mo_sumAcross : Int32) (mo_v : Nat → Int32) (mo_x : Nat → Int32) (wa_deep : Int32) (wa_beasts : Int32) (wa_who : Nat → Int32) (wa_kind : Nat → Int32) (wa_mood : Nat → Int32) (p1 : Int32) (p2 : Int32) (p3 : Int32) : Option (Int32 × Int32 × Int32 × Int32 × Int32 × Int32 × Int32 × (Nat → Int32)) :=
  f_X13_fightsAll_L26 mo_v wa_deep wa_beasts wa_who wa_kind wa_mood p2 p3 fuelN p1 0 mo_foeHarm mo_ownHarm mo_across 0 0 0 0 mo_x
noncomputable def f_X13_battles_B60 (mo_v : Nat → Int32) (wa_deep : Int32) (wa_beasts : Int32) (wa_who : Nat → Int32) (wa_kind : Nat → Int32) (wa_mood : Nat → Int32) (t1 : Int32) (mo_thrown : Int32) (mo_trouble : Int32) (mo_where : Int32) (mo_foeHarm : Int32) (mo_ownHarm : Int32) (mo_across : Int32) (mo_sumFoe : Int32) (mo_sumOwn : Int32) (mo_sumWon : Int32) (mo_sumAcross : Int32) (mo_x : Nat → Int32) : Option (Int32 × Int32 × Int32 × Int32 × Int32 × Int32 × Int32 × Int32 × Int32 × Int32 × Int32 × (Nat → Int32)) :=
  bd3 (f_X13_good mo_trouble mo_where t1) fun r_12 mo_trouble_13 mo_where_14 =>
  some (r_12, mo_thrown, mo_trouble_13, mo_where_14, mo_foeHarm, mo_ownHarm, mo_across, mo_sumFoe, mo_sumOwn, mo_sumWon, mo_sumAcross, mo_x)
noncomputable def f_X13_battles (mo_thrown : Int32) (mo_trouble : Int32) (mo_where : Int32) (mo_foeHarm : Int32) (mo_ownHarm : Int32) (mo_across : Int32) (mo_sumFoe : Int32) (mo_sumOwn : Int32) (mo_sumWon : Int32) (mo_sumAcross : Int32) (mo_v : Nat → Int32) (mo_x : Nat → Int32) (wa_deep : Int32) (wa_beasts : Int32) (wa_who : Nat → Int32) (wa_kind : Nat → Int32) (wa_mood : Nat → Int32) (p1 : Int32) (p2 : Int32) (p3 : Int32) : Option (Int32 × Int32 × Int32 × Int32 × Int32 × Int32 × Int32 × Int32 × Int32 × Int32 × Int32 × (Nat → Int32)) :=
  bd1 (f_X13_refusesBattles  (1 : Int32) p1 p2) fun r_1 =>
  (if r_1 ≤ 0 then
  bd8 (f_X13_fightsAll mo_foeHarm mo_ownHarm mo_across mo_sumFoe mo_sumOwn mo_sumWon mo_sumAcross mo_v mo_x wa_deep wa_beasts wa_who wa_kind wa_mood p1 p2 (0 : Int32)) fun mo_foeHarm_3 mo_ownHarm_4 mo_across_5 mo_sumFoe_6 mo_sumOwn_7 mo_sumWon_8 mo_sumAcross_9 mo_x_10 =>
  (if p3 = 0 then
  f_X13_battles_B60 mo_v wa_deep wa_beasts wa_who wa_kind wa_mood mo_sumFoe_6 0 mo_trouble mo_where mo_foeHarm_3 mo_ownHarm_4 mo_across_5 mo_sumFoe_6 mo_sumOwn_7 mo_sumWon_8 mo_sumAcross_9 mo_x_10
  else
  f_X13_battles_B60 mo_v wa_deep wa_beasts wa_who wa_kind wa_mood mo_sumOwn_7 0 mo_trouble mo_where mo_foeHarm_3 mo_ownHarm_4 mo_across_5 mo_sumFoe_6 mo_sumOwn_7 mo_sumWon_8 mo_sumAcross_9 mo_x_10)
  else
  bd3 (f_X13_refused mo_trouble mo_where r_1) fun r_16 mo_trouble_17 mo_where_18 =>
  some (r_16, 0, mo_trouble_17, mo_where_18, mo_foeHarm, mo_ownHarm, mo_across, mo_sumFoe, mo_sumOwn, mo_sumWon, mo_sumAcross, mo_x))
noncomputable def f_X13_won (mo_thrown : Int32) (mo_trouble : Int32) (mo_where : Int32) (mo_foeHarm : Int32) (mo_ownHarm : Int32) (mo_across : Int32) (mo_sumFoe : Int32) (mo_sumOwn : Int32) (mo_sumWon : Int32) (mo_sumAcross : Int32) (mo_v : Nat → Int32) (mo_x : Nat → Int32) (wa_deep : Int32) (wa_beasts : Int32) (wa_who : Nat → Int32) (wa_kind : Nat → Int32) (wa_mood : Nat → Int32) (p1 : Int32) (p2 : Int32) : Option (Int32 × Int32 × Int32 × Int32 × Int32 × Int32 × Int32 × Int32 × Int32 × Int32 × Int32 × (Nat → Int32)) :=
  bd1 (f_X13_refusesBattles  (1 : Int32) p1 p2) fun r_1 =>
  (if r_1 ≤ 0 then
  bd8 (f_X13_fightsAll mo_foeHarm mo_ownHarm mo_across mo_sumFoe mo_sumOwn mo_sumWon mo_sumAcross mo_v mo_x wa_deep wa_beasts wa_who wa_kind wa_mood p1 p2 (0 : Int32)) fun mo_foeHarm_3 mo_ownHarm_4 mo_across_5 mo_sumFoe_6 mo_sumOwn_7 mo_sumWon_8 mo_sumAcross_9 mo_x_10 =>
  bd3 (f_X13_good mo_trouble mo_where mo_sumWon_8) fun r_12 mo_trouble_13 mo_where_14 =>
  some (r_12, 0, mo_trouble_13, mo_where_14, mo_foeHarm_3, mo_ownHarm_4, mo_across_5, mo_sumFoe_6, mo_sumOwn_7, mo_sumWon_8, mo_sumAcross_9, mo_x_10)
  else
  bd3 (f_X13_refused mo_trouble mo_where r_1) fun r_16 mo_trouble_17 mo_where_18 =>
  some (r_16, 0, mo_trouble_17, mo_where_18, mo_foeHarm, mo_ownHarm, mo_across, mo_sumFoe, mo_sumOwn, mo_sumWon, mo_sumAcross, mo_x))
noncomputable def f_X13_acrossIn (mo_thrown : Int32) (mo_trouble : Int32) (mo_where : Int32) (mo_foeHarm : Int32) (mo_ownHarm : Int32) (mo_across : Int32) (mo_sumFoe : Int32) (mo_sumOwn : Int32) (mo_sumWon : Int32) (mo_sumAcross : Int32) (mo_v : Nat → Int32) (mo_x : Nat → Int32) (wa_deep : Int32) (wa_beasts : Int32) (wa_who : Nat → Int32) (wa_kind : Nat → Int32) (wa_mood : Nat → Int32) (p1 : Int32) (p2 : Int32) (p3 : Int32) : Option (Int32 × Int32 × Int32 × Int32 × Int32 × Int32 × Int32 × Int32 × Int32 × Int32 × Int32 × (Nat → Int32)) :=
  bd1 (f_X13_isBeast wa_beasts p1) fun r_1 =>
  bd1 (f_X13_refusesBattles  r_1 p2 p3) fun r_4 =>
  (if r_4 ≤ 0 then
  bd8 (f_X13_fightsAll mo_foeHarm mo_ownHarm mo_across mo_sumFoe mo_sumOwn mo_sumWon mo_sumAcross mo_v mo_x wa_deep wa_beasts wa_who wa_kind wa_mood p2 p3 p1) fun mo_foeHarm_6 mo_ownHarm_7 mo_across_8 mo_sumFoe_9 mo_sumOwn_10 mo_sumWon_11 mo_sumAcross_12 mo_x_13 =>
  bd3 (f_X13_good mo_trouble mo_where mo_sumAcross_12) fun r_15 mo_trouble_16 mo_where_17 =>
  some (r_15, 0, mo_trouble_16, mo_where_17, mo_foeHarm_6, mo_ownHarm_7, mo_across_8, mo_sumFoe_9, mo_sumOwn_10, mo_sumWon_11, mo_sumAcross_12, mo_x_13)
  else
  bd3 (f_X13_refused mo_trouble mo_where r_4) fun r_19 mo_trouble_20 mo_where_21 =>
  some (r_19, 0, mo_trouble_20, mo_where_21, mo_foeHarm, mo_ownHarm, mo_across, mo_sumFoe, mo_sumOwn, mo_sumWon, mo_sumAcross, mo_x))
noncomputable def f_X13_battle (mo_thrown : Int32) (mo_trouble : Int32) (mo_where : Int32) (mo_acts : Int32) (mo_foeHarm : Int32) (mo_ownHarm : Int32) (mo_across : Int32) (mo_v : Nat → Int32) (mo_past : Nat → Int32) (wa_deep : Int32) (wa_beasts : Int32) (wa_who : Nat → Int32) (wa_kind : Nat → Int32) (wa_mood : Nat → Int32) : Option (Int32 × Int32 × Int32 × Int32 × Int32 × Int32 × Int32 × Int32 × (Nat → Int32) × (Nat → Int32)) :=
  bd2 (f_X13_remembers mo_acts mo_v mo_past) fun mo_acts_1 mo_past_2 =>
  bd4 (f_X13_fights mo_foeHarm mo_ownHarm mo_across mo_v wa_deep wa_beasts wa_who wa_kind wa_mood mo_v) fun mo_foeHarm_4 mo_ownHarm_5 mo_across_6 mo_v_7 =>
  bd3 (f_X13_good mo_trouble mo_where mo_foeHarm_4) fun r_9 mo_trouble_10 mo_where_11 =>
  some (r_9, 0, mo_trouble_10, mo_where_11, mo_acts_1, mo_foeHarm_4, mo_ownHarm_5, mo_across_6, mo_v_7, mo_past_2)
noncomputable def f_X13_readAll_B36 (mo_size : Int32) (mo_tape : Nat → Int32) (mo_spot : Int32) (mo_sort : Int32) (mo_place : Int32) (mo_number : Int32) (mo_fault : Int32) (mo_wrongAt : Int32) (mo_laneTold : Int32) (mo_word : Int64) (re_lanes : Int32) (re_deep : Int32) (re_told : Int32) (re_beasts : Int32) (re_cities : Int32) (re_passes : Int32) (re_turned : Int32) (re_names : Int32) (re_who : Nat → Int32) (re_strong : Nat → Int32) (re_kind : Nat → Int32) (re_lane : Nat → Int32) (re_mood : Nat → Int32) (re_price : Nat → Int32) (re_loses : Nat → Int32) (re_name : Nat → Int64) (re_nameSort : Nat → Int32) (re_numberOf : Nat → Int32) : Option (Int32 × Int32 × Int32 × Int32 × Int32 × Int32 × Int32 × Int64 × Int32 × Int32 × Int32 × Int32 × Int32 × Int32 × Int32 × Int32 × (Nat → Int32) × (Nat → Int32) × (Nat → Int32) × (Nat → Int32) × (Nat → Int32) × (Nat → Int32) × (Nat → Int32) × (Nat → Int64) × (Nat → Int32) × (Nat → Int32)) :=
  (if re_beasts = 0 then
  bd3 (f_X13_flaw mo_sort mo_place mo_fault mo_wrongAt (6 : Int32)) fun mo_sort_1 mo_fault_2 mo_wrongAt_3 =>
  some (mo_spot, mo_sort_1, mo_place, mo_number, mo_fault_2, mo_wrongAt_3, mo_laneTold, mo_word, re_lanes, re_deep, re_told, re_beasts, re_cities, re_passes, re_turned, re_names, re_who, re_strong, re_kind, re_lane, re_mood, re_price, re_loses, re_name, re_nameSort, re_numberOf)
  else
  some (mo_spot, mo_sort, mo_place, mo_number, mo_fault, mo_wrongAt, mo_laneTold, mo_word, re_lanes, re_deep, re_told, re_beasts, re_cities, re_passes, re_turned, re_names, re_who, re_strong, re_kind, re_lane, re_mood, re_price, re_loses, re_name, re_nameSort, re_numberOf))
noncomputable def f_X13_readAll_B23 (mo_size : Int32) (mo_tape : Nat → Int32) (mo_spot : Int32) (mo_sort : Int32) (mo_place : Int32) (mo_number : Int32) (mo_fault : Int32) (mo_wrongAt : Int32) (mo_laneTold : Int32) (mo_word : Int64) (re_lanes : Int32) (re_deep : Int32) (re_told : Int32) (re_beasts : Int32) (re_cities : Int32) (re_passes : Int32) (re_turned : Int32) (re_names : Int32) (re_who : Nat → Int32) (re_strong : Nat → Int32) (re_kind : Nat → Int32) (re_lane : Nat → Int32) (re_mood : Nat → Int32) (re_price : Nat → Int32) (re_loses : Nat → Int32) (re_name : Nat → Int64) (re_nameSort : Nat → Int32) (re_numberOf : Nat → Int32) : Option (Int32 × Int32 × Int32 × Int32 × Int32 × Int32 × Int32 × Int64 × Int32 × Int32 × Int32 × Int32 × Int32 × Int32 × Int32 × Int32 × (Nat → Int32) × (Nat → Int32) × (Nat → Int32) × (Nat → Int32) × (Nat → Int32) × (Nat → Int32) × (Nat → Int32) × (Nat → Int64) × (Nat → Int32) × (Nat → Int32)) :=
  (if mo_sort = 1 then
  f_X13_readAll_B36 mo_size mo_tape mo_spot mo_sort mo_place mo_number mo_fault mo_wrongAt mo_laneTold mo_word re_lanes re_deep re_told re_beasts re_cities re_passes re_turned re_names re_who re_strong re_kind re_lane re_mood re_price re_loses re_name re_nameSort re_numberOf
  else
  bd3 (f_X13_flaw mo_sort mo_place mo_fault mo_wrongAt (1 : Int32)) fun mo_sort_5 mo_fault_6 mo_wrongAt_7 =>
  f_X13_readAll_B36 mo_size mo_tape mo_spot mo_sort_5 mo_place mo_number mo_fault_6 mo_wrongAt_7 mo_laneTold mo_word re_lanes re_deep re_told re_beasts re_cities re_passes re_turned re_names re_who re_strong re_kind re_lane re_mood re_price re_loses re_name re_nameSort re_numberOf)
noncomputable def f_X13_readAll_b7 (mo_size : Int32) (mo_tape : Nat → Int32) (k7 : Int32 → Int32 → Int32 → Int32 → Int32 → Int32 → Int32 → Int32 → Int64 → Int32 → Int32 → Int32 → Int32 → Int32 → Int32 → Int32 → Int32 → (Nat → Int32) → (Nat → Int32) → (Nat → Int32) → (Nat → Int32) → (Nat → Int32) → (Nat → Int32) → (Nat → Int32) → (Nat → Int64) → (Nat → Int32) → (Nat → Int32) → Option (Int32 × Int32 × Int32 × Int32 × Int32 × Int32 × Int32 × Int64 × Int32 × Int32 × Int32 × Int32 × Int32 × Int32 × Int32 × Int32 × (Nat → Int32) × (Nat → Int32) × (Nat → Int32) × (Nat → Int32) × (Nat → Int32) × (Nat → Int32) × (Nat → Int32) × (Nat → Int64) × (Nat → Int32) × (Nat → Int32))) (x1 : Int32) (mo_spot : Int32) (mo_sort : Int32) (mo_place : Int32) (mo_number : Int32) (mo_fault : Int32) (mo_wrongAt : Int32) (mo_laneTold : Int32) (mo_word : Int64) (re_lanes : Int32) (re_deep : Int32) (re_told : Int32) (re_beasts : Int32) (re_cities : Int32) (re_passes : Int32) (re_turned : Int32) (re_names : Int32) (re_who : Nat → Int32) (re_strong : Nat → Int32) (re_kind : Nat → Int32) (re_lane : Nat → Int32) (re_mood : Nat → Int32) (re_price : Nat → Int32) (re_loses : Nat → Int32) (re_name : Nat → Int64) (re_nameSort : Nat → Int32) (re_numberOf : Nat → Int32) : Option (Int32 × Int32 × Int32 × Int32 × Int32 × Int32 × Int32 × Int64 × Int32 × Int32 × Int32 × Int32 × Int32 × Int32 × Int32 × Int32 × (Nat → Int32) × (Nat → Int32) × (Nat → Int32) × (Nat → Int32) × (Nat → Int32) × (Nat → Int32) × (Nat → Int32) × (Nat → Int64) × (Nat → Int32) × (Nat → Int32)) :=
  (if x1 = 0 then
  f_X13_readAll_B23 mo_size mo_tape mo_spot mo_sort mo_place mo_number mo_fault mo_wrongAt mo_laneTold mo_word re_lanes re_deep re_told re_beasts re_cities re_passes re_turned re_names re_who re_strong re_kind re_lane re_mood re_price re_loses re_name re_nameSort re_numberOf
  else
  bd26 (f_X13_readLine mo_size mo_spot mo_sort mo_place mo_number mo_fault mo_wrongAt mo_laneTold mo_word mo_tape re_lanes re_deep re_told re_beasts re_cities re_passes re_turned re_names re_who re_strong re_kind re_lane re_mood re_price re_loses re_name re_nameSort re_numberOf) fun mo_spot_9 mo_sort_10 mo_place_11 mo_number_12 mo_fault_13 mo_wrongAt_14 mo_laneTold_15 mo_word_16 re_lanes_17 re_deep_18 re_told_19 re_beasts_20 re_cities_21 re_passes_22 re_turned_23 re_names_24 re_who_25 re_strong_26 re_kind_27 re_lane_28 re_mood_29 re_price_30 re_loses_31 re_name_32 re_nameSort_33 re_numberOf_34 =>
  bd6 (f_X13_eatsSemicolon mo_size mo_spot_9 mo_sort_10 mo_place_11 mo_number_12 mo_word_16 mo_tape) fun r_36 mo_spot_37 mo_sort_38 mo_place_39 mo_number_40 mo_word_41 =>
  k7 r_36 mo_spot_37 mo_sort_38 mo_place_39 mo_number_40 mo_fault_13 mo_wrongAt_14 mo_laneTold_15 mo_word_41 re_lanes_17 re_deep_18 re_told_19 re_beasts_20 re_cities_21 re_passes_22 re_turned_23 re_names_24 re_who_25 re_strong_26 re_kind_27 re_lane_28 re_mood_29 re_price_30 re_loses_31 re_name_32 re_nameSort_33 re_numberOf_34)
noncomputable def f_X13_readAll_L7 (mo_size : Int32) (mo_tape : Nat → Int32) : Nat → Int32 → Int32 → Int32 → Int32 → Int32 → Int32 → Int32 → Int32 → Int64 → Int32 → Int32 → Int32 → Int32 → Int32 → Int32 → Int32 → Int32 → (Nat → Int32) → (Nat → Int32) → (Nat → Int32) → (Nat → Int32) → (Nat → Int32) → (Nat → Int32) → (Nat → Int32) → (Nat → Int64) → (Nat → Int32) → (Nat → Int32) → Option (Int32 × Int32 × Int32 × Int32 × Int32 × Int32 × Int32 × Int64 × Int32 × Int32 × Int32 × Int32 × Int32 × Int32 × Int32 × Int32 × (Nat → Int32) × (Nat → Int32) × (Nat → Int32) × (Nat → Int32) × (Nat → Int32) × (Nat → Int32) × (Nat → Int32) × (Nat → Int64) × (Nat → Int32) × (Nat → Int32))
  | 0 => fun _ _ _ _ _ _ _ _ _ _ _ _ _ _ _ _ _ _ _ _ _ _ _ _ _ _ _ => none
  | n + 1 => f_X13_readAll_b7 mo_size mo_tape (f_X13_readAll_L7 mo_size mo_tape n)
noncomputable def f_X13_readAll (mo_size : Int32) (mo_spot : Int32) (mo_sort : Int32) (mo_place : Int32) (mo_number : Int32) (mo_fault : Int32) (mo_wrongAt : Int32) (mo_laneTold : Int32) (mo_word : Int64) (mo_tape : Nat → Int32) (re_lanes : Int32) (re_deep : Int32) (re_told : Int32) (re_beasts : Int32) (re_cities : Int32) (re_passes : Int32) (re_turned : Int32) (re_names : Int32) (re_who : Nat → Int32) (re_strong : Nat → Int32) (re_kind : Nat → Int32) (re_lane : Nat → Int32) (re_mood : Nat → Int32) (re_price : Nat → Int32) (re_loses : Nat → Int32) (re_name : Nat → Int64) (re_nameSort : Nat → Int32) (re_numberOf : Nat → Int32) : Option (Int32 × Int32 × Int32 × Int32 × Int32 × Int32 × Int32 × Int64 × Int32 × Int32 × Int32 × Int32 × Int32 × Int32 × Int32 × Int32 × (Nat → Int32) × (Nat → Int32) × (Nat → Int32) × (Nat → Int32) × (Nat → Int32) × (Nat → Int32) × (Nat → Int32) × (Nat → Int64) × (Nat → Int32) × (Nat → Int32)) :=
  f_X13_readAll_L7 mo_size mo_tape fuelN 1 mo_spot mo_sort mo_place mo_number mo_fault mo_wrongAt 0 mo_word re_lanes re_deep re_told re_beasts re_cities re_passes re_turned re_names re_who re_strong re_kind re_lane re_mood re_price re_loses re_name re_nameSort re_numberOf
noncomputable def f_X13_places_B73 (k58 : Int32 → Int64 → (Nat → Int32) → (Nat → Int32) → Option (Int64 × (Nat → Int32) × (Nat → Int32))) (mo_v : Nat → Int32) (wa_lanes : Int32) (wa_deep : Int32) (wa_beasts : Int32) (wa_who : Nat → Int32) (wa_kind : Nat → Int32) (wa_mood : Nat → Int32) (mo_bestSum : Int64) (mo_put : Nat → Int32) (mo_bestPut : Nat → Int32) : Option (Int64 × (Nat → Int32) × (Nat → Int32)) :=
  bd2 (f_X13_nextPut mo_v mo_put wa_lanes wa_beasts) fun r_4 mo_put_5 =>
  k58 r_4 mo_bestSum mo_put_5 mo_bestPut
noncomputable def f_X13_places_b58 (mo_v : Nat → Int32) (wa_lanes : Int32) (wa_deep : Int32) (wa_beasts : Int32) (wa_who : Nat → Int32) (wa_kind : Nat → Int32) (wa_mood : Nat → Int32) (k58 : Int32 → Int64 → (Nat → Int32) → (Nat → Int32) → Option (Int64 × (Nat → Int32) × (Nat → Int32))) (x1 : Int32) (mo_bestSum : Int64) (mo_put : Nat → Int32) (mo_bestPut : Nat → Int32) : Option (Int64 × (Nat → Int32) × (Nat → Int32)) :=
  (if x1 = 0 then
  some (mo_bestSum, mo_put, mo_bestPut)
  else
  bd1 (f_X13_areUnlike mo_put wa_lanes wa_beasts) fun r_1 =>
  (if r_1 = 0 then
  f_X13_places_B73 k58 mo_v wa_lanes wa_deep wa_beasts wa_who wa_kind wa_mood mo_bestSum mo_put mo_bestPut
  else
  bd2 (f_X13_takesPut mo_bestSum mo_v mo_put mo_bestPut wa_lanes wa_deep wa_beasts wa_who wa_kind wa_mood) fun mo_bestSum_8 mo_bestPut_9 =>
  f_X13_places_B73 k58 mo_v wa_lanes wa_deep wa_beasts wa_who wa_kind wa_mood mo_bestSum_8 mo_put mo_bestPut_9))
noncomputable def f_X13_places_L58 (mo_v : Nat → Int32) (wa_lanes : Int32) (wa_deep : Int32) (wa_beasts : Int32) (wa_who : Nat → Int32) (wa_kind : Nat → Int32) (wa_mood : Nat → Int32) : Nat → Int32 → Int64 → (Nat → Int32) → (Nat → Int32) → Option (Int64 × (Nat → Int32) × (Nat → Int32))
  | 0 => fun _ _ _ _ => none
  | n + 1 => f_X13_places_b58 mo_v wa_lanes wa_deep wa_beasts wa_who wa_kind wa_mood (f_X13_places_L58 mo_v wa_lanes wa_deep wa_beasts wa_who wa_kind wa_mood n)
noncomputable def f_X13_places_B56 (mo_v : Nat → Int32) (wa_lanes : Int32) (wa_deep : Int32) (wa_beasts : Int32) (wa_who : Nat → Int32) (wa_kind : Nat → Int32) (wa_mood : Nat → Int32) (mo_bestSum : Int64) (mo_put : Nat → Int32) (mo_bestPut : Nat → Int32) : Option (Int64 × (Nat → Int32) × (Nat → Int32)) :=
  f_X13_places_L58 mo_v wa_lanes wa_deep wa_beasts wa_who wa_kind wa_mood fuelN 1 mo_bestSum mo_put mo_bestPut
noncomputable def f_X13_places_B49 (k9 : Int32 → (Nat → Int32) → Option (Int64 × (Nat → Int32) × (Nat → Int32))) (mo_v : Nat → Int32) (wa_lanes : Int32) (wa_deep : Int32) (wa_beasts : Int32) (wa_who : Nat → Int32) (wa_kind : Nat → Int32) (wa_mood : Nat → Int32) (x1 : Int32) (t1 : Int32) (t2 : Int32) (mo_bestSum : Int64) (mo_put : Nat → Int32) (mo_bestPut : Nat → Int32) : Option (Int64 × (Nat → Int32) × (Nat → Int32)) :=
  gIn t1 5 <|
  k9 (x1 + 1) (upd mo_put t1.toNatClampNeg t2)
noncomputable def f_X13_places_B42 (k9 : Int32 → (Nat → Int32) → Option (Int64 × (Nat → Int32) × (Nat → Int32))) (mo_v : Nat → Int32) (wa_lanes : Int32) (wa_deep : Int32) (wa_beasts : Int32) (wa_who : Nat → Int32) (wa_kind : Nat → Int32) (wa_mood : Nat → Int32) (x1 : Int32) (t1 : Int32) (mo_bestSum : Int64) (mo_put : Nat → Int32) (mo_bestPut : Nat → Int32) : Option (Int64 × (Nat → Int32) × (Nat → Int32)) :=
  f_X13_places_B49 k9 mo_v wa_lanes wa_deep wa_beasts wa_who wa_kind wa_mood x1 t1 wa_lanes mo_bestSum mo_put mo_bestPut
noncomputable def f_X13_places_b9 (mo_v : Nat → Int32) (wa_lanes : Int32) (wa_deep : Int32) (wa_beasts : Int32) (wa_who : Nat → Int32) (wa_kind : Nat → Int32) (wa_mood : Nat → Int32) (mo_bestSum : Int64) (mo_bestPut : Nat → Int32) (k9 : Int32 → (Nat → Int32) → Option (Int64 × (Nat → Int32) × (Nat → Int32))) (x1 : Int32) (mo_put : Nat → Int32) : Option (Int64 × (Nat → Int32) × (Nat → Int32)) :=
  (if 5 ≤ x1 then
  f_X13_places_B56 mo_v wa_lanes wa_deep wa_beasts wa_who wa_kind wa_mood mo_bestSum mo_put mo_bestPut
  else
  (if wa_beasts ≤ x1 then
  f_X13_places_B42 k9 mo_v wa_lanes wa_deep wa_beasts wa_who wa_kind wa_mood x1 x1 mo_bestSum mo_put mo_bestPut
  else
  bd1 (f_X13_isDead mo_v x1) fun r_12 =>
  (if r_12 = 0 then
  f_X13_places_B49 k9 mo_v wa_lanes wa_deep wa_beasts wa_who wa_kind wa_mood x1 x1 0 mo_bestSum mo_put mo_bestPut
  else
  f_X13_places_B42 k9 mo_v wa_lanes wa_deep wa_beasts wa_who wa_kind wa_mood x1 x1 mo_bestSum mo_put mo_bestPut)))
noncomputable def f_X13_places_L9 (mo_v : Nat → Int32) (wa_lanes : Int32) (wa_deep : Int32) (wa_beasts : Int32) (wa_who : Nat → Int32) (wa_kind : Nat → Int32) (wa_mood : Nat → Int32) (mo_bestSum : Int64) (mo_bestPut : Nat → Int32) : Nat → Int32 → (Nat → Int32) → Option (Int64 × (Nat → Int32) × (Nat → Int32))
  | 0 => fun _ _ => none
  | n + 1 => f_X13_places_b9 mo_v wa_lanes wa_deep wa_beasts wa_who wa_kind wa_mood mo_bestSum mo_bestPut (f_X13_places_L9 mo_v wa_lanes wa_deep wa_beasts wa_who wa_kind wa_mood mo_bestSum mo_bestPut n)
noncomputable def f_X13_places (mo_bestSum : Int64) (mo_v : Nat → Int32) (mo_put : Nat → Int32) (mo_bestPut : Nat → Int32) (wa_lanes : Int32) (wa_deep : Int32) (wa_beasts : Int32) (wa_who : Nat → Int32) (wa_kind : Nat → Int32) (wa_mood : Nat → Int32) : Option (Int64 × (Nat → Int32) × (Nat → Int32)) :=
  f_X13_places_L9 mo_v wa_lanes wa_deep wa_beasts wa_who wa_kind wa_mood (-9223372036854775808) mo_bestPut fuelN 0 mo_put
noncomputable def f_X13_place_B51 (mo_v : Nat → Int32) (wa_lanes : Int32) (wa_deep : Int32) (wa_beasts : Int32) (wa_who : Nat → Int32) (wa_kind : Nat → Int32) (wa_mood : Nat → Int32) (t1 : Int32) (mo_thrown : Int32) (mo_trouble : Int32) (mo_where : Int32) (mo_bestSum : Int64) (mo_put : Nat → Int32) (mo_bestPut : Nat → Int32) : Option (Int32 × Int32 × Int32 × Int32 × Int64 × (Nat → Int32) × (Nat → Int32)) :=
  bd3 (f_X13_good mo_trouble mo_where t1) fun r_10 mo_trouble_11 mo_where_12 =>
  some (r_10, mo_thrown, mo_trouble_11, mo_where_12, mo_bestSum, mo_put, mo_bestPut)
noncomputable def f_X13_place (mo_thrown : Int32) (mo_trouble : Int32) (mo_where : Int32) (mo_bestSum : Int64) (mo_v : Nat → Int32) (mo_put : Nat → Int32) (mo_bestPut : Nat → Int32) (wa_lanes : Int32) (wa_deep : Int32) (wa_beasts : Int32) (wa_who : Nat → Int32) (wa_kind : Nat → Int32) (wa_mood : Nat → Int32) (p1 : Int32) : Option (Int32 × Int32 × Int32 × Int32 × Int64 × (Nat → Int32) × (Nat → Int32)) :=
  bd1 (f_X13_isBeast wa_beasts p1) fun r_1 =>
  (if r_1 = 0 then
  bd3 (f_X13_refused mo_trouble mo_where (1 : Int32)) fun r_14 mo_trouble_15 mo_where_16 =>
  some (r_14, 0, mo_trouble_15, mo_where_16, mo_bestSum, mo_put, mo_bestPut)
  else
  bd3 (f_X13_places mo_bestSum mo_v mo_put mo_bestPut wa_lanes wa_deep wa_beasts wa_who wa_kind wa_mood) fun mo_bestSum_4 mo_put_5 mo_bestPut_6 =>
  gIn p1 5 <|
  (if (mo_bestPut_6 p1.toNatClampNeg) = wa_lanes then
  f_X13_place_B51 mo_v wa_lanes wa_deep wa_beasts wa_who wa_kind wa_mood (-2) 0 mo_trouble mo_where mo_bestSum_4 mo_put_5 mo_bestPut_6
  else
  gIn p1 5 <|
  f_X13_place_B51 mo_v wa_lanes wa_deep wa_beasts wa_who wa_kind wa_mood (mo_bestPut_6 p1.toNatClampNeg) 0 mo_trouble mo_where mo_bestSum_4 mo_put_5 mo_bestPut_6))
noncomputable def f_X13_placed (mo_thrown : Int32) (mo_trouble : Int32) (mo_where : Int32) (mo_bestSum : Int64) (mo_v : Nat → Int32) (mo_put : Nat → Int32) (mo_bestPut : Nat → Int32) (wa_lanes : Int32) (wa_deep : Int32) (wa_beasts : Int32) (wa_who : Nat → Int32) (wa_kind : Nat → Int32) (wa_mood : Nat → Int32) (p1 : Int32) : Option (Int64 × Int32 × Int32 × Int32 × Int64 × (Nat → Int32) × (Nat → Int32)) :=
  bd3 (f_X13_places mo_bestSum mo_v mo_put mo_bestPut wa_lanes wa_deep wa_beasts wa_who wa_kind wa_mood) fun mo_bestSum_1 mo_put_2 mo_bestPut_3 =>
  bd1 (f_X13_whole wa_deep) fun r_5 =>
  bd3 (f_X13_fraction mo_trouble mo_where mo_bestSum_1 r_5 p1) fun r_7 mo_trouble_8 mo_where_9 =>
  some (r_7, 0, mo_trouble_8, mo_where_9, mo_bestSum_1, mo_put_2, mo_bestPut_3)
noncomputable def f_X13_out_B75 (mo_v : Nat → Int32) (wa_lanes : Int32) (wa_deep : Int32) (wa_beasts : Int32) (wa_who : Nat → Int32) (wa_kind : Nat → Int32) (wa_mood : Nat → Int32) (x1 : Int32) (mo_thrown : Int32) (mo_trouble : Int32) (mo_where : Int32) (mo_bestSum : Int64) (mo_put : Nat → Int32) (mo_bestPut : Nat → Int32) : Option (Int32 × Int32 × Int32 × Int32 × Int64 × (Nat → Int32) × (Nat → Int32)) :=
  bd3 (f_X13_good mo_trouble mo_where x1) fun r_5 mo_trouble_6 mo_where_7 =>
  some (r_5, mo_thrown, mo_trouble_6, mo_where_7, mo_bestSum, mo_put, mo_bestPut)
noncomputable def f_X13_out_B67 (k26 : Int32 → Int32 → Option (Int32 × Int32 × Int32 × Int32 × Int64 × (Nat → Int32) × (Nat → Int32))) (mo_v : Nat → Int32) (wa_lanes : Int32) (wa_deep : Int32) (wa_beasts : Int32) (wa_who : Nat → Int32) (wa_kind : Nat → Int32) (wa_mood : Nat → Int32) (x2 : Int32) (t0 : Int32) (t1 : Int32) (mo_thrown : Int32) (mo_trouble : Int32) (mo_where : Int32) (mo_bestSum : Int64) (mo_put : Nat → Int32) (mo_bestPut : Nat → Int32) : Option (Int32 × Int32 × Int32 × Int32 × Int64 × (Nat → Int32) × (Nat → Int32)) :=
  k26 (t0 + t1) (x2 + 1)
noncomputable def f_X13_out_B66 (k26 : Int32 → Int32 → Option (Int32 × Int32 × Int32 × Int32 × Int64 × (Nat → Int32) × (Nat → Int32))) (mo_v : Nat → Int32) (wa_lanes : Int32) (wa_deep : Int32) (wa_beasts : Int32) (wa_who : Nat → Int32) (wa_kind : Nat → Int32) (wa_mood : Nat → Int32) (x2 : Int32) (t0 : Int32) (mo_thrown : Int32) (mo_trouble : Int32) (mo_where : Int32) (mo_bestSum : Int64) (mo_put : Nat → Int32) (mo_bestPut : Nat → Int32) : Option (Int32 × Int32 × Int32 × Int32 × Int64 × (Nat → Int32) × (Nat → Int32)) :=
  f_X13_out_B67 k26 mo_v wa_lanes wa_deep wa_beasts wa_who wa_kind wa_mood x2 t0 0 mo_thrown mo_trouble mo_where mo_bestSum mo_put mo_bestPut
noncomputable def f_X13_out_b26 (mo_v : Nat → Int32) (wa_lanes : Int32) (wa_deep : Int32) (wa_beasts : Int32) (wa_who : Nat → Int32) (wa_kind : Nat → Int32) (wa_mood : Nat → Int32) (mo_thrown : Int32) (mo_trouble : Int32) (mo_where : Int32) (mo_bestSum : Int64) (mo_put : Nat → Int32) (mo_bestPut : Nat → Int32) (k26 : Int32 → Int32 → Option (Int32 × Int32 × Int32 × Int32 × Int64 × (Nat → Int32) × (Nat → Int32))) (x1 : Int32) (x2 : Int32) : Option (Int32 × Int32 × Int32 × Int32 × Int64 × (Nat → Int32) × (Nat → Int32)) :=
  (if wa_beasts ≤ x2 then
  f_X13_out_B75 mo_v wa_lanes wa_deep wa_beasts wa_who wa_kind wa_mood x1 mo_thrown mo_trouble mo_where mo_bestSum mo_put mo_bestPut
  else
  bd1 (f_X13_isDead mo_v x2) fun r_9 =>
  (if r_9 = 0 then
  gIn x2 5 <|
  (if (mo_bestPut x2.toNatClampNeg) = wa_lanes then
  f_X13_out_B67 k26 mo_v wa_lanes wa_deep wa_beasts wa_who wa_kind wa_mood x2 x1 1 mo_thrown mo_trouble mo_where mo_bestSum mo_put mo_bestPut
  else
  f_X13_out_B66 k26 mo_v wa_lanes wa_deep wa_beasts wa_who wa_kind wa_mood x2 x1 mo_thrown mo_trouble mo_where mo_bestSum mo_put mo_bestPut)
  else
  f_X13_out_B66 k26 mo_v wa_lanes wa_deep wa_beasts wa_who wa_kind wa_mood x2 x1 mo_thrown mo_trouble mo_where mo_bestSum mo_put mo_bestPut))
noncomputable def f_X13_out_L26 (mo_v : Nat → Int32) (wa_lanes : Int32) (wa_deep : Int32) (wa_beasts : Int32) (wa_who : Nat → Int32) (wa_kind : Nat → Int32) (wa_mood : Nat → Int32) (mo_thrown : Int32) (mo_trouble : Int32) (mo_where : Int32) (mo_bestSum : Int64) (mo_put : Nat → Int32) (mo_bestPut : Nat → Int32) : Nat → Int32 → Int32 → Option (Int32 × Int32 × Int32 × Int32 × Int64 × (Nat → Int32) × (Nat → Int32))
  | 0 => fun _ _ => none
  | n + 1 => f_X13_out_b26 mo_v wa_lanes wa_deep wa_beasts wa_who wa_kind wa_mood mo_thrown mo_trouble mo_where mo_bestSum mo_put mo_bestPut (f_X13_out_L26 mo_v wa_lanes wa_deep wa_beasts wa_who wa_kind wa_mood mo_thrown mo_trouble mo_where mo_bestSum mo_put mo_bestPut n)
noncomputable def f_X13_out (mo_thrown : Int32) (mo_trouble : Int32) (mo_where : Int32) (mo_bestSum : Int64) (mo_v : Nat → Int32) (mo_put : Nat → Int32) (mo_bestPut : Nat → Int32) (wa_lanes : Int32) (wa_deep : Int32) (wa_beasts : Int32) (wa_who : Nat → Int32) (wa_kind : Nat → Int32) (wa_mood : Nat → Int32) : Option (Int32 × Int32 × Int32 × Int32 × Int64 × (Nat → Int32) × (Nat → Int32)) :=
  bd3 (f_X13_places mo_bestSum mo_v mo_put mo_bestPut wa_lanes wa_deep wa_beasts wa_who wa_kind wa_mood) fun mo_bestSum_1 mo_put_2 mo_bestPut_3 =>
  f_X13_out_L26 mo_v wa_lanes wa_deep wa_beasts wa_who wa_kind wa_mood 0 mo_trouble mo_where mo_bestSum_1 mo_put_2 mo_bestPut_3 fuelN 0 0
noncomputable def f_X13_war_r_B17 (mo_taped : Int32) (mo_thrown : Int32) (mo_trouble : Int32) (mo_where : Int32) : Option (Int32 × Int32 × Int32 × Int32) :=
  bd3 (f_X13_refused mo_trouble mo_where (2 : Int32)) fun r_1 mo_trouble_2 mo_where_3 =>
  some (r_1, mo_thrown, mo_trouble_2, mo_where_3)
noncomputable def f_X13_war_r (mo_thrown : Int32) (mo_trouble : Int32) (mo_where : Int32) (mo_taped : Int32) (p1 : Int32) : Option (Int32 × Int32 × Int32 × Int32) :=
  (if p1 < 0 then
  f_X13_war_r_B17 mo_taped 0 mo_trouble mo_where
  else
  (if p1 ≤ mo_taped then
  none
  else
  f_X13_war_r_B17 mo_taped 0 mo_trouble mo_where))
noncomputable def f_X13_war_f (mo_thrown : Int32) (mo_trouble : Int32) (mo_where : Int32) (mo_taped : Int32) (mo_size : Int32) (mo_spot : Int32) (mo_sort : Int32) (mo_place : Int32) (mo_number : Int32) (mo_fault : Int32) (mo_wrongAt : Int32) (mo_laneTold : Int32) (mo_word : Int64) (mo_tape : Nat → Int32) (p1 : Int32) : Option (Int32 × Int32 × Int32 × Int32 × Int32 × Int32 × Int32 × Int32 × Int32 × Int32 × Int32 × Int32 × Int32 × Int64 × Int32 × Int32 × Int32 × Int32 × Int32 × Int32 × Int32 × Int32 × (Nat → Int32) × (Nat → Int32) × (Nat → Int32) × (Nat → Int32) × (Nat → Int32) × (Nat → Int32) × (Nat → Int32) × (Nat → Int64) × (Nat → Int32) × (Nat → Int32)) :=
  (if p1 < 0 then
  none
  else
  (if p1 ≤ mo_taped then
  bd5 (f_X13_goesOn p1 0 0 mo_place mo_number mo_word mo_tape) fun mo_spot_1 mo_sort_2 mo_place_3 mo_number_4 mo_word_5 =>
  bd26 (f_X13_readAll p1 mo_spot_1 mo_sort_2 mo_place_3 mo_number_4 0 mo_wrongAt mo_laneTold mo_word_5 mo_tape 0 0 0 0 0 0 0 0 (fun _ => 0) (fun _ => 0) (fun _ => 0) (fun _ => 0) (fun _ => 0) (fun _ => 0) (fun _ => 0) (fun _ => 0) (fun _ => 0) (fun _ => 0)) fun mo_spot_7 mo_sort_8 mo_place_9 mo_number_10 mo_fault_11 mo_wrongAt_12 mo_laneTold_13 mo_word_14 re_lanes_15 re_deep_16 re_told_17 re_beasts_18 re_cities_19 re_passes_20 re_turned_21 re_names_22 re_who_23 re_strong_24 re_kind_25 re_lane_26 re_mood_27 re_price_28 re_loses_29 re_name_30 re_nameSort_31 re_numberOf_32 =>
  (if mo_fault_11 ≤ 0 then
  none
  else
  some ((-1), 0, 4, mo_wrongAt_12, 0, p1, mo_spot_7, mo_sort_8, mo_place_9, mo_number_10, mo_fault_11, mo_wrongAt_12, mo_laneTold_13, mo_word_14, re_lanes_15, re_deep_16, re_told_17, re_beasts_18, re_cities_19, re_passes_20, re_turned_21, re_names_22, re_who_23, re_strong_24, re_kind_25, re_lane_26, re_mood_27, re_price_28, re_loses_29, re_name_30, re_nameSort_31, re_numberOf_32))
  else
  none))
noncomputable def f_X13_war_s_B191 (mo_tape : Nat → Int32) (mo_thrown : Int32) (mo_trouble : Int32) (mo_where : Int32) (mo_taped : Int32) (mo_size : Int32) (mo_spot : Int32) (mo_sort : Int32) (mo_place : Int32) (mo_number : Int32) (mo_fault : Int32) (mo_wrongAt : Int32) (mo_laneTold : Int32) (mo_word : Int64) (mo_acts : Int32) (mo_marks : Int32) (mo_v : Nat → Int32) (re_lanes : Int32) (re_deep : Int32) (re_told : Int32) (re_beasts : Int32) (re_cities : Int32) (re_passes : Int32) (re_turned : Int32) (re_names : Int32) (re_who : Nat → Int32) (re_strong : Nat → Int32) (re_kind : Nat → Int32) (re_lane : Nat → Int32) (re_mood : Nat → Int32) (re_price : Nat → Int32) (re_loses : Nat → Int32) (re_name : Nat → Int64) (re_nameSort : Nat → Int32) (re_numberOf : Nat → Int32) : Option (Int32 × Int32 × Int32 × Int32 × Int32 × Int32 × Int32 × Int32 × Int32 × Int32 × Int32 × Int32 × Int32 × Int64 × Int32 × Int32 × (Nat → Int32) × Int32 × Int32 × Int32 × Int32 × Int32 × Int32 × Int32 × Int32 × (Nat → Int32) × (Nat → Int32) × (Nat → Int32) × (Nat → Int32) × (Nat → Int32) × (Nat → Int32) × (Nat → Int32) × (Nat → Int64) × (Nat → Int32) × (Nat → Int32)) :=
  bd3 (f_X13_good mo_trouble mo_where re_beasts) fun r_34 mo_trouble_35 mo_where_36 =>
  some (r_34, mo_thrown, mo_trouble_35, mo_where_36, mo_taped, mo_size, mo_spot, mo_sort, mo_place, mo_number, mo_fault, mo_wrongAt, mo_laneTold, mo_word, 0, 0, mo_v, re_lanes, re_deep, re_told, re_beasts, re_cities, re_passes, re_turned, re_names, re_who, re_strong, re_kind, re_lane, re_mood, re_price, re_loses, re_name, re_nameSort, re_numberOf)
noncomputable def f_X13_war_s_b156 (mo_tape : Nat → Int32) (mo_thrown : Int32) (mo_trouble : Int32) (mo_where : Int32) (mo_taped : Int32) (mo_size : Int32) (mo_spot : Int32) (mo_sort : Int32) (mo_place : Int32) (mo_number : Int32) (mo_fault : Int32) (mo_wrongAt : Int32) (mo_laneTold : Int32) (mo_word : Int64) (mo_acts : Int32) (mo_marks : Int32) (re_lanes : Int32) (re_deep : Int32) (re_told : Int32) (re_beasts : Int32) (re_cities : Int32) (re_passes : Int32) (re_turned : Int32) (re_names : Int32) (re_who : Nat → Int32) (re_strong : Nat → Int32) (re_kind : Nat → Int32) (re_lane : Nat → Int32) (re_mood : Nat → Int32) (re_price : Nat → Int32) (re_loses : Nat → Int32) (re_name : Nat → Int64) (re_nameSort : Nat → Int32) (re_numberOf : Nat → Int32) (k156 : Int32 → (Nat → Int32) → Option (Int32 × Int32 × Int32 × Int32 × Int32 × Int32 × Int32 × Int32 × Int32 × Int32 × Int32 × Int32 × Int32 × Int64 × Int32 × Int32 × (Nat → Int32) × Int32 × Int32 × Int32 × Int32 × Int32 × Int32 × Int32 × Int32 × (Nat → Int32) × (Nat → Int32) × (Nat → Int32) × (Nat → Int32) × (Nat → Int32) × (Nat → Int32) × (Nat → Int32) × (Nat → Int64) × (Nat → Int32) × (Nat → Int32))) (x2 : Int32) (mo_v : Nat → Int32) : Option (Int32 × Int32 × Int32 × Int32 × Int32 × Int32 × Int32 × Int32 × Int32 × Int32 × Int32 × Int32 × Int32 × Int64 × Int32 × Int32 × (Nat → Int32) × Int32 × Int32 × Int32 × Int32 × Int32 × Int32 × Int32 × Int32 × (Nat → Int32) × (Nat → Int32) × (Nat → Int32) × (Nat → Int32) × (Nat → Int32) × (Nat → Int32) × (Nat → Int32) × (Nat → Int64) × (Nat → Int32) × (Nat → Int32)) :=
  (if re_lanes ≤ x2 then
  f_X13_war_s_B191 mo_tape mo_thrown mo_trouble mo_where mo_taped mo_size mo_spot mo_sort mo_place mo_number mo_fault mo_wrongAt mo_laneTold mo_word mo_acts mo_marks mo_v re_lanes re_deep re_told re_beasts re_cities re_passes re_turned re_names re_who re_strong re_kind re_lane re_mood re_price re_loses re_name re_nameSort re_numberOf
  else
  gIn x2 6 <|
  gIn (11 + x2) 19 <|
  k156 (x2 + 1) (upd mo_v (11 + x2).toNatClampNeg (re_strong x2.toNatClampNeg)))
noncomputable def f_X13_war_s_L156 (mo_tape : Nat → Int32) (mo_thrown : Int32) (mo_trouble : Int32) (mo_where : Int32) (mo_taped : Int32) (mo_size : Int32) (mo_spot : Int32) (mo_sort : Int32) (mo_place : Int32) (mo_number : Int32) (mo_fault : Int32) (mo_wrongAt : Int32) (mo_laneTold : Int32) (mo_word : Int64) (mo_acts : Int32) (mo_marks : Int32) (re_lanes : Int32) (re_deep : Int32) (re_told : Int32) (re_beasts : Int32) (re_cities : Int32) (re_passes : Int32) (re_turned : Int32) (re_names : Int32) (re_who : Nat → Int32) (re_strong : Nat → Int32) (re_kind : Nat → Int32) (re_lane : Nat → Int32) (re_mood : Nat → Int32) (re_price : Nat → Int32) (re_loses : Nat → Int32) (re_name : Nat → Int64) (re_nameSort : Nat → Int32) (re_numberOf : Nat → Int32) : Nat → Int32 → (Nat → Int32) → Option (Int32 × Int32 × Int32 × Int32 × Int32 × Int32 × Int32 × Int32 × Int32 × Int32 × Int32 × Int32 × Int32 × Int64 × Int32 × Int32 × (Nat → Int32) × Int32 × Int32 × Int32 × Int32 × Int32 × Int32 × Int32 × Int32 × (Nat → Int32) × (Nat → Int32) × (Nat → Int32) × (Nat → Int32) × (Nat → Int32) × (Nat → Int32) × (Nat → Int32) × (Nat → Int64) × (Nat → Int32) × (Nat → Int32))
  | 0 => fun _ _ => none
  | n + 1 => f_X13_war_s_b156 mo_tape mo_thrown mo_trouble mo_where mo_taped mo_size mo_spot mo_sort mo_place mo_number mo_fault mo_wrongAt mo_laneTold mo_word mo_acts mo_marks re_lanes re_deep re_told re_beasts re_cities re_passes re_turned re_names re_who re_strong re_kind re_lane re_mood re_price re_loses re_name re_nameSort re_numberOf (f_X13_war_s_L156 mo_tape mo_thrown mo_trouble mo_where mo_taped mo_size mo_spot mo_sort mo_place mo_number mo_fault mo_wrongAt mo_laneTold mo_word mo_acts mo_marks re_lanes re_deep re_told re_beasts re_cities re_passes re_turned re_names re_who re_strong re_kind re_lane re_mood re_price re_loses re_name re_nameSort re_numberOf n)
noncomputable def f_X13_war_s_B154 (mo_tape : Nat → Int32) (mo_thrown : Int32) (mo_trouble : Int32) (mo_where : Int32) (mo_taped : Int32) (mo_size : Int32) (mo_spot : Int32) (mo_sort : Int32) (mo_place : Int32) (mo_number : Int32) (mo_fault : Int32) (mo_wrongAt : Int32) (mo_laneTold : Int32) (mo_word : Int64) (mo_acts : Int32) (mo_marks : Int32) (mo_v : Nat → Int32) (re_lanes : Int32) (re_deep : Int32) (re_told : Int32) (re_beasts : Int32) (re_cities : Int32) (re_passes : Int32) (re_turned : Int32) (re_names : Int32) (re_who : Nat → Int32) (re_strong : Nat → Int32) (re_kind : Nat → Int32) (re_lane : Nat → Int32) (re_mood : Nat → Int32) (re_price : Nat → Int32) (re_loses : Nat → Int32) (re_name : Nat → Int64) (re_nameSort : Nat → Int32) (re_numberOf : Nat → Int32) : Option (Int32 × Int32 × Int32 × Int32 × Int32 × Int32 × Int32 × Int32 × Int32 × Int32 × Int32 × Int32 × Int32 × Int64 × Int32 × Int32 × (Nat → Int32) × Int32 × Int32 × Int32 × Int32 × Int32 × Int32 × Int32 × Int32 × (Nat → Int32) × (Nat → Int32) × (Nat → Int32) × (Nat → Int32) × (Nat → Int32) × (Nat → Int32) × (Nat → Int32) × (Nat → Int64) × (Nat → Int32) × (Nat → Int32)) :=
  f_X13_war_s_L156 mo_tape mo_thrown mo_trouble mo_where mo_taped mo_size mo_spot mo_sort mo_place mo_number mo_fault mo_wrongAt mo_laneTold mo_word mo_acts mo_marks re_lanes re_deep re_told re_beasts re_cities re_passes re_turned re_names re_who re_strong re_kind re_lane re_mood re_price re_loses re_name re_nameSort re_numberOf fuelN 0 mo_v
noncomputable def f_X13_war_s_b120 (mo_tape : Nat → Int32) (mo_thrown : Int32) (mo_trouble : Int32) (mo_where : Int32) (mo_taped : Int32) (mo_size : Int32) (mo_spot : Int32) (mo_sort : Int32) (mo_place : Int32) (mo_number : Int32) (mo_fault : Int32) (mo_wrongAt : Int32) (mo_laneTold : Int32) (mo_word : Int64) (mo_acts : Int32) (mo_marks : Int32) (re_lanes : Int32) (re_deep : Int32) (re_told : Int32) (re_beasts : Int32) (re_cities : Int32) (re_passes : Int32) (re_turned : Int32) (re_names : Int32) (re_who : Nat → Int32) (re_strong : Nat → Int32) (re_kind : Nat → Int32) (re_lane : Nat → Int32) (re_mood : Nat → Int32) (re_price : Nat → Int32) (re_loses : Nat → Int32) (re_name : Nat → Int64) (re_nameSort : Nat → Int32) (re_numberOf : Nat → Int32) (k120 : Int32 → (Nat → Int32) → Option (Int32 × Int32 × Int32 × Int32 × Int32 × Int32 × Int32 × Int32 × Int32 × Int32 × Int32 × Int32 × Int32 × Int64 × Int32 × Int32 × (Nat → Int32) × Int32 × Int32 × Int32 × Int32 × Int32 × Int32 × Int32 × Int32 × (Nat → Int32) × (Nat → Int32) × (Nat → Int32) × (Nat → Int32) × (Nat → Int32) × (Nat → Int32) × (Nat → Int32) × (Nat → Int64) × (Nat → Int32) × (Nat → Int32))) (x2 : Int32) (mo_v : Nat → Int32) : Option (Int32 × Int32 × Int32 × Int32 × Int32 × Int32 × Int32 × Int32 × Int32 × Int32 × Int32 × Int32 × Int32 × Int64 × Int32 × Int32 × (Nat → Int32) × Int32 × Int32 × Int32 × Int32 × Int32 × Int32 × Int32 × Int32 × (Nat → Int32) × (Nat → Int32) × (Nat → Int32) × (Nat → Int32) × (Nat → Int32) × (Nat → Int32) × (Nat → Int32) × (Nat → Int64) × (Nat → Int32) × (Nat → Int32)) :=
  (if re_beasts ≤ x2 then
  f_X13_war_s_B154 mo_tape mo_thrown mo_trouble mo_where mo_taped mo_size mo_spot mo_sort mo_place mo_number mo_fault mo_wrongAt mo_laneTold mo_word mo_acts mo_marks mo_v re_lanes re_deep re_told re_beasts re_cities re_passes re_turned re_names re_who re_strong re_kind re_lane re_mood re_price re_loses re_name re_nameSort re_numberOf
  else
  gIn x2 5 <|
  gIn (0 + x2) 19 <|
  k120 (x2 + 1) (upd mo_v (0 + x2).toNatClampNeg (re_lane x2.toNatClampNeg)))
noncomputable def f_X13_war_s_L120 (mo_tape : Nat → Int32) (mo_thrown : Int32) (mo_trouble : Int32) (mo_where : Int32) (mo_taped : Int32) (mo_size : Int32) (mo_spot : Int32) (mo_sort : Int32) (mo_place : Int32) (mo_number : Int32) (mo_fault : Int32) (mo_wrongAt : Int32) (mo_laneTold : Int32) (mo_word : Int64) (mo_acts : Int32) (mo_marks : Int32) (re_lanes : Int32) (re_deep : Int32) (re_told : Int32) (re_beasts : Int32) (re_cities : Int32) (re_passes : Int32) (re_turned : Int32) (re_names : Int32) (re_who : Nat → Int32) (re_strong : Nat → Int32) (re_kind : Nat → Int32) (re_lane : Nat → Int32) (re_mood : Nat → Int32) (re_price : Nat → Int32) (re_loses : Nat → Int32) (re_name : Nat → Int64) (re_nameSort : Nat → Int32) (re_numberOf : Nat → Int32) : Nat → Int32 → (Nat → Int32) → Option (Int32 × Int32 × Int32 × Int32 × Int32 × Int32 × Int32 × Int32 × Int32 × Int32 × Int32 × Int32 × Int32 × Int64 × Int32 × Int32 × (Nat → Int32) × Int32 × Int32 × Int32 × Int32 × Int32 × Int32 × Int32 × Int32 × (Nat → Int32) × (Nat → Int32) × (Nat → Int32) × (Nat → Int32) × (Nat → Int32) × (Nat → Int32) × (Nat → Int32) × (Nat → Int64) × (Nat → Int32) × (Nat → Int32))
  | 0 => fun _ _ => none
  | n + 1 => f_X13_war_s_b120 mo_tape mo_thrown mo_trouble mo_where mo_taped mo_size mo_spot mo_sort mo_place mo_number mo_fault mo_wrongAt mo_laneTold mo_word mo_acts mo_marks re_lanes re_deep re_told re_beasts re_cities re_passes re_turned re_names re_who re_strong re_kind re_lane re_mood re_price re_loses re_name re_nameSort re_numberOf (f_X13_war_s_L120 mo_tape mo_thrown mo_trouble mo_where mo_taped mo_size mo_spot mo_sort mo_place mo_number mo_fault mo_wrongAt mo_laneTold mo_word mo_acts mo_marks re_lanes re_deep re_told re_beasts re_cities re_passes re_turned re_names re_who re_strong re_kind re_lane re_mood re_price re_loses re_name re_nameSort re_numberOf n)
noncomputable def f_X13_war_s_B118 (mo_tape : Nat → Int32) (mo_thrown : Int32) (mo_trouble : Int32) (mo_where : Int32) (mo_taped : Int32) (mo_size : Int32) (mo_spot : Int32) (mo_sort : Int32) (mo_place : Int32) (mo_number : Int32) (mo_fault : Int32) (mo_wrongAt : Int32) (mo_laneTold : Int32) (mo_word : Int64) (mo_acts : Int32) (mo_marks : Int32) (mo_v : Nat → Int32) (re_lanes : Int32) (re_deep : Int32) (re_told : Int32) (re_beasts : Int32) (re_cities : Int32) (re_passes : Int32) (re_turned : Int32) (re_names : Int32) (re_who : Nat → Int32) (re_strong : Nat → Int32) (re_kind : Nat → Int32) (re_lane : Nat → Int32) (re_mood : Nat → Int32) (re_price : Nat → Int32) (re_loses : Nat → Int32) (re_name : Nat → Int64) (re_nameSort : Nat → Int32) (re_numberOf : Nat → Int32) : Option (Int32 × Int32 × Int32 × Int32 × Int32 × Int32 × Int32 × Int32 × Int32 × Int32 × Int32 × Int32 × Int32 × Int64 × Int32 × Int32 × (Nat → Int32) × Int32 × Int32 × Int32 × Int32 × Int32 × Int32 × Int32 × Int32 × (Nat → Int32) × (Nat → Int32) × (Nat → Int32) × (Nat → Int32) × (Nat → Int32) × (Nat → Int32) × (Nat → Int32) × (Nat → Int64) × (Nat → Int32) × (Nat → Int32)) :=
  f_X13_war_s_L120 mo_tape mo_thrown mo_trouble mo_where mo_taped mo_size mo_spot mo_sort mo_place mo_number mo_fault mo_wrongAt mo_laneTold mo_word mo_acts mo_marks re_lanes re_deep re_told re_beasts re_cities re_passes re_turned re_names re_who re_strong re_kind re_lane re_mood re_price re_loses re_name re_nameSort re_numberOf fuelN 0 mo_v
noncomputable def f_X13_war_s_b99 (mo_tape : Nat → Int32) (mo_thrown : Int32) (mo_trouble : Int32) (mo_where : Int32) (mo_taped : Int32) (mo_size : Int32) (mo_spot : Int32) (mo_sort : Int32) (mo_place : Int32) (mo_number : Int32) (mo_fault : Int32) (mo_wrongAt : Int32) (mo_laneTold : Int32) (mo_word : Int64) (mo_acts : Int32) (mo_marks : Int32) (re_lanes : Int32) (re_deep : Int32) (re_told : Int32) (re_beasts : Int32) (re_cities : Int32) (re_passes : Int32) (re_turned : Int32) (re_names : Int32) (re_who : Nat → Int32) (re_strong : Nat → Int32) (re_kind : Nat → Int32) (re_lane : Nat → Int32) (re_mood : Nat → Int32) (re_price : Nat → Int32) (re_loses : Nat → Int32) (re_name : Nat → Int64) (re_nameSort : Nat → Int32) (re_numberOf : Nat → Int32) (k99 : Int32 → (Nat → Int32) → Option (Int32 × Int32 × Int32 × Int32 × Int32 × Int32 × Int32 × Int32 × Int32 × Int32 × Int32 × Int32 × Int32 × Int64 × Int32 × Int32 × (Nat → Int32) × Int32 × Int32 × Int32 × Int32 × Int32 × Int32 × Int32 × Int32 × (Nat → Int32) × (Nat → Int32) × (Nat → Int32) × (Nat → Int32) × (Nat → Int32) × (Nat → Int32) × (Nat → Int32) × (Nat → Int64) × (Nat → Int32) × (Nat → Int32))) (x2 : Int32) (mo_v : Nat → Int32) : Option (Int32 × Int32 × Int32 × Int32 × Int32 × Int32 × Int32 × Int32 × Int32 × Int32 × Int32 × Int32 × Int32 × Int64 × Int32 × Int32 × (Nat → Int32) × Int32 × Int32 × Int32 × Int32 × Int32 × Int32 × Int32 × Int32 × (Nat → Int32) × (Nat → Int32) × (Nat → Int32) × (Nat → Int32) × (Nat → Int32) × (Nat → Int32) × (Nat → Int32) × (Nat → Int64) × (Nat → Int32) × (Nat → Int32)) :=
  (if 19 ≤ x2 then
  f_X13_war_s_B118 mo_tape mo_thrown mo_trouble mo_where mo_taped mo_size mo_spot mo_sort mo_place mo_number mo_fault mo_wrongAt mo_laneTold mo_word mo_acts mo_marks mo_v re_lanes re_deep re_told re_beasts re_cities re_passes re_turned re_names re_who re_strong re_kind re_lane re_mood re_price re_loses re_name re_nameSort re_numberOf
  else
  gIn x2 19 <|
  k99 (x2 + 1) (upd mo_v x2.toNatClampNeg 0))
noncomputable def f_X13_war_s_L99 (mo_tape : Nat → Int32) (mo_thrown : Int32) (mo_trouble : Int32) (mo_where : Int32) (mo_taped : Int32) (mo_size : Int32) (mo_spot : Int32) (mo_sort : Int32) (mo_place : Int32) (mo_number : Int32) (mo_fault : Int32) (mo_wrongAt : Int32) (mo_laneTold : Int32) (mo_word : Int64) (mo_acts : Int32) (mo_marks : Int32) (re_lanes : Int32) (re_deep : Int32) (re_told : Int32) (re_beasts : Int32) (re_cities : Int32) (re_passes : Int32) (re_turned : Int32) (re_names : Int32) (re_who : Nat → Int32) (re_strong : Nat → Int32) (re_kind : Nat → Int32) (re_lane : Nat → Int32) (re_mood : Nat → Int32) (re_price : Nat → Int32) (re_loses : Nat → Int32) (re_name : Nat → Int64) (re_nameSort : Nat → Int32) (re_numberOf : Nat → Int32) : Nat → Int32 → (Nat → Int32) → Option (Int32 × Int32 × Int32 × Int32 × Int32 × Int32 × Int32 × Int32 × Int32 × Int32 × Int32 × Int32 × Int32 × Int64 × Int32 × Int32 × (Nat → Int32) × Int32 × Int32 × Int32 × Int32 × Int32 × Int32 × Int32 × Int32 × (Nat → Int32) × (Nat → Int32) × (Nat → Int32) × (Nat → Int32) × (Nat → Int32) × (Nat → Int32) × (Nat → Int32) × (Nat → Int64) × (Nat → Int32) × (Nat → Int32))
  | 0 => fun _ _ => none
  | n + 1 => f_X13_war_s_b99 mo_tape mo_thrown mo_trouble mo_where mo_taped mo_size mo_spot mo_sort mo_place mo_number mo_fault mo_wrongAt mo_laneTold mo_word mo_acts mo_marks re_lanes re_deep re_told re_beasts re_cities re_passes re_turned re_names re_who re_strong re_kind re_lane re_mood re_price re_loses re_name re_nameSort re_numberOf (f_X13_war_s_L99 mo_tape mo_thrown mo_trouble mo_where mo_taped mo_size mo_spot mo_sort mo_place mo_number mo_fault mo_wrongAt mo_laneTold mo_word mo_acts mo_marks re_lanes re_deep re_told re_beasts re_cities re_passes re_turned re_names re_who re_strong re_kind re_lane re_mood re_price re_loses re_name re_nameSort re_numberOf n)
noncomputable def f_X13_war_s (mo_thrown : Int32) (mo_trouble : Int32) (mo_where : Int32) (mo_taped : Int32) (mo_size : Int32) (mo_spot : Int32) (mo_sort : Int32) (mo_place : Int32) (mo_number : Int32) (mo_fault : Int32) (mo_wrongAt : Int32) (mo_laneTold : Int32) (mo_word : Int64) (mo_acts : Int32) (mo_marks : Int32) (mo_tape : Nat → Int32) (mo_v : Nat → Int32) (p1 : Int32) : Option (Int32 × Int32 × Int32 × Int32 × Int32 × Int32 × Int32 × Int32 × Int32 × Int32 × Int32 × Int32 × Int32 × Int64 × Int32 × Int32 × (Nat → Int32) × Int32 × Int32 × Int32 × Int32 × Int32 × Int32 × Int32 × Int32 × (Nat → Int32) × (Nat → Int32) × (Nat → Int32) × (Nat → Int32) × (Nat → Int32) × (Nat → Int32) × (Nat → Int32) × (Nat → Int64) × (Nat → Int32) × (Nat → Int32)) :=
  (if p1 < 0 then
  none
  else
  (if p1 ≤ mo_taped then
  bd5 (f_X13_goesOn p1 0 0 mo_place mo_number mo_word mo_tape) fun mo_spot_1 mo_sort_2 mo_place_3 mo_number_4 mo_word_5 =>
  bd26 (f_X13_readAll p1 mo_spot_1 mo_sort_2 mo_place_3 mo_number_4 0 mo_wrongAt mo_laneTold mo_word_5 mo_tape 0 0 0 0 0 0 0 0 (fun _ => 0) (fun _ => 0) (fun _ => 0) (fun _ => 0) (fun _ => 0) (fun _ => 0) (fun _ => 0) (fun _ => 0) (fun _ => 0) (fun _ => 0)) fun mo_spot_7 mo_sort_8 mo_place_9 mo_number_10 mo_fault_11 mo_wrongAt_12 mo_laneTold_13 mo_word_14 re_lanes_15 re_deep_16 re_told_17 re_beasts_18 re_cities_19 re_passes_20 re_turned_21 re_names_22 re_who_23 re_strong_24 re_kind_25 re_lane_26 re_mood_27 re_price_28 re_loses_29 re_name_30 re_nameSort_31 re_numberOf_32 =>
  (if mo_fault_11 ≤ 0 then
  f_X13_war_s_L99 mo_tape 0 mo_trouble mo_where 0 p1 mo_spot_7 mo_sort_8 mo_place_9 mo_number_10 mo_fault_11 mo_wrongAt_12 mo_laneTold_13 mo_word_14 mo_acts mo_marks re_lanes_15 re_deep_16 re_told_17 re_beasts_18 re_cities_19 re_passes_20 re_turned_21 re_names_22 re_who_23 re_strong_24 re_kind_25 re_lane_26 re_mood_27 re_price_28 re_loses_29 re_name_30 re_nameSort_31 re_numberOf_32 fuelN 0 mo_v
  else
  none)
  else
  none))
noncomputable def f_X13_refusesBattles_n (p2 : Int32) (p3 : Int32) : Option (Int32) :=
  some (1)
noncomputable def f_X13_isLane_n (p1 : Int32) : Option (Int32) :=
  some (0)
noncomputable def f_X13_isBeast_n (p1 : Int32) : Option (Int32) :=
  some (0)
noncomputable def f_X13_isCity_n (p1 : Int32) : Option (Int32) :=
  some (0)
noncomputable def f_X13_lane_n (mo_thrown : Int32) (mo_trouble : Int32) (mo_where : Int32) (p1 : Int32) (p2 : Int32) : Option (Int32 × Int32 × Int32 × Int32) :=
  bd3 (f_X13_refused mo_trouble mo_where (1 : Int32)) fun r_4 mo_trouble_5 mo_where_6 =>
  some (r_4, 0, mo_trouble_5, mo_where_6)
noncomputable def f_X13_beast_n (mo_thrown : Int32) (mo_trouble : Int32) (mo_where : Int32) (p1 : Int32) (p2 : Int32) : Option (Int32 × Int32 × Int32 × Int32) :=
  bd3 (f_X13_refused mo_trouble mo_where (1 : Int32)) fun r_4 mo_trouble_5 mo_where_6 =>
  some (r_4, 0, mo_trouble_5, mo_where_6)
noncomputable def f_X13_across_n (mo_thrown : Int32) (mo_trouble : Int32) (mo_where : Int32) (p1 : Int32) (p2 : Int32) : Option (Int64 × Int32 × Int32 × Int32) :=
  bd3 (f_X13_refused mo_trouble mo_where (1 : Int32)) fun r_4 mo_trouble_5 mo_where_6 =>
  some (r_4.toInt64, 0, mo_trouble_5, mo_where_6)
noncomputable def f_X13_meets_n (mo_thrown : Int32) (mo_trouble : Int32) (mo_where : Int32) (p1 : Int32) (p2 : Int32) (p3 : Int32) : Option (Int32 × Int32 × Int32 × Int32) :=
  bd3 (f_X13_refused mo_trouble mo_where (1 : Int32)) fun r_4 mo_trouble_5 mo_where_6 =>
  some (r_4, 0, mo_trouble_5, mo_where_6)
noncomputable def f_X13_mean_n (mo_thrown : Int32) (mo_trouble : Int32) (mo_where : Int32) (p1 : Int32) (p2 : Int32) (p3 : Int32) (p4 : Int32) : Option (Int64 × Int32 × Int32 × Int32) :=
  bd3 (f_X13_refused mo_trouble mo_where (1 : Int32)) fun r_4 mo_trouble_5 mo_where_6 =>
  some (r_4.toInt64, 0, mo_trouble_5, mo_where_6)
noncomputable def f_X13_worth_n (mo_thrown : Int32) (mo_trouble : Int32) (mo_where : Int32) (p1 : Int32) (p2 : Int32) (p3 : Int32) : Option (Int64 × Int32 × Int32 × Int32) :=
  bd3 (f_X13_lost mo_trouble mo_where (1 : Int32)) fun r_4 mo_trouble_5 mo_where_6 =>
  some (r_4, 0, mo_trouble_5, mo_where_6)
noncomputable def f_X13_worthIf_n (mo_thrown : Int32) (mo_trouble : Int32) (mo_where : Int32) (p1 : Int32) (p2 : Int32) (p3 : Int32) (p4 : Int32) : Option (Int64 × Int32 × Int32 × Int32) :=
  bd3 (f_X13_lost mo_trouble mo_where (1 : Int32)) fun r_4 mo_trouble_5 mo_where_6 =>
  some (r_4, 0, mo_trouble_5, mo_where_6)
noncomputable def f_X13_moodFor_n (mo_thrown : Int32) (mo_trouble : Int32) (mo_where : Int32) (p1 : Int32) (p2 : Int32) : Option (Int32 × Int32 × Int32 × Int32) :=
  bd3 (f_X13_refused mo_trouble mo_where (1 : Int32)) fun r_4 mo_trouble_5 mo_where_6 =>
  some (r_4, 0, mo_trouble_5, mo_where_6)
noncomputable def f_X13_toHammer_n (mo_thrown : Int32) (mo_trouble : Int32) (mo_where : Int32) : Option (Int32 × Int32 × Int32 × Int32) :=
  bd3 (f_X13_refused mo_trouble mo_where (1 : Int32)) fun r_1 mo_trouble_2 mo_where_3 =>
  some (r_1, 0, mo_trouble_2, mo_where_3)
noncomputable def f_X13_bestLane_n (mo_thrown : Int32) (mo_trouble : Int32) (mo_where : Int32) (p1 : Int32) : Option (Int32 × Int32 × Int32 × Int32) :=
  bd3 (f_X13_refused mo_trouble mo_where (1 : Int32)) fun r_4 mo_trouble_5 mo_where_6 =>
  some (r_4, 0, mo_trouble_5, mo_where_6)
noncomputable def f_X13_all_n (mo_thrown : Int32) (mo_trouble : Int32) (mo_where : Int32) (p1 : Int32) (p2 : Int32) : Option (Int64 × Int32 × Int32 × Int32) :=
  bd3 (f_X13_refused mo_trouble mo_where (1 : Int32)) fun r_1 mo_trouble_2 mo_where_3 =>
  some (r_1.toInt64, 0, mo_trouble_2, mo_where_3)
noncomputable def f_X13_worst_n (mo_thrown : Int32) (mo_trouble : Int32) (mo_where : Int32) : Option (Int32 × Int32 × Int32 × Int32) :=
  bd3 (f_X13_refused mo_trouble mo_where (1 : Int32)) fun r_1 mo_trouble_2 mo_where_3 =>
  some (r_1, 0, mo_trouble_2, mo_where_3)
noncomputable def f_X13_place_n (mo_thrown : Int32) (mo_trouble : Int32) (mo_where : Int32) (p1 : Int32) : Option (Int32 × Int32 × Int32 × Int32) :=
  bd3 (f_X13_refused mo_trouble mo_where (1 : Int32)) fun r_4 mo_trouble_5 mo_where_6 =>
  some (r_4, 0, mo_trouble_5, mo_where_6)
noncomputable def f_X13_placed_n (mo_thrown : Int32) (mo_trouble : Int32) (mo_where : Int32) (p1 : Int32) : Option (Int64 × Int32 × Int32 × Int32) :=
  bd3 (f_X13_lost mo_trouble mo_where (1 : Int32)) fun r_1 mo_trouble_2 mo_where_3 =>
  some (r_1, 0, mo_trouble_2, mo_where_3)
noncomputable def f_X13_out_n (mo_thrown : Int32) (mo_trouble : Int32) (mo_where : Int32) : Option (Int32 × Int32 × Int32 × Int32) :=
  bd3 (f_X13_refused mo_trouble mo_where (1 : Int32)) fun r_1 mo_trouble_2 mo_where_3 =>
  some (r_1, 0, mo_trouble_2, mo_where_3)
noncomputable def f_X13_toOpen_n (mo_thrown : Int32) (mo_trouble : Int32) (mo_where : Int32) : Option (Int32 × Int32 × Int32 × Int32) :=
  bd3 (f_X13_refused mo_trouble mo_where (1 : Int32)) fun r_1 mo_trouble_2 mo_where_3 =>
  some (r_1, 0, mo_trouble_2, mo_where_3)
noncomputable def f_X13_rests_n (mo_thrown : Int32) (mo_trouble : Int32) (mo_where : Int32) (p1 : Int32) : Option (Int32 × Int32 × Int32 × Int32) :=
  bd3 (f_X13_refused mo_trouble mo_where (1 : Int32)) fun r_4 mo_trouble_5 mo_where_6 =>
  some (r_4, 0, mo_trouble_5, mo_where_6)
noncomputable def f_X13_rest_n (mo_thrown : Int32) (mo_trouble : Int32) (mo_where : Int32) (p1 : Int32) : Option (Int32 × Int32 × Int32 × Int32) :=
  bd3 (f_X13_refused mo_trouble mo_where (1 : Int32)) fun r_4 mo_trouble_5 mo_where_6 =>
  some (r_4, 0, mo_trouble_5, mo_where_6)
noncomputable def f_X13_weeks_n (mo_thrown : Int32) (mo_trouble : Int32) (mo_where : Int32) (p1 : Int32) : Option (Int32 × Int32 × Int32 × Int32) :=
  bd3 (f_X13_refused mo_trouble mo_where (1 : Int32)) fun r_4 mo_trouble_5 mo_where_6 =>
  some (r_4, 0, mo_trouble_5, mo_where_6)
noncomputable def f_X13_sale_n (mo_thrown : Int32) (mo_trouble : Int32) (mo_where : Int32) (p1 : Int32) : Option (Int32 × Int32 × Int32 × Int32) :=
  bd3 (f_X13_refused mo_trouble mo_where (1 : Int32)) fun r_1 mo_trouble_2 mo_where_3 =>
  some (r_1, 0, mo_trouble_2, mo_where_3)
noncomputable def f_X13_saleOver_n (mo_thrown : Int32) (mo_trouble : Int32) (mo_where : Int32) (p1 : Int32) : Option (Int32 × Int32 × Int32 × Int32) :=
  bd3 (f_X13_refused mo_trouble mo_where (1 : Int32)) fun r_1 mo_trouble_2 mo_where_3 =>
  some (r_1, 0, mo_trouble_2, mo_where_3)
noncomputable def f_X13_refusesMarch_n (p1 : Int32) (p2 : Int32) (p3 : Int32) : Option (Int32) :=
  some (1)
noncomputable def f_X13_march_n (mo_thrown : Int32) (mo_trouble : Int32) (mo_where : Int32) (p1 : Int32) (p2 : Int32) (p3 : Int32) : Option (Int32 × Int32 × Int32 × Int32) :=
  bd3 (f_X13_refused mo_trouble mo_where (1 : Int32)) fun r_3 mo_trouble_4 mo_where_5 =>
  some (r_3, 0, mo_trouble_4, mo_where_5)
noncomputable def f_X13_marchAt_n (mo_thrown : Int32) (mo_trouble : Int32) (mo_where : Int32) (p1 : Int32) (p2 : Int32) (p3 : Int32) (p4 : Int32) : Option (Int32 × Int32 × Int32 × Int32) :=
  bd3 (f_X13_refused mo_trouble mo_where (1 : Int32)) fun r_3 mo_trouble_4 mo_where_5 =>
  some (r_3, 0, mo_trouble_4, mo_where_5)
noncomputable def f_X13_reach_n (mo_thrown : Int32) (mo_trouble : Int32) (mo_where : Int32) (p1 : Int32) : Option (Int32 × Int32 × Int32 × Int32) :=
  bd3 (f_X13_refused mo_trouble mo_where (1 : Int32)) fun r_4 mo_trouble_5 mo_where_6 =>
  some (r_4, 0, mo_trouble_5, mo_where_6)
noncomputable def f_X13_worstPass_n (mo_thrown : Int32) (mo_trouble : Int32) (mo_where : Int32) (p1 : Int32) (p2 : Int32) (p3 : Int32) : Option (Int32 × Int32 × Int32 × Int32) :=
  bd3 (f_X13_refused mo_trouble mo_where (1 : Int32)) fun r_3 mo_trouble_4 mo_where_5 =>
  some (r_3, 0, mo_trouble_4, mo_where_5)
noncomputable def f_X13_setOut_n (mo_thrown : Int32) (mo_trouble : Int32) (mo_where : Int32) (p1 : Int32) (p2 : Int32) (p3 : Int32) : Option (Int32 × Int32 × Int32 × Int32) :=
  bd3 (f_X13_refused mo_trouble mo_where (1 : Int32)) fun r_3 mo_trouble_4 mo_where_5 =>
  some (r_3, 0, mo_trouble_4, mo_where_5)
noncomputable def f_X13_fits_n (mo_thrown : Int32) (mo_trouble : Int32) (mo_where : Int32) : Option (Int32 × Int32 × Int32 × Int32) :=
  bd3 (f_X13_refused mo_trouble mo_where (1 : Int32)) fun r_1 mo_trouble_2 mo_where_3 =>
  some (r_1, 0, mo_trouble_2, mo_where_3)
noncomputable def f_X13_could_n (mo_thrown : Int32) (mo_trouble : Int32) (mo_where : Int32) : Option (Int32 × Int32 × Int32 × Int32) :=
  bd3 (f_X13_refused mo_trouble mo_where (1 : Int32)) fun r_1 mo_trouble_2 mo_where_3 =>
  some (r_1, 0, mo_trouble_2, mo_where_3)
noncomputable def f_X13_surely_n (mo_thrown : Int32) (mo_trouble : Int32) (mo_where : Int32) : Option (Int32 × Int32 × Int32 × Int32) :=
  bd3 (f_X13_refused mo_trouble mo_where (1 : Int32)) fun r_1 mo_trouble_2 mo_where_3 =>
  some (r_1, 0, mo_trouble_2, mo_where_3)
noncomputable def f_X13_ask_n (mo_thrown : Int32) (mo_trouble : Int32) (mo_where : Int32) : Option (Int32 × Int32 × Int32 × Int32) :=
  bd3 (f_X13_refused mo_trouble mo_where (1 : Int32)) fun r_1 mo_trouble_2 mo_where_3 =>
  some (r_1, 0, mo_trouble_2, mo_where_3)
noncomputable def f_X13_turnedBy_n (mo_thrown : Int32) (mo_trouble : Int32) (mo_where : Int32) (p1 : Int32) : Option (Int32 × Int32 × Int32 × Int32) :=
  bd3 (f_X13_refused mo_trouble mo_where (1 : Int32)) fun r_4 mo_trouble_5 mo_where_6 =>
  some (r_4, 0, mo_trouble_5, mo_where_6)
noncomputable def f_X13_battles_n (mo_thrown : Int32) (mo_trouble : Int32) (mo_where : Int32) (p1 : Int32) (p2 : Int32) (p3 : Int32) : Option (Int32 × Int32 × Int32 × Int32) :=
  bd3 (f_X13_refused mo_trouble mo_where (1 : Int32)) fun r_3 mo_trouble_4 mo_where_5 =>
  some (r_3, 0, mo_trouble_4, mo_where_5)
noncomputable def f_X13_won_n (mo_thrown : Int32) (mo_trouble : Int32) (mo_where : Int32) (p1 : Int32) (p2 : Int32) : Option (Int32 × Int32 × Int32 × Int32) :=
  bd3 (f_X13_refused mo_trouble mo_where (1 : Int32)) fun r_3 mo_trouble_4 mo_where_5 =>
  some (r_3, 0, mo_trouble_4, mo_where_5)
noncomputable def f_X13_acrossIn_n (mo_thrown : Int32) (mo_trouble : Int32) (mo_where : Int32) (p1 : Int32) (p2 : Int32) (p3 : Int32) : Option (Int32 × Int32 × Int32 × Int32) :=
  bd3 (f_X13_refused mo_trouble mo_where (1 : Int32)) fun r_6 mo_trouble_7 mo_where_8 =>
  some (r_6, 0, mo_trouble_7, mo_where_8)
noncomputable def f_X13_move_n (mo_thrown : Int32) (mo_trouble : Int32) (mo_where : Int32) (p1 : Int32) (p2 : Int32) : Option (Int32 × Int32 × Int32 × Int32) :=
  bd3 (f_X13_denied mo_trouble mo_where (1 : Int32)) fun r_4 mo_trouble_5 mo_where_6 =>
  some (r_4, 0, mo_trouble_5, mo_where_6)
noncomputable def f_X13_wound_n (mo_thrown : Int32) (mo_trouble : Int32) (mo_where : Int32) (p1 : Int32) (p2 : Int32) : Option (Int32 × Int32 × Int32 × Int32) :=
  bd3 (f_X13_refused mo_trouble mo_where (1 : Int32)) fun r_4 mo_trouble_5 mo_where_6 =>
  some (r_4, 0, mo_trouble_5, mo_where_6)
noncomputable def f_X13_hammer_n (mo_thrown : Int32) (mo_trouble : Int32) (mo_where : Int32) (p1 : Int32) : Option (Int32 × Int32 × Int32 × Int32) :=
  bd3 (f_X13_denied mo_trouble mo_where (1 : Int32)) fun r_4 mo_trouble_5 mo_where_6 =>
  some (r_4, 0, mo_trouble_5, mo_where_6)
noncomputable def f_X13_teach_n (mo_thrown : Int32) (mo_trouble : Int32) (mo_where : Int32) (p1 : Int32) (p2 : Int32) : Option (Int32 × Int32 × Int32 × Int32) :=
  bd3 (f_X13_refused mo_trouble mo_where (1 : Int32)) fun r_4 mo_trouble_5 mo_where_6 =>
  some (r_4, 0, mo_trouble_5, mo_where_6)
noncomputable def f_X13_rain_n (mo_thrown : Int32) (mo_trouble : Int32) (mo_where : Int32) (p1 : Int32) : Option (Int32 × Int32 × Int32 × Int32) :=
  bd3 (f_X13_denied mo_trouble mo_where (1 : Int32)) fun r_1 mo_trouble_2 mo_where_3 =>
  some (r_1, 0, mo_trouble_2, mo_where_3)
noncomputable def f_X13_battle_n (mo_thrown : Int32) (mo_trouble : Int32) (mo_where : Int32) : Option (Int32 × Int32 × Int32 × Int32) :=
  bd3 (f_X13_refused mo_trouble mo_where (1 : Int32)) fun r_1 mo_trouble_2 mo_where_3 =>
  some (r_1, 0, mo_trouble_2, mo_where_3)
noncomputable def f_X13_seed_n (mo_thrown : Int32) (mo_trouble : Int32) (mo_where : Int32) (p1 : Int32) : Option (Int32 × Int32 × Int32 × Int32) :=
  bd3 (f_X13_denied mo_trouble mo_where (1 : Int32)) fun r_1 mo_trouble_2 mo_where_3 =>
  some (r_1, 0, mo_trouble_2, mo_where_3)
noncomputable def f_X13_undo_n (mo_thrown : Int32) (mo_trouble : Int32) (mo_where : Int32) : Option (Int32 × Int32 × Int32 × Int32) :=
  bd3 (f_X13_denied mo_trouble mo_where (6 : Int32)) fun r_1 mo_trouble_2 mo_where_3 =>
  some (r_1, 0, mo_trouble_2, mo_where_3)
noncomputable def f_X13_mark_n (mo_thrown : Int32) (mo_trouble : Int32) (mo_where : Int32) : Option (Int32 × Int32 × Int32 × Int32) :=
  bd3 (f_X13_refused mo_trouble mo_where (1 : Int32)) fun r_1 mo_trouble_2 mo_where_3 =>
  some (r_1, 0, mo_trouble_2, mo_where_3)
noncomputable def f_X13_back_n (mo_thrown : Int32) (mo_trouble : Int32) (mo_where : Int32) (p1 : Int32) : Option (Int32 × Int32 × Int32 × Int32) :=
  bd3 (f_X13_denied mo_trouble mo_where (1 : Int32)) fun r_1 mo_trouble_2 mo_where_3 =>
  some (r_1, 0, mo_trouble_2, mo_where_3)
noncomputable def f_X13_led_n (mo_thrown : Int32) (p1 : Int32) : Option (Int32 × Int32) :=
  some (0, 1)
noncomputable def f_X13_size_n (mo_thrown : Int32) (mo_taped : Int32) (p1 : Int32) : Option (Int32 × Int32) :=
  (if p1 = 11 then
  some (mo_taped, 0)
  else
  bd1 (f_X13_in  p1 (0 : Int32) (10 : Int32)) fun r_1 =>
  (if r_1 = 0 then
  some ((-1), 0)
  else
  some (0, 0)))
