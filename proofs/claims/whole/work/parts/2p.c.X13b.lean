noncomputable def f_X13_meetsIn (mo_v : Nat → Int32) (wa_who : Nat → Int32) (wa_kind : Nat → Int32) (p1 : Int32) (p2 : Int32) (p3 : Int32) : Option (Int32) :=
  gIn p2 6 <|
  gIn (11 + p2) 19 <|
  bd1 (f_X13_harmBy mo_v wa_kind p1 (wa_who p2.toNatClampNeg) (mo_v (11 + p2).toNatClampNeg) p3) fun r_3 =>
  some (r_3)
theorem hd_X13_meetsIn : yX13_meetsIn.cls = RX13 ∧ yX13_meetsIn.cls ≠ "java/lang/invoke/MethodHandle" ∧ yX13_meetsIn.cls ≠ "java/lang/invoke/VarHandle" ∧ (parseMethodDescriptor yX13_meetsIn.desc).map (fun d => d.parameters.length) = some 3 := by decide +kernel
set_option maxHeartbeats 4000000 in
set_option maxRecDepth 100000 in
theorem c_X13_meetsIn (l : Launch) (D : va_G) (cy : Nat → ClassId) (a_mo a_mo_v a_wa a_wa_who a_wa_kind : Nat) (mo_thrown : Int32) (mo_trouble : Int32) (mo_where : Int32) (mo_read : Value) (mo_tape : Value) (mo_taped : Int32) (mo_size : Int32) (mo_spot : Int32) (mo_sort : Int32) (mo_place : Int32) (mo_number : Int32) (mo_fault : Int32) (mo_wrongAt : Int32) (mo_laneTold : Int32) (mo_word : Int64) (mo_x : Value) (mo_past : Value) (mo_kept : Value) (mo_acts : Int32) (mo_marks : Int32) (mo_put : Value) (mo_bestPut : Value) (mo_bestSum : Int64) (mo_row : Value) (mo_best : Value) (mo_left : Value) (mo_bestSize : Int32) (mo_bestLeft : Int32) (mo_counts : Value) (mo_sets : Int32) (mo_foeHarm : Int32) (mo_ownHarm : Int32) (mo_across : Int32) (mo_sumFoe : Int32) (mo_sumOwn : Int32) (mo_sumWon : Int32) (mo_sumAcross : Int32) (mo_v : Nat → Int32) (wa_lanes : Int32) (wa_deep : Int32) (wa_told : Int32) (wa_beasts : Int32) (wa_cities : Int32) (wa_passes : Int32) (wa_turned : Int32) (wa_names : Int32) (wa_strong : Value) (wa_lane : Value) (wa_mood : Value) (wa_price : Value) (wa_loses : Value) (wa_name : Value) (wa_nameSort : Value) (wa_numberOf : Value) (wa_who : Nat → Int32) (wa_kind : Nat → Int32) (p1 : Int32) (p2 : Int32) (p3 : Int32) (res : Int32) (h : f_X13_meetsIn mo_v wa_who wa_kind p1 p2 p3 = some (res)) : Met l yX13_meetsIn wo_X13_meetsIn ({ frames := 4, cells := 0, slots := 0, locals := 89 }) (roPc D cy [.ref a_mo, .int p1, .int p2, .int p3] [(a_mo, .inr (13, [.int mo_thrown, .int mo_trouble, .int mo_where, .ref a_wa, mo_read, mo_tape, .int mo_taped, .int mo_size, .int mo_spot, .int mo_sort, .int mo_place, .int mo_number, .int mo_fault, .int mo_wrongAt, .int mo_laneTold, .long mo_word, .ref a_mo_v, mo_x, mo_past, mo_kept, .int mo_acts, .int mo_marks, mo_put, mo_bestPut, .long mo_bestSum, mo_row, mo_best, mo_left, .int mo_bestSize, .int mo_bestLeft, mo_counts, .int mo_sets, .int mo_foeHarm, .int mo_ownHarm, .int mo_across, .int mo_sumFoe, .int mo_sumOwn, .int mo_sumWon, .int mo_sumAcross])), (a_mo_v, .inl (cy 1, 19, .inl mo_v)), (a_wa, .inr (12, [.int wa_lanes, .int wa_deep, .int wa_told, .int wa_beasts, .int wa_cities, .int wa_passes, .int wa_turned, .int wa_names, .ref a_wa_who, wa_strong, .ref a_wa_kind, wa_lane, wa_mood, wa_price, wa_loses, wa_name, wa_nameSort, wa_numberOf])), (a_wa_who, .inl (cy 1, 6, .inl wa_who)), (a_wa_kind, .inl (cy 1, 5, .inl wa_kind))]) (vp_Si (fun r => r = res)) 0 0 (fun _ => False) := by
  refine Met.ofW (cc := cX13_meetsIn) (maxL := 4) (ret := (some .int)) (by decide) rfl ?_
  intro p e s m args below meth c s₁ B hml hv
  obtain ⟨rfl, hP, hKN⟩ := hv
  have hK := hKN.1
  have hx := B.exec
  have hb := B.bytes
  have hr := B.returns
  have hts := wt_X13_meetsIn hKN.2.2 (([.ref a_mo, .int p1, .int p2, .int p3] : List Value).toArray)
  have hown : s.vm.findClass RX13 = some m.cls := findClass_of_methodNamed B.named
  have hlocks := B.notSynchronized
  have hX12 := wc_X12 hKN.2.2 (([.ref a_mo, .int p1, .int p2, .int p3] : List Value).toArray)
  have hX13 := wc_X13 hKN.2.2 (([.ref a_mo, .int p1, .int p2, .int p3] : List Value).toArray)
  have hl := lv_entry ([.ref a_mo, .int p1, .int p2, .int p3]) (n := 4) (Nat.le_of_ble_eq_true rfl)
  rw [lg_entry_eq]
  generalize (lg_sl ([.ref a_mo, .int p1, .int p2, .int p3]) ++ List.replicate (4 - (lg_sl ([.ref a_mo, .int p1, .int p2, .int p3])).length) Slot.unset).toArray = ls at hl ⊢
  have hl : lv_has ls 4 [(0, .ref a_mo), (1, .int p1), (2, .int p2), (3, .int p3)] := hl
  unfold f_X13_meetsIn at h
  refine lv_aload_n hx hb dX13_meetsIn_0 rfl (lv_at hl 0 rfl) ?_
  refine lv_iload_n hx hb dX13_meetsIn_1 rfl (lv_at hl 1 rfl) ?_
  refine lv_aload_n hx hb dX13_meetsIn_2 rfl (lv_at hl 0 rfl) ?_
  refine va_get (D := D) (ci := 13) (C := RX13) (T := TX13) (N := 39) (v := .ref a_wa) hx hb hX13 (fun _ q => q) hown hK hP 0 rfl rfl 3 (by decide) (hts (.fieldLink RX13 301 "ElephantLineModel" "war" "LElephantLineModel$War;") (by decide +kernel)) (fun _ h9 => h9) rfl dX13_meetsIn_3 ?_
  refine va_getN (D := D) (ci := 12) (C := RX12) (T := TX12) (N := 18) (v := .ref a_wa_who) hx hb hX12 (fun _ q => q) hown hK hP 2 rfl rfl 8 (by decide) (va_Nw.use rfl (hKN.2.1.1 ("ElephantLineModel", 241, "ElephantLineModel$War", "who", "[I", "ElephantLineModel") (List.mem_of_getElem? (i := 75) rfl))) (fun _ h9 => h9) rfl dX13_meetsIn_6 ?_
  refine lv_iload_n hx hb dX13_meetsIn_9 rfl (lv_at hl 2 rfl) ?_
  obtain ⟨i_1, h⟩ := gIn_some h
  refine va_iald hx hb hK hP 3 1 rfl rfl i_1 dX13_meetsIn_10 ?_
  refine lv_aload_n hx hb dX13_meetsIn_11 rfl (lv_at hl 0 rfl) ?_
  refine va_get (D := D) (ci := 13) (C := RX13) (T := TX13) (N := 39) (v := .ref a_mo_v) hx hb hX13 (fun _ q => q) hown hK hP 0 rfl rfl 16 (by decide) (hts (.fieldLink RX13 17 "ElephantLineModel" "v" "[I") (by decide +kernel)) (fun _ h9 => h9) rfl dX13_meetsIn_12 ?_
  refine lv_bipush (v := 11) hx hb dX13_meetsIn_15 (by decide) ?_
  refine lv_iload_n hx hb dX13_meetsIn_17 rfl (lv_at hl 2 rfl) ?_
  refine lv_iadd hx hb dX13_meetsIn_18 ?_
  obtain ⟨i_2, h⟩ := gIn_some h
  refine va_iald hx hb hK hP 1 1 rfl rfl i_2 dX13_meetsIn_19 ?_
  refine lv_iload_n hx hb dX13_meetsIn_20 rfl (lv_at hl 3 rfl) ?_
  obtain ⟨r_3, hc_4, h⟩ := bd1_some h
  refine kVi [.int p1, .int (wa_who p2.toNatClampNeg), .int (mo_v (11 + p2).toNatClampNeg), .int p3] [] ⟨hx, hb, hml, hown, hts⟩ (c_X13_harmBy l D cy a_mo a_mo_v a_wa a_wa_kind mo_thrown mo_trouble mo_where (mo_read) (mo_tape) mo_taped mo_size mo_spot mo_sort mo_place mo_number mo_fault mo_wrongAt mo_laneTold mo_word (mo_x) (mo_past) (mo_kept) mo_acts mo_marks (mo_put) (mo_bestPut) mo_bestSum (mo_row) (mo_best) (mo_left) mo_bestSize mo_bestLeft (mo_counts) mo_sets mo_foeHarm mo_ownHarm mo_across mo_sumFoe mo_sumOwn mo_sumWon mo_sumAcross mo_v wa_lanes wa_deep wa_told wa_beasts wa_cities wa_passes wa_turned wa_names (.ref a_wa_who) (wa_strong) (wa_lane) (wa_mood) (wa_price) (wa_loses) (wa_name) (wa_nameSort) (wa_numberOf) wa_kind p1 (wa_who p2.toNatClampNeg) (mo_v (11 + p2).toNatClampNeg) p3 r_3 hc_4) gX13_meetsIn_X13_harmBy rfl hd_X13_harmBy ⟨Nat.le_of_ble_eq_true rfl, Nat.le_of_ble_eq_true rfl⟩ rfl rfl hKN (hP.sub [0, 1, 2, 4] rfl) 13 0 rfl rfl rfl hl.1 rfl (Nat.le_of_ble_eq_true rfl) dX13_meetsIn_21 ⟨Nat.le_of_ble_eq_true rfl, Nat.le_of_ble_eq_true rfl⟩ ?_
  exact W.iret (v := r_3) hx hb hr (fun t ht _ => ⟨_, rfl, Option.some.inj h, ht⟩) (fun _ q => by cases q) dX13_meetsIn_24
noncomputable def f_X13_whole (wa_deep : Int32) : Option (Int64) :=
  bd1 (f_X13_power  (100 : Int64) wa_deep) fun r_1 =>
  some (r_1)
theorem hd_X13_whole : yX13_whole.cls = RX13 ∧ yX13_whole.cls ≠ "java/lang/invoke/MethodHandle" ∧ yX13_whole.cls ≠ "java/lang/invoke/VarHandle" ∧ (parseMethodDescriptor yX13_whole.desc).map (fun d => d.parameters.length) = some 0 := by decide +kernel
set_option maxHeartbeats 4000000 in
set_option maxRecDepth 100000 in
theorem c_X13_whole (l : Launch) (D : va_G) (cy : Nat → ClassId) (a_mo a_wa : Nat) (mo_thrown : Int32) (mo_trouble : Int32) (mo_where : Int32) (mo_read : Value) (mo_tape : Value) (mo_taped : Int32) (mo_size : Int32) (mo_spot : Int32) (mo_sort : Int32) (mo_place : Int32) (mo_number : Int32) (mo_fault : Int32) (mo_wrongAt : Int32) (mo_laneTold : Int32) (mo_word : Int64) (mo_v : Value) (mo_x : Value) (mo_past : Value) (mo_kept : Value) (mo_acts : Int32) (mo_marks : Int32) (mo_put : Value) (mo_bestPut : Value) (mo_bestSum : Int64) (mo_row : Value) (mo_best : Value) (mo_left : Value) (mo_bestSize : Int32) (mo_bestLeft : Int32) (mo_counts : Value) (mo_sets : Int32) (mo_foeHarm : Int32) (mo_ownHarm : Int32) (mo_across : Int32) (mo_sumFoe : Int32) (mo_sumOwn : Int32) (mo_sumWon : Int32) (mo_sumAcross : Int32) (wa_lanes : Int32) (wa_deep : Int32) (wa_told : Int32) (wa_beasts : Int32) (wa_cities : Int32) (wa_passes : Int32) (wa_turned : Int32) (wa_names : Int32) (wa_who : Value) (wa_strong : Value) (wa_kind : Value) (wa_lane : Value) (wa_mood : Value) (wa_price : Value) (wa_loses : Value) (wa_name : Value) (wa_nameSort : Value) (wa_numberOf : Value) (res : Int64) (h : f_X13_whole wa_deep = some (res)) : Met l yX13_whole wo_X13_whole ({ frames := 1, cells := 0, slots := 0, locals := 25 }) (roPc D cy [.ref a_mo] [(a_mo, .inr (13, [.int mo_thrown, .int mo_trouble, .int mo_where, .ref a_wa, mo_read, mo_tape, .int mo_taped, .int mo_size, .int mo_spot, .int mo_sort, .int mo_place, .int mo_number, .int mo_fault, .int mo_wrongAt, .int mo_laneTold, .long mo_word, mo_v, mo_x, mo_past, mo_kept, .int mo_acts, .int mo_marks, mo_put, mo_bestPut, .long mo_bestSum, mo_row, mo_best, mo_left, .int mo_bestSize, .int mo_bestLeft, mo_counts, .int mo_sets, .int mo_foeHarm, .int mo_ownHarm, .int mo_across, .int mo_sumFoe, .int mo_sumOwn, .int mo_sumWon, .int mo_sumAcross])), (a_wa, .inr (12, [.int wa_lanes, .int wa_deep, .int wa_told, .int wa_beasts, .int wa_cities, .int wa_passes, .int wa_turned, .int wa_names, wa_who, wa_strong, wa_kind, wa_lane, wa_mood, wa_price, wa_loses, wa_name, wa_nameSort, wa_numberOf]))]) (vp_Sl (fun r => r = res)) 0 0 (fun _ => False) := by
  refine Met.ofW (cc := cX13_whole) (maxL := 1) (ret := (some .long)) (by decide) rfl ?_
  intro p e s m args below meth c s₁ B hml hv
  obtain ⟨rfl, hP, hKN⟩ := hv
  have hK := hKN.1
  have hx := B.exec
  have hb := B.bytes
  have hr := B.returns
  have hts := wt_X13_whole hKN.2.2 (([.ref a_mo] : List Value).toArray)
  have hown : s.vm.findClass RX13 = some m.cls := findClass_of_methodNamed B.named
  have hlocks := B.notSynchronized
  have hX12 := wc_X12 hKN.2.2 (([.ref a_mo] : List Value).toArray)
  have hX13 := wc_X13 hKN.2.2 (([.ref a_mo] : List Value).toArray)
  have hl := lv_entry ([.ref a_mo]) (n := 1) (Nat.le_of_ble_eq_true rfl)
  rw [lg_entry_eq]
  generalize (lg_sl ([.ref a_mo]) ++ List.replicate (1 - (lg_sl ([.ref a_mo])).length) Slot.unset).toArray = ls at hl ⊢
  have hl : lv_has ls 1 [(0, .ref a_mo)] := hl
  unfold f_X13_whole at h
  refine lv_ldc2 (v := 100) hx hb hown (hts (.constantLong RX13 324 (100)) (by decide +kernel)) dX13_whole_0 ?_
  refine lv_aload_n hx hb dX13_whole_3 rfl (lv_at hl 0 rfl) ?_
  refine va_get (D := D) (ci := 13) (C := RX13) (T := TX13) (N := 39) (v := .ref a_wa) hx hb hX13 (fun _ q => q) hown hK hP 0 rfl rfl 3 (by decide) (hts (.fieldLink RX13 301 "ElephantLineModel" "war" "LElephantLineModel$War;") (by decide +kernel)) (fun _ h9 => h9) rfl dX13_whole_4 ?_
  refine va_getN (D := D) (ci := 12) (C := RX12) (T := TX12) (N := 18) (v := .int wa_deep) hx hb hX12 (fun _ q => q) hown hK hP 1 rfl rfl 1 (by decide) (va_Nw.use rfl (hKN.2.1.1 ("ElephantLineModel", 223, "ElephantLineModel$War", "deep", "I", "ElephantLineModel") (List.mem_of_getElem? (i := 68) rfl))) (fun _ h9 => h9) rfl dX13_whole_7 ?_
  obtain ⟨r_1, hc_2, h⟩ := bd1_some h
  refine kSl [.long 100, .int wa_deep] [] ⟨hx, hb, hml, hown, hts⟩ (c_X13_power l D cy 100 wa_deep r_1 hc_2) gX13_whole_X13_power rfl hd_X13_power ⟨Nat.le_of_ble_eq_true rfl, Nat.le_of_ble_eq_true rfl⟩ rfl rfl hKN va_nil rfl hl.1 rfl (Nat.le_of_ble_eq_true rfl) dX13_whole_10 ⟨Nat.le_of_ble_eq_true rfl, Nat.le_of_ble_eq_true rfl⟩ ?_
  exact W.lret (v := r_1) hx hb hr (fun t ht _ => ⟨_, rfl, Option.some.inj h, ht⟩) (fun _ q => by cases q) dX13_whole_13
noncomputable def f_X13_lane_B22 (mo_v : Nat → Int32) (wa_lanes : Int32) (wa_beasts : Int32) (wa_who : Nat → Int32) (mo_thrown : Int32) (mo_trouble : Int32) (mo_where : Int32) : Option (Int32 × Int32 × Int32 × Int32) :=
  bd3 (f_X13_refused mo_trouble mo_where (1 : Int32)) fun r_4 mo_trouble_5 mo_where_6 =>
  some (r_4, mo_thrown, mo_trouble_5, mo_where_6)
noncomputable def f_X13_lane_B119 (mo_v : Nat → Int32) (wa_lanes : Int32) (wa_beasts : Int32) (wa_who : Nat → Int32) (x3 : Int32) (mo_thrown : Int32) (mo_trouble : Int32) (mo_where : Int32) : Option (Int32 × Int32 × Int32 × Int32) :=
  bd3 (f_X13_good mo_trouble mo_where x3) fun r_11 mo_trouble_12 mo_where_13 =>
  some (r_11, mo_thrown, mo_trouble_12, mo_where_13)
noncomputable def f_X13_lane_B111 (k68 : Int32 → Int32 → Option (Int32 × Int32 × Int32 × Int32)) (mo_v : Nat → Int32) (wa_lanes : Int32) (wa_beasts : Int32) (wa_who : Nat → Int32) (x1 : Int32) (x4 : Int32) (t0 : Int32) (t1 : Int32) (mo_thrown : Int32) (mo_trouble : Int32) (mo_where : Int32) : Option (Int32 × Int32 × Int32 × Int32) :=
  k68 (t0 ||| t1) (x4 + 1)
noncomputable def f_X13_lane_B110 (k68 : Int32 → Int32 → Option (Int32 × Int32 × Int32 × Int32)) (mo_v : Nat → Int32) (wa_lanes : Int32) (wa_beasts : Int32) (wa_who : Nat → Int32) (x1 : Int32) (x4 : Int32) (t0 : Int32) (mo_thrown : Int32) (mo_trouble : Int32) (mo_where : Int32) : Option (Int32 × Int32 × Int32 × Int32) :=
  f_X13_lane_B111 k68 mo_v wa_lanes wa_beasts wa_who x1 x4 t0 0 mo_thrown mo_trouble mo_where
noncomputable def f_X13_lane_b68 (mo_v : Nat → Int32) (wa_lanes : Int32) (wa_beasts : Int32) (wa_who : Nat → Int32) (x1 : Int32) (mo_thrown : Int32) (mo_trouble : Int32) (mo_where : Int32) (k68 : Int32 → Int32 → Option (Int32 × Int32 × Int32 × Int32)) (x3 : Int32) (x4 : Int32) : Option (Int32 × Int32 × Int32 × Int32) :=
  (if wa_beasts ≤ x4 then
  f_X13_lane_B119 mo_v wa_lanes wa_beasts wa_who x3 mo_thrown mo_trouble mo_where
  else
  gIn (0 + x4) 19 <|
  (if (mo_v (0 + x4).toNatClampNeg) = x1 then
  bd1 (f_X13_isDead mo_v x4) fun r_16 =>
  (if r_16 = 0 then
  f_X13_lane_B111 k68 mo_v wa_lanes wa_beasts wa_who x1 x4 x3 ((1 : Int32) <<< (x4 &&& 31)) mo_thrown mo_trouble mo_where
  else
  f_X13_lane_B110 k68 mo_v wa_lanes wa_beasts wa_who x1 x4 x3 mo_thrown mo_trouble mo_where)
  else
  f_X13_lane_B110 k68 mo_v wa_lanes wa_beasts wa_who x1 x4 x3 mo_thrown mo_trouble mo_where))
noncomputable def f_X13_lane_L68 (mo_v : Nat → Int32) (wa_lanes : Int32) (wa_beasts : Int32) (wa_who : Nat → Int32) (x1 : Int32) (mo_thrown : Int32) (mo_trouble : Int32) (mo_where : Int32) : Nat → Int32 → Int32 → Option (Int32 × Int32 × Int32 × Int32)
  | 0 => fun _ _ => none
  | n + 1 => f_X13_lane_b68 mo_v wa_lanes wa_beasts wa_who x1 mo_thrown mo_trouble mo_where (f_X13_lane_L68 mo_v wa_lanes wa_beasts wa_who x1 mo_thrown mo_trouble mo_where n)
noncomputable def f_X13_lane_B59 (mo_v : Nat → Int32) (wa_lanes : Int32) (wa_beasts : Int32) (wa_who : Nat → Int32) (t1 : Int32) (mo_thrown : Int32) (mo_trouble : Int32) (mo_where : Int32) : Option (Int32 × Int32 × Int32 × Int32) :=
  bd3 (f_X13_good mo_trouble mo_where t1) fun r_20 mo_trouble_21 mo_where_22 =>
  some (r_20, mo_thrown, mo_trouble_21, mo_where_22)
noncomputable def f_X13_lane (mo_thrown : Int32) (mo_trouble : Int32) (mo_where : Int32) (mo_v : Nat → Int32) (wa_lanes : Int32) (wa_beasts : Int32) (wa_who : Nat → Int32) (p1 : Int32) (p2 : Int32) : Option (Int32 × Int32 × Int32 × Int32) :=
  bd1 (f_X13_isLane wa_lanes p1) fun r_1 =>
  (if r_1 = 0 then
  f_X13_lane_B22 mo_v wa_lanes wa_beasts wa_who 0 mo_trouble mo_where
  else
  bd1 (f_X13_in  p2 (0 : Int32) (2 : Int32)) fun r_8 =>
  (if r_8 = 0 then
  f_X13_lane_B22 mo_v wa_lanes wa_beasts wa_who 0 mo_trouble mo_where
  else
  (if 2 ≤ p2 then
  f_X13_lane_L68 mo_v wa_lanes wa_beasts wa_who p1 0 mo_trouble mo_where fuelN 0 0
  else
  (if p2 = 0 then
  gIn p1 6 <|
  f_X13_lane_B59 mo_v wa_lanes wa_beasts wa_who (wa_who p1.toNatClampNeg) 0 mo_trouble mo_where
  else
  gIn (11 + p1) 19 <|
  f_X13_lane_B59 mo_v wa_lanes wa_beasts wa_who (mo_v (11 + p1).toNatClampNeg) 0 mo_trouble mo_where))))
theorem hd_X13_lane : yX13_lane.cls = RX13 ∧ yX13_lane.cls ≠ "java/lang/invoke/MethodHandle" ∧ yX13_lane.cls ≠ "java/lang/invoke/VarHandle" ∧ (parseMethodDescriptor yX13_lane.desc).map (fun d => d.parameters.length) = some 2 := by decide +kernel
set_option maxHeartbeats 4000000 in
set_option maxRecDepth 100000 in
theorem c_X13_lane (l : Launch) (D : va_G) (cy : Nat → ClassId) (A : Nat → Prop) (X : va_W) (a_mo a_mo_v a_wa a_wa_who : Nat) (mo_thrown : Int32) (mo_trouble : Int32) (mo_where : Int32) (mo_read : Value) (mo_tape : Value) (mo_taped : Int32) (mo_size : Int32) (mo_spot : Int32) (mo_sort : Int32) (mo_place : Int32) (mo_number : Int32) (mo_fault : Int32) (mo_wrongAt : Int32) (mo_laneTold : Int32) (mo_word : Int64) (mo_x : Value) (mo_past : Value) (mo_kept : Value) (mo_acts : Int32) (mo_marks : Int32) (mo_put : Value) (mo_bestPut : Value) (mo_bestSum : Int64) (mo_row : Value) (mo_best : Value) (mo_left : Value) (mo_bestSize : Int32) (mo_bestLeft : Int32) (mo_counts : Value) (mo_sets : Int32) (mo_foeHarm : Int32) (mo_ownHarm : Int32) (mo_across : Int32) (mo_sumFoe : Int32) (mo_sumOwn : Int32) (mo_sumWon : Int32) (mo_sumAcross : Int32) (mo_v : Nat → Int32) (wa_lanes : Int32) (wa_deep : Int32) (wa_told : Int32) (wa_beasts : Int32) (wa_cities : Int32) (wa_passes : Int32) (wa_turned : Int32) (wa_names : Int32) (wa_strong : Value) (wa_kind : Value) (wa_lane : Value) (wa_mood : Value) (wa_price : Value) (wa_loses : Value) (wa_name : Value) (wa_nameSort : Value) (wa_numberOf : Value) (wa_who : Nat → Int32) (p1 : Int32) (p2 : Int32) (res : Int32) (mo_thrown' : Int32) (mo_trouble' : Int32) (mo_where' : Int32) (h : f_X13_lane mo_thrown mo_trouble mo_where mo_v wa_lanes wa_beasts wa_who p1 p2 = some (res, mo_thrown', mo_trouble', mo_where')) : Met l yX13_lane wo_X13_lane ({ frames := 2, cells := 0, slots := 0, locals := 42 }) (wrPc D cy A [.ref a_mo, .int p1, .int p2] ([(a_mo, .inr (13, [.int mo_thrown, .int mo_trouble, .int mo_where, .ref a_wa, mo_read, mo_tape, .int mo_taped, .int mo_size, .int mo_spot, .int mo_sort, .int mo_place, .int mo_number, .int mo_fault, .int mo_wrongAt, .int mo_laneTold, .long mo_word, .ref a_mo_v, mo_x, mo_past, mo_kept, .int mo_acts, .int mo_marks, mo_put, mo_bestPut, .long mo_bestSum, mo_row, mo_best, mo_left, .int mo_bestSize, .int mo_bestLeft, mo_counts, .int mo_sets, .int mo_foeHarm, .int mo_ownHarm, .int mo_across, .int mo_sumFoe, .int mo_sumOwn, .int mo_sumWon, .int mo_sumAcross])), (a_mo_v, .inl (cy 1, 19, .inl mo_v)), (a_wa, .inr (12, [.int wa_lanes, .int wa_deep, .int wa_told, .int wa_beasts, .int wa_cities, .int wa_passes, .int wa_turned, .int wa_names, .ref a_wa_who, wa_strong, wa_kind, wa_lane, wa_mood, wa_price, wa_loses, wa_name, wa_nameSort, wa_numberOf])), (a_wa_who, .inl (cy 1, 6, .inl wa_who))] ++ X)) (va_Qi (fun (r : Int32) (_ : Unit) => r = res) (wB D A ([(a_mo, .inr (13, [.int mo_thrown', .int mo_trouble', .int mo_where', .ref a_wa, mo_read, mo_tape, .int mo_taped, .int mo_size, .int mo_spot, .int mo_sort, .int mo_place, .int mo_number, .int mo_fault, .int mo_wrongAt, .int mo_laneTold, .long mo_word, .ref a_mo_v, mo_x, mo_past, mo_kept, .int mo_acts, .int mo_marks, mo_put, mo_bestPut, .long mo_bestSum, mo_row, mo_best, mo_left, .int mo_bestSize, .int mo_bestLeft, mo_counts, .int mo_sets, .int mo_foeHarm, .int mo_ownHarm, .int mo_across, .int mo_sumFoe, .int mo_sumOwn, .int mo_sumWon, .int mo_sumAcross])), (a_mo_v, .inl (cy 1, 19, .inl mo_v)), (a_wa, .inr (12, [.int wa_lanes, .int wa_deep, .int wa_told, .int wa_beasts, .int wa_cities, .int wa_passes, .int wa_turned, .int wa_names, .ref a_wa_who, wa_strong, wa_kind, wa_lane, wa_mood, wa_price, wa_loses, wa_name, wa_nameSort, wa_numberOf])), (a_wa_who, .inl (cy 1, 6, .inl wa_who))] ++ X)) A) 0 0 A := by
  refine Met.ofW (cc := cX13_lane) (maxL := 5) (ret := (some .int)) (by decide) rfl ?_
  intro p e s m args below meth c s₁ B hml hv
  obtain ⟨rfl, hP, hKN, hD, hA⟩ := hv
  have hK := hKN.1
  have hx := B.exec
  have hb := B.bytes
  have hr := B.returns
  have hts := wt_X13_lane hKN.2.2 (([.ref a_mo, .int p1, .int p2] : List Value).toArray)
  have hown : s.vm.findClass RX13 = some m.cls := findClass_of_methodNamed B.named
  have hlocks := B.notSynchronized
  have hS : va_S A s.heap s.heap [] := va_S.rf
  have hX12 := wc_X12 hKN.2.2 (([.ref a_mo, .int p1, .int p2] : List Value).toArray)
  have hX13 := wc_X13 hKN.2.2 (([.ref a_mo, .int p1, .int p2] : List Value).toArray)
  have hl := lv_entry ([.ref a_mo, .int p1, .int p2]) (n := 5) (Nat.le_of_ble_eq_true rfl)
  rw [lg_entry_eq]
  generalize (lg_sl ([.ref a_mo, .int p1, .int p2]) ++ List.replicate (5 - (lg_sl ([.ref a_mo, .int p1, .int p2])).length) Slot.unset).toArray = ls at hl ⊢
  have hl : lv_has ls 5 [(0, .ref a_mo), (1, .int p1), (2, .int p2)] := hl
  unfold f_X13_lane at h
  refine lv_aload_n hx hb dX13_lane_0 rfl (lv_at hl 0 rfl) ?_
  refine lv_iconst (v := 0) hx hb dX13_lane_1 (by decide) ?_
  refine va_put (D := D) (ci := 13) (C := RX13) (T := TX13) (N := 39) (v := .int 0) (ty := .int) hx hb hX13 (fun _ q => q) tyX13 tyX13_ok nmX13 hown hK hP hD hS 0 rfl rfl 0 (by decide) (hts (.fieldLink RX13 48 "ElephantLineModel" "thrown" "I") (by decide +kernel)) (fun _ h9 => h9) rfl (tyX13_ok 0 (by decide)) rfl rfl (Nat.le_of_ble_eq_true rfl) dX13_lane_2 (fun H locs hP hD hS => ?_)
  refine lv_aload_n hx hb dX13_lane_5 rfl (lv_at hl 0 rfl) ?_
  refine lv_iload_n hx hb dX13_lane_6 rfl (lv_at hl 1 rfl) ?_
  have hP : va_P D vwCl ([(a_mo, .inr (13, [.int 0, .int mo_trouble, .int mo_where, .ref a_wa, mo_read, mo_tape, .int mo_taped, .int mo_size, .int mo_spot, .int mo_sort, .int mo_place, .int mo_number, .int mo_fault, .int mo_wrongAt, .int mo_laneTold, .long mo_word, .ref a_mo_v, mo_x, mo_past, mo_kept, .int mo_acts, .int mo_marks, mo_put, mo_bestPut, .long mo_bestSum, mo_row, mo_best, mo_left, .int mo_bestSize, .int mo_bestLeft, mo_counts, .int mo_sets, .int mo_foeHarm, .int mo_ownHarm, .int mo_across, .int mo_sumFoe, .int mo_sumOwn, .int mo_sumWon, .int mo_sumAcross])), (a_mo_v, .inl (cy 1, 19, .inl mo_v)), (a_wa, .inr (12, [.int wa_lanes, .int wa_deep, .int wa_told, .int wa_beasts, .int wa_cities, .int wa_passes, .int wa_turned, .int wa_names, .ref a_wa_who, wa_strong, wa_kind, wa_lane, wa_mood, wa_price, wa_loses, wa_name, wa_nameSort, wa_numberOf])), (a_wa_who, .inl (cy 1, 6, .inl wa_who))] ++ X) H := hP
  have hD : va_D A ([(a_mo, .inr (13, [.int 0, .int mo_trouble, .int mo_where, .ref a_wa, mo_read, mo_tape, .int mo_taped, .int mo_size, .int mo_spot, .int mo_sort, .int mo_place, .int mo_number, .int mo_fault, .int mo_wrongAt, .int mo_laneTold, .long mo_word, .ref a_mo_v, mo_x, mo_past, mo_kept, .int mo_acts, .int mo_marks, mo_put, mo_bestPut, .long mo_bestSum, mo_row, mo_best, mo_left, .int mo_bestSize, .int mo_bestLeft, mo_counts, .int mo_sets, .int mo_foeHarm, .int mo_ownHarm, .int mo_across, .int mo_sumFoe, .int mo_sumOwn, .int mo_sumWon, .int mo_sumAcross])), (a_mo_v, .inl (cy 1, 19, .inl mo_v)), (a_wa, .inr (12, [.int wa_lanes, .int wa_deep, .int wa_told, .int wa_beasts, .int wa_cities, .int wa_passes, .int wa_turned, .int wa_names, .ref a_wa_who, wa_strong, wa_kind, wa_lane, wa_mood, wa_price, wa_loses, wa_name, wa_nameSort, wa_numberOf])), (a_wa_who, .inl (cy 1, 6, .inl wa_who))] ++ X) := hD
  obtain ⟨r_1, hc_2, h⟩ := bd1_some h
  refine kVb [.int p1] [] ⟨hx, hb, hml, hown, hts⟩ (c_X13_isLane l D cy a_mo a_wa 0 mo_trouble mo_where (mo_read) (mo_tape) mo_taped mo_size mo_spot mo_sort mo_place mo_number mo_fault mo_wrongAt mo_laneTold mo_word (.ref a_mo_v) (mo_x) (mo_past) (mo_kept) mo_acts mo_marks (mo_put) (mo_bestPut) mo_bestSum (mo_row) (mo_best) (mo_left) mo_bestSize mo_bestLeft (mo_counts) mo_sets mo_foeHarm mo_ownHarm mo_across mo_sumFoe mo_sumOwn mo_sumWon mo_sumAcross wa_lanes wa_deep wa_told wa_beasts wa_cities wa_passes wa_turned wa_names (.ref a_wa_who) (wa_strong) (wa_kind) (wa_lane) (wa_mood) (wa_price) (wa_loses) (wa_name) (wa_nameSort) (wa_numberOf) p1 r_1 hc_2) gX13_lane_X13_isLane rfl hd_X13_isLane ⟨Nat.le_of_ble_eq_true rfl, Nat.le_of_ble_eq_true rfl⟩ rfl rfl hKN (pXc hP [0, 2] rfl) 13 0 rfl rfl rfl hl.1 rfl (Nat.le_of_ble_eq_true rfl) dX13_lane_7 ⟨Nat.le_of_ble_eq_true rfl, Nat.le_of_ble_eq_true rfl⟩ (fun nb_3 => ?_)
  have jn22 : f_X13_lane_B22 mo_v wa_lanes wa_beasts wa_who 0 mo_trouble mo_where = some (res, mo_thrown', mo_trouble', mo_where') → ∀ (H : Heap) (locs : List Loc), va_P D vwCl ([(a_mo, .inr (13, [.int 0, .int mo_trouble, .int mo_where, .ref a_wa, mo_read, mo_tape, .int mo_taped, .int mo_size, .int mo_spot, .int mo_sort, .int mo_place, .int mo_number, .int mo_fault, .int mo_wrongAt, .int mo_laneTold, .long mo_word, .ref a_mo_v, mo_x, mo_past, mo_kept, .int mo_acts, .int mo_marks, mo_put, mo_bestPut, .long mo_bestSum, mo_row, mo_best, mo_left, .int mo_bestSize, .int mo_bestLeft, mo_counts, .int mo_sets, .int mo_foeHarm, .int mo_ownHarm, .int mo_across, .int mo_sumFoe, .int mo_sumOwn, .int mo_sumWon, .int mo_sumAcross])), (a_mo_v, .inl (cy 1, 19, .inl mo_v)), (a_wa, .inr (12, [.int wa_lanes, .int wa_deep, .int wa_told, .int wa_beasts, .int wa_cities, .int wa_passes, .int wa_turned, .int wa_names, .ref a_wa_who, wa_strong, wa_kind, wa_lane, wa_mood, wa_price, wa_loses, wa_name, wa_nameSort, wa_numberOf])), (a_wa_who, .inl (cy 1, 6, .inl wa_who))] ++ X) H → va_D A ([(a_mo, .inr (13, [.int 0, .int mo_trouble, .int mo_where, .ref a_wa, mo_read, mo_tape, .int mo_taped, .int mo_size, .int mo_spot, .int mo_sort, .int mo_place, .int mo_number, .int mo_fault, .int mo_wrongAt, .int mo_laneTold, .long mo_word, .ref a_mo_v, mo_x, mo_past, mo_kept, .int mo_acts, .int mo_marks, mo_put, mo_bestPut, .long mo_bestSum, mo_row, mo_best, mo_left, .int mo_bestSize, .int mo_bestLeft, mo_counts, .int mo_sets, .int mo_foeHarm, .int mo_ownHarm, .int mo_across, .int mo_sumFoe, .int mo_sumOwn, .int mo_sumWon, .int mo_sumAcross])), (a_mo_v, .inl (cy 1, 19, .inl mo_v)), (a_wa, .inr (12, [.int wa_lanes, .int wa_deep, .int wa_told, .int wa_beasts, .int wa_cities, .int wa_passes, .int wa_turned, .int wa_names, .ref a_wa_who, wa_strong, wa_kind, wa_lane, wa_mood, wa_price, wa_loses, wa_name, wa_nameSort, wa_numberOf])), (a_wa_who, .inl (cy 1, 6, .inl wa_who))] ++ X) → va_S A s.heap H locs → ∀ ls : Array Slot, lv_has ls 5 [(0, .ref a_mo)] → W p l e (headSpec wo_X13_lane ({ frames := 2, cells := 0, slots := 0, locals := 42 })).room s m (([.ref a_mo, .int p1, .int p2] : List Value).toArray) below meth c H locs 0 0 (MQ below (va_Qi (fun (r : Int32) (_ : Unit) => r = res) (wB D A ([(a_mo, .inr (13, [.int mo_thrown', .int mo_trouble', .int mo_where', .ref a_wa, mo_read, mo_tape, .int mo_taped, .int mo_size, .int mo_spot, .int mo_sort, .int mo_place, .int mo_number, .int mo_fault, .int mo_wrongAt, .int mo_laneTold, .long mo_word, .ref a_mo_v, mo_x, mo_past, mo_kept, .int mo_acts, .int mo_marks, mo_put, mo_bestPut, .long mo_bestSum, mo_row, mo_best, mo_left, .int mo_bestSize, .int mo_bestLeft, mo_counts, .int mo_sets, .int mo_foeHarm, .int mo_ownHarm, .int mo_across, .int mo_sumFoe, .int mo_sumOwn, .int mo_sumWon, .int mo_sumAcross])), (a_mo_v, .inl (cy 1, 19, .inl mo_v)), (a_wa, .inr (12, [.int wa_lanes, .int wa_deep, .int wa_told, .int wa_beasts, .int wa_cities, .int wa_passes, .int wa_turned, .int wa_names, .ref a_wa_who, wa_strong, wa_kind, wa_lane, wa_mood, wa_price, wa_loses, wa_name, wa_nameSort, wa_numberOf])), (a_wa_who, .inl (cy 1, 6, .inl wa_who))] ++ X)) A) (([.ref a_mo, .int p1, .int p2] : List Value).toArray) s 0 0 A) (F0 m 22 ls []) := by
    intro h H locs hP hD hS ls hl
    unfold f_X13_lane_B22 at h
    refine lv_aload_n hx hb dX13_lane_22 rfl (lv_at hl 0 rfl) ?_
    refine lv_iconst (v := 1) hx hb dX13_lane_23 (by decide) ?_
    obtain ⟨r_4, mo_trouble_5, mo_where_6, hc_7, h⟩ := bd3_some h
    refine wVi [.int 1] [] ⟨hx, hb, hml, hown, hts⟩ (c_X13_refused l D cy A ([(a_mo_v, .inl (cy 1, 19, .inl mo_v)), (a_wa, .inr (12, [.int wa_lanes, .int wa_deep, .int wa_told, .int wa_beasts, .int wa_cities, .int wa_passes, .int wa_turned, .int wa_names, .ref a_wa_who, wa_strong, wa_kind, wa_lane, wa_mood, wa_price, wa_loses, wa_name, wa_nameSort, wa_numberOf])), (a_wa_who, .inl (cy 1, 6, .inl wa_who))] ++ X) a_mo 0 mo_trouble mo_where (.ref a_wa) (mo_read) (mo_tape) mo_taped mo_size mo_spot mo_sort mo_place mo_number mo_fault mo_wrongAt mo_laneTold mo_word (.ref a_mo_v) (mo_x) (mo_past) (mo_kept) mo_acts mo_marks (mo_put) (mo_bestPut) mo_bestSum (mo_row) (mo_best) (mo_left) mo_bestSize mo_bestLeft (mo_counts) mo_sets mo_foeHarm mo_ownHarm mo_across mo_sumFoe mo_sumOwn mo_sumWon mo_sumAcross (1 : Int32) r_4 mo_trouble_5 mo_where_6 hc_7) gX13_lane_X13_refused rfl hd_X13_refused ⟨Nat.le_of_ble_eq_true rfl, Nat.le_of_ble_eq_true rfl⟩ rfl rfl hKN (pX3 hP [0, 1, 2, 3] rfl) (dX3 hD [0, 1, 2, 3] rfl rfl) hS hA 13 0 rfl rfl rfl hl.1 rfl (Nat.le_of_ble_eq_true rfl) dX13_lane_24 ⟨Nat.le_of_ble_eq_true rfl, Nat.le_of_ble_eq_true rfl⟩ (fun H locs hP hD hS => ?_)
    have hP := pX4 (L1 := [(a_mo, .inr (13, [.int 0, .int mo_trouble_5, .int mo_where_6, .ref a_wa, mo_read, mo_tape, .int mo_taped, .int mo_size, .int mo_spot, .int mo_sort, .int mo_place, .int mo_number, .int mo_fault, .int mo_wrongAt, .int mo_laneTold, .long mo_word, .ref a_mo_v, mo_x, mo_past, mo_kept, .int mo_acts, .int mo_marks, mo_put, mo_bestPut, .long mo_bestSum, mo_row, mo_best, mo_left, .int mo_bestSize, .int mo_bestLeft, mo_counts, .int mo_sets, .int mo_foeHarm, .int mo_ownHarm, .int mo_across, .int mo_sumFoe, .int mo_sumOwn, .int mo_sumWon, .int mo_sumAcross])), (a_mo_v, .inl (cy 1, 19, .inl mo_v)), (a_wa, .inr (12, [.int wa_lanes, .int wa_deep, .int wa_told, .int wa_beasts, .int wa_cities, .int wa_passes, .int wa_turned, .int wa_names, .ref a_wa_who, wa_strong, wa_kind, wa_lane, wa_mood, wa_price, wa_loses, wa_name, wa_nameSort, wa_numberOf])), (a_wa_who, .inl (cy 1, 6, .inl wa_who))]) hP [0, 1, 2, 3] rfl
    have hD := dX4 (L1 := [(a_mo, .inr (13, [.int 0, .int mo_trouble_5, .int mo_where_6, .ref a_wa, mo_read, mo_tape, .int mo_taped, .int mo_size, .int mo_spot, .int mo_sort, .int mo_place, .int mo_number, .int mo_fault, .int mo_wrongAt, .int mo_laneTold, .long mo_word, .ref a_mo_v, mo_x, mo_past, mo_kept, .int mo_acts, .int mo_marks, mo_put, mo_bestPut, .long mo_bestSum, mo_row, mo_best, mo_left, .int mo_bestSize, .int mo_bestLeft, mo_counts, .int mo_sets, .int mo_foeHarm, .int mo_ownHarm, .int mo_across, .int mo_sumFoe, .int mo_sumOwn, .int mo_sumWon, .int mo_sumAcross])), (a_mo_v, .inl (cy 1, 19, .inl mo_v)), (a_wa, .inr (12, [.int wa_lanes, .int wa_deep, .int wa_told, .int wa_beasts, .int wa_cities, .int wa_passes, .int wa_turned, .int wa_names, .ref a_wa_who, wa_strong, wa_kind, wa_lane, wa_mood, wa_price, wa_loses, wa_name, wa_nameSort, wa_numberOf])), (a_wa_who, .inl (cy 1, 6, .inl wa_who))]) hD [0, 1, 2, 3] rfl rfl
    cases h
    exact W.iret hx hb hr (fun t ht _ => ⟨⟨_, (), rfl, rfl, by rw [ht]; exact hP, hD⟩, hS.F ht⟩) hS.2.2 dX13_lane_27
  refine lv_if_eq (tgt := 22) hx hb dX13_lane_10 (by decide) (fun cd => ?_) (fun cd => ?_)
  · have h := ifT cd h
    exact jn22 h _ _ hP hD hS _ (lv_sub hl [0] rfl)
  · have h := ifF cd h
    refine lv_iload_n hx hb dX13_lane_13 rfl (lv_at hl 2 rfl) ?_
    refine lv_iconst (v := 0) hx hb dX13_lane_14 (by decide) ?_
    refine lv_iconst (v := 2) hx hb dX13_lane_15 (by decide) ?_
    obtain ⟨r_8, hc_9, h⟩ := bd1_some h
    refine kSb [.int p2, .int 0, .int 2] [] ⟨hx, hb, hml, hown, hts⟩ (c_X13_in l D cy p2 (0 : Int32) (2 : Int32) r_8 hc_9) gX13_lane_X13_in rfl hd_X13_in ⟨Nat.le_of_ble_eq_true rfl, Nat.le_of_ble_eq_true rfl⟩ rfl rfl hKN va_nil rfl hl.1 rfl (Nat.le_of_ble_eq_true rfl) dX13_lane_16 ⟨Nat.le_of_ble_eq_true rfl, Nat.le_of_ble_eq_true rfl⟩ (fun nb_10 => ?_)
    refine lv_if_ne (tgt := 28) hx hb dX13_lane_19 (by decide) (fun cd => ?_) (fun cd => ?_)
    · have h := ifF cd h
      refine lv_iload_n hx hb dX13_lane_28 rfl (lv_at hl 2 rfl) ?_
      refine lv_iconst (v := 2) hx hb dX13_lane_29 (by decide) ?_
      refine lv_icmp_ge (tgt := 63) hx hb dX13_lane_30 (by decide) (fun cd => ?_) (fun cd => ?_)
      · have h := ifT cd h
        refine lv_iconst (v := 0) hx hb dX13_lane_63 (by decide) ?_
        refine lv_istore_n (lv' := [(3, .int 0), (0, .ref a_mo), (1, .int p1), (2, .int p2)]) hx hb dX13_lane_64 rfl hl (by decide) rfl (fun ls hl => ?_)
        refine lv_iconst (v := 0) hx hb dX13_lane_65 (by decide) ?_
        refine lv_istore (lv' := [(4, .int 0), (3, .int 0), (0, .ref a_mo), (1, .int p1), (2, .int p2)]) hx hb dX13_lane_66 hl (by decide) rfl (fun ls hl => ?_)
        have jn119 : ∀ (x3_11 : Int32), f_X13_lane_B119 mo_v wa_lanes wa_beasts wa_who x3_11 0 mo_trouble mo_where = some (res, mo_thrown', mo_trouble', mo_where') → ∀ (H : Heap) (locs : List Loc), va_P D vwCl ([(a_mo, .inr (13, [.int 0, .int mo_trouble, .int mo_where, .ref a_wa, mo_read, mo_tape, .int mo_taped, .int mo_size, .int mo_spot, .int mo_sort, .int mo_place, .int mo_number, .int mo_fault, .int mo_wrongAt, .int mo_laneTold, .long mo_word, .ref a_mo_v, mo_x, mo_past, mo_kept, .int mo_acts, .int mo_marks, mo_put, mo_bestPut, .long mo_bestSum, mo_row, mo_best, mo_left, .int mo_bestSize, .int mo_bestLeft, mo_counts, .int mo_sets, .int mo_foeHarm, .int mo_ownHarm, .int mo_across, .int mo_sumFoe, .int mo_sumOwn, .int mo_sumWon, .int mo_sumAcross])), (a_mo_v, .inl (cy 1, 19, .inl mo_v)), (a_wa, .inr (12, [.int wa_lanes, .int wa_deep, .int wa_told, .int wa_beasts, .int wa_cities, .int wa_passes, .int wa_turned, .int wa_names, .ref a_wa_who, wa_strong, wa_kind, wa_lane, wa_mood, wa_price, wa_loses, wa_name, wa_nameSort, wa_numberOf])), (a_wa_who, .inl (cy 1, 6, .inl wa_who))] ++ X) H → va_D A ([(a_mo, .inr (13, [.int 0, .int mo_trouble, .int mo_where, .ref a_wa, mo_read, mo_tape, .int mo_taped, .int mo_size, .int mo_spot, .int mo_sort, .int mo_place, .int mo_number, .int mo_fault, .int mo_wrongAt, .int mo_laneTold, .long mo_word, .ref a_mo_v, mo_x, mo_past, mo_kept, .int mo_acts, .int mo_marks, mo_put, mo_bestPut, .long mo_bestSum, mo_row, mo_best, mo_left, .int mo_bestSize, .int mo_bestLeft, mo_counts, .int mo_sets, .int mo_foeHarm, .int mo_ownHarm, .int mo_across, .int mo_sumFoe, .int mo_sumOwn, .int mo_sumWon, .int mo_sumAcross])), (a_mo_v, .inl (cy 1, 19, .inl mo_v)), (a_wa, .inr (12, [.int wa_lanes, .int wa_deep, .int wa_told, .int wa_beasts, .int wa_cities, .int wa_passes, .int wa_turned, .int wa_names, .ref a_wa_who, wa_strong, wa_kind, wa_lane, wa_mood, wa_price, wa_loses, wa_name, wa_nameSort, wa_numberOf])), (a_wa_who, .inl (cy 1, 6, .inl wa_who))] ++ X) → va_S A s.heap H locs → ∀ ls : Array Slot, lv_has ls 5 [(0, .ref a_mo), (3, .int x3_11)] → W p l e (headSpec wo_X13_lane ({ frames := 2, cells := 0, slots := 0, locals := 42 })).room s m (([.ref a_mo, .int p1, .int p2] : List Value).toArray) below meth c H locs 0 0 (MQ below (va_Qi (fun (r : Int32) (_ : Unit) => r = res) (wB D A ([(a_mo, .inr (13, [.int mo_thrown', .int mo_trouble', .int mo_where', .ref a_wa, mo_read, mo_tape, .int mo_taped, .int mo_size, .int mo_spot, .int mo_sort, .int mo_place, .int mo_number, .int mo_fault, .int mo_wrongAt, .int mo_laneTold, .long mo_word, .ref a_mo_v, mo_x, mo_past, mo_kept, .int mo_acts, .int mo_marks, mo_put, mo_bestPut, .long mo_bestSum, mo_row, mo_best, mo_left, .int mo_bestSize, .int mo_bestLeft, mo_counts, .int mo_sets, .int mo_foeHarm, .int mo_ownHarm, .int mo_across, .int mo_sumFoe, .int mo_sumOwn, .int mo_sumWon, .int mo_sumAcross])), (a_mo_v, .inl (cy 1, 19, .inl mo_v)), (a_wa, .inr (12, [.int wa_lanes, .int wa_deep, .int wa_told, .int wa_beasts, .int wa_cities, .int wa_passes, .int wa_turned, .int wa_names, .ref a_wa_who, wa_strong, wa_kind, wa_lane, wa_mood, wa_price, wa_loses, wa_name, wa_nameSort, wa_numberOf])), (a_wa_who, .inl (cy 1, 6, .inl wa_who))] ++ X)) A) (([.ref a_mo, .int p1, .int p2] : List Value).toArray) s 0 0 A) (F0 m 119 ls []) := by
          intro x3_11 h H locs hP hD hS ls hl
          unfold f_X13_lane_B119 at h
          refine lv_aload_n hx hb dX13_lane_119 rfl (lv_at hl 0 rfl) ?_
          refine lv_iload_n hx hb dX13_lane_120 rfl (lv_at hl 1 rfl) ?_
          obtain ⟨r_12, mo_trouble_13, mo_where_14, hc_15, h⟩ := bd3_some h
          refine wVi [.int x3_11] [] ⟨hx, hb, hml, hown, hts⟩ (c_X13_good l D cy A ([(a_mo_v, .inl (cy 1, 19, .inl mo_v)), (a_wa, .inr (12, [.int wa_lanes, .int wa_deep, .int wa_told, .int wa_beasts, .int wa_cities, .int wa_passes, .int wa_turned, .int wa_names, .ref a_wa_who, wa_strong, wa_kind, wa_lane, wa_mood, wa_price, wa_loses, wa_name, wa_nameSort, wa_numberOf])), (a_wa_who, .inl (cy 1, 6, .inl wa_who))] ++ X) a_mo 0 mo_trouble mo_where (.ref a_wa) (mo_read) (mo_tape) mo_taped mo_size mo_spot mo_sort mo_place mo_number mo_fault mo_wrongAt mo_laneTold mo_word (.ref a_mo_v) (mo_x) (mo_past) (mo_kept) mo_acts mo_marks (mo_put) (mo_bestPut) mo_bestSum (mo_row) (mo_best) (mo_left) mo_bestSize mo_bestLeft (mo_counts) mo_sets mo_foeHarm mo_ownHarm mo_across mo_sumFoe mo_sumOwn mo_sumWon mo_sumAcross x3_11 r_12 mo_trouble_13 mo_where_14 hc_15) gX13_lane_X13_good rfl hd_X13_good ⟨Nat.le_of_ble_eq_true rfl, Nat.le_of_ble_eq_true rfl⟩ rfl rfl hKN (pX3 hP [0, 1, 2, 3] rfl) (dX3 hD [0, 1, 2, 3] rfl rfl) hS hA 13 0 rfl rfl rfl hl.1 rfl (Nat.le_of_ble_eq_true rfl) dX13_lane_121 ⟨Nat.le_of_ble_eq_true rfl, Nat.le_of_ble_eq_true rfl⟩ (fun H locs hP hD hS => ?_)
          have hP := pX4 (L1 := [(a_mo, .inr (13, [.int 0, .int mo_trouble_13, .int mo_where_14, .ref a_wa, mo_read, mo_tape, .int mo_taped, .int mo_size, .int mo_spot, .int mo_sort, .int mo_place, .int mo_number, .int mo_fault, .int mo_wrongAt, .int mo_laneTold, .long mo_word, .ref a_mo_v, mo_x, mo_past, mo_kept, .int mo_acts, .int mo_marks, mo_put, mo_bestPut, .long mo_bestSum, mo_row, mo_best, mo_left, .int mo_bestSize, .int mo_bestLeft, mo_counts, .int mo_sets, .int mo_foeHarm, .int mo_ownHarm, .int mo_across, .int mo_sumFoe, .int mo_sumOwn, .int mo_sumWon, .int mo_sumAcross])), (a_mo_v, .inl (cy 1, 19, .inl mo_v)), (a_wa, .inr (12, [.int wa_lanes, .int wa_deep, .int wa_told, .int wa_beasts, .int wa_cities, .int wa_passes, .int wa_turned, .int wa_names, .ref a_wa_who, wa_strong, wa_kind, wa_lane, wa_mood, wa_price, wa_loses, wa_name, wa_nameSort, wa_numberOf])), (a_wa_who, .inl (cy 1, 6, .inl wa_who))]) hP [0, 1, 2, 3] rfl
          have hD := dX4 (L1 := [(a_mo, .inr (13, [.int 0, .int mo_trouble_13, .int mo_where_14, .ref a_wa, mo_read, mo_tape, .int mo_taped, .int mo_size, .int mo_spot, .int mo_sort, .int mo_place, .int mo_number, .int mo_fault, .int mo_wrongAt, .int mo_laneTold, .long mo_word, .ref a_mo_v, mo_x, mo_past, mo_kept, .int mo_acts, .int mo_marks, mo_put, mo_bestPut, .long mo_bestSum, mo_row, mo_best, mo_left, .int mo_bestSize, .int mo_bestLeft, mo_counts, .int mo_sets, .int mo_foeHarm, .int mo_ownHarm, .int mo_across, .int mo_sumFoe, .int mo_sumOwn, .int mo_sumWon, .int mo_sumAcross])), (a_mo_v, .inl (cy 1, 19, .inl mo_v)), (a_wa, .inr (12, [.int wa_lanes, .int wa_deep, .int wa_told, .int wa_beasts, .int wa_cities, .int wa_passes, .int wa_turned, .int wa_names, .ref a_wa_who, wa_strong, wa_kind, wa_lane, wa_mood, wa_price, wa_loses, wa_name, wa_nameSort, wa_numberOf])), (a_wa_who, .inl (cy 1, 6, .inl wa_who))]) hD [0, 1, 2, 3] rfl rfl
          cases h
          exact W.iret hx hb hr (fun t ht _ => ⟨⟨_, (), rfl, rfl, by rw [ht]; exact hP, hD⟩, hS.F ht⟩) hS.2.2 dX13_lane_124
        have lp68 : ∀ (n68 : Nat) (x3_16 : Int32) (x4_17 : Int32), f_X13_lane_L68 mo_v wa_lanes wa_beasts wa_who p1 0 mo_trouble mo_where n68 x3_16 x4_17 = some (res, mo_thrown', mo_trouble', mo_where') → ∀ (H : Heap) (locs : List Loc), va_P D vwCl ([(a_mo, .inr (13, [.int 0, .int mo_trouble, .int mo_where, .ref a_wa, mo_read, mo_tape, .int mo_taped, .int mo_size, .int mo_spot, .int mo_sort, .int mo_place, .int mo_number, .int mo_fault, .int mo_wrongAt, .int mo_laneTold, .long mo_word, .ref a_mo_v, mo_x, mo_past, mo_kept, .int mo_acts, .int mo_marks, mo_put, mo_bestPut, .long mo_bestSum, mo_row, mo_best, mo_left, .int mo_bestSize, .int mo_bestLeft, mo_counts, .int mo_sets, .int mo_foeHarm, .int mo_ownHarm, .int mo_across, .int mo_sumFoe, .int mo_sumOwn, .int mo_sumWon, .int mo_sumAcross])), (a_mo_v, .inl (cy 1, 19, .inl mo_v)), (a_wa, .inr (12, [.int wa_lanes, .int wa_deep, .int wa_told, .int wa_beasts, .int wa_cities, .int wa_passes, .int wa_turned, .int wa_names, .ref a_wa_who, wa_strong, wa_kind, wa_lane, wa_mood, wa_price, wa_loses, wa_name, wa_nameSort, wa_numberOf])), (a_wa_who, .inl (cy 1, 6, .inl wa_who))] ++ X) H → va_D A ([(a_mo, .inr (13, [.int 0, .int mo_trouble, .int mo_where, .ref a_wa, mo_read, mo_tape, .int mo_taped, .int mo_size, .int mo_spot, .int mo_sort, .int mo_place, .int mo_number, .int mo_fault, .int mo_wrongAt, .int mo_laneTold, .long mo_word, .ref a_mo_v, mo_x, mo_past, mo_kept, .int mo_acts, .int mo_marks, mo_put, mo_bestPut, .long mo_bestSum, mo_row, mo_best, mo_left, .int mo_bestSize, .int mo_bestLeft, mo_counts, .int mo_sets, .int mo_foeHarm, .int mo_ownHarm, .int mo_across, .int mo_sumFoe, .int mo_sumOwn, .int mo_sumWon, .int mo_sumAcross])), (a_mo_v, .inl (cy 1, 19, .inl mo_v)), (a_wa, .inr (12, [.int wa_lanes, .int wa_deep, .int wa_told, .int wa_beasts, .int wa_cities, .int wa_passes, .int wa_turned, .int wa_names, .ref a_wa_who, wa_strong, wa_kind, wa_lane, wa_mood, wa_price, wa_loses, wa_name, wa_nameSort, wa_numberOf])), (a_wa_who, .inl (cy 1, 6, .inl wa_who))] ++ X) → va_S A s.heap H locs → ∀ ls : Array Slot, lv_has ls 5 [(0, .ref a_mo), (1, .int p1), (3, .int x3_16), (4, .int x4_17)] → W p l e (headSpec wo_X13_lane ({ frames := 2, cells := 0, slots := 0, locals := 42 })).room s m (([.ref a_mo, .int p1, .int p2] : List Value).toArray) below meth c H locs 0 0 (MQ below (va_Qi (fun (r : Int32) (_ : Unit) => r = res) (wB D A ([(a_mo, .inr (13, [.int mo_thrown', .int mo_trouble', .int mo_where', .ref a_wa, mo_read, mo_tape, .int mo_taped, .int mo_size, .int mo_spot, .int mo_sort, .int mo_place, .int mo_number, .int mo_fault, .int mo_wrongAt, .int mo_laneTold, .long mo_word, .ref a_mo_v, mo_x, mo_past, mo_kept, .int mo_acts, .int mo_marks, mo_put, mo_bestPut, .long mo_bestSum, mo_row, mo_best, mo_left, .int mo_bestSize, .int mo_bestLeft, mo_counts, .int mo_sets, .int mo_foeHarm, .int mo_ownHarm, .int mo_across, .int mo_sumFoe, .int mo_sumOwn, .int mo_sumWon, .int mo_sumAcross])), (a_mo_v, .inl (cy 1, 19, .inl mo_v)), (a_wa, .inr (12, [.int wa_lanes, .int wa_deep, .int wa_told, .int wa_beasts, .int wa_cities, .int wa_passes, .int wa_turned, .int wa_names, .ref a_wa_who, wa_strong, wa_kind, wa_lane, wa_mood, wa_price, wa_loses, wa_name, wa_nameSort, wa_numberOf])), (a_wa_who, .inl (cy 1, 6, .inl wa_who))] ++ X)) A) (([.ref a_mo, .int p1, .int p2] : List Value).toArray) s 0 0 A) (F0 m 68 ls []) := by
          intro n68
          induction n68 with
          | zero => intro x3_16 x4_17 h; exact absurd (show (none : Option (Int32 × Int32 × Int32 × Int32)) = some _ from h) (by intro q; cases q)
          | succ n68 ih68 =>
            intro x3_16 x4_17 h H locs hP hD hS ls hl
            have h : f_X13_lane_b68 mo_v wa_lanes wa_beasts wa_who p1 0 mo_trouble mo_where (f_X13_lane_L68 mo_v wa_lanes wa_beasts wa_who p1 0 mo_trouble mo_where n68) x3_16 x4_17 = some (res, mo_thrown', mo_trouble', mo_where') := h
            unfold f_X13_lane_b68 at h
            refine lv_iload hx hb dX13_lane_68 (lv_at hl 3 rfl) ?_
            refine lv_aload_n hx hb dX13_lane_70 rfl (lv_at hl 0 rfl) ?_
            refine va_get (D := D) (ci := 13) (C := RX13) (T := TX13) (N := 39) (v := .ref a_wa) hx hb hX13 (fun _ q => q) hown hK hP 0 rfl rfl 3 (by decide) (hts (.fieldLink RX13 301 "ElephantLineModel" "war" "LElephantLineModel$War;") (by decide +kernel)) (fun _ h9 => h9) rfl dX13_lane_71 ?_
            refine va_getN (D := D) (ci := 12) (C := RX12) (T := TX12) (N := 18) (v := .int wa_beasts) hx hb hX12 (fun _ q => q) hown hK hP 2 rfl rfl 3 (by decide) (va_Nw.use rfl (hKN.2.1.1 ("ElephantLineModel", 195, "ElephantLineModel$War", "beasts", "I", "ElephantLineModel") (List.mem_of_getElem? (i := 70) rfl))) (fun _ h9 => h9) rfl dX13_lane_74 ?_
            refine lv_icmp_ge (tgt := 119) hx hb dX13_lane_77 (by decide) (fun cd => ?_) (fun cd => ?_)
            · have h := ifT cd h
              exact jn119 x3_16 h _ _ hP hD hS _ (lv_sub hl [0, 2] rfl)
            · have h := ifF cd h
              refine lv_iload_n hx hb dX13_lane_80 rfl (lv_at hl 2 rfl) ?_
              refine lv_aload_n hx hb dX13_lane_81 rfl (lv_at hl 0 rfl) ?_
              refine va_get (D := D) (ci := 13) (C := RX13) (T := TX13) (N := 39) (v := .ref a_mo_v) hx hb hX13 (fun _ q => q) hown hK hP 0 rfl rfl 16 (by decide) (hts (.fieldLink RX13 17 "ElephantLineModel" "v" "[I") (by decide +kernel)) (fun _ h9 => h9) rfl dX13_lane_82 ?_
              refine lv_iconst (v := 0) hx hb dX13_lane_85 (by decide) ?_
              refine lv_iload hx hb dX13_lane_86 (lv_at hl 3 rfl) ?_
              refine lv_iadd hx hb dX13_lane_88 ?_
              obtain ⟨i_18, h⟩ := gIn_some h
              refine va_iald hx hb hK hP 1 1 rfl rfl i_18 dX13_lane_89 ?_
              refine lv_iload_n hx hb dX13_lane_90 rfl (lv_at hl 1 rfl) ?_
              have jn111 : ∀ (t1_19 : Int32), f_X13_lane_B111 (f_X13_lane_L68 mo_v wa_lanes wa_beasts wa_who p1 0 mo_trouble mo_where n68) mo_v wa_lanes wa_beasts wa_who p1 x4_17 x3_16 t1_19 0 mo_trouble mo_where = some (res, mo_thrown', mo_trouble', mo_where') → ∀ (H : Heap) (locs : List Loc), va_P D vwCl ([(a_mo, .inr (13, [.int 0, .int mo_trouble, .int mo_where, .ref a_wa, mo_read, mo_tape, .int mo_taped, .int mo_size, .int mo_spot, .int mo_sort, .int mo_place, .int mo_number, .int mo_fault, .int mo_wrongAt, .int mo_laneTold, .long mo_word, .ref a_mo_v, mo_x, mo_past, mo_kept, .int mo_acts, .int mo_marks, mo_put, mo_bestPut, .long mo_bestSum, mo_row, mo_best, mo_left, .int mo_bestSize, .int mo_bestLeft, mo_counts, .int mo_sets, .int mo_foeHarm, .int mo_ownHarm, .int mo_across, .int mo_sumFoe, .int mo_sumOwn, .int mo_sumWon, .int mo_sumAcross])), (a_mo_v, .inl (cy 1, 19, .inl mo_v)), (a_wa, .inr (12, [.int wa_lanes, .int wa_deep, .int wa_told, .int wa_beasts, .int wa_cities, .int wa_passes, .int wa_turned, .int wa_names, .ref a_wa_who, wa_strong, wa_kind, wa_lane, wa_mood, wa_price, wa_loses, wa_name, wa_nameSort, wa_numberOf])), (a_wa_who, .inl (cy 1, 6, .inl wa_who))] ++ X) H → va_D A ([(a_mo, .inr (13, [.int 0, .int mo_trouble, .int mo_where, .ref a_wa, mo_read, mo_tape, .int mo_taped, .int mo_size, .int mo_spot, .int mo_sort, .int mo_place, .int mo_number, .int mo_fault, .int mo_wrongAt, .int mo_laneTold, .long mo_word, .ref a_mo_v, mo_x, mo_past, mo_kept, .int mo_acts, .int mo_marks, mo_put, mo_bestPut, .long mo_bestSum, mo_row, mo_best, mo_left, .int mo_bestSize, .int mo_bestLeft, mo_counts, .int mo_sets, .int mo_foeHarm, .int mo_ownHarm, .int mo_across, .int mo_sumFoe, .int mo_sumOwn, .int mo_sumWon, .int mo_sumAcross])), (a_mo_v, .inl (cy 1, 19, .inl mo_v)), (a_wa, .inr (12, [.int wa_lanes, .int wa_deep, .int wa_told, .int wa_beasts, .int wa_cities, .int wa_passes, .int wa_turned, .int wa_names, .ref a_wa_who, wa_strong, wa_kind, wa_lane, wa_mood, wa_price, wa_loses, wa_name, wa_nameSort, wa_numberOf])), (a_wa_who, .inl (cy 1, 6, .inl wa_who))] ++ X) → va_S A s.heap H locs → ∀ ls : Array Slot, lv_has ls 5 [(0, .ref a_mo), (1, .int p1), (4, .int x4_17)] → W p l e (headSpec wo_X13_lane ({ frames := 2, cells := 0, slots := 0, locals := 42 })).room s m (([.ref a_mo, .int p1, .int p2] : List Value).toArray) below meth c H locs 0 0 (MQ below (va_Qi (fun (r : Int32) (_ : Unit) => r = res) (wB D A ([(a_mo, .inr (13, [.int mo_thrown', .int mo_trouble', .int mo_where', .ref a_wa, mo_read, mo_tape, .int mo_taped, .int mo_size, .int mo_spot, .int mo_sort, .int mo_place, .int mo_number, .int mo_fault, .int mo_wrongAt, .int mo_laneTold, .long mo_word, .ref a_mo_v, mo_x, mo_past, mo_kept, .int mo_acts, .int mo_marks, mo_put, mo_bestPut, .long mo_bestSum, mo_row, mo_best, mo_left, .int mo_bestSize, .int mo_bestLeft, mo_counts, .int mo_sets, .int mo_foeHarm, .int mo_ownHarm, .int mo_across, .int mo_sumFoe, .int mo_sumOwn, .int mo_sumWon, .int mo_sumAcross])), (a_mo_v, .inl (cy 1, 19, .inl mo_v)), (a_wa, .inr (12, [.int wa_lanes, .int wa_deep, .int wa_told, .int wa_beasts, .int wa_cities, .int wa_passes, .int wa_turned, .int wa_names, .ref a_wa_who, wa_strong, wa_kind, wa_lane, wa_mood, wa_price, wa_loses, wa_name, wa_nameSort, wa_numberOf])), (a_wa_who, .inl (cy 1, 6, .inl wa_who))] ++ X)) A) (([.ref a_mo, .int p1, .int p2] : List Value).toArray) s 0 0 A) (F0 m 111 ls [.int t1_19, .int x3_16]) := by
                intro t1_19 h H locs hP hD hS ls hl
                unfold f_X13_lane_B111 at h
                refine lv_ior hx hb dX13_lane_111 ?_
                refine lv_istore_n (lv' := [(3, .int (x3_16 ||| t1_19)), (0, .ref a_mo), (1, .int p1), (4, .int x4_17)]) hx hb dX13_lane_112 rfl hl (by decide) rfl (fun ls hl => ?_)
                refine lv_iinc (v := x4_17 + 1) (lv' := [(4, .int (x4_17 + 1)), (3, .int (x3_16 ||| t1_19)), (0, .ref a_mo), (1, .int p1)]) hx hb dX13_lane_113 hl (k := 3) rfl (by first | rfl | decide) (by decide) rfl (fun ls hl => ?_)
                refine lv_goto (tgt := 68) hx hb dX13_lane_116 (by decide) ?_
                exact ih68 (x3_16 ||| t1_19) (x4_17 + 1) h _ _ hP hD hS _ (lv_sub hl [2, 3, 1, 0] rfl)
              have jn110 : f_X13_lane_B110 (f_X13_lane_L68 mo_v wa_lanes wa_beasts wa_who p1 0 mo_trouble mo_where n68) mo_v wa_lanes wa_beasts wa_who p1 x4_17 x3_16 0 mo_trouble mo_where = some (res, mo_thrown', mo_trouble', mo_where') → ∀ (H : Heap) (locs : List Loc), va_P D vwCl ([(a_mo, .inr (13, [.int 0, .int mo_trouble, .int mo_where, .ref a_wa, mo_read, mo_tape, .int mo_taped, .int mo_size, .int mo_spot, .int mo_sort, .int mo_place, .int mo_number, .int mo_fault, .int mo_wrongAt, .int mo_laneTold, .long mo_word, .ref a_mo_v, mo_x, mo_past, mo_kept, .int mo_acts, .int mo_marks, mo_put, mo_bestPut, .long mo_bestSum, mo_row, mo_best, mo_left, .int mo_bestSize, .int mo_bestLeft, mo_counts, .int mo_sets, .int mo_foeHarm, .int mo_ownHarm, .int mo_across, .int mo_sumFoe, .int mo_sumOwn, .int mo_sumWon, .int mo_sumAcross])), (a_mo_v, .inl (cy 1, 19, .inl mo_v)), (a_wa, .inr (12, [.int wa_lanes, .int wa_deep, .int wa_told, .int wa_beasts, .int wa_cities, .int wa_passes, .int wa_turned, .int wa_names, .ref a_wa_who, wa_strong, wa_kind, wa_lane, wa_mood, wa_price, wa_loses, wa_name, wa_nameSort, wa_numberOf])), (a_wa_who, .inl (cy 1, 6, .inl wa_who))] ++ X) H → va_D A ([(a_mo, .inr (13, [.int 0, .int mo_trouble, .int mo_where, .ref a_wa, mo_read, mo_tape, .int mo_taped, .int mo_size, .int mo_spot, .int mo_sort, .int mo_place, .int mo_number, .int mo_fault, .int mo_wrongAt, .int mo_laneTold, .long mo_word, .ref a_mo_v, mo_x, mo_past, mo_kept, .int mo_acts, .int mo_marks, mo_put, mo_bestPut, .long mo_bestSum, mo_row, mo_best, mo_left, .int mo_bestSize, .int mo_bestLeft, mo_counts, .int mo_sets, .int mo_foeHarm, .int mo_ownHarm, .int mo_across, .int mo_sumFoe, .int mo_sumOwn, .int mo_sumWon, .int mo_sumAcross])), (a_mo_v, .inl (cy 1, 19, .inl mo_v)), (a_wa, .inr (12, [.int wa_lanes, .int wa_deep, .int wa_told, .int wa_beasts, .int wa_cities, .int wa_passes, .int wa_turned, .int wa_names, .ref a_wa_who, wa_strong, wa_kind, wa_lane, wa_mood, wa_price, wa_loses, wa_name, wa_nameSort, wa_numberOf])), (a_wa_who, .inl (cy 1, 6, .inl wa_who))] ++ X) → va_S A s.heap H locs → ∀ ls : Array Slot, lv_has ls 5 [(0, .ref a_mo), (1, .int p1), (4, .int x4_17)] → W p l e (headSpec wo_X13_lane ({ frames := 2, cells := 0, slots := 0, locals := 42 })).room s m (([.ref a_mo, .int p1, .int p2] : List Value).toArray) below meth c H locs 0 0 (MQ below (va_Qi (fun (r : Int32) (_ : Unit) => r = res) (wB D A ([(a_mo, .inr (13, [.int mo_thrown', .int mo_trouble', .int mo_where', .ref a_wa, mo_read, mo_tape, .int mo_taped, .int mo_size, .int mo_spot, .int mo_sort, .int mo_place, .int mo_number, .int mo_fault, .int mo_wrongAt, .int mo_laneTold, .long mo_word, .ref a_mo_v, mo_x, mo_past, mo_kept, .int mo_acts, .int mo_marks, mo_put, mo_bestPut, .long mo_bestSum, mo_row, mo_best, mo_left, .int mo_bestSize, .int mo_bestLeft, mo_counts, .int mo_sets, .int mo_foeHarm, .int mo_ownHarm, .int mo_across, .int mo_sumFoe, .int mo_sumOwn, .int mo_sumWon, .int mo_sumAcross])), (a_mo_v, .inl (cy 1, 19, .inl mo_v)), (a_wa, .inr (12, [.int wa_lanes, .int wa_deep, .int wa_told, .int wa_beasts, .int wa_cities, .int wa_passes, .int wa_turned, .int wa_names, .ref a_wa_who, wa_strong, wa_kind, wa_lane, wa_mood, wa_price, wa_loses, wa_name, wa_nameSort, wa_numberOf])), (a_wa_who, .inl (cy 1, 6, .inl wa_who))] ++ X)) A) (([.ref a_mo, .int p1, .int p2] : List Value).toArray) s 0 0 A) (F0 m 110 ls [.int x3_16]) := by
                intro h H locs hP hD hS ls hl
                unfold f_X13_lane_B110 at h
                refine lv_iconst (v := 0) hx hb dX13_lane_110 (by decide) ?_
                exact jn111 (0 : Int32) h _ _ hP hD hS _ (lv_sub hl [0, 1, 2] rfl)
              refine lv_icmp_ne (tgt := 110) hx hb dX13_lane_91 (by decide) (fun cd => ?_) (fun cd => ?_)
              · have h := ifF cd h
                exact jn110 h _ _ hP hD hS _ (lv_sub hl [0, 1, 3] rfl)
              · have h := ifT cd h
                refine lv_aload_n hx hb dX13_lane_94 rfl (lv_at hl 0 rfl) ?_
                refine lv_iload hx hb dX13_lane_95 (lv_at hl 3 rfl) ?_
                obtain ⟨r_20, hc_21, h⟩ := bd1_some h
                refine kVb [.int x4_17] [.int x3_16] ⟨hx, hb, hml, hown, hts⟩ (c_X13_isDead l D cy a_mo a_mo_v 0 mo_trouble mo_where (.ref a_wa) (mo_read) (mo_tape) mo_taped mo_size mo_spot mo_sort mo_place mo_number mo_fault mo_wrongAt mo_laneTold mo_word (mo_x) (mo_past) (mo_kept) mo_acts mo_marks (mo_put) (mo_bestPut) mo_bestSum (mo_row) (mo_best) (mo_left) mo_bestSize mo_bestLeft (mo_counts) mo_sets mo_foeHarm mo_ownHarm mo_across mo_sumFoe mo_sumOwn mo_sumWon mo_sumAcross mo_v x4_17 r_20 hc_21) gX13_lane_X13_isDead rfl hd_X13_isDead ⟨Nat.le_of_ble_eq_true rfl, Nat.le_of_ble_eq_true rfl⟩ rfl rfl hKN (pXc hP [0, 1] rfl) 13 0 rfl rfl rfl hl.1 rfl (Nat.le_of_ble_eq_true rfl) dX13_lane_97 ⟨Nat.le_of_ble_eq_true rfl, Nat.le_of_ble_eq_true rfl⟩ (fun nb_22 => ?_)
                refine lv_if_ne (tgt := 110) hx hb dX13_lane_100 (by decide) (fun cd => ?_) (fun cd => ?_)
                · have h := ifF cd h
                  exact jn110 h _ _ hP hD hS _ (lv_sub hl [0, 1, 3] rfl)
                · have h := ifT cd h
                  refine lv_iconst (v := 1) hx hb dX13_lane_103 (by decide) ?_
                  refine lv_iload hx hb dX13_lane_104 (lv_at hl 3 rfl) ?_
                  refine lv_ishl hx hb dX13_lane_106 ?_
                  refine lv_goto (tgt := 111) hx hb dX13_lane_107 (by decide) ?_
                  exact jn111 ((1 : Int32) <<< (x4_17 &&& 31)) h _ _ hP hD hS _ (lv_sub hl [0, 1, 3] rfl)
        exact lp68 fuelN (0 : Int32) (0 : Int32) h _ _ hP hD hS _ (lv_sub hl [2, 3, 1, 0] rfl)
      · have h := ifF cd h
        refine lv_aload_n hx hb dX13_lane_33 rfl (lv_at hl 0 rfl) ?_
        refine lv_iload_n hx hb dX13_lane_34 rfl (lv_at hl 2 rfl) ?_
        have jn59 : ∀ (t1_23 : Int32), f_X13_lane_B59 mo_v wa_lanes wa_beasts wa_who t1_23 0 mo_trouble mo_where = some (res, mo_thrown', mo_trouble', mo_where') → ∀ (H : Heap) (locs : List Loc), va_P D vwCl ([(a_mo, .inr (13, [.int 0, .int mo_trouble, .int mo_where, .ref a_wa, mo_read, mo_tape, .int mo_taped, .int mo_size, .int mo_spot, .int mo_sort, .int mo_place, .int mo_number, .int mo_fault, .int mo_wrongAt, .int mo_laneTold, .long mo_word, .ref a_mo_v, mo_x, mo_past, mo_kept, .int mo_acts, .int mo_marks, mo_put, mo_bestPut, .long mo_bestSum, mo_row, mo_best, mo_left, .int mo_bestSize, .int mo_bestLeft, mo_counts, .int mo_sets, .int mo_foeHarm, .int mo_ownHarm, .int mo_across, .int mo_sumFoe, .int mo_sumOwn, .int mo_sumWon, .int mo_sumAcross])), (a_mo_v, .inl (cy 1, 19, .inl mo_v)), (a_wa, .inr (12, [.int wa_lanes, .int wa_deep, .int wa_told, .int wa_beasts, .int wa_cities, .int wa_passes, .int wa_turned, .int wa_names, .ref a_wa_who, wa_strong, wa_kind, wa_lane, wa_mood, wa_price, wa_loses, wa_name, wa_nameSort, wa_numberOf])), (a_wa_who, .inl (cy 1, 6, .inl wa_who))] ++ X) H → va_D A ([(a_mo, .inr (13, [.int 0, .int mo_trouble, .int mo_where, .ref a_wa, mo_read, mo_tape, .int mo_taped, .int mo_size, .int mo_spot, .int mo_sort, .int mo_place, .int mo_number, .int mo_fault, .int mo_wrongAt, .int mo_laneTold, .long mo_word, .ref a_mo_v, mo_x, mo_past, mo_kept, .int mo_acts, .int mo_marks, mo_put, mo_bestPut, .long mo_bestSum, mo_row, mo_best, mo_left, .int mo_bestSize, .int mo_bestLeft, mo_counts, .int mo_sets, .int mo_foeHarm, .int mo_ownHarm, .int mo_across, .int mo_sumFoe, .int mo_sumOwn, .int mo_sumWon, .int mo_sumAcross])), (a_mo_v, .inl (cy 1, 19, .inl mo_v)), (a_wa, .inr (12, [.int wa_lanes, .int wa_deep, .int wa_told, .int wa_beasts, .int wa_cities, .int wa_passes, .int wa_turned, .int wa_names, .ref a_wa_who, wa_strong, wa_kind, wa_lane, wa_mood, wa_price, wa_loses, wa_name, wa_nameSort, wa_numberOf])), (a_wa_who, .inl (cy 1, 6, .inl wa_who))] ++ X) → va_S A s.heap H locs → ∀ ls : Array Slot, lv_has ls 5 [] → W p l e (headSpec wo_X13_lane ({ frames := 2, cells := 0, slots := 0, locals := 42 })).room s m (([.ref a_mo, .int p1, .int p2] : List Value).toArray) below meth c H locs 0 0 (MQ below (va_Qi (fun (r : Int32) (_ : Unit) => r = res) (wB D A ([(a_mo, .inr (13, [.int mo_thrown', .int mo_trouble', .int mo_where', .ref a_wa, mo_read, mo_tape, .int mo_taped, .int mo_size, .int mo_spot, .int mo_sort, .int mo_place, .int mo_number, .int mo_fault, .int mo_wrongAt, .int mo_laneTold, .long mo_word, .ref a_mo_v, mo_x, mo_past, mo_kept, .int mo_acts, .int mo_marks, mo_put, mo_bestPut, .long mo_bestSum, mo_row, mo_best, mo_left, .int mo_bestSize, .int mo_bestLeft, mo_counts, .int mo_sets, .int mo_foeHarm, .int mo_ownHarm, .int mo_across, .int mo_sumFoe, .int mo_sumOwn, .int mo_sumWon, .int mo_sumAcross])), (a_mo_v, .inl (cy 1, 19, .inl mo_v)), (a_wa, .inr (12, [.int wa_lanes, .int wa_deep, .int wa_told, .int wa_beasts, .int wa_cities, .int wa_passes, .int wa_turned, .int wa_names, .ref a_wa_who, wa_strong, wa_kind, wa_lane, wa_mood, wa_price, wa_loses, wa_name, wa_nameSort, wa_numberOf])), (a_wa_who, .inl (cy 1, 6, .inl wa_who))] ++ X)) A) (([.ref a_mo, .int p1, .int p2] : List Value).toArray) s 0 0 A) (F0 m 59 ls [.int t1_23, .ref a_mo]) := by
          intro t1_23 h H locs hP hD hS ls hl
          unfold f_X13_lane_B59 at h
          obtain ⟨r_24, mo_trouble_25, mo_where_26, hc_27, h⟩ := bd3_some h
          refine wVi [.int t1_23] [] ⟨hx, hb, hml, hown, hts⟩ (c_X13_good l D cy A ([(a_mo_v, .inl (cy 1, 19, .inl mo_v)), (a_wa, .inr (12, [.int wa_lanes, .int wa_deep, .int wa_told, .int wa_beasts, .int wa_cities, .int wa_passes, .int wa_turned, .int wa_names, .ref a_wa_who, wa_strong, wa_kind, wa_lane, wa_mood, wa_price, wa_loses, wa_name, wa_nameSort, wa_numberOf])), (a_wa_who, .inl (cy 1, 6, .inl wa_who))] ++ X) a_mo 0 mo_trouble mo_where (.ref a_wa) (mo_read) (mo_tape) mo_taped mo_size mo_spot mo_sort mo_place mo_number mo_fault mo_wrongAt mo_laneTold mo_word (.ref a_mo_v) (mo_x) (mo_past) (mo_kept) mo_acts mo_marks (mo_put) (mo_bestPut) mo_bestSum (mo_row) (mo_best) (mo_left) mo_bestSize mo_bestLeft (mo_counts) mo_sets mo_foeHarm mo_ownHarm mo_across mo_sumFoe mo_sumOwn mo_sumWon mo_sumAcross t1_23 r_24 mo_trouble_25 mo_where_26 hc_27) gX13_lane_X13_good rfl hd_X13_good ⟨Nat.le_of_ble_eq_true rfl, Nat.le_of_ble_eq_true rfl⟩ rfl rfl hKN (pX3 hP [0, 1, 2, 3] rfl) (dX3 hD [0, 1, 2, 3] rfl rfl) hS hA 13 0 rfl rfl rfl hl.1 rfl (Nat.le_of_ble_eq_true rfl) dX13_lane_59 ⟨Nat.le_of_ble_eq_true rfl, Nat.le_of_ble_eq_true rfl⟩ (fun H locs hP hD hS => ?_)
          have hP := pX4 (L1 := [(a_mo, .inr (13, [.int 0, .int mo_trouble_25, .int mo_where_26, .ref a_wa, mo_read, mo_tape, .int mo_taped, .int mo_size, .int mo_spot, .int mo_sort, .int mo_place, .int mo_number, .int mo_fault, .int mo_wrongAt, .int mo_laneTold, .long mo_word, .ref a_mo_v, mo_x, mo_past, mo_kept, .int mo_acts, .int mo_marks, mo_put, mo_bestPut, .long mo_bestSum, mo_row, mo_best, mo_left, .int mo_bestSize, .int mo_bestLeft, mo_counts, .int mo_sets, .int mo_foeHarm, .int mo_ownHarm, .int mo_across, .int mo_sumFoe, .int mo_sumOwn, .int mo_sumWon, .int mo_sumAcross])), (a_mo_v, .inl (cy 1, 19, .inl mo_v)), (a_wa, .inr (12, [.int wa_lanes, .int wa_deep, .int wa_told, .int wa_beasts, .int wa_cities, .int wa_passes, .int wa_turned, .int wa_names, .ref a_wa_who, wa_strong, wa_kind, wa_lane, wa_mood, wa_price, wa_loses, wa_name, wa_nameSort, wa_numberOf])), (a_wa_who, .inl (cy 1, 6, .inl wa_who))]) hP [0, 1, 2, 3] rfl
          have hD := dX4 (L1 := [(a_mo, .inr (13, [.int 0, .int mo_trouble_25, .int mo_where_26, .ref a_wa, mo_read, mo_tape, .int mo_taped, .int mo_size, .int mo_spot, .int mo_sort, .int mo_place, .int mo_number, .int mo_fault, .int mo_wrongAt, .int mo_laneTold, .long mo_word, .ref a_mo_v, mo_x, mo_past, mo_kept, .int mo_acts, .int mo_marks, mo_put, mo_bestPut, .long mo_bestSum, mo_row, mo_best, mo_left, .int mo_bestSize, .int mo_bestLeft, mo_counts, .int mo_sets, .int mo_foeHarm, .int mo_ownHarm, .int mo_across, .int mo_sumFoe, .int mo_sumOwn, .int mo_sumWon, .int mo_sumAcross])), (a_mo_v, .inl (cy 1, 19, .inl mo_v)), (a_wa, .inr (12, [.int wa_lanes, .int wa_deep, .int wa_told, .int wa_beasts, .int wa_cities, .int wa_passes, .int wa_turned, .int wa_names, .ref a_wa_who, wa_strong, wa_kind, wa_lane, wa_mood, wa_price, wa_loses, wa_name, wa_nameSort, wa_numberOf])), (a_wa_who, .inl (cy 1, 6, .inl wa_who))]) hD [0, 1, 2, 3] rfl rfl
          cases h
          exact W.iret hx hb hr (fun t ht _ => ⟨⟨_, (), rfl, rfl, by rw [ht]; exact hP, hD⟩, hS.F ht⟩) hS.2.2 dX13_lane_62
        refine lv_if_ne (tgt := 50) hx hb dX13_lane_35 (by decide) (fun cd => ?_) (fun cd => ?_)
        · have h := ifF cd h
          refine lv_aload_n hx hb dX13_lane_50 rfl (lv_at hl 0 rfl) ?_
          refine va_get (D := D) (ci := 13) (C := RX13) (T := TX13) (N := 39) (v := .ref a_mo_v) hx hb hX13 (fun _ q => q) hown hK hP 0 rfl rfl 16 (by decide) (hts (.fieldLink RX13 17 "ElephantLineModel" "v" "[I") (by decide +kernel)) (fun _ h9 => h9) rfl dX13_lane_51 ?_
          refine lv_bipush (v := 11) hx hb dX13_lane_54 (by decide) ?_
          refine lv_iload_n hx hb dX13_lane_56 rfl (lv_at hl 1 rfl) ?_
          refine lv_iadd hx hb dX13_lane_57 ?_
          obtain ⟨i_28, h⟩ := gIn_some h
          refine va_iald hx hb hK hP 1 1 rfl rfl i_28 dX13_lane_58 ?_
          exact jn59 (mo_v (11 + p1).toNatClampNeg) h _ _ hP hD hS _ (lv_sub hl [] rfl)
        · have h := ifT cd h
          refine lv_aload_n hx hb dX13_lane_38 rfl (lv_at hl 0 rfl) ?_
          refine va_get (D := D) (ci := 13) (C := RX13) (T := TX13) (N := 39) (v := .ref a_wa) hx hb hX13 (fun _ q => q) hown hK hP 0 rfl rfl 3 (by decide) (hts (.fieldLink RX13 301 "ElephantLineModel" "war" "LElephantLineModel$War;") (by decide +kernel)) (fun _ h9 => h9) rfl dX13_lane_39 ?_
          refine va_getN (D := D) (ci := 12) (C := RX12) (T := TX12) (N := 18) (v := .ref a_wa_who) hx hb hX12 (fun _ q => q) hown hK hP 2 rfl rfl 8 (by decide) (va_Nw.use rfl (hKN.2.1.1 ("ElephantLineModel", 241, "ElephantLineModel$War", "who", "[I", "ElephantLineModel") (List.mem_of_getElem? (i := 75) rfl))) (fun _ h9 => h9) rfl dX13_lane_42 ?_
          refine lv_iload_n hx hb dX13_lane_45 rfl (lv_at hl 1 rfl) ?_
          obtain ⟨i_29, h⟩ := gIn_some h
          refine va_iald hx hb hK hP 3 1 rfl rfl i_29 dX13_lane_46 ?_
          refine lv_goto (tgt := 59) hx hb dX13_lane_47 (by decide) ?_
          exact jn59 (wa_who p1.toNatClampNeg) h _ _ hP hD hS _ (lv_sub hl [] rfl)
    · have h := ifT cd h
      exact jn22 h _ _ hP hD hS _ (lv_sub hl [0] rfl)
noncomputable def f_X13_meets_B35 (mo_v : Nat → Int32) (wa_lanes : Int32) (wa_beasts : Int32) (wa_who : Nat → Int32) (wa_kind : Nat → Int32) (mo_thrown : Int32) (mo_trouble : Int32) (mo_where : Int32) : Option (Int32 × Int32 × Int32 × Int32) :=
  bd3 (f_X13_refused mo_trouble mo_where (1 : Int32)) fun r_4 mo_trouble_5 mo_where_6 =>
  some (r_4, mo_thrown, mo_trouble_5, mo_where_6)
noncomputable def f_X13_meets (mo_thrown : Int32) (mo_trouble : Int32) (mo_where : Int32) (mo_v : Nat → Int32) (wa_lanes : Int32) (wa_beasts : Int32) (wa_who : Nat → Int32) (wa_kind : Nat → Int32) (p1 : Int32) (p2 : Int32) (p3 : Int32) : Option (Int32 × Int32 × Int32 × Int32) :=
  bd1 (f_X13_isBeast wa_beasts p1) fun r_1 =>
  (if r_1 = 0 then
  f_X13_meets_B35 mo_v wa_lanes wa_beasts wa_who wa_kind 0 mo_trouble mo_where
  else
  bd1 (f_X13_isLane wa_lanes p2) fun r_8 =>
  (if r_8 = 0 then
  f_X13_meets_B35 mo_v wa_lanes wa_beasts wa_who wa_kind 0 mo_trouble mo_where
  else
  bd1 (f_X13_meetsIn mo_v wa_who wa_kind p1 p2 p3) fun r_11 =>
  bd3 (f_X13_good mo_trouble mo_where r_11) fun r_13 mo_trouble_14 mo_where_15 =>
  some (r_13, 0, mo_trouble_14, mo_where_15)))
theorem hd_X13_meets : yX13_meets.cls = RX13 ∧ yX13_meets.cls ≠ "java/lang/invoke/MethodHandle" ∧ yX13_meets.cls ≠ "java/lang/invoke/VarHandle" ∧ (parseMethodDescriptor yX13_meets.desc).map (fun d => d.parameters.length) = some 3 := by decide +kernel
set_option maxHeartbeats 4000000 in
set_option maxRecDepth 100000 in
theorem c_X13_meets (l : Launch) (D : va_G) (cy : Nat → ClassId) (A : Nat → Prop) (X : va_W) (a_mo a_mo_v a_wa a_wa_who a_wa_kind : Nat) (mo_thrown : Int32) (mo_trouble : Int32) (mo_where : Int32) (mo_read : Value) (mo_tape : Value) (mo_taped : Int32) (mo_size : Int32) (mo_spot : Int32) (mo_sort : Int32) (mo_place : Int32) (mo_number : Int32) (mo_fault : Int32) (mo_wrongAt : Int32) (mo_laneTold : Int32) (mo_word : Int64) (mo_x : Value) (mo_past : Value) (mo_kept : Value) (mo_acts : Int32) (mo_marks : Int32) (mo_put : Value) (mo_bestPut : Value) (mo_bestSum : Int64) (mo_row : Value) (mo_best : Value) (mo_left : Value) (mo_bestSize : Int32) (mo_bestLeft : Int32) (mo_counts : Value) (mo_sets : Int32) (mo_foeHarm : Int32) (mo_ownHarm : Int32) (mo_across : Int32) (mo_sumFoe : Int32) (mo_sumOwn : Int32) (mo_sumWon : Int32) (mo_sumAcross : Int32) (mo_v : Nat → Int32) (wa_lanes : Int32) (wa_deep : Int32) (wa_told : Int32) (wa_beasts : Int32) (wa_cities : Int32) (wa_passes : Int32) (wa_turned : Int32) (wa_names : Int32) (wa_strong : Value) (wa_lane : Value) (wa_mood : Value) (wa_price : Value) (wa_loses : Value) (wa_name : Value) (wa_nameSort : Value) (wa_numberOf : Value) (wa_who : Nat → Int32) (wa_kind : Nat → Int32) (p1 : Int32) (p2 : Int32) (p3 : Int32) (res : Int32) (mo_thrown' : Int32) (mo_trouble' : Int32) (mo_where' : Int32) (h : f_X13_meets mo_thrown mo_trouble mo_where mo_v wa_lanes wa_beasts wa_who wa_kind p1 p2 p3 = some (res, mo_thrown', mo_trouble', mo_where')) : Met l yX13_meets wo_X13_meets ({ frames := 5, cells := 0, slots := 0, locals := 112 }) (wrPc D cy A [.ref a_mo, .int p1, .int p2, .int p3] ([(a_mo, .inr (13, [.int mo_thrown, .int mo_trouble, .int mo_where, .ref a_wa, mo_read, mo_tape, .int mo_taped, .int mo_size, .int mo_spot, .int mo_sort, .int mo_place, .int mo_number, .int mo_fault, .int mo_wrongAt, .int mo_laneTold, .long mo_word, .ref a_mo_v, mo_x, mo_past, mo_kept, .int mo_acts, .int mo_marks, mo_put, mo_bestPut, .long mo_bestSum, mo_row, mo_best, mo_left, .int mo_bestSize, .int mo_bestLeft, mo_counts, .int mo_sets, .int mo_foeHarm, .int mo_ownHarm, .int mo_across, .int mo_sumFoe, .int mo_sumOwn, .int mo_sumWon, .int mo_sumAcross])), (a_mo_v, .inl (cy 1, 19, .inl mo_v)), (a_wa, .inr (12, [.int wa_lanes, .int wa_deep, .int wa_told, .int wa_beasts, .int wa_cities, .int wa_passes, .int wa_turned, .int wa_names, .ref a_wa_who, wa_strong, .ref a_wa_kind, wa_lane, wa_mood, wa_price, wa_loses, wa_name, wa_nameSort, wa_numberOf])), (a_wa_who, .inl (cy 1, 6, .inl wa_who)), (a_wa_kind, .inl (cy 1, 5, .inl wa_kind))] ++ X)) (va_Qi (fun (r : Int32) (_ : Unit) => r = res) (wB D A ([(a_mo, .inr (13, [.int mo_thrown', .int mo_trouble', .int mo_where', .ref a_wa, mo_read, mo_tape, .int mo_taped, .int mo_size, .int mo_spot, .int mo_sort, .int mo_place, .int mo_number, .int mo_fault, .int mo_wrongAt, .int mo_laneTold, .long mo_word, .ref a_mo_v, mo_x, mo_past, mo_kept, .int mo_acts, .int mo_marks, mo_put, mo_bestPut, .long mo_bestSum, mo_row, mo_best, mo_left, .int mo_bestSize, .int mo_bestLeft, mo_counts, .int mo_sets, .int mo_foeHarm, .int mo_ownHarm, .int mo_across, .int mo_sumFoe, .int mo_sumOwn, .int mo_sumWon, .int mo_sumAcross])), (a_mo_v, .inl (cy 1, 19, .inl mo_v)), (a_wa, .inr (12, [.int wa_lanes, .int wa_deep, .int wa_told, .int wa_beasts, .int wa_cities, .int wa_passes, .int wa_turned, .int wa_names, .ref a_wa_who, wa_strong, .ref a_wa_kind, wa_lane, wa_mood, wa_price, wa_loses, wa_name, wa_nameSort, wa_numberOf])), (a_wa_who, .inl (cy 1, 6, .inl wa_who)), (a_wa_kind, .inl (cy 1, 5, .inl wa_kind))] ++ X)) A) 0 0 A := by
  refine Met.ofW (cc := cX13_meets) (maxL := 4) (ret := (some .int)) (by decide) rfl ?_
  intro p e s m args below meth c s₁ B hml hv
  obtain ⟨rfl, hP, hKN, hD, hA⟩ := hv
  have hK := hKN.1
  have hx := B.exec
  have hb := B.bytes
  have hr := B.returns
  have hts := wt_X13_meets hKN.2.2 (([.ref a_mo, .int p1, .int p2, .int p3] : List Value).toArray)
  have hown : s.vm.findClass RX13 = some m.cls := findClass_of_methodNamed B.named
  have hlocks := B.notSynchronized
  have hS : va_S A s.heap s.heap [] := va_S.rf
  have hX13 := wc_X13 hKN.2.2 (([.ref a_mo, .int p1, .int p2, .int p3] : List Value).toArray)
  have hl := lv_entry ([.ref a_mo, .int p1, .int p2, .int p3]) (n := 4) (Nat.le_of_ble_eq_true rfl)
  rw [lg_entry_eq]
  generalize (lg_sl ([.ref a_mo, .int p1, .int p2, .int p3]) ++ List.replicate (4 - (lg_sl ([.ref a_mo, .int p1, .int p2, .int p3])).length) Slot.unset).toArray = ls at hl ⊢
  have hl : lv_has ls 4 [(0, .ref a_mo), (1, .int p1), (2, .int p2), (3, .int p3)] := hl
  unfold f_X13_meets at h
  refine lv_aload_n hx hb dX13_meets_0 rfl (lv_at hl 0 rfl) ?_
  refine lv_iconst (v := 0) hx hb dX13_meets_1 (by decide) ?_
  refine va_put (D := D) (ci := 13) (C := RX13) (T := TX13) (N := 39) (v := .int 0) (ty := .int) hx hb hX13 (fun _ q => q) tyX13 tyX13_ok nmX13 hown hK hP hD hS 0 rfl rfl 0 (by decide) (hts (.fieldLink RX13 48 "ElephantLineModel" "thrown" "I") (by decide +kernel)) (fun _ h9 => h9) rfl (tyX13_ok 0 (by decide)) rfl rfl (Nat.le_of_ble_eq_true rfl) dX13_meets_2 (fun H locs hP hD hS => ?_)
  refine lv_aload_n hx hb dX13_meets_5 rfl (lv_at hl 0 rfl) ?_
  refine lv_iload_n hx hb dX13_meets_6 rfl (lv_at hl 1 rfl) ?_
  have hP : va_P D vwCl ([(a_mo, .inr (13, [.int 0, .int mo_trouble, .int mo_where, .ref a_wa, mo_read, mo_tape, .int mo_taped, .int mo_size, .int mo_spot, .int mo_sort, .int mo_place, .int mo_number, .int mo_fault, .int mo_wrongAt, .int mo_laneTold, .long mo_word, .ref a_mo_v, mo_x, mo_past, mo_kept, .int mo_acts, .int mo_marks, mo_put, mo_bestPut, .long mo_bestSum, mo_row, mo_best, mo_left, .int mo_bestSize, .int mo_bestLeft, mo_counts, .int mo_sets, .int mo_foeHarm, .int mo_ownHarm, .int mo_across, .int mo_sumFoe, .int mo_sumOwn, .int mo_sumWon, .int mo_sumAcross])), (a_mo_v, .inl (cy 1, 19, .inl mo_v)), (a_wa, .inr (12, [.int wa_lanes, .int wa_deep, .int wa_told, .int wa_beasts, .int wa_cities, .int wa_passes, .int wa_turned, .int wa_names, .ref a_wa_who, wa_strong, .ref a_wa_kind, wa_lane, wa_mood, wa_price, wa_loses, wa_name, wa_nameSort, wa_numberOf])), (a_wa_who, .inl (cy 1, 6, .inl wa_who)), (a_wa_kind, .inl (cy 1, 5, .inl wa_kind))] ++ X) H := hP
  have hD : va_D A ([(a_mo, .inr (13, [.int 0, .int mo_trouble, .int mo_where, .ref a_wa, mo_read, mo_tape, .int mo_taped, .int mo_size, .int mo_spot, .int mo_sort, .int mo_place, .int mo_number, .int mo_fault, .int mo_wrongAt, .int mo_laneTold, .long mo_word, .ref a_mo_v, mo_x, mo_past, mo_kept, .int mo_acts, .int mo_marks, mo_put, mo_bestPut, .long mo_bestSum, mo_row, mo_best, mo_left, .int mo_bestSize, .int mo_bestLeft, mo_counts, .int mo_sets, .int mo_foeHarm, .int mo_ownHarm, .int mo_across, .int mo_sumFoe, .int mo_sumOwn, .int mo_sumWon, .int mo_sumAcross])), (a_mo_v, .inl (cy 1, 19, .inl mo_v)), (a_wa, .inr (12, [.int wa_lanes, .int wa_deep, .int wa_told, .int wa_beasts, .int wa_cities, .int wa_passes, .int wa_turned, .int wa_names, .ref a_wa_who, wa_strong, .ref a_wa_kind, wa_lane, wa_mood, wa_price, wa_loses, wa_name, wa_nameSort, wa_numberOf])), (a_wa_who, .inl (cy 1, 6, .inl wa_who)), (a_wa_kind, .inl (cy 1, 5, .inl wa_kind))] ++ X) := hD
  obtain ⟨r_1, hc_2, h⟩ := bd1_some h
  refine kVb [.int p1] [] ⟨hx, hb, hml, hown, hts⟩ (c_X13_isBeast l D cy a_mo a_wa 0 mo_trouble mo_where (mo_read) (mo_tape) mo_taped mo_size mo_spot mo_sort mo_place mo_number mo_fault mo_wrongAt mo_laneTold mo_word (.ref a_mo_v) (mo_x) (mo_past) (mo_kept) mo_acts mo_marks (mo_put) (mo_bestPut) mo_bestSum (mo_row) (mo_best) (mo_left) mo_bestSize mo_bestLeft (mo_counts) mo_sets mo_foeHarm mo_ownHarm mo_across mo_sumFoe mo_sumOwn mo_sumWon mo_sumAcross wa_lanes wa_deep wa_told wa_beasts wa_cities wa_passes wa_turned wa_names (.ref a_wa_who) (wa_strong) (.ref a_wa_kind) (wa_lane) (wa_mood) (wa_price) (wa_loses) (wa_name) (wa_nameSort) (wa_numberOf) p1 r_1 hc_2) gX13_meets_X13_isBeast rfl hd_X13_isBeast ⟨Nat.le_of_ble_eq_true rfl, Nat.le_of_ble_eq_true rfl⟩ rfl rfl hKN (pXc hP [0, 2] rfl) 13 0 rfl rfl rfl hl.1 rfl (Nat.le_of_ble_eq_true rfl) dX13_meets_7 ⟨Nat.le_of_ble_eq_true rfl, Nat.le_of_ble_eq_true rfl⟩ (fun nb_3 => ?_)
  have jn35 : f_X13_meets_B35 mo_v wa_lanes wa_beasts wa_who wa_kind 0 mo_trouble mo_where = some (res, mo_thrown', mo_trouble', mo_where') → ∀ (H : Heap) (locs : List Loc), va_P D vwCl ([(a_mo, .inr (13, [.int 0, .int mo_trouble, .int mo_where, .ref a_wa, mo_read, mo_tape, .int mo_taped, .int mo_size, .int mo_spot, .int mo_sort, .int mo_place, .int mo_number, .int mo_fault, .int mo_wrongAt, .int mo_laneTold, .long mo_word, .ref a_mo_v, mo_x, mo_past, mo_kept, .int mo_acts, .int mo_marks, mo_put, mo_bestPut, .long mo_bestSum, mo_row, mo_best, mo_left, .int mo_bestSize, .int mo_bestLeft, mo_counts, .int mo_sets, .int mo_foeHarm, .int mo_ownHarm, .int mo_across, .int mo_sumFoe, .int mo_sumOwn, .int mo_sumWon, .int mo_sumAcross])), (a_mo_v, .inl (cy 1, 19, .inl mo_v)), (a_wa, .inr (12, [.int wa_lanes, .int wa_deep, .int wa_told, .int wa_beasts, .int wa_cities, .int wa_passes, .int wa_turned, .int wa_names, .ref a_wa_who, wa_strong, .ref a_wa_kind, wa_lane, wa_mood, wa_price, wa_loses, wa_name, wa_nameSort, wa_numberOf])), (a_wa_who, .inl (cy 1, 6, .inl wa_who)), (a_wa_kind, .inl (cy 1, 5, .inl wa_kind))] ++ X) H → va_D A ([(a_mo, .inr (13, [.int 0, .int mo_trouble, .int mo_where, .ref a_wa, mo_read, mo_tape, .int mo_taped, .int mo_size, .int mo_spot, .int mo_sort, .int mo_place, .int mo_number, .int mo_fault, .int mo_wrongAt, .int mo_laneTold, .long mo_word, .ref a_mo_v, mo_x, mo_past, mo_kept, .int mo_acts, .int mo_marks, mo_put, mo_bestPut, .long mo_bestSum, mo_row, mo_best, mo_left, .int mo_bestSize, .int mo_bestLeft, mo_counts, .int mo_sets, .int mo_foeHarm, .int mo_ownHarm, .int mo_across, .int mo_sumFoe, .int mo_sumOwn, .int mo_sumWon, .int mo_sumAcross])), (a_mo_v, .inl (cy 1, 19, .inl mo_v)), (a_wa, .inr (12, [.int wa_lanes, .int wa_deep, .int wa_told, .int wa_beasts, .int wa_cities, .int wa_passes, .int wa_turned, .int wa_names, .ref a_wa_who, wa_strong, .ref a_wa_kind, wa_lane, wa_mood, wa_price, wa_loses, wa_name, wa_nameSort, wa_numberOf])), (a_wa_who, .inl (cy 1, 6, .inl wa_who)), (a_wa_kind, .inl (cy 1, 5, .inl wa_kind))] ++ X) → va_S A s.heap H locs → ∀ ls : Array Slot, lv_has ls 4 [(0, .ref a_mo)] → W p l e (headSpec wo_X13_meets ({ frames := 5, cells := 0, slots := 0, locals := 112 })).room s m (([.ref a_mo, .int p1, .int p2, .int p3] : List Value).toArray) below meth c H locs 0 0 (MQ below (va_Qi (fun (r : Int32) (_ : Unit) => r = res) (wB D A ([(a_mo, .inr (13, [.int mo_thrown', .int mo_trouble', .int mo_where', .ref a_wa, mo_read, mo_tape, .int mo_taped, .int mo_size, .int mo_spot, .int mo_sort, .int mo_place, .int mo_number, .int mo_fault, .int mo_wrongAt, .int mo_laneTold, .long mo_word, .ref a_mo_v, mo_x, mo_past, mo_kept, .int mo_acts, .int mo_marks, mo_put, mo_bestPut, .long mo_bestSum, mo_row, mo_best, mo_left, .int mo_bestSize, .int mo_bestLeft, mo_counts, .int mo_sets, .int mo_foeHarm, .int mo_ownHarm, .int mo_across, .int mo_sumFoe, .int mo_sumOwn, .int mo_sumWon, .int mo_sumAcross])), (a_mo_v, .inl (cy 1, 19, .inl mo_v)), (a_wa, .inr (12, [.int wa_lanes, .int wa_deep, .int wa_told, .int wa_beasts, .int wa_cities, .int wa_passes, .int wa_turned, .int wa_names, .ref a_wa_who, wa_strong, .ref a_wa_kind, wa_lane, wa_mood, wa_price, wa_loses, wa_name, wa_nameSort, wa_numberOf])), (a_wa_who, .inl (cy 1, 6, .inl wa_who)), (a_wa_kind, .inl (cy 1, 5, .inl wa_kind))] ++ X)) A) (([.ref a_mo, .int p1, .int p2, .int p3] : List Value).toArray) s 0 0 A) (F0 m 35 ls []) := by
    intro h H locs hP hD hS ls hl
    unfold f_X13_meets_B35 at h
    refine lv_aload_n hx hb dX13_meets_35 rfl (lv_at hl 0 rfl) ?_
    refine lv_iconst (v := 1) hx hb dX13_meets_36 (by decide) ?_
    obtain ⟨r_4, mo_trouble_5, mo_where_6, hc_7, h⟩ := bd3_some h
    refine wVi [.int 1] [] ⟨hx, hb, hml, hown, hts⟩ (c_X13_refused l D cy A ([(a_mo_v, .inl (cy 1, 19, .inl mo_v)), (a_wa, .inr (12, [.int wa_lanes, .int wa_deep, .int wa_told, .int wa_beasts, .int wa_cities, .int wa_passes, .int wa_turned, .int wa_names, .ref a_wa_who, wa_strong, .ref a_wa_kind, wa_lane, wa_mood, wa_price, wa_loses, wa_name, wa_nameSort, wa_numberOf])), (a_wa_who, .inl (cy 1, 6, .inl wa_who)), (a_wa_kind, .inl (cy 1, 5, .inl wa_kind))] ++ X) a_mo 0 mo_trouble mo_where (.ref a_wa) (mo_read) (mo_tape) mo_taped mo_size mo_spot mo_sort mo_place mo_number mo_fault mo_wrongAt mo_laneTold mo_word (.ref a_mo_v) (mo_x) (mo_past) (mo_kept) mo_acts mo_marks (mo_put) (mo_bestPut) mo_bestSum (mo_row) (mo_best) (mo_left) mo_bestSize mo_bestLeft (mo_counts) mo_sets mo_foeHarm mo_ownHarm mo_across mo_sumFoe mo_sumOwn mo_sumWon mo_sumAcross (1 : Int32) r_4 mo_trouble_5 mo_where_6 hc_7) gX13_meets_X13_refused rfl hd_X13_refused ⟨Nat.le_of_ble_eq_true rfl, Nat.le_of_ble_eq_true rfl⟩ rfl rfl hKN (pX3 hP [0, 1, 2, 3, 4] rfl) (dX3 hD [0, 1, 2, 3, 4] rfl rfl) hS hA 13 0 rfl rfl rfl hl.1 rfl (Nat.le_of_ble_eq_true rfl) dX13_meets_37 ⟨Nat.le_of_ble_eq_true rfl, Nat.le_of_ble_eq_true rfl⟩ (fun H locs hP hD hS => ?_)
    have hP := pX4 (L1 := [(a_mo, .inr (13, [.int 0, .int mo_trouble_5, .int mo_where_6, .ref a_wa, mo_read, mo_tape, .int mo_taped, .int mo_size, .int mo_spot, .int mo_sort, .int mo_place, .int mo_number, .int mo_fault, .int mo_wrongAt, .int mo_laneTold, .long mo_word, .ref a_mo_v, mo_x, mo_past, mo_kept, .int mo_acts, .int mo_marks, mo_put, mo_bestPut, .long mo_bestSum, mo_row, mo_best, mo_left, .int mo_bestSize, .int mo_bestLeft, mo_counts, .int mo_sets, .int mo_foeHarm, .int mo_ownHarm, .int mo_across, .int mo_sumFoe, .int mo_sumOwn, .int mo_sumWon, .int mo_sumAcross])), (a_mo_v, .inl (cy 1, 19, .inl mo_v)), (a_wa, .inr (12, [.int wa_lanes, .int wa_deep, .int wa_told, .int wa_beasts, .int wa_cities, .int wa_passes, .int wa_turned, .int wa_names, .ref a_wa_who, wa_strong, .ref a_wa_kind, wa_lane, wa_mood, wa_price, wa_loses, wa_name, wa_nameSort, wa_numberOf])), (a_wa_who, .inl (cy 1, 6, .inl wa_who)), (a_wa_kind, .inl (cy 1, 5, .inl wa_kind))]) hP [0, 1, 2, 3, 4] rfl
    have hD := dX4 (L1 := [(a_mo, .inr (13, [.int 0, .int mo_trouble_5, .int mo_where_6, .ref a_wa, mo_read, mo_tape, .int mo_taped, .int mo_size, .int mo_spot, .int mo_sort, .int mo_place, .int mo_number, .int mo_fault, .int mo_wrongAt, .int mo_laneTold, .long mo_word, .ref a_mo_v, mo_x, mo_past, mo_kept, .int mo_acts, .int mo_marks, mo_put, mo_bestPut, .long mo_bestSum, mo_row, mo_best, mo_left, .int mo_bestSize, .int mo_bestLeft, mo_counts, .int mo_sets, .int mo_foeHarm, .int mo_ownHarm, .int mo_across, .int mo_sumFoe, .int mo_sumOwn, .int mo_sumWon, .int mo_sumAcross])), (a_mo_v, .inl (cy 1, 19, .inl mo_v)), (a_wa, .inr (12, [.int wa_lanes, .int wa_deep, .int wa_told, .int wa_beasts, .int wa_cities, .int wa_passes, .int wa_turned, .int wa_names, .ref a_wa_who, wa_strong, .ref a_wa_kind, wa_lane, wa_mood, wa_price, wa_loses, wa_name, wa_nameSort, wa_numberOf])), (a_wa_who, .inl (cy 1, 6, .inl wa_who)), (a_wa_kind, .inl (cy 1, 5, .inl wa_kind))]) hD [0, 1, 2, 3, 4] rfl rfl
    cases h
    exact W.iret hx hb hr (fun t ht _ => ⟨⟨_, (), rfl, rfl, by rw [ht]; exact hP, hD⟩, hS.F ht⟩) hS.2.2 dX13_meets_40
  refine lv_if_eq (tgt := 35) hx hb dX13_meets_10 (by decide) (fun cd => ?_) (fun cd => ?_)
  · have h := ifT cd h
    exact jn35 h _ _ hP hD hS _ (lv_sub hl [0] rfl)
  · have h := ifF cd h
    refine lv_aload_n hx hb dX13_meets_13 rfl (lv_at hl 0 rfl) ?_
    refine lv_iload_n hx hb dX13_meets_14 rfl (lv_at hl 2 rfl) ?_
    obtain ⟨r_8, hc_9, h⟩ := bd1_some h
    refine kVb [.int p2] [] ⟨hx, hb, hml, hown, hts⟩ (c_X13_isLane l D cy a_mo a_wa 0 mo_trouble mo_where (mo_read) (mo_tape) mo_taped mo_size mo_spot mo_sort mo_place mo_number mo_fault mo_wrongAt mo_laneTold mo_word (.ref a_mo_v) (mo_x) (mo_past) (mo_kept) mo_acts mo_marks (mo_put) (mo_bestPut) mo_bestSum (mo_row) (mo_best) (mo_left) mo_bestSize mo_bestLeft (mo_counts) mo_sets mo_foeHarm mo_ownHarm mo_across mo_sumFoe mo_sumOwn mo_sumWon mo_sumAcross wa_lanes wa_deep wa_told wa_beasts wa_cities wa_passes wa_turned wa_names (.ref a_wa_who) (wa_strong) (.ref a_wa_kind) (wa_lane) (wa_mood) (wa_price) (wa_loses) (wa_name) (wa_nameSort) (wa_numberOf) p2 r_8 hc_9) gX13_meets_X13_isLane rfl hd_X13_isLane ⟨Nat.le_of_ble_eq_true rfl, Nat.le_of_ble_eq_true rfl⟩ rfl rfl hKN (pXc hP [0, 2] rfl) 13 0 rfl rfl rfl hl.1 rfl (Nat.le_of_ble_eq_true rfl) dX13_meets_15 ⟨Nat.le_of_ble_eq_true rfl, Nat.le_of_ble_eq_true rfl⟩ (fun nb_10 => ?_)
    refine lv_if_eq (tgt := 35) hx hb dX13_meets_18 (by decide) (fun cd => ?_) (fun cd => ?_)
    · have h := ifT cd h
      exact jn35 h _ _ hP hD hS _ (lv_sub hl [0] rfl)
    · have h := ifF cd h
      refine lv_aload_n hx hb dX13_meets_21 rfl (lv_at hl 0 rfl) ?_
      refine lv_aload_n hx hb dX13_meets_22 rfl (lv_at hl 0 rfl) ?_
      refine lv_iload_n hx hb dX13_meets_23 rfl (lv_at hl 1 rfl) ?_
      refine lv_iload_n hx hb dX13_meets_24 rfl (lv_at hl 2 rfl) ?_
      refine lv_iload_n hx hb dX13_meets_25 rfl (lv_at hl 3 rfl) ?_
      obtain ⟨r_11, hc_12, h⟩ := bd1_some h
      refine kVi [.int p1, .int p2, .int p3] [.ref a_mo] ⟨hx, hb, hml, hown, hts⟩ (c_X13_meetsIn l D cy a_mo a_mo_v a_wa a_wa_who a_wa_kind 0 mo_trouble mo_where (mo_read) (mo_tape) mo_taped mo_size mo_spot mo_sort mo_place mo_number mo_fault mo_wrongAt mo_laneTold mo_word (mo_x) (mo_past) (mo_kept) mo_acts mo_marks (mo_put) (mo_bestPut) mo_bestSum (mo_row) (mo_best) (mo_left) mo_bestSize mo_bestLeft (mo_counts) mo_sets mo_foeHarm mo_ownHarm mo_across mo_sumFoe mo_sumOwn mo_sumWon mo_sumAcross mo_v wa_lanes wa_deep wa_told wa_beasts wa_cities wa_passes wa_turned wa_names (wa_strong) (wa_lane) (wa_mood) (wa_price) (wa_loses) (wa_name) (wa_nameSort) (wa_numberOf) wa_who wa_kind p1 p2 p3 r_11 hc_12) gX13_meets_X13_meetsIn rfl hd_X13_meetsIn ⟨Nat.le_of_ble_eq_true rfl, Nat.le_of_ble_eq_true rfl⟩ rfl rfl hKN (pXc hP [0, 1, 2, 3, 4] rfl) 13 0 rfl rfl rfl hl.1 rfl (Nat.le_of_ble_eq_true rfl) dX13_meets_26 ⟨Nat.le_of_ble_eq_true rfl, Nat.le_of_ble_eq_true rfl⟩ ?_
      obtain ⟨r_13, mo_trouble_14, mo_where_15, hc_16, h⟩ := bd3_some h
      refine wVi [.int r_11] [] ⟨hx, hb, hml, hown, hts⟩ (c_X13_good l D cy A ([(a_mo_v, .inl (cy 1, 19, .inl mo_v)), (a_wa, .inr (12, [.int wa_lanes, .int wa_deep, .int wa_told, .int wa_beasts, .int wa_cities, .int wa_passes, .int wa_turned, .int wa_names, .ref a_wa_who, wa_strong, .ref a_wa_kind, wa_lane, wa_mood, wa_price, wa_loses, wa_name, wa_nameSort, wa_numberOf])), (a_wa_who, .inl (cy 1, 6, .inl wa_who)), (a_wa_kind, .inl (cy 1, 5, .inl wa_kind))] ++ X) a_mo 0 mo_trouble mo_where (.ref a_wa) (mo_read) (mo_tape) mo_taped mo_size mo_spot mo_sort mo_place mo_number mo_fault mo_wrongAt mo_laneTold mo_word (.ref a_mo_v) (mo_x) (mo_past) (mo_kept) mo_acts mo_marks (mo_put) (mo_bestPut) mo_bestSum (mo_row) (mo_best) (mo_left) mo_bestSize mo_bestLeft (mo_counts) mo_sets mo_foeHarm mo_ownHarm mo_across mo_sumFoe mo_sumOwn mo_sumWon mo_sumAcross r_11 r_13 mo_trouble_14 mo_where_15 hc_16) gX13_meets_X13_good rfl hd_X13_good ⟨Nat.le_of_ble_eq_true rfl, Nat.le_of_ble_eq_true rfl⟩ rfl rfl hKN (pX3 hP [0, 1, 2, 3, 4] rfl) (dX3 hD [0, 1, 2, 3, 4] rfl rfl) hS hA 13 0 rfl rfl rfl hl.1 rfl (Nat.le_of_ble_eq_true rfl) dX13_meets_29 ⟨Nat.le_of_ble_eq_true rfl, Nat.le_of_ble_eq_true rfl⟩ (fun H locs hP hD hS => ?_)
      have hP := pX4 (L1 := [(a_mo, .inr (13, [.int 0, .int mo_trouble_14, .int mo_where_15, .ref a_wa, mo_read, mo_tape, .int mo_taped, .int mo_size, .int mo_spot, .int mo_sort, .int mo_place, .int mo_number, .int mo_fault, .int mo_wrongAt, .int mo_laneTold, .long mo_word, .ref a_mo_v, mo_x, mo_past, mo_kept, .int mo_acts, .int mo_marks, mo_put, mo_bestPut, .long mo_bestSum, mo_row, mo_best, mo_left, .int mo_bestSize, .int mo_bestLeft, mo_counts, .int mo_sets, .int mo_foeHarm, .int mo_ownHarm, .int mo_across, .int mo_sumFoe, .int mo_sumOwn, .int mo_sumWon, .int mo_sumAcross])), (a_mo_v, .inl (cy 1, 19, .inl mo_v)), (a_wa, .inr (12, [.int wa_lanes, .int wa_deep, .int wa_told, .int wa_beasts, .int wa_cities, .int wa_passes, .int wa_turned, .int wa_names, .ref a_wa_who, wa_strong, .ref a_wa_kind, wa_lane, wa_mood, wa_price, wa_loses, wa_name, wa_nameSort, wa_numberOf])), (a_wa_who, .inl (cy 1, 6, .inl wa_who)), (a_wa_kind, .inl (cy 1, 5, .inl wa_kind))]) hP [0, 1, 2, 3, 4] rfl
      have hD := dX4 (L1 := [(a_mo, .inr (13, [.int 0, .int mo_trouble_14, .int mo_where_15, .ref a_wa, mo_read, mo_tape, .int mo_taped, .int mo_size, .int mo_spot, .int mo_sort, .int mo_place, .int mo_number, .int mo_fault, .int mo_wrongAt, .int mo_laneTold, .long mo_word, .ref a_mo_v, mo_x, mo_past, mo_kept, .int mo_acts, .int mo_marks, mo_put, mo_bestPut, .long mo_bestSum, mo_row, mo_best, mo_left, .int mo_bestSize, .int mo_bestLeft, mo_counts, .int mo_sets, .int mo_foeHarm, .int mo_ownHarm, .int mo_across, .int mo_sumFoe, .int mo_sumOwn, .int mo_sumWon, .int mo_sumAcross])), (a_mo_v, .inl (cy 1, 19, .inl mo_v)), (a_wa, .inr (12, [.int wa_lanes, .int wa_deep, .int wa_told, .int wa_beasts, .int wa_cities, .int wa_passes, .int wa_turned, .int wa_names, .ref a_wa_who, wa_strong, .ref a_wa_kind, wa_lane, wa_mood, wa_price, wa_loses, wa_name, wa_nameSort, wa_numberOf])), (a_wa_who, .inl (cy 1, 6, .inl wa_who)), (a_wa_kind, .inl (cy 1, 5, .inl wa_kind))]) hD [0, 1, 2, 3, 4] rfl rfl
      refine lv_goto (tgt := 40) hx hb dX13_meets_32 (by decide) ?_
      cases h
      exact W.iret hx hb hr (fun t ht _ => ⟨⟨_, (), rfl, rfl, by rw [ht]; exact hP, hD⟩, hS.F ht⟩) hS.2.2 dX13_meets_40
noncomputable def f_X13_worthHeld (mo_v : Nat → Int32) (wa_deep : Int32) (wa_who : Nat → Int32) (wa_kind : Nat → Int32) (p1 : Int32) (p2 : Int32) (p3 : Int32) : Option (Int64) :=
  bd1 (f_X13_isDead mo_v p1) fun r_1 =>
  (if r_1 = 0 then
  bd1 (f_X13_power  p3.toInt64 wa_deep) fun r_4 =>
  bd1 (f_X13_meetsIn mo_v wa_who wa_kind p1 p2 (0 : Int32)) fun r_6 =>
  bd1 (f_X13_meetsIn mo_v wa_who wa_kind p1 p2 (1 : Int32)) fun r_8 =>
  bd1 (f_X13_whole wa_deep) fun r_10 =>
  bd1 (f_X13_forceOf mo_v wa_kind p1) fun r_12 =>
  some ((r_4 * ((r_6 - r_8).toInt64)) - ((r_10 - r_4) * ((r_12 / 2).toInt64)))
  else
  some (0))
theorem hd_X13_worthHeld : yX13_worthHeld.cls = RX13 ∧ yX13_worthHeld.cls ≠ "java/lang/invoke/MethodHandle" ∧ yX13_worthHeld.cls ≠ "java/lang/invoke/VarHandle" ∧ (parseMethodDescriptor yX13_worthHeld.desc).map (fun d => d.parameters.length) = some 3 := by decide +kernel
set_option maxHeartbeats 4000000 in
set_option maxRecDepth 100000 in
theorem c_X13_worthHeld (l : Launch) (D : va_G) (cy : Nat → ClassId) (a_mo a_mo_v a_wa a_wa_who a_wa_kind : Nat) (mo_thrown : Int32) (mo_trouble : Int32) (mo_where : Int32) (mo_read : Value) (mo_tape : Value) (mo_taped : Int32) (mo_size : Int32) (mo_spot : Int32) (mo_sort : Int32) (mo_place : Int32) (mo_number : Int32) (mo_fault : Int32) (mo_wrongAt : Int32) (mo_laneTold : Int32) (mo_word : Int64) (mo_x : Value) (mo_past : Value) (mo_kept : Value) (mo_acts : Int32) (mo_marks : Int32) (mo_put : Value) (mo_bestPut : Value) (mo_bestSum : Int64) (mo_row : Value) (mo_best : Value) (mo_left : Value) (mo_bestSize : Int32) (mo_bestLeft : Int32) (mo_counts : Value) (mo_sets : Int32) (mo_foeHarm : Int32) (mo_ownHarm : Int32) (mo_across : Int32) (mo_sumFoe : Int32) (mo_sumOwn : Int32) (mo_sumWon : Int32) (mo_sumAcross : Int32) (mo_v : Nat → Int32) (wa_lanes : Int32) (wa_deep : Int32) (wa_told : Int32) (wa_beasts : Int32) (wa_cities : Int32) (wa_passes : Int32) (wa_turned : Int32) (wa_names : Int32) (wa_strong : Value) (wa_lane : Value) (wa_mood : Value) (wa_price : Value) (wa_loses : Value) (wa_name : Value) (wa_nameSort : Value) (wa_numberOf : Value) (wa_who : Nat → Int32) (wa_kind : Nat → Int32) (p1 : Int32) (p2 : Int32) (p3 : Int32) (res : Int64) (h : f_X13_worthHeld mo_v wa_deep wa_who wa_kind p1 p2 p3 = some (res)) : Met l yX13_worthHeld wo_X13_worthHeld ({ frames := 5, cells := 0, slots := 0, locals := 112 }) (roPc D cy [.ref a_mo, .int p1, .int p2, .int p3] [(a_mo, .inr (13, [.int mo_thrown, .int mo_trouble, .int mo_where, .ref a_wa, mo_read, mo_tape, .int mo_taped, .int mo_size, .int mo_spot, .int mo_sort, .int mo_place, .int mo_number, .int mo_fault, .int mo_wrongAt, .int mo_laneTold, .long mo_word, .ref a_mo_v, mo_x, mo_past, mo_kept, .int mo_acts, .int mo_marks, mo_put, mo_bestPut, .long mo_bestSum, mo_row, mo_best, mo_left, .int mo_bestSize, .int mo_bestLeft, mo_counts, .int mo_sets, .int mo_foeHarm, .int mo_ownHarm, .int mo_across, .int mo_sumFoe, .int mo_sumOwn, .int mo_sumWon, .int mo_sumAcross])), (a_mo_v, .inl (cy 1, 19, .inl mo_v)), (a_wa, .inr (12, [.int wa_lanes, .int wa_deep, .int wa_told, .int wa_beasts, .int wa_cities, .int wa_passes, .int wa_turned, .int wa_names, .ref a_wa_who, wa_strong, .ref a_wa_kind, wa_lane, wa_mood, wa_price, wa_loses, wa_name, wa_nameSort, wa_numberOf])), (a_wa_who, .inl (cy 1, 6, .inl wa_who)), (a_wa_kind, .inl (cy 1, 5, .inl wa_kind))]) (vp_Sl (fun r => r = res)) 0 0 (fun _ => False) := by
  refine Met.ofW (cc := cX13_worthHeld) (maxL := 6) (ret := (some .long)) (by decide) rfl ?_
  intro p e s m args below meth c s₁ B hml hv
  obtain ⟨rfl, hP, hKN⟩ := hv
  have hK := hKN.1
  have hx := B.exec
  have hb := B.bytes
  have hr := B.returns
  have hts := wt_X13_worthHeld hKN.2.2 (([.ref a_mo, .int p1, .int p2, .int p3] : List Value).toArray)
  have hown : s.vm.findClass RX13 = some m.cls := findClass_of_methodNamed B.named
  have hlocks := B.notSynchronized
  have hX12 := wc_X12 hKN.2.2 (([.ref a_mo, .int p1, .int p2, .int p3] : List Value).toArray)
  have hX13 := wc_X13 hKN.2.2 (([.ref a_mo, .int p1, .int p2, .int p3] : List Value).toArray)
  have hl := lv_entry ([.ref a_mo, .int p1, .int p2, .int p3]) (n := 6) (Nat.le_of_ble_eq_true rfl)
  rw [lg_entry_eq]
  generalize (lg_sl ([.ref a_mo, .int p1, .int p2, .int p3]) ++ List.replicate (6 - (lg_sl ([.ref a_mo, .int p1, .int p2, .int p3])).length) Slot.unset).toArray = ls at hl ⊢
  have hl : lv_has ls 6 [(0, .ref a_mo), (1, .int p1), (2, .int p2), (3, .int p3)] := hl
  unfold f_X13_worthHeld at h
  refine lv_aload_n hx hb dX13_worthHeld_0 rfl (lv_at hl 0 rfl) ?_
  refine lv_iload_n hx hb dX13_worthHeld_1 rfl (lv_at hl 1 rfl) ?_
  obtain ⟨r_1, hc_2, h⟩ := bd1_some h
  refine kVb [.int p1] [] ⟨hx, hb, hml, hown, hts⟩ (c_X13_isDead l D cy a_mo a_mo_v mo_thrown mo_trouble mo_where (.ref a_wa) (mo_read) (mo_tape) mo_taped mo_size mo_spot mo_sort mo_place mo_number mo_fault mo_wrongAt mo_laneTold mo_word (mo_x) (mo_past) (mo_kept) mo_acts mo_marks (mo_put) (mo_bestPut) mo_bestSum (mo_row) (mo_best) (mo_left) mo_bestSize mo_bestLeft (mo_counts) mo_sets mo_foeHarm mo_ownHarm mo_across mo_sumFoe mo_sumOwn mo_sumWon mo_sumAcross mo_v p1 r_1 hc_2) gX13_worthHeld_X13_isDead rfl hd_X13_isDead ⟨Nat.le_of_ble_eq_true rfl, Nat.le_of_ble_eq_true rfl⟩ rfl rfl hKN (hP.sub [0, 1] rfl) 13 0 rfl rfl rfl hl.1 rfl (Nat.le_of_ble_eq_true rfl) dX13_worthHeld_2 ⟨Nat.le_of_ble_eq_true rfl, Nat.le_of_ble_eq_true rfl⟩ (fun nb_3 => ?_)
  refine lv_if_eq (tgt := 10) hx hb dX13_worthHeld_5 (by decide) (fun cd => ?_) (fun cd => ?_)
  · have h := ifT cd h
    refine lv_iload_n hx hb dX13_worthHeld_10 rfl (lv_at hl 3 rfl) ?_
    refine lv_i2l hx hb dX13_worthHeld_11 rfl ?_
    refine lv_aload_n hx hb dX13_worthHeld_12 rfl (lv_at hl 0 rfl) ?_
    refine va_get (D := D) (ci := 13) (C := RX13) (T := TX13) (N := 39) (v := .ref a_wa) hx hb hX13 (fun _ q => q) hown hK hP 0 rfl rfl 3 (by decide) (hts (.fieldLink RX13 301 "ElephantLineModel" "war" "LElephantLineModel$War;") (by decide +kernel)) (fun _ h9 => h9) rfl dX13_worthHeld_13 ?_
    refine va_getN (D := D) (ci := 12) (C := RX12) (T := TX12) (N := 18) (v := .int wa_deep) hx hb hX12 (fun _ q => q) hown hK hP 2 rfl rfl 1 (by decide) (va_Nw.use rfl (hKN.2.1.1 ("ElephantLineModel", 223, "ElephantLineModel$War", "deep", "I", "ElephantLineModel") (List.mem_of_getElem? (i := 68) rfl))) (fun _ h9 => h9) rfl dX13_worthHeld_16 ?_
    obtain ⟨r_4, hc_5, h⟩ := bd1_some h
    refine kSl [.long p3.toInt64, .int wa_deep] [] ⟨hx, hb, hml, hown, hts⟩ (c_X13_power l D cy p3.toInt64 wa_deep r_4 hc_5) gX13_worthHeld_X13_power rfl hd_X13_power ⟨Nat.le_of_ble_eq_true rfl, Nat.le_of_ble_eq_true rfl⟩ rfl rfl hKN va_nil rfl hl.1 rfl (Nat.le_of_ble_eq_true rfl) dX13_worthHeld_19 ⟨Nat.le_of_ble_eq_true rfl, Nat.le_of_ble_eq_true rfl⟩ ?_
    refine lv_lstore (lv' := [(4, .long r_4), (0, .ref a_mo), (1, .int p1), (2, .int p2), (3, .int p3)]) hx hb dX13_worthHeld_22 hl (by decide) rfl (fun ls hl => ?_)
    refine lv_lload hx hb dX13_worthHeld_24 (lv_at hl 0 rfl) ?_
    refine lv_aload_n hx hb dX13_worthHeld_26 rfl (lv_at hl 1 rfl) ?_
    refine lv_iload_n hx hb dX13_worthHeld_27 rfl (lv_at hl 2 rfl) ?_
    refine lv_iload_n hx hb dX13_worthHeld_28 rfl (lv_at hl 3 rfl) ?_
    refine lv_iconst (v := 0) hx hb dX13_worthHeld_29 (by decide) ?_
    obtain ⟨r_6, hc_7, h⟩ := bd1_some h
    refine kVi [.int p1, .int p2, .int 0] [.long r_4] ⟨hx, hb, hml, hown, hts⟩ (c_X13_meetsIn l D cy a_mo a_mo_v a_wa a_wa_who a_wa_kind mo_thrown mo_trouble mo_where (mo_read) (mo_tape) mo_taped mo_size mo_spot mo_sort mo_place mo_number mo_fault mo_wrongAt mo_laneTold mo_word (mo_x) (mo_past) (mo_kept) mo_acts mo_marks (mo_put) (mo_bestPut) mo_bestSum (mo_row) (mo_best) (mo_left) mo_bestSize mo_bestLeft (mo_counts) mo_sets mo_foeHarm mo_ownHarm mo_across mo_sumFoe mo_sumOwn mo_sumWon mo_sumAcross mo_v wa_lanes wa_deep wa_told wa_beasts wa_cities wa_passes wa_turned wa_names (wa_strong) (wa_lane) (wa_mood) (wa_price) (wa_loses) (wa_name) (wa_nameSort) (wa_numberOf) wa_who wa_kind p1 p2 (0 : Int32) r_6 hc_7) gX13_worthHeld_X13_meetsIn rfl hd_X13_meetsIn ⟨Nat.le_of_ble_eq_true rfl, Nat.le_of_ble_eq_true rfl⟩ rfl rfl hKN (hP.sub [0, 1, 2, 3, 4] rfl) 13 0 rfl rfl rfl hl.1 rfl (Nat.le_of_ble_eq_true rfl) dX13_worthHeld_30 ⟨Nat.le_of_ble_eq_true rfl, Nat.le_of_ble_eq_true rfl⟩ ?_
    refine lv_aload_n hx hb dX13_worthHeld_33 rfl (lv_at hl 1 rfl) ?_
    refine lv_iload_n hx hb dX13_worthHeld_34 rfl (lv_at hl 2 rfl) ?_
    refine lv_iload_n hx hb dX13_worthHeld_35 rfl (lv_at hl 3 rfl) ?_
    refine lv_iconst (v := 1) hx hb dX13_worthHeld_36 (by decide) ?_
    obtain ⟨r_8, hc_9, h⟩ := bd1_some h
    refine kVi [.int p1, .int p2, .int 1] [.int r_6, .long r_4] ⟨hx, hb, hml, hown, hts⟩ (c_X13_meetsIn l D cy a_mo a_mo_v a_wa a_wa_who a_wa_kind mo_thrown mo_trouble mo_where (mo_read) (mo_tape) mo_taped mo_size mo_spot mo_sort mo_place mo_number mo_fault mo_wrongAt mo_laneTold mo_word (mo_x) (mo_past) (mo_kept) mo_acts mo_marks (mo_put) (mo_bestPut) mo_bestSum (mo_row) (mo_best) (mo_left) mo_bestSize mo_bestLeft (mo_counts) mo_sets mo_foeHarm mo_ownHarm mo_across mo_sumFoe mo_sumOwn mo_sumWon mo_sumAcross mo_v wa_lanes wa_deep wa_told wa_beasts wa_cities wa_passes wa_turned wa_names (wa_strong) (wa_lane) (wa_mood) (wa_price) (wa_loses) (wa_name) (wa_nameSort) (wa_numberOf) wa_who wa_kind p1 p2 (1 : Int32) r_8 hc_9) gX13_worthHeld_X13_meetsIn rfl hd_X13_meetsIn ⟨Nat.le_of_ble_eq_true rfl, Nat.le_of_ble_eq_true rfl⟩ rfl rfl hKN (hP.sub [0, 1, 2, 3, 4] rfl) 13 0 rfl rfl rfl hl.1 rfl (Nat.le_of_ble_eq_true rfl) dX13_worthHeld_37 ⟨Nat.le_of_ble_eq_true rfl, Nat.le_of_ble_eq_true rfl⟩ ?_
    refine lv_isub hx hb dX13_worthHeld_40 ?_
    refine lv_i2l hx hb dX13_worthHeld_41 rfl ?_
    refine lv_lmul hx hb dX13_worthHeld_42 ?_
    refine lv_aload_n hx hb dX13_worthHeld_43 rfl (lv_at hl 1 rfl) ?_
    obtain ⟨r_10, hc_11, h⟩ := bd1_some h
    refine kVl [] [.long (r_4 * ((r_6 - r_8).toInt64))] ⟨hx, hb, hml, hown, hts⟩ (c_X13_whole l D cy a_mo a_wa mo_thrown mo_trouble mo_where (mo_read) (mo_tape) mo_taped mo_size mo_spot mo_sort mo_place mo_number mo_fault mo_wrongAt mo_laneTold mo_word (.ref a_mo_v) (mo_x) (mo_past) (mo_kept) mo_acts mo_marks (mo_put) (mo_bestPut) mo_bestSum (mo_row) (mo_best) (mo_left) mo_bestSize mo_bestLeft (mo_counts) mo_sets mo_foeHarm mo_ownHarm mo_across mo_sumFoe mo_sumOwn mo_sumWon mo_sumAcross wa_lanes wa_deep wa_told wa_beasts wa_cities wa_passes wa_turned wa_names (.ref a_wa_who) (wa_strong) (.ref a_wa_kind) (wa_lane) (wa_mood) (wa_price) (wa_loses) (wa_name) (wa_nameSort) (wa_numberOf) r_10 hc_11) gX13_worthHeld_X13_whole rfl hd_X13_whole ⟨Nat.le_of_ble_eq_true rfl, Nat.le_of_ble_eq_true rfl⟩ rfl rfl hKN (hP.sub [0, 2] rfl) 13 0 rfl rfl rfl hl.1 rfl (Nat.le_of_ble_eq_true rfl) dX13_worthHeld_44 ⟨Nat.le_of_ble_eq_true rfl, Nat.le_of_ble_eq_true rfl⟩ ?_
    refine lv_lload hx hb dX13_worthHeld_47 (lv_at hl 0 rfl) ?_
    refine lv_lsub hx hb dX13_worthHeld_49 ?_
    refine lv_aload_n hx hb dX13_worthHeld_50 rfl (lv_at hl 1 rfl) ?_
    refine lv_iload_n hx hb dX13_worthHeld_51 rfl (lv_at hl 2 rfl) ?_
    obtain ⟨r_12, hc_13, h⟩ := bd1_some h
    refine kVi [.int p1] [.long (r_10 - r_4), .long (r_4 * ((r_6 - r_8).toInt64))] ⟨hx, hb, hml, hown, hts⟩ (c_X13_forceOf l D cy a_mo a_mo_v a_wa a_wa_kind mo_thrown mo_trouble mo_where (mo_read) (mo_tape) mo_taped mo_size mo_spot mo_sort mo_place mo_number mo_fault mo_wrongAt mo_laneTold mo_word (mo_x) (mo_past) (mo_kept) mo_acts mo_marks (mo_put) (mo_bestPut) mo_bestSum (mo_row) (mo_best) (mo_left) mo_bestSize mo_bestLeft (mo_counts) mo_sets mo_foeHarm mo_ownHarm mo_across mo_sumFoe mo_sumOwn mo_sumWon mo_sumAcross mo_v wa_lanes wa_deep wa_told wa_beasts wa_cities wa_passes wa_turned wa_names (.ref a_wa_who) (wa_strong) (wa_lane) (wa_mood) (wa_price) (wa_loses) (wa_name) (wa_nameSort) (wa_numberOf) wa_kind p1 r_12 hc_13) gX13_worthHeld_X13_forceOf rfl hd_X13_forceOf ⟨Nat.le_of_ble_eq_true rfl, Nat.le_of_ble_eq_true rfl⟩ rfl rfl hKN (hP.sub [0, 1, 2, 4] rfl) 13 0 rfl rfl rfl hl.1 rfl (Nat.le_of_ble_eq_true rfl) dX13_worthHeld_52 ⟨Nat.le_of_ble_eq_true rfl, Nat.le_of_ble_eq_true rfl⟩ ?_
    refine lv_iconst (v := 2) hx hb dX13_worthHeld_55 (by decide) ?_
    refine lv_idiv hx hb dX13_worthHeld_56 (by decide) ?_
    refine lv_i2l hx hb dX13_worthHeld_57 rfl ?_
    refine lv_lmul hx hb dX13_worthHeld_58 ?_
    refine lv_lsub hx hb dX13_worthHeld_59 ?_
    exact W.lret (v := (r_4 * ((r_6 - r_8).toInt64)) - ((r_10 - r_4) * ((r_12 / 2).toInt64))) hx hb hr (fun t ht _ => ⟨_, rfl, Option.some.inj h, ht⟩) (fun _ q => by cases q) dX13_worthHeld_60
  · have h := ifF cd h
    refine lv_lconst (v := 0) hx hb dX13_worthHeld_8 (by decide) ?_
    exact W.lret (v := 0) hx hb hr (fun t ht _ => ⟨_, rfl, Option.some.inj h, ht⟩) (fun _ q => by cases q) dX13_worthHeld_9
noncomputable def f_X13_worthIf_B21 (mo_v : Nat → Int32) (wa_lanes : Int32) (wa_deep : Int32) (wa_beasts : Int32) (wa_who : Nat → Int32) (wa_kind : Nat → Int32) (wa_mood : Nat → Int32) (mo_thrown : Int32) (mo_trouble : Int32) (mo_where : Int32) : Option (Int64 × Int32 × Int32 × Int32) :=
  bd3 (f_X13_lost mo_trouble mo_where (1 : Int32)) fun r_4 mo_trouble_5 mo_where_6 =>
  some (r_4, mo_thrown, mo_trouble_5, mo_where_6)
noncomputable def f_X13_worthIf (mo_thrown : Int32) (mo_trouble : Int32) (mo_where : Int32) (mo_v : Nat → Int32) (wa_lanes : Int32) (wa_deep : Int32) (wa_beasts : Int32) (wa_who : Nat → Int32) (wa_kind : Nat → Int32) (wa_mood : Nat → Int32) (p1 : Int32) (p2 : Int32) (p3 : Int32) (p4 : Int32) : Option (Int64 × Int32 × Int32 × Int32) :=
  bd1 (f_X13_isBeast wa_beasts p1) fun r_1 =>
  (if r_1 = 0 then
  f_X13_worthIf_B21 mo_v wa_lanes wa_deep wa_beasts wa_who wa_kind wa_mood 0 mo_trouble mo_where
  else
  bd1 (f_X13_isLane wa_lanes p2) fun r_8 =>
  (if r_8 = 0 then
  f_X13_worthIf_B21 mo_v wa_lanes wa_deep wa_beasts wa_who wa_kind wa_mood 0 mo_trouble mo_where
  else
  gIn p1 5 <|
  bd1 (f_X13_holdBy wa_kind p1 (wa_mood p1.toNatClampNeg) p3) fun r_12 =>
  bd1 (f_X13_worthHeld mo_v wa_deep wa_who wa_kind p1 p2 r_12) fun r_14 =>
  bd1 (f_X13_whole wa_deep) fun r_16 =>
  bd3 (f_X13_fraction mo_trouble mo_where r_14 r_16 p4) fun r_18 mo_trouble_19 mo_where_20 =>
  some (r_18, 0, mo_trouble_19, mo_where_20)))
theorem hd_X13_worthIf : yX13_worthIf.cls = RX13 ∧ yX13_worthIf.cls ≠ "java/lang/invoke/MethodHandle" ∧ yX13_worthIf.cls ≠ "java/lang/invoke/VarHandle" ∧ (parseMethodDescriptor yX13_worthIf.desc).map (fun d => d.parameters.length) = some 4 := by decide +kernel
set_option maxHeartbeats 4000000 in
set_option maxRecDepth 100000 in
theorem c_X13_worthIf (l : Launch) (D : va_G) (cy : Nat → ClassId) (A : Nat → Prop) (X : va_W) (a_mo a_mo_v a_wa a_wa_who a_wa_kind a_wa_mood : Nat) (mo_thrown : Int32) (mo_trouble : Int32) (mo_where : Int32) (mo_read : Value) (mo_tape : Value) (mo_taped : Int32) (mo_size : Int32) (mo_spot : Int32) (mo_sort : Int32) (mo_place : Int32) (mo_number : Int32) (mo_fault : Int32) (mo_wrongAt : Int32) (mo_laneTold : Int32) (mo_word : Int64) (mo_x : Value) (mo_past : Value) (mo_kept : Value) (mo_acts : Int32) (mo_marks : Int32) (mo_put : Value) (mo_bestPut : Value) (mo_bestSum : Int64) (mo_row : Value) (mo_best : Value) (mo_left : Value) (mo_bestSize : Int32) (mo_bestLeft : Int32) (mo_counts : Value) (mo_sets : Int32) (mo_foeHarm : Int32) (mo_ownHarm : Int32) (mo_across : Int32) (mo_sumFoe : Int32) (mo_sumOwn : Int32) (mo_sumWon : Int32) (mo_sumAcross : Int32) (mo_v : Nat → Int32) (wa_lanes : Int32) (wa_deep : Int32) (wa_told : Int32) (wa_beasts : Int32) (wa_cities : Int32) (wa_passes : Int32) (wa_turned : Int32) (wa_names : Int32) (wa_strong : Value) (wa_lane : Value) (wa_price : Value) (wa_loses : Value) (wa_name : Value) (wa_nameSort : Value) (wa_numberOf : Value) (wa_who : Nat → Int32) (wa_kind : Nat → Int32) (wa_mood : Nat → Int32) (p1 : Int32) (p2 : Int32) (p3 : Int32) (p4 : Int32) (res : Int64) (mo_thrown' : Int32) (mo_trouble' : Int32) (mo_where' : Int32) (h : f_X13_worthIf mo_thrown mo_trouble mo_where mo_v wa_lanes wa_deep wa_beasts wa_who wa_kind wa_mood p1 p2 p3 p4 = some (res, mo_thrown', mo_trouble', mo_where')) : Met l yX13_worthIf wo_X13_worthIf ({ frames := 6, cells := 0, slots := 0, locals := 137 }) (wrPc D cy A [.ref a_mo, .int p1, .int p2, .int p3, .int p4] ([(a_mo, .inr (13, [.int mo_thrown, .int mo_trouble, .int mo_where, .ref a_wa, mo_read, mo_tape, .int mo_taped, .int mo_size, .int mo_spot, .int mo_sort, .int mo_place, .int mo_number, .int mo_fault, .int mo_wrongAt, .int mo_laneTold, .long mo_word, .ref a_mo_v, mo_x, mo_past, mo_kept, .int mo_acts, .int mo_marks, mo_put, mo_bestPut, .long mo_bestSum, mo_row, mo_best, mo_left, .int mo_bestSize, .int mo_bestLeft, mo_counts, .int mo_sets, .int mo_foeHarm, .int mo_ownHarm, .int mo_across, .int mo_sumFoe, .int mo_sumOwn, .int mo_sumWon, .int mo_sumAcross])), (a_mo_v, .inl (cy 1, 19, .inl mo_v)), (a_wa, .inr (12, [.int wa_lanes, .int wa_deep, .int wa_told, .int wa_beasts, .int wa_cities, .int wa_passes, .int wa_turned, .int wa_names, .ref a_wa_who, wa_strong, .ref a_wa_kind, wa_lane, .ref a_wa_mood, wa_price, wa_loses, wa_name, wa_nameSort, wa_numberOf])), (a_wa_who, .inl (cy 1, 6, .inl wa_who)), (a_wa_kind, .inl (cy 1, 5, .inl wa_kind)), (a_wa_mood, .inl (cy 1, 5, .inl wa_mood))] ++ X)) (va_Ql (fun (r : Int64) (_ : Unit) => r = res) (wB D A ([(a_mo, .inr (13, [.int mo_thrown', .int mo_trouble', .int mo_where', .ref a_wa, mo_read, mo_tape, .int mo_taped, .int mo_size, .int mo_spot, .int mo_sort, .int mo_place, .int mo_number, .int mo_fault, .int mo_wrongAt, .int mo_laneTold, .long mo_word, .ref a_mo_v, mo_x, mo_past, mo_kept, .int mo_acts, .int mo_marks, mo_put, mo_bestPut, .long mo_bestSum, mo_row, mo_best, mo_left, .int mo_bestSize, .int mo_bestLeft, mo_counts, .int mo_sets, .int mo_foeHarm, .int mo_ownHarm, .int mo_across, .int mo_sumFoe, .int mo_sumOwn, .int mo_sumWon, .int mo_sumAcross])), (a_mo_v, .inl (cy 1, 19, .inl mo_v)), (a_wa, .inr (12, [.int wa_lanes, .int wa_deep, .int wa_told, .int wa_beasts, .int wa_cities, .int wa_passes, .int wa_turned, .int wa_names, .ref a_wa_who, wa_strong, .ref a_wa_kind, wa_lane, .ref a_wa_mood, wa_price, wa_loses, wa_name, wa_nameSort, wa_numberOf])), (a_wa_who, .inl (cy 1, 6, .inl wa_who)), (a_wa_kind, .inl (cy 1, 5, .inl wa_kind)), (a_wa_mood, .inl (cy 1, 5, .inl wa_mood))] ++ X)) A) 0 0 A := by
  refine Met.ofW (cc := cX13_worthIf) (maxL := 5) (ret := (some .long)) (by decide) rfl ?_
  intro p e s m args below meth c s₁ B hml hv
  obtain ⟨rfl, hP, hKN, hD, hA⟩ := hv
  have hK := hKN.1
  have hx := B.exec
  have hb := B.bytes
  have hr := B.returns
  have hts := wt_X13_worthIf hKN.2.2 (([.ref a_mo, .int p1, .int p2, .int p3, .int p4] : List Value).toArray)
  have hown : s.vm.findClass RX13 = some m.cls := findClass_of_methodNamed B.named
  have hlocks := B.notSynchronized
  have hS : va_S A s.heap s.heap [] := va_S.rf
  have hX12 := wc_X12 hKN.2.2 (([.ref a_mo, .int p1, .int p2, .int p3, .int p4] : List Value).toArray)
  have hX13 := wc_X13 hKN.2.2 (([.ref a_mo, .int p1, .int p2, .int p3, .int p4] : List Value).toArray)
  have hl := lv_entry ([.ref a_mo, .int p1, .int p2, .int p3, .int p4]) (n := 5) (Nat.le_of_ble_eq_true rfl)
  rw [lg_entry_eq]
  generalize (lg_sl ([.ref a_mo, .int p1, .int p2, .int p3, .int p4]) ++ List.replicate (5 - (lg_sl ([.ref a_mo, .int p1, .int p2, .int p3, .int p4])).length) Slot.unset).toArray = ls at hl ⊢
  have hl : lv_has ls 5 [(0, .ref a_mo), (1, .int p1), (2, .int p2), (3, .int p3), (4, .int p4)] := hl
  unfold f_X13_worthIf at h
  refine lv_aload_n hx hb dX13_worthIf_0 rfl (lv_at hl 0 rfl) ?_
  refine lv_iconst (v := 0) hx hb dX13_worthIf_1 (by decide) ?_
  refine va_put (D := D) (ci := 13) (C := RX13) (T := TX13) (N := 39) (v := .int 0) (ty := .int) hx hb hX13 (fun _ q => q) tyX13 tyX13_ok nmX13 hown hK hP hD hS 0 rfl rfl 0 (by decide) (hts (.fieldLink RX13 48 "ElephantLineModel" "thrown" "I") (by decide +kernel)) (fun _ h9 => h9) rfl (tyX13_ok 0 (by decide)) rfl rfl (Nat.le_of_ble_eq_true rfl) dX13_worthIf_2 (fun H locs hP hD hS => ?_)
  refine lv_aload_n hx hb dX13_worthIf_5 rfl (lv_at hl 0 rfl) ?_
  refine lv_iload_n hx hb dX13_worthIf_6 rfl (lv_at hl 1 rfl) ?_
  have hP : va_P D vwCl ([(a_mo, .inr (13, [.int 0, .int mo_trouble, .int mo_where, .ref a_wa, mo_read, mo_tape, .int mo_taped, .int mo_size, .int mo_spot, .int mo_sort, .int mo_place, .int mo_number, .int mo_fault, .int mo_wrongAt, .int mo_laneTold, .long mo_word, .ref a_mo_v, mo_x, mo_past, mo_kept, .int mo_acts, .int mo_marks, mo_put, mo_bestPut, .long mo_bestSum, mo_row, mo_best, mo_left, .int mo_bestSize, .int mo_bestLeft, mo_counts, .int mo_sets, .int mo_foeHarm, .int mo_ownHarm, .int mo_across, .int mo_sumFoe, .int mo_sumOwn, .int mo_sumWon, .int mo_sumAcross])), (a_mo_v, .inl (cy 1, 19, .inl mo_v)), (a_wa, .inr (12, [.int wa_lanes, .int wa_deep, .int wa_told, .int wa_beasts, .int wa_cities, .int wa_passes, .int wa_turned, .int wa_names, .ref a_wa_who, wa_strong, .ref a_wa_kind, wa_lane, .ref a_wa_mood, wa_price, wa_loses, wa_name, wa_nameSort, wa_numberOf])), (a_wa_who, .inl (cy 1, 6, .inl wa_who)), (a_wa_kind, .inl (cy 1, 5, .inl wa_kind)), (a_wa_mood, .inl (cy 1, 5, .inl wa_mood))] ++ X) H := hP
  have hD : va_D A ([(a_mo, .inr (13, [.int 0, .int mo_trouble, .int mo_where, .ref a_wa, mo_read, mo_tape, .int mo_taped, .int mo_size, .int mo_spot, .int mo_sort, .int mo_place, .int mo_number, .int mo_fault, .int mo_wrongAt, .int mo_laneTold, .long mo_word, .ref a_mo_v, mo_x, mo_past, mo_kept, .int mo_acts, .int mo_marks, mo_put, mo_bestPut, .long mo_bestSum, mo_row, mo_best, mo_left, .int mo_bestSize, .int mo_bestLeft, mo_counts, .int mo_sets, .int mo_foeHarm, .int mo_ownHarm, .int mo_across, .int mo_sumFoe, .int mo_sumOwn, .int mo_sumWon, .int mo_sumAcross])), (a_mo_v, .inl (cy 1, 19, .inl mo_v)), (a_wa, .inr (12, [.int wa_lanes, .int wa_deep, .int wa_told, .int wa_beasts, .int wa_cities, .int wa_passes, .int wa_turned, .int wa_names, .ref a_wa_who, wa_strong, .ref a_wa_kind, wa_lane, .ref a_wa_mood, wa_price, wa_loses, wa_name, wa_nameSort, wa_numberOf])), (a_wa_who, .inl (cy 1, 6, .inl wa_who)), (a_wa_kind, .inl (cy 1, 5, .inl wa_kind)), (a_wa_mood, .inl (cy 1, 5, .inl wa_mood))] ++ X) := hD
  obtain ⟨r_1, hc_2, h⟩ := bd1_some h
  refine kVb [.int p1] [] ⟨hx, hb, hml, hown, hts⟩ (c_X13_isBeast l D cy a_mo a_wa 0 mo_trouble mo_where (mo_read) (mo_tape) mo_taped mo_size mo_spot mo_sort mo_place mo_number mo_fault mo_wrongAt mo_laneTold mo_word (.ref a_mo_v) (mo_x) (mo_past) (mo_kept) mo_acts mo_marks (mo_put) (mo_bestPut) mo_bestSum (mo_row) (mo_best) (mo_left) mo_bestSize mo_bestLeft (mo_counts) mo_sets mo_foeHarm mo_ownHarm mo_across mo_sumFoe mo_sumOwn mo_sumWon mo_sumAcross wa_lanes wa_deep wa_told wa_beasts wa_cities wa_passes wa_turned wa_names (.ref a_wa_who) (wa_strong) (.ref a_wa_kind) (wa_lane) (.ref a_wa_mood) (wa_price) (wa_loses) (wa_name) (wa_nameSort) (wa_numberOf) p1 r_1 hc_2) gX13_worthIf_X13_isBeast rfl hd_X13_isBeast ⟨Nat.le_of_ble_eq_true rfl, Nat.le_of_ble_eq_true rfl⟩ rfl rfl hKN (pXc hP [0, 2] rfl) 13 0 rfl rfl rfl hl.1 rfl (Nat.le_of_ble_eq_true rfl) dX13_worthIf_7 ⟨Nat.le_of_ble_eq_true rfl, Nat.le_of_ble_eq_true rfl⟩ (fun nb_3 => ?_)
  have jn21 : f_X13_worthIf_B21 mo_v wa_lanes wa_deep wa_beasts wa_who wa_kind wa_mood 0 mo_trouble mo_where = some (res, mo_thrown', mo_trouble', mo_where') → ∀ (H : Heap) (locs : List Loc), va_P D vwCl ([(a_mo, .inr (13, [.int 0, .int mo_trouble, .int mo_where, .ref a_wa, mo_read, mo_tape, .int mo_taped, .int mo_size, .int mo_spot, .int mo_sort, .int mo_place, .int mo_number, .int mo_fault, .int mo_wrongAt, .int mo_laneTold, .long mo_word, .ref a_mo_v, mo_x, mo_past, mo_kept, .int mo_acts, .int mo_marks, mo_put, mo_bestPut, .long mo_bestSum, mo_row, mo_best, mo_left, .int mo_bestSize, .int mo_bestLeft, mo_counts, .int mo_sets, .int mo_foeHarm, .int mo_ownHarm, .int mo_across, .int mo_sumFoe, .int mo_sumOwn, .int mo_sumWon, .int mo_sumAcross])), (a_mo_v, .inl (cy 1, 19, .inl mo_v)), (a_wa, .inr (12, [.int wa_lanes, .int wa_deep, .int wa_told, .int wa_beasts, .int wa_cities, .int wa_passes, .int wa_turned, .int wa_names, .ref a_wa_who, wa_strong, .ref a_wa_kind, wa_lane, .ref a_wa_mood, wa_price, wa_loses, wa_name, wa_nameSort, wa_numberOf])), (a_wa_who, .inl (cy 1, 6, .inl wa_who)), (a_wa_kind, .inl (cy 1, 5, .inl wa_kind)), (a_wa_mood, .inl (cy 1, 5, .inl wa_mood))] ++ X) H → va_D A ([(a_mo, .inr (13, [.int 0, .int mo_trouble, .int mo_where, .ref a_wa, mo_read, mo_tape, .int mo_taped, .int mo_size, .int mo_spot, .int mo_sort, .int mo_place, .int mo_number, .int mo_fault, .int mo_wrongAt, .int mo_laneTold, .long mo_word, .ref a_mo_v, mo_x, mo_past, mo_kept, .int mo_acts, .int mo_marks, mo_put, mo_bestPut, .long mo_bestSum, mo_row, mo_best, mo_left, .int mo_bestSize, .int mo_bestLeft, mo_counts, .int mo_sets, .int mo_foeHarm, .int mo_ownHarm, .int mo_across, .int mo_sumFoe, .int mo_sumOwn, .int mo_sumWon, .int mo_sumAcross])), (a_mo_v, .inl (cy 1, 19, .inl mo_v)), (a_wa, .inr (12, [.int wa_lanes, .int wa_deep, .int wa_told, .int wa_beasts, .int wa_cities, .int wa_passes, .int wa_turned, .int wa_names, .ref a_wa_who, wa_strong, .ref a_wa_kind, wa_lane, .ref a_wa_mood, wa_price, wa_loses, wa_name, wa_nameSort, wa_numberOf])), (a_wa_who, .inl (cy 1, 6, .inl wa_who)), (a_wa_kind, .inl (cy 1, 5, .inl wa_kind)), (a_wa_mood, .inl (cy 1, 5, .inl wa_mood))] ++ X) → va_S A s.heap H locs → ∀ ls : Array Slot, lv_has ls 5 [(0, .ref a_mo)] → W p l e (headSpec wo_X13_worthIf ({ frames := 6, cells := 0, slots := 0, locals := 137 })).room s m (([.ref a_mo, .int p1, .int p2, .int p3, .int p4] : List Value).toArray) below meth c H locs 0 0 (MQ below (va_Ql (fun (r : Int64) (_ : Unit) => r = res) (wB D A ([(a_mo, .inr (13, [.int mo_thrown', .int mo_trouble', .int mo_where', .ref a_wa, mo_read, mo_tape, .int mo_taped, .int mo_size, .int mo_spot, .int mo_sort, .int mo_place, .int mo_number, .int mo_fault, .int mo_wrongAt, .int mo_laneTold, .long mo_word, .ref a_mo_v, mo_x, mo_past, mo_kept, .int mo_acts, .int mo_marks, mo_put, mo_bestPut, .long mo_bestSum, mo_row, mo_best, mo_left, .int mo_bestSize, .int mo_bestLeft, mo_counts, .int mo_sets, .int mo_foeHarm, .int mo_ownHarm, .int mo_across, .int mo_sumFoe, .int mo_sumOwn, .int mo_sumWon, .int mo_sumAcross])), (a_mo_v, .inl (cy 1, 19, .inl mo_v)), (a_wa, .inr (12, [.int wa_lanes, .int wa_deep, .int wa_told, .int wa_beasts, .int wa_cities, .int wa_passes, .int wa_turned, .int wa_names, .ref a_wa_who, wa_strong, .ref a_wa_kind, wa_lane, .ref a_wa_mood, wa_price, wa_loses, wa_name, wa_nameSort, wa_numberOf])), (a_wa_who, .inl (cy 1, 6, .inl wa_who)), (a_wa_kind, .inl (cy 1, 5, .inl wa_kind)), (a_wa_mood, .inl (cy 1, 5, .inl wa_mood))] ++ X)) A) (([.ref a_mo, .int p1, .int p2, .int p3, .int p4] : List Value).toArray) s 0 0 A) (F0 m 21 ls []) := by
    intro h H locs hP hD hS ls hl
    unfold f_X13_worthIf_B21 at h
    refine lv_aload_n hx hb dX13_worthIf_21 rfl (lv_at hl 0 rfl) ?_
    refine lv_iconst (v := 1) hx hb dX13_worthIf_22 (by decide) ?_
    obtain ⟨r_4, mo_trouble_5, mo_where_6, hc_7, h⟩ := bd3_some h
    refine wVl [.int 1] [] ⟨hx, hb, hml, hown, hts⟩ (c_X13_lost l D cy A ([(a_mo_v, .inl (cy 1, 19, .inl mo_v)), (a_wa, .inr (12, [.int wa_lanes, .int wa_deep, .int wa_told, .int wa_beasts, .int wa_cities, .int wa_passes, .int wa_turned, .int wa_names, .ref a_wa_who, wa_strong, .ref a_wa_kind, wa_lane, .ref a_wa_mood, wa_price, wa_loses, wa_name, wa_nameSort, wa_numberOf])), (a_wa_who, .inl (cy 1, 6, .inl wa_who)), (a_wa_kind, .inl (cy 1, 5, .inl wa_kind)), (a_wa_mood, .inl (cy 1, 5, .inl wa_mood))] ++ X) a_mo 0 mo_trouble mo_where (.ref a_wa) (mo_read) (mo_tape) mo_taped mo_size mo_spot mo_sort mo_place mo_number mo_fault mo_wrongAt mo_laneTold mo_word (.ref a_mo_v) (mo_x) (mo_past) (mo_kept) mo_acts mo_marks (mo_put) (mo_bestPut) mo_bestSum (mo_row) (mo_best) (mo_left) mo_bestSize mo_bestLeft (mo_counts) mo_sets mo_foeHarm mo_ownHarm mo_across mo_sumFoe mo_sumOwn mo_sumWon mo_sumAcross (1 : Int32) r_4 mo_trouble_5 mo_where_6 hc_7) gX13_worthIf_X13_lost rfl hd_X13_lost ⟨Nat.le_of_ble_eq_true rfl, Nat.le_of_ble_eq_true rfl⟩ rfl rfl hKN (pX3 hP [0, 1, 2, 3, 4, 5] rfl) (dX3 hD [0, 1, 2, 3, 4, 5] rfl rfl) hS hA 13 0 rfl rfl rfl hl.1 rfl (Nat.le_of_ble_eq_true rfl) dX13_worthIf_23 ⟨Nat.le_of_ble_eq_true rfl, Nat.le_of_ble_eq_true rfl⟩ (fun H locs hP hD hS => ?_)
    have hP := pX4 (L1 := [(a_mo, .inr (13, [.int 0, .int mo_trouble_5, .int mo_where_6, .ref a_wa, mo_read, mo_tape, .int mo_taped, .int mo_size, .int mo_spot, .int mo_sort, .int mo_place, .int mo_number, .int mo_fault, .int mo_wrongAt, .int mo_laneTold, .long mo_word, .ref a_mo_v, mo_x, mo_past, mo_kept, .int mo_acts, .int mo_marks, mo_put, mo_bestPut, .long mo_bestSum, mo_row, mo_best, mo_left, .int mo_bestSize, .int mo_bestLeft, mo_counts, .int mo_sets, .int mo_foeHarm, .int mo_ownHarm, .int mo_across, .int mo_sumFoe, .int mo_sumOwn, .int mo_sumWon, .int mo_sumAcross])), (a_mo_v, .inl (cy 1, 19, .inl mo_v)), (a_wa, .inr (12, [.int wa_lanes, .int wa_deep, .int wa_told, .int wa_beasts, .int wa_cities, .int wa_passes, .int wa_turned, .int wa_names, .ref a_wa_who, wa_strong, .ref a_wa_kind, wa_lane, .ref a_wa_mood, wa_price, wa_loses, wa_name, wa_nameSort, wa_numberOf])), (a_wa_who, .inl (cy 1, 6, .inl wa_who)), (a_wa_kind, .inl (cy 1, 5, .inl wa_kind)), (a_wa_mood, .inl (cy 1, 5, .inl wa_mood))]) hP [0, 1, 2, 3, 4, 5] rfl
    have hD := dX4 (L1 := [(a_mo, .inr (13, [.int 0, .int mo_trouble_5, .int mo_where_6, .ref a_wa, mo_read, mo_tape, .int mo_taped, .int mo_size, .int mo_spot, .int mo_sort, .int mo_place, .int mo_number, .int mo_fault, .int mo_wrongAt, .int mo_laneTold, .long mo_word, .ref a_mo_v, mo_x, mo_past, mo_kept, .int mo_acts, .int mo_marks, mo_put, mo_bestPut, .long mo_bestSum, mo_row, mo_best, mo_left, .int mo_bestSize, .int mo_bestLeft, mo_counts, .int mo_sets, .int mo_foeHarm, .int mo_ownHarm, .int mo_across, .int mo_sumFoe, .int mo_sumOwn, .int mo_sumWon, .int mo_sumAcross])), (a_mo_v, .inl (cy 1, 19, .inl mo_v)), (a_wa, .inr (12, [.int wa_lanes, .int wa_deep, .int wa_told, .int wa_beasts, .int wa_cities, .int wa_passes, .int wa_turned, .int wa_names, .ref a_wa_who, wa_strong, .ref a_wa_kind, wa_lane, .ref a_wa_mood, wa_price, wa_loses, wa_name, wa_nameSort, wa_numberOf])), (a_wa_who, .inl (cy 1, 6, .inl wa_who)), (a_wa_kind, .inl (cy 1, 5, .inl wa_kind)), (a_wa_mood, .inl (cy 1, 5, .inl wa_mood))]) hD [0, 1, 2, 3, 4, 5] rfl rfl
    cases h
    exact W.lret hx hb hr (fun t ht _ => ⟨⟨_, (), rfl, rfl, by rw [ht]; exact hP, hD⟩, hS.F ht⟩) hS.2.2 dX13_worthIf_26
  refine lv_if_eq (tgt := 21) hx hb dX13_worthIf_10 (by decide) (fun cd => ?_) (fun cd => ?_)
  · have h := ifT cd h
    exact jn21 h _ _ hP hD hS _ (lv_sub hl [0] rfl)
  · have h := ifF cd h
    refine lv_aload_n hx hb dX13_worthIf_13 rfl (lv_at hl 0 rfl) ?_
    refine lv_iload_n hx hb dX13_worthIf_14 rfl (lv_at hl 2 rfl) ?_
    obtain ⟨r_8, hc_9, h⟩ := bd1_some h
    refine kVb [.int p2] [] ⟨hx, hb, hml, hown, hts⟩ (c_X13_isLane l D cy a_mo a_wa 0 mo_trouble mo_where (mo_read) (mo_tape) mo_taped mo_size mo_spot mo_sort mo_place mo_number mo_fault mo_wrongAt mo_laneTold mo_word (.ref a_mo_v) (mo_x) (mo_past) (mo_kept) mo_acts mo_marks (mo_put) (mo_bestPut) mo_bestSum (mo_row) (mo_best) (mo_left) mo_bestSize mo_bestLeft (mo_counts) mo_sets mo_foeHarm mo_ownHarm mo_across mo_sumFoe mo_sumOwn mo_sumWon mo_sumAcross wa_lanes wa_deep wa_told wa_beasts wa_cities wa_passes wa_turned wa_names (.ref a_wa_who) (wa_strong) (.ref a_wa_kind) (wa_lane) (.ref a_wa_mood) (wa_price) (wa_loses) (wa_name) (wa_nameSort) (wa_numberOf) p2 r_8 hc_9) gX13_worthIf_X13_isLane rfl hd_X13_isLane ⟨Nat.le_of_ble_eq_true rfl, Nat.le_of_ble_eq_true rfl⟩ rfl rfl hKN (pXc hP [0, 2] rfl) 13 0 rfl rfl rfl hl.1 rfl (Nat.le_of_ble_eq_true rfl) dX13_worthIf_15 ⟨Nat.le_of_ble_eq_true rfl, Nat.le_of_ble_eq_true rfl⟩ (fun nb_10 => ?_)
    refine lv_if_ne (tgt := 27) hx hb dX13_worthIf_18 (by decide) (fun cd => ?_) (fun cd => ?_)
    · have h := ifF cd h
      refine lv_aload_n hx hb dX13_worthIf_27 rfl (lv_at hl 0 rfl) ?_
      refine lv_aload_n hx hb dX13_worthIf_28 rfl (lv_at hl 0 rfl) ?_
      refine lv_iload_n hx hb dX13_worthIf_29 rfl (lv_at hl 1 rfl) ?_
      refine lv_iload_n hx hb dX13_worthIf_30 rfl (lv_at hl 2 rfl) ?_
      refine lv_aload_n hx hb dX13_worthIf_31 rfl (lv_at hl 0 rfl) ?_
      refine lv_iload_n hx hb dX13_worthIf_32 rfl (lv_at hl 1 rfl) ?_
      refine lv_aload_n hx hb dX13_worthIf_33 rfl (lv_at hl 0 rfl) ?_
      refine va_get (D := D) (ci := 13) (C := RX13) (T := TX13) (N := 39) (v := .ref a_wa) hx hb hX13 (fun _ q => q) hown hK hP 0 rfl rfl 3 (by decide) (hts (.fieldLink RX13 301 "ElephantLineModel" "war" "LElephantLineModel$War;") (by decide +kernel)) (fun _ h9 => h9) rfl dX13_worthIf_34 ?_
      refine va_getN (D := D) (ci := 12) (C := RX12) (T := TX12) (N := 18) (v := .ref a_wa_mood) hx hb hX12 (fun _ q => q) hown hK hP 2 rfl rfl 12 (by decide) (va_Nw.use rfl (hKN.2.1.1 ("ElephantLineModel", 275, "ElephantLineModel$War", "mood", "[I", "ElephantLineModel") (List.mem_of_getElem? (i := 79) rfl))) (fun _ h9 => h9) rfl dX13_worthIf_37 ?_
      refine lv_iload_n hx hb dX13_worthIf_40 rfl (lv_at hl 1 rfl) ?_
      obtain ⟨i_11, h⟩ := gIn_some h
      refine va_iald hx hb hK hP 5 1 rfl rfl i_11 dX13_worthIf_41 ?_
      refine lv_iload_n hx hb dX13_worthIf_42 rfl (lv_at hl 3 rfl) ?_
      obtain ⟨r_12, hc_13, h⟩ := bd1_some h
      refine kVi [.int p1, .int (wa_mood p1.toNatClampNeg), .int p3] [.int p2, .int p1, .ref a_mo, .ref a_mo] ⟨hx, hb, hml, hown, hts⟩ (c_X13_holdBy l D cy a_mo a_wa a_wa_kind 0 mo_trouble mo_where (mo_read) (mo_tape) mo_taped mo_size mo_spot mo_sort mo_place mo_number mo_fault mo_wrongAt mo_laneTold mo_word (.ref a_mo_v) (mo_x) (mo_past) (mo_kept) mo_acts mo_marks (mo_put) (mo_bestPut) mo_bestSum (mo_row) (mo_best) (mo_left) mo_bestSize mo_bestLeft (mo_counts) mo_sets mo_foeHarm mo_ownHarm mo_across mo_sumFoe mo_sumOwn mo_sumWon mo_sumAcross wa_lanes wa_deep wa_told wa_beasts wa_cities wa_passes wa_turned wa_names (.ref a_wa_who) (wa_strong) (wa_lane) (.ref a_wa_mood) (wa_price) (wa_loses) (wa_name) (wa_nameSort) (wa_numberOf) wa_kind p1 (wa_mood p1.toNatClampNeg) p3 r_12 hc_13) gX13_worthIf_X13_holdBy rfl hd_X13_holdBy ⟨Nat.le_of_ble_eq_true rfl, Nat.le_of_ble_eq_true rfl⟩ rfl rfl hKN (pXc hP [0, 2, 4] rfl) 13 0 rfl rfl rfl hl.1 rfl (Nat.le_of_ble_eq_true rfl) dX13_worthIf_43 ⟨Nat.le_of_ble_eq_true rfl, Nat.le_of_ble_eq_true rfl⟩ ?_
      obtain ⟨r_14, hc_15, h⟩ := bd1_some h
      refine kVl [.int p1, .int p2, .int r_12] [.ref a_mo] ⟨hx, hb, hml, hown, hts⟩ (c_X13_worthHeld l D cy a_mo a_mo_v a_wa a_wa_who a_wa_kind 0 mo_trouble mo_where (mo_read) (mo_tape) mo_taped mo_size mo_spot mo_sort mo_place mo_number mo_fault mo_wrongAt mo_laneTold mo_word (mo_x) (mo_past) (mo_kept) mo_acts mo_marks (mo_put) (mo_bestPut) mo_bestSum (mo_row) (mo_best) (mo_left) mo_bestSize mo_bestLeft (mo_counts) mo_sets mo_foeHarm mo_ownHarm mo_across mo_sumFoe mo_sumOwn mo_sumWon mo_sumAcross mo_v wa_lanes wa_deep wa_told wa_beasts wa_cities wa_passes wa_turned wa_names (wa_strong) (wa_lane) (.ref a_wa_mood) (wa_price) (wa_loses) (wa_name) (wa_nameSort) (wa_numberOf) wa_who wa_kind p1 p2 r_12 r_14 hc_15) gX13_worthIf_X13_worthHeld rfl hd_X13_worthHeld ⟨Nat.le_of_ble_eq_true rfl, Nat.le_of_ble_eq_true rfl⟩ rfl rfl hKN (pXc hP [0, 1, 2, 3, 4] rfl) 13 0 rfl rfl rfl hl.1 rfl (Nat.le_of_ble_eq_true rfl) dX13_worthIf_46 ⟨Nat.le_of_ble_eq_true rfl, Nat.le_of_ble_eq_true rfl⟩ ?_
      refine lv_aload_n hx hb dX13_worthIf_49 rfl (lv_at hl 0 rfl) ?_
      obtain ⟨r_16, hc_17, h⟩ := bd1_some h
      refine kVl [] [.long r_14, .ref a_mo] ⟨hx, hb, hml, hown, hts⟩ (c_X13_whole l D cy a_mo a_wa 0 mo_trouble mo_where (mo_read) (mo_tape) mo_taped mo_size mo_spot mo_sort mo_place mo_number mo_fault mo_wrongAt mo_laneTold mo_word (.ref a_mo_v) (mo_x) (mo_past) (mo_kept) mo_acts mo_marks (mo_put) (mo_bestPut) mo_bestSum (mo_row) (mo_best) (mo_left) mo_bestSize mo_bestLeft (mo_counts) mo_sets mo_foeHarm mo_ownHarm mo_across mo_sumFoe mo_sumOwn mo_sumWon mo_sumAcross wa_lanes wa_deep wa_told wa_beasts wa_cities wa_passes wa_turned wa_names (.ref a_wa_who) (wa_strong) (.ref a_wa_kind) (wa_lane) (.ref a_wa_mood) (wa_price) (wa_loses) (wa_name) (wa_nameSort) (wa_numberOf) r_16 hc_17) gX13_worthIf_X13_whole rfl hd_X13_whole ⟨Nat.le_of_ble_eq_true rfl, Nat.le_of_ble_eq_true rfl⟩ rfl rfl hKN (pXc hP [0, 2] rfl) 13 0 rfl rfl rfl hl.1 rfl (Nat.le_of_ble_eq_true rfl) dX13_worthIf_50 ⟨Nat.le_of_ble_eq_true rfl, Nat.le_of_ble_eq_true rfl⟩ ?_
      refine lv_iload hx hb dX13_worthIf_53 (lv_at hl 4 rfl) ?_
      obtain ⟨r_18, mo_trouble_19, mo_where_20, hc_21, h⟩ := bd3_some h
      refine wVl [.long r_14, .long r_16, .int p4] [] ⟨hx, hb, hml, hown, hts⟩ (c_X13_fraction l D cy A ([(a_mo_v, .inl (cy 1, 19, .inl mo_v)), (a_wa, .inr (12, [.int wa_lanes, .int wa_deep, .int wa_told, .int wa_beasts, .int wa_cities, .int wa_passes, .int wa_turned, .int wa_names, .ref a_wa_who, wa_strong, .ref a_wa_kind, wa_lane, .ref a_wa_mood, wa_price, wa_loses, wa_name, wa_nameSort, wa_numberOf])), (a_wa_who, .inl (cy 1, 6, .inl wa_who)), (a_wa_kind, .inl (cy 1, 5, .inl wa_kind)), (a_wa_mood, .inl (cy 1, 5, .inl wa_mood))] ++ X) a_mo 0 mo_trouble mo_where (.ref a_wa) (mo_read) (mo_tape) mo_taped mo_size mo_spot mo_sort mo_place mo_number mo_fault mo_wrongAt mo_laneTold mo_word (.ref a_mo_v) (mo_x) (mo_past) (mo_kept) mo_acts mo_marks (mo_put) (mo_bestPut) mo_bestSum (mo_row) (mo_best) (mo_left) mo_bestSize mo_bestLeft (mo_counts) mo_sets mo_foeHarm mo_ownHarm mo_across mo_sumFoe mo_sumOwn mo_sumWon mo_sumAcross r_14 r_16 p4 r_18 mo_trouble_19 mo_where_20 hc_21) gX13_worthIf_X13_fraction rfl hd_X13_fraction ⟨Nat.le_of_ble_eq_true rfl, Nat.le_of_ble_eq_true rfl⟩ rfl rfl hKN (pX3 hP [0, 1, 2, 3, 4, 5] rfl) (dX3 hD [0, 1, 2, 3, 4, 5] rfl rfl) hS hA 13 0 rfl rfl rfl hl.1 rfl (Nat.le_of_ble_eq_true rfl) dX13_worthIf_55 ⟨Nat.le_of_ble_eq_true rfl, Nat.le_of_ble_eq_true rfl⟩ (fun H locs hP hD hS => ?_)
      have hP := pX4 (L1 := [(a_mo, .inr (13, [.int 0, .int mo_trouble_19, .int mo_where_20, .ref a_wa, mo_read, mo_tape, .int mo_taped, .int mo_size, .int mo_spot, .int mo_sort, .int mo_place, .int mo_number, .int mo_fault, .int mo_wrongAt, .int mo_laneTold, .long mo_word, .ref a_mo_v, mo_x, mo_past, mo_kept, .int mo_acts, .int mo_marks, mo_put, mo_bestPut, .long mo_bestSum, mo_row, mo_best, mo_left, .int mo_bestSize, .int mo_bestLeft, mo_counts, .int mo_sets, .int mo_foeHarm, .int mo_ownHarm, .int mo_across, .int mo_sumFoe, .int mo_sumOwn, .int mo_sumWon, .int mo_sumAcross])), (a_mo_v, .inl (cy 1, 19, .inl mo_v)), (a_wa, .inr (12, [.int wa_lanes, .int wa_deep, .int wa_told, .int wa_beasts, .int wa_cities, .int wa_passes, .int wa_turned, .int wa_names, .ref a_wa_who, wa_strong, .ref a_wa_kind, wa_lane, .ref a_wa_mood, wa_price, wa_loses, wa_name, wa_nameSort, wa_numberOf])), (a_wa_who, .inl (cy 1, 6, .inl wa_who)), (a_wa_kind, .inl (cy 1, 5, .inl wa_kind)), (a_wa_mood, .inl (cy 1, 5, .inl wa_mood))]) hP [0, 1, 2, 3, 4, 5] rfl
      have hD := dX4 (L1 := [(a_mo, .inr (13, [.int 0, .int mo_trouble_19, .int mo_where_20, .ref a_wa, mo_read, mo_tape, .int mo_taped, .int mo_size, .int mo_spot, .int mo_sort, .int mo_place, .int mo_number, .int mo_fault, .int mo_wrongAt, .int mo_laneTold, .long mo_word, .ref a_mo_v, mo_x, mo_past, mo_kept, .int mo_acts, .int mo_marks, mo_put, mo_bestPut, .long mo_bestSum, mo_row, mo_best, mo_left, .int mo_bestSize, .int mo_bestLeft, mo_counts, .int mo_sets, .int mo_foeHarm, .int mo_ownHarm, .int mo_across, .int mo_sumFoe, .int mo_sumOwn, .int mo_sumWon, .int mo_sumAcross])), (a_mo_v, .inl (cy 1, 19, .inl mo_v)), (a_wa, .inr (12, [.int wa_lanes, .int wa_deep, .int wa_told, .int wa_beasts, .int wa_cities, .int wa_passes, .int wa_turned, .int wa_names, .ref a_wa_who, wa_strong, .ref a_wa_kind, wa_lane, .ref a_wa_mood, wa_price, wa_loses, wa_name, wa_nameSort, wa_numberOf])), (a_wa_who, .inl (cy 1, 6, .inl wa_who)), (a_wa_kind, .inl (cy 1, 5, .inl wa_kind)), (a_wa_mood, .inl (cy 1, 5, .inl wa_mood))]) hD [0, 1, 2, 3, 4, 5] rfl rfl
      cases h
      exact W.lret hx hb hr (fun t ht _ => ⟨⟨_, (), rfl, rfl, by rw [ht]; exact hP, hD⟩, hS.F ht⟩) hS.2.2 dX13_worthIf_58
    · have h := ifT cd h
      exact jn21 h _ _ hP hD hS _ (lv_sub hl [0] rfl)
noncomputable def f_X13_moodFor_B21 (mo_v : Nat → Int32) (wa_lanes : Int32) (wa_deep : Int32) (wa_beasts : Int32) (wa_who : Nat → Int32) (wa_kind : Nat → Int32) (mo_thrown : Int32) (mo_trouble : Int32) (mo_where : Int32) : Option (Int32 × Int32 × Int32 × Int32) :=
  bd3 (f_X13_refused mo_trouble mo_where (1 : Int32)) fun r_4 mo_trouble_5 mo_where_6 =>
  some (r_4, mo_thrown, mo_trouble_5, mo_where_6)
noncomputable def f_X13_moodFor_B80 (mo_v : Nat → Int32) (wa_lanes : Int32) (wa_deep : Int32) (wa_beasts : Int32) (wa_who : Nat → Int32) (wa_kind : Nat → Int32) (mo_thrown : Int32) (mo_trouble : Int32) (mo_where : Int32) : Option (Int32 × Int32 × Int32 × Int32) :=
  bd3 (f_X13_good mo_trouble mo_where ((-2) : Int32)) fun r_11 mo_trouble_12 mo_where_13 =>
  some (r_11, mo_thrown, mo_trouble_12, mo_where_13)
noncomputable def f_X13_moodFor_B57 (k29 : Int32 → Option (Int32 × Int32 × Int32 × Int32)) (mo_v : Nat → Int32) (wa_lanes : Int32) (wa_deep : Int32) (wa_beasts : Int32) (wa_who : Nat → Int32) (wa_kind : Nat → Int32) (x1 : Int32) (x2 : Int32) (x3 : Int32) (t1 : Int32) (t2 : Int32) (t4 : Int32) (t5 : Int32) (t6 : Int32) (mo_thrown : Int32) (mo_trouble : Int32) (mo_where : Int32) : Option (Int32 × Int32 × Int32 × Int32) :=
  bd1 (f_X13_holdBy wa_kind t4 t5 t6) fun r_15 =>
  bd1 (f_X13_worthHeld mo_v wa_deep wa_who wa_kind t1 t2 r_15) fun r_17 =>
  (if r_17 ≤ 0 then
  k29 (x3 + 1)
  else
  bd3 (f_X13_good mo_trouble mo_where x3) fun r_19 mo_trouble_20 mo_where_21 =>
  some (r_19, mo_thrown, mo_trouble_20, mo_where_21))
noncomputable def f_X13_moodFor_b29 (mo_v : Nat → Int32) (wa_lanes : Int32) (wa_deep : Int32) (wa_beasts : Int32) (wa_who : Nat → Int32) (wa_kind : Nat → Int32) (x1 : Int32) (x2 : Int32) (mo_thrown : Int32) (mo_trouble : Int32) (mo_where : Int32) (k29 : Int32 → Option (Int32 × Int32 × Int32 × Int32)) (x3 : Int32) : Option (Int32 × Int32 × Int32 × Int32) :=
  (if 100 < x3 then
  f_X13_moodFor_B80 mo_v wa_lanes wa_deep wa_beasts wa_who wa_kind mo_thrown mo_trouble mo_where
  else
  (if (mo_v (17 : Int32).toNatClampNeg) = 1 then
  f_X13_moodFor_B57 k29 mo_v wa_lanes wa_deep wa_beasts wa_who wa_kind x1 x2 x3 x1 x2 x1 x3 1 mo_thrown mo_trouble mo_where
  else
  f_X13_moodFor_B57 k29 mo_v wa_lanes wa_deep wa_beasts wa_who wa_kind x1 x2 x3 x1 x2 x1 x3 0 mo_thrown mo_trouble mo_where))
noncomputable def f_X13_moodFor_L29 (mo_v : Nat → Int32) (wa_lanes : Int32) (wa_deep : Int32) (wa_beasts : Int32) (wa_who : Nat → Int32) (wa_kind : Nat → Int32) (x1 : Int32) (x2 : Int32) (mo_thrown : Int32) (mo_trouble : Int32) (mo_where : Int32) : Nat → Int32 → Option (Int32 × Int32 × Int32 × Int32)
  | 0 => fun _ => none
  | n + 1 => f_X13_moodFor_b29 mo_v wa_lanes wa_deep wa_beasts wa_who wa_kind x1 x2 mo_thrown mo_trouble mo_where (f_X13_moodFor_L29 mo_v wa_lanes wa_deep wa_beasts wa_who wa_kind x1 x2 mo_thrown mo_trouble mo_where n)
noncomputable def f_X13_moodFor (mo_thrown : Int32) (mo_trouble : Int32) (mo_where : Int32) (mo_v : Nat → Int32) (wa_lanes : Int32) (wa_deep : Int32) (wa_beasts : Int32) (wa_who : Nat → Int32) (wa_kind : Nat → Int32) (p1 : Int32) (p2 : Int32) : Option (Int32 × Int32 × Int32 × Int32) :=
  bd1 (f_X13_isBeast wa_beasts p1) fun r_1 =>
  (if r_1 = 0 then
  f_X13_moodFor_B21 mo_v wa_lanes wa_deep wa_beasts wa_who wa_kind 0 mo_trouble mo_where
  else
  bd1 (f_X13_isLane wa_lanes p2) fun r_8 =>
  (if r_8 = 0 then
  f_X13_moodFor_B21 mo_v wa_lanes wa_deep wa_beasts wa_who wa_kind 0 mo_trouble mo_where
  else
  f_X13_moodFor_L29 mo_v wa_lanes wa_deep wa_beasts wa_who wa_kind p1 p2 0 mo_trouble mo_where fuelN 0))
theorem hd_X13_moodFor : yX13_moodFor.cls = RX13 ∧ yX13_moodFor.cls ≠ "java/lang/invoke/MethodHandle" ∧ yX13_moodFor.cls ≠ "java/lang/invoke/VarHandle" ∧ (parseMethodDescriptor yX13_moodFor.desc).map (fun d => d.parameters.length) = some 2 := by decide +kernel
set_option maxHeartbeats 4000000 in
set_option maxRecDepth 100000 in
theorem c_X13_moodFor (l : Launch) (D : va_G) (cy : Nat → ClassId) (A : Nat → Prop) (X : va_W) (a_mo a_mo_v a_wa a_wa_who a_wa_kind : Nat) (mo_thrown : Int32) (mo_trouble : Int32) (mo_where : Int32) (mo_read : Value) (mo_tape : Value) (mo_taped : Int32) (mo_size : Int32) (mo_spot : Int32) (mo_sort : Int32) (mo_place : Int32) (mo_number : Int32) (mo_fault : Int32) (mo_wrongAt : Int32) (mo_laneTold : Int32) (mo_word : Int64) (mo_x : Value) (mo_past : Value) (mo_kept : Value) (mo_acts : Int32) (mo_marks : Int32) (mo_put : Value) (mo_bestPut : Value) (mo_bestSum : Int64) (mo_row : Value) (mo_best : Value) (mo_left : Value) (mo_bestSize : Int32) (mo_bestLeft : Int32) (mo_counts : Value) (mo_sets : Int32) (mo_foeHarm : Int32) (mo_ownHarm : Int32) (mo_across : Int32) (mo_sumFoe : Int32) (mo_sumOwn : Int32) (mo_sumWon : Int32) (mo_sumAcross : Int32) (mo_v : Nat → Int32) (wa_lanes : Int32) (wa_deep : Int32) (wa_told : Int32) (wa_beasts : Int32) (wa_cities : Int32) (wa_passes : Int32) (wa_turned : Int32) (wa_names : Int32) (wa_strong : Value) (wa_lane : Value) (wa_mood : Value) (wa_price : Value) (wa_loses : Value) (wa_name : Value) (wa_nameSort : Value) (wa_numberOf : Value) (wa_who : Nat → Int32) (wa_kind : Nat → Int32) (p1 : Int32) (p2 : Int32) (res : Int32) (mo_thrown' : Int32) (mo_trouble' : Int32) (mo_where' : Int32) (h : f_X13_moodFor mo_thrown mo_trouble mo_where mo_v wa_lanes wa_deep wa_beasts wa_who wa_kind p1 p2 = some (res, mo_thrown', mo_trouble', mo_where')) : Met l yX13_moodFor wo_X13_moodFor ({ frames := 6, cells := 0, slots := 0, locals := 137 }) (wrPc D cy A [.ref a_mo, .int p1, .int p2] ([(a_mo, .inr (13, [.int mo_thrown, .int mo_trouble, .int mo_where, .ref a_wa, mo_read, mo_tape, .int mo_taped, .int mo_size, .int mo_spot, .int mo_sort, .int mo_place, .int mo_number, .int mo_fault, .int mo_wrongAt, .int mo_laneTold, .long mo_word, .ref a_mo_v, mo_x, mo_past, mo_kept, .int mo_acts, .int mo_marks, mo_put, mo_bestPut, .long mo_bestSum, mo_row, mo_best, mo_left, .int mo_bestSize, .int mo_bestLeft, mo_counts, .int mo_sets, .int mo_foeHarm, .int mo_ownHarm, .int mo_across, .int mo_sumFoe, .int mo_sumOwn, .int mo_sumWon, .int mo_sumAcross])), (a_mo_v, .inl (cy 1, 19, .inl mo_v)), (a_wa, .inr (12, [.int wa_lanes, .int wa_deep, .int wa_told, .int wa_beasts, .int wa_cities, .int wa_passes, .int wa_turned, .int wa_names, .ref a_wa_who, wa_strong, .ref a_wa_kind, wa_lane, wa_mood, wa_price, wa_loses, wa_name, wa_nameSort, wa_numberOf])), (a_wa_who, .inl (cy 1, 6, .inl wa_who)), (a_wa_kind, .inl (cy 1, 5, .inl wa_kind))] ++ X)) (va_Qi (fun (r : Int32) (_ : Unit) => r = res) (wB D A ([(a_mo, .inr (13, [.int mo_thrown', .int mo_trouble', .int mo_where', .ref a_wa, mo_read, mo_tape, .int mo_taped, .int mo_size, .int mo_spot, .int mo_sort, .int mo_place, .int mo_number, .int mo_fault, .int mo_wrongAt, .int mo_laneTold, .long mo_word, .ref a_mo_v, mo_x, mo_past, mo_kept, .int mo_acts, .int mo_marks, mo_put, mo_bestPut, .long mo_bestSum, mo_row, mo_best, mo_left, .int mo_bestSize, .int mo_bestLeft, mo_counts, .int mo_sets, .int mo_foeHarm, .int mo_ownHarm, .int mo_across, .int mo_sumFoe, .int mo_sumOwn, .int mo_sumWon, .int mo_sumAcross])), (a_mo_v, .inl (cy 1, 19, .inl mo_v)), (a_wa, .inr (12, [.int wa_lanes, .int wa_deep, .int wa_told, .int wa_beasts, .int wa_cities, .int wa_passes, .int wa_turned, .int wa_names, .ref a_wa_who, wa_strong, .ref a_wa_kind, wa_lane, wa_mood, wa_price, wa_loses, wa_name, wa_nameSort, wa_numberOf])), (a_wa_who, .inl (cy 1, 6, .inl wa_who)), (a_wa_kind, .inl (cy 1, 5, .inl wa_kind))] ++ X)) A) 0 0 A := by
  refine Met.ofW (cc := cX13_moodFor) (maxL := 4) (ret := (some .int)) (by decide) rfl ?_
  intro p e s m args below meth c s₁ B hml hv
  obtain ⟨rfl, hP, hKN, hD, hA⟩ := hv
  have hK := hKN.1
  have hx := B.exec
  have hb := B.bytes
  have hr := B.returns
  have hts := wt_X13_moodFor hKN.2.2 (([.ref a_mo, .int p1, .int p2] : List Value).toArray)
  have hown : s.vm.findClass RX13 = some m.cls := findClass_of_methodNamed B.named
  have hlocks := B.notSynchronized
  have hS : va_S A s.heap s.heap [] := va_S.rf
  have hX13 := wc_X13 hKN.2.2 (([.ref a_mo, .int p1, .int p2] : List Value).toArray)
  have hl := lv_entry ([.ref a_mo, .int p1, .int p2]) (n := 4) (Nat.le_of_ble_eq_true rfl)
  rw [lg_entry_eq]
  generalize (lg_sl ([.ref a_mo, .int p1, .int p2]) ++ List.replicate (4 - (lg_sl ([.ref a_mo, .int p1, .int p2])).length) Slot.unset).toArray = ls at hl ⊢
  have hl : lv_has ls 4 [(0, .ref a_mo), (1, .int p1), (2, .int p2)] := hl
  unfold f_X13_moodFor at h
  refine lv_aload_n hx hb dX13_moodFor_0 rfl (lv_at hl 0 rfl) ?_
  refine lv_iconst (v := 0) hx hb dX13_moodFor_1 (by decide) ?_
  refine va_put (D := D) (ci := 13) (C := RX13) (T := TX13) (N := 39) (v := .int 0) (ty := .int) hx hb hX13 (fun _ q => q) tyX13 tyX13_ok nmX13 hown hK hP hD hS 0 rfl rfl 0 (by decide) (hts (.fieldLink RX13 48 "ElephantLineModel" "thrown" "I") (by decide +kernel)) (fun _ h9 => h9) rfl (tyX13_ok 0 (by decide)) rfl rfl (Nat.le_of_ble_eq_true rfl) dX13_moodFor_2 (fun H locs hP hD hS => ?_)
  refine lv_aload_n hx hb dX13_moodFor_5 rfl (lv_at hl 0 rfl) ?_
  refine lv_iload_n hx hb dX13_moodFor_6 rfl (lv_at hl 1 rfl) ?_
  have hP : va_P D vwCl ([(a_mo, .inr (13, [.int 0, .int mo_trouble, .int mo_where, .ref a_wa, mo_read, mo_tape, .int mo_taped, .int mo_size, .int mo_spot, .int mo_sort, .int mo_place, .int mo_number, .int mo_fault, .int mo_wrongAt, .int mo_laneTold, .long mo_word, .ref a_mo_v, mo_x, mo_past, mo_kept, .int mo_acts, .int mo_marks, mo_put, mo_bestPut, .long mo_bestSum, mo_row, mo_best, mo_left, .int mo_bestSize, .int mo_bestLeft, mo_counts, .int mo_sets, .int mo_foeHarm, .int mo_ownHarm, .int mo_across, .int mo_sumFoe, .int mo_sumOwn, .int mo_sumWon, .int mo_sumAcross])), (a_mo_v, .inl (cy 1, 19, .inl mo_v)), (a_wa, .inr (12, [.int wa_lanes, .int wa_deep, .int wa_told, .int wa_beasts, .int wa_cities, .int wa_passes, .int wa_turned, .int wa_names, .ref a_wa_who, wa_strong, .ref a_wa_kind, wa_lane, wa_mood, wa_price, wa_loses, wa_name, wa_nameSort, wa_numberOf])), (a_wa_who, .inl (cy 1, 6, .inl wa_who)), (a_wa_kind, .inl (cy 1, 5, .inl wa_kind))] ++ X) H := hP
  have hD : va_D A ([(a_mo, .inr (13, [.int 0, .int mo_trouble, .int mo_where, .ref a_wa, mo_read, mo_tape, .int mo_taped, .int mo_size, .int mo_spot, .int mo_sort, .int mo_place, .int mo_number, .int mo_fault, .int mo_wrongAt, .int mo_laneTold, .long mo_word, .ref a_mo_v, mo_x, mo_past, mo_kept, .int mo_acts, .int mo_marks, mo_put, mo_bestPut, .long mo_bestSum, mo_row, mo_best, mo_left, .int mo_bestSize, .int mo_bestLeft, mo_counts, .int mo_sets, .int mo_foeHarm, .int mo_ownHarm, .int mo_across, .int mo_sumFoe, .int mo_sumOwn, .int mo_sumWon, .int mo_sumAcross])), (a_mo_v, .inl (cy 1, 19, .inl mo_v)), (a_wa, .inr (12, [.int wa_lanes, .int wa_deep, .int wa_told, .int wa_beasts, .int wa_cities, .int wa_passes, .int wa_turned, .int wa_names, .ref a_wa_who, wa_strong, .ref a_wa_kind, wa_lane, wa_mood, wa_price, wa_loses, wa_name, wa_nameSort, wa_numberOf])), (a_wa_who, .inl (cy 1, 6, .inl wa_who)), (a_wa_kind, .inl (cy 1, 5, .inl wa_kind))] ++ X) := hD
  obtain ⟨r_1, hc_2, h⟩ := bd1_some h
  refine kVb [.int p1] [] ⟨hx, hb, hml, hown, hts⟩ (c_X13_isBeast l D cy a_mo a_wa 0 mo_trouble mo_where (mo_read) (mo_tape) mo_taped mo_size mo_spot mo_sort mo_place mo_number mo_fault mo_wrongAt mo_laneTold mo_word (.ref a_mo_v) (mo_x) (mo_past) (mo_kept) mo_acts mo_marks (mo_put) (mo_bestPut) mo_bestSum (mo_row) (mo_best) (mo_left) mo_bestSize mo_bestLeft (mo_counts) mo_sets mo_foeHarm mo_ownHarm mo_across mo_sumFoe mo_sumOwn mo_sumWon mo_sumAcross wa_lanes wa_deep wa_told wa_beasts wa_cities wa_passes wa_turned wa_names (.ref a_wa_who) (wa_strong) (.ref a_wa_kind) (wa_lane) (wa_mood) (wa_price) (wa_loses) (wa_name) (wa_nameSort) (wa_numberOf) p1 r_1 hc_2) gX13_moodFor_X13_isBeast rfl hd_X13_isBeast ⟨Nat.le_of_ble_eq_true rfl, Nat.le_of_ble_eq_true rfl⟩ rfl rfl hKN (pXc hP [0, 2] rfl) 13 0 rfl rfl rfl hl.1 rfl (Nat.le_of_ble_eq_true rfl) dX13_moodFor_7 ⟨Nat.le_of_ble_eq_true rfl, Nat.le_of_ble_eq_true rfl⟩ (fun nb_3 => ?_)
  have jn21 : f_X13_moodFor_B21 mo_v wa_lanes wa_deep wa_beasts wa_who wa_kind 0 mo_trouble mo_where = some (res, mo_thrown', mo_trouble', mo_where') → ∀ (H : Heap) (locs : List Loc), va_P D vwCl ([(a_mo, .inr (13, [.int 0, .int mo_trouble, .int mo_where, .ref a_wa, mo_read, mo_tape, .int mo_taped, .int mo_size, .int mo_spot, .int mo_sort, .int mo_place, .int mo_number, .int mo_fault, .int mo_wrongAt, .int mo_laneTold, .long mo_word, .ref a_mo_v, mo_x, mo_past, mo_kept, .int mo_acts, .int mo_marks, mo_put, mo_bestPut, .long mo_bestSum, mo_row, mo_best, mo_left, .int mo_bestSize, .int mo_bestLeft, mo_counts, .int mo_sets, .int mo_foeHarm, .int mo_ownHarm, .int mo_across, .int mo_sumFoe, .int mo_sumOwn, .int mo_sumWon, .int mo_sumAcross])), (a_mo_v, .inl (cy 1, 19, .inl mo_v)), (a_wa, .inr (12, [.int wa_lanes, .int wa_deep, .int wa_told, .int wa_beasts, .int wa_cities, .int wa_passes, .int wa_turned, .int wa_names, .ref a_wa_who, wa_strong, .ref a_wa_kind, wa_lane, wa_mood, wa_price, wa_loses, wa_name, wa_nameSort, wa_numberOf])), (a_wa_who, .inl (cy 1, 6, .inl wa_who)), (a_wa_kind, .inl (cy 1, 5, .inl wa_kind))] ++ X) H → va_D A ([(a_mo, .inr (13, [.int 0, .int mo_trouble, .int mo_where, .ref a_wa, mo_read, mo_tape, .int mo_taped, .int mo_size, .int mo_spot, .int mo_sort, .int mo_place, .int mo_number, .int mo_fault, .int mo_wrongAt, .int mo_laneTold, .long mo_word, .ref a_mo_v, mo_x, mo_past, mo_kept, .int mo_acts, .int mo_marks, mo_put, mo_bestPut, .long mo_bestSum, mo_row, mo_best, mo_left, .int mo_bestSize, .int mo_bestLeft, mo_counts, .int mo_sets, .int mo_foeHarm, .int mo_ownHarm, .int mo_across, .int mo_sumFoe, .int mo_sumOwn, .int mo_sumWon, .int mo_sumAcross])), (a_mo_v, .inl (cy 1, 19, .inl mo_v)), (a_wa, .inr (12, [.int wa_lanes, .int wa_deep, .int wa_told, .int wa_beasts, .int wa_cities, .int wa_passes, .int wa_turned, .int wa_names, .ref a_wa_who, wa_strong, .ref a_wa_kind, wa_lane, wa_mood, wa_price, wa_loses, wa_name, wa_nameSort, wa_numberOf])), (a_wa_who, .inl (cy 1, 6, .inl wa_who)), (a_wa_kind, .inl (cy 1, 5, .inl wa_kind))] ++ X) → va_S A s.heap H locs → ∀ ls : Array Slot, lv_has ls 4 [(0, .ref a_mo)] → W p l e (headSpec wo_X13_moodFor ({ frames := 6, cells := 0, slots := 0, locals := 137 })).room s m (([.ref a_mo, .int p1, .int p2] : List Value).toArray) below meth c H locs 0 0 (MQ below (va_Qi (fun (r : Int32) (_ : Unit) => r = res) (wB D A ([(a_mo, .inr (13, [.int mo_thrown', .int mo_trouble', .int mo_where', .ref a_wa, mo_read, mo_tape, .int mo_taped, .int mo_size, .int mo_spot, .int mo_sort, .int mo_place, .int mo_number, .int mo_fault, .int mo_wrongAt, .int mo_laneTold, .long mo_word, .ref a_mo_v, mo_x, mo_past, mo_kept, .int mo_acts, .int mo_marks, mo_put, mo_bestPut, .long mo_bestSum, mo_row, mo_best, mo_left, .int mo_bestSize, .int mo_bestLeft, mo_counts, .int mo_sets, .int mo_foeHarm, .int mo_ownHarm, .int mo_across, .int mo_sumFoe, .int mo_sumOwn, .int mo_sumWon, .int mo_sumAcross])), (a_mo_v, .inl (cy 1, 19, .inl mo_v)), (a_wa, .inr (12, [.int wa_lanes, .int wa_deep, .int wa_told, .int wa_beasts, .int wa_cities, .int wa_passes, .int wa_turned, .int wa_names, .ref a_wa_who, wa_strong, .ref a_wa_kind, wa_lane, wa_mood, wa_price, wa_loses, wa_name, wa_nameSort, wa_numberOf])), (a_wa_who, .inl (cy 1, 6, .inl wa_who)), (a_wa_kind, .inl (cy 1, 5, .inl wa_kind))] ++ X)) A) (([.ref a_mo, .int p1, .int p2] : List Value).toArray) s 0 0 A) (F0 m 21 ls []) := by
    intro h H locs hP hD hS ls hl
    unfold f_X13_moodFor_B21 at h
    refine lv_aload_n hx hb dX13_moodFor_21 rfl (lv_at hl 0 rfl) ?_
    refine lv_iconst (v := 1) hx hb dX13_moodFor_22 (by decide) ?_
    obtain ⟨r_4, mo_trouble_5, mo_where_6, hc_7, h⟩ := bd3_some h
    refine wVi [.int 1] [] ⟨hx, hb, hml, hown, hts⟩ (c_X13_refused l D cy A ([(a_mo_v, .inl (cy 1, 19, .inl mo_v)), (a_wa, .inr (12, [.int wa_lanes, .int wa_deep, .int wa_told, .int wa_beasts, .int wa_cities, .int wa_passes, .int wa_turned, .int wa_names, .ref a_wa_who, wa_strong, .ref a_wa_kind, wa_lane, wa_mood, wa_price, wa_loses, wa_name, wa_nameSort, wa_numberOf])), (a_wa_who, .inl (cy 1, 6, .inl wa_who)), (a_wa_kind, .inl (cy 1, 5, .inl wa_kind))] ++ X) a_mo 0 mo_trouble mo_where (.ref a_wa) (mo_read) (mo_tape) mo_taped mo_size mo_spot mo_sort mo_place mo_number mo_fault mo_wrongAt mo_laneTold mo_word (.ref a_mo_v) (mo_x) (mo_past) (mo_kept) mo_acts mo_marks (mo_put) (mo_bestPut) mo_bestSum (mo_row) (mo_best) (mo_left) mo_bestSize mo_bestLeft (mo_counts) mo_sets mo_foeHarm mo_ownHarm mo_across mo_sumFoe mo_sumOwn mo_sumWon mo_sumAcross (1 : Int32) r_4 mo_trouble_5 mo_where_6 hc_7) gX13_moodFor_X13_refused rfl hd_X13_refused ⟨Nat.le_of_ble_eq_true rfl, Nat.le_of_ble_eq_true rfl⟩ rfl rfl hKN (pX3 hP [0, 1, 2, 3, 4] rfl) (dX3 hD [0, 1, 2, 3, 4] rfl rfl) hS hA 13 0 rfl rfl rfl hl.1 rfl (Nat.le_of_ble_eq_true rfl) dX13_moodFor_23 ⟨Nat.le_of_ble_eq_true rfl, Nat.le_of_ble_eq_true rfl⟩ (fun H locs hP hD hS => ?_)
    have hP := pX4 (L1 := [(a_mo, .inr (13, [.int 0, .int mo_trouble_5, .int mo_where_6, .ref a_wa, mo_read, mo_tape, .int mo_taped, .int mo_size, .int mo_spot, .int mo_sort, .int mo_place, .int mo_number, .int mo_fault, .int mo_wrongAt, .int mo_laneTold, .long mo_word, .ref a_mo_v, mo_x, mo_past, mo_kept, .int mo_acts, .int mo_marks, mo_put, mo_bestPut, .long mo_bestSum, mo_row, mo_best, mo_left, .int mo_bestSize, .int mo_bestLeft, mo_counts, .int mo_sets, .int mo_foeHarm, .int mo_ownHarm, .int mo_across, .int mo_sumFoe, .int mo_sumOwn, .int mo_sumWon, .int mo_sumAcross])), (a_mo_v, .inl (cy 1, 19, .inl mo_v)), (a_wa, .inr (12, [.int wa_lanes, .int wa_deep, .int wa_told, .int wa_beasts, .int wa_cities, .int wa_passes, .int wa_turned, .int wa_names, .ref a_wa_who, wa_strong, .ref a_wa_kind, wa_lane, wa_mood, wa_price, wa_loses, wa_name, wa_nameSort, wa_numberOf])), (a_wa_who, .inl (cy 1, 6, .inl wa_who)), (a_wa_kind, .inl (cy 1, 5, .inl wa_kind))]) hP [0, 1, 2, 3, 4] rfl
    have hD := dX4 (L1 := [(a_mo, .inr (13, [.int 0, .int mo_trouble_5, .int mo_where_6, .ref a_wa, mo_read, mo_tape, .int mo_taped, .int mo_size, .int mo_spot, .int mo_sort, .int mo_place, .int mo_number, .int mo_fault, .int mo_wrongAt, .int mo_laneTold, .long mo_word, .ref a_mo_v, mo_x, mo_past, mo_kept, .int mo_acts, .int mo_marks, mo_put, mo_bestPut, .long mo_bestSum, mo_row, mo_best, mo_left, .int mo_bestSize, .int mo_bestLeft, mo_counts, .int mo_sets, .int mo_foeHarm, .int mo_ownHarm, .int mo_across, .int mo_sumFoe, .int mo_sumOwn, .int mo_sumWon, .int mo_sumAcross])), (a_mo_v, .inl (cy 1, 19, .inl mo_v)), (a_wa, .inr (12, [.int wa_lanes, .int wa_deep, .int wa_told, .int wa_beasts, .int wa_cities, .int wa_passes, .int wa_turned, .int wa_names, .ref a_wa_who, wa_strong, .ref a_wa_kind, wa_lane, wa_mood, wa_price, wa_loses, wa_name, wa_nameSort, wa_numberOf])), (a_wa_who, .inl (cy 1, 6, .inl wa_who)), (a_wa_kind, .inl (cy 1, 5, .inl wa_kind))]) hD [0, 1, 2, 3, 4] rfl rfl
    cases h
    exact W.iret hx hb hr (fun t ht _ => ⟨⟨_, (), rfl, rfl, by rw [ht]; exact hP, hD⟩, hS.F ht⟩) hS.2.2 dX13_moodFor_26
  refine lv_if_eq (tgt := 21) hx hb dX13_moodFor_10 (by decide) (fun cd => ?_) (fun cd => ?_)
  · have h := ifT cd h
    exact jn21 h _ _ hP hD hS _ (lv_sub hl [0] rfl)
  · have h := ifF cd h
    refine lv_aload_n hx hb dX13_moodFor_13 rfl (lv_at hl 0 rfl) ?_
    refine lv_iload_n hx hb dX13_moodFor_14 rfl (lv_at hl 2 rfl) ?_
    obtain ⟨r_8, hc_9, h⟩ := bd1_some h
    refine kVb [.int p2] [] ⟨hx, hb, hml, hown, hts⟩ (c_X13_isLane l D cy a_mo a_wa 0 mo_trouble mo_where (mo_read) (mo_tape) mo_taped mo_size mo_spot mo_sort mo_place mo_number mo_fault mo_wrongAt mo_laneTold mo_word (.ref a_mo_v) (mo_x) (mo_past) (mo_kept) mo_acts mo_marks (mo_put) (mo_bestPut) mo_bestSum (mo_row) (mo_best) (mo_left) mo_bestSize mo_bestLeft (mo_counts) mo_sets mo_foeHarm mo_ownHarm mo_across mo_sumFoe mo_sumOwn mo_sumWon mo_sumAcross wa_lanes wa_deep wa_told wa_beasts wa_cities wa_passes wa_turned wa_names (.ref a_wa_who) (wa_strong) (.ref a_wa_kind) (wa_lane) (wa_mood) (wa_price) (wa_loses) (wa_name) (wa_nameSort) (wa_numberOf) p2 r_8 hc_9) gX13_moodFor_X13_isLane rfl hd_X13_isLane ⟨Nat.le_of_ble_eq_true rfl, Nat.le_of_ble_eq_true rfl⟩ rfl rfl hKN (pXc hP [0, 2] rfl) 13 0 rfl rfl rfl hl.1 rfl (Nat.le_of_ble_eq_true rfl) dX13_moodFor_15 ⟨Nat.le_of_ble_eq_true rfl, Nat.le_of_ble_eq_true rfl⟩ (fun nb_10 => ?_)
    refine lv_if_ne (tgt := 27) hx hb dX13_moodFor_18 (by decide) (fun cd => ?_) (fun cd => ?_)
    · have h := ifF cd h
      refine lv_iconst (v := 0) hx hb dX13_moodFor_27 (by decide) ?_
      refine lv_istore_n (lv' := [(3, .int 0), (0, .ref a_mo), (1, .int p1), (2, .int p2)]) hx hb dX13_moodFor_28 rfl hl (by decide) rfl (fun ls hl => ?_)
      have jn80 : f_X13_moodFor_B80 mo_v wa_lanes wa_deep wa_beasts wa_who wa_kind 0 mo_trouble mo_where = some (res, mo_thrown', mo_trouble', mo_where') → ∀ (H : Heap) (locs : List Loc), va_P D vwCl ([(a_mo, .inr (13, [.int 0, .int mo_trouble, .int mo_where, .ref a_wa, mo_read, mo_tape, .int mo_taped, .int mo_size, .int mo_spot, .int mo_sort, .int mo_place, .int mo_number, .int mo_fault, .int mo_wrongAt, .int mo_laneTold, .long mo_word, .ref a_mo_v, mo_x, mo_past, mo_kept, .int mo_acts, .int mo_marks, mo_put, mo_bestPut, .long mo_bestSum, mo_row, mo_best, mo_left, .int mo_bestSize, .int mo_bestLeft, mo_counts, .int mo_sets, .int mo_foeHarm, .int mo_ownHarm, .int mo_across, .int mo_sumFoe, .int mo_sumOwn, .int mo_sumWon, .int mo_sumAcross])), (a_mo_v, .inl (cy 1, 19, .inl mo_v)), (a_wa, .inr (12, [.int wa_lanes, .int wa_deep, .int wa_told, .int wa_beasts, .int wa_cities, .int wa_passes, .int wa_turned, .int wa_names, .ref a_wa_who, wa_strong, .ref a_wa_kind, wa_lane, wa_mood, wa_price, wa_loses, wa_name, wa_nameSort, wa_numberOf])), (a_wa_who, .inl (cy 1, 6, .inl wa_who)), (a_wa_kind, .inl (cy 1, 5, .inl wa_kind))] ++ X) H → va_D A ([(a_mo, .inr (13, [.int 0, .int mo_trouble, .int mo_where, .ref a_wa, mo_read, mo_tape, .int mo_taped, .int mo_size, .int mo_spot, .int mo_sort, .int mo_place, .int mo_number, .int mo_fault, .int mo_wrongAt, .int mo_laneTold, .long mo_word, .ref a_mo_v, mo_x, mo_past, mo_kept, .int mo_acts, .int mo_marks, mo_put, mo_bestPut, .long mo_bestSum, mo_row, mo_best, mo_left, .int mo_bestSize, .int mo_bestLeft, mo_counts, .int mo_sets, .int mo_foeHarm, .int mo_ownHarm, .int mo_across, .int mo_sumFoe, .int mo_sumOwn, .int mo_sumWon, .int mo_sumAcross])), (a_mo_v, .inl (cy 1, 19, .inl mo_v)), (a_wa, .inr (12, [.int wa_lanes, .int wa_deep, .int wa_told, .int wa_beasts, .int wa_cities, .int wa_passes, .int wa_turned, .int wa_names, .ref a_wa_who, wa_strong, .ref a_wa_kind, wa_lane, wa_mood, wa_price, wa_loses, wa_name, wa_nameSort, wa_numberOf])), (a_wa_who, .inl (cy 1, 6, .inl wa_who)), (a_wa_kind, .inl (cy 1, 5, .inl wa_kind))] ++ X) → va_S A s.heap H locs → ∀ ls : Array Slot, lv_has ls 4 [(0, .ref a_mo)] → W p l e (headSpec wo_X13_moodFor ({ frames := 6, cells := 0, slots := 0, locals := 137 })).room s m (([.ref a_mo, .int p1, .int p2] : List Value).toArray) below meth c H locs 0 0 (MQ below (va_Qi (fun (r : Int32) (_ : Unit) => r = res) (wB D A ([(a_mo, .inr (13, [.int mo_thrown', .int mo_trouble', .int mo_where', .ref a_wa, mo_read, mo_tape, .int mo_taped, .int mo_size, .int mo_spot, .int mo_sort, .int mo_place, .int mo_number, .int mo_fault, .int mo_wrongAt, .int mo_laneTold, .long mo_word, .ref a_mo_v, mo_x, mo_past, mo_kept, .int mo_acts, .int mo_marks, mo_put, mo_bestPut, .long mo_bestSum, mo_row, mo_best, mo_left, .int mo_bestSize, .int mo_bestLeft, mo_counts, .int mo_sets, .int mo_foeHarm, .int mo_ownHarm, .int mo_across, .int mo_sumFoe, .int mo_sumOwn, .int mo_sumWon, .int mo_sumAcross])), (a_mo_v, .inl (cy 1, 19, .inl mo_v)), (a_wa, .inr (12, [.int wa_lanes, .int wa_deep, .int wa_told, .int wa_beasts, .int wa_cities, .int wa_passes, .int wa_turned, .int wa_names, .ref a_wa_who, wa_strong, .ref a_wa_kind, wa_lane, wa_mood, wa_price, wa_loses, wa_name, wa_nameSort, wa_numberOf])), (a_wa_who, .inl (cy 1, 6, .inl wa_who)), (a_wa_kind, .inl (cy 1, 5, .inl wa_kind))] ++ X)) A) (([.ref a_mo, .int p1, .int p2] : List Value).toArray) s 0 0 A) (F0 m 80 ls []) := by
        intro h H locs hP hD hS ls hl
        unfold f_X13_moodFor_B80 at h
        refine lv_aload_n hx hb dX13_moodFor_80 rfl (lv_at hl 0 rfl) ?_
        refine lv_bipush (v := (-2)) hx hb dX13_moodFor_81 (by decide) ?_
        obtain ⟨r_11, mo_trouble_12, mo_where_13, hc_14, h⟩ := bd3_some h
        refine wVi [.int (-2)] [] ⟨hx, hb, hml, hown, hts⟩ (c_X13_good l D cy A ([(a_mo_v, .inl (cy 1, 19, .inl mo_v)), (a_wa, .inr (12, [.int wa_lanes, .int wa_deep, .int wa_told, .int wa_beasts, .int wa_cities, .int wa_passes, .int wa_turned, .int wa_names, .ref a_wa_who, wa_strong, .ref a_wa_kind, wa_lane, wa_mood, wa_price, wa_loses, wa_name, wa_nameSort, wa_numberOf])), (a_wa_who, .inl (cy 1, 6, .inl wa_who)), (a_wa_kind, .inl (cy 1, 5, .inl wa_kind))] ++ X) a_mo 0 mo_trouble mo_where (.ref a_wa) (mo_read) (mo_tape) mo_taped mo_size mo_spot mo_sort mo_place mo_number mo_fault mo_wrongAt mo_laneTold mo_word (.ref a_mo_v) (mo_x) (mo_past) (mo_kept) mo_acts mo_marks (mo_put) (mo_bestPut) mo_bestSum (mo_row) (mo_best) (mo_left) mo_bestSize mo_bestLeft (mo_counts) mo_sets mo_foeHarm mo_ownHarm mo_across mo_sumFoe mo_sumOwn mo_sumWon mo_sumAcross ((-2) : Int32) r_11 mo_trouble_12 mo_where_13 hc_14) gX13_moodFor_X13_good rfl hd_X13_good ⟨Nat.le_of_ble_eq_true rfl, Nat.le_of_ble_eq_true rfl⟩ rfl rfl hKN (pX3 hP [0, 1, 2, 3, 4] rfl) (dX3 hD [0, 1, 2, 3, 4] rfl rfl) hS hA 13 0 rfl rfl rfl hl.1 rfl (Nat.le_of_ble_eq_true rfl) dX13_moodFor_83 ⟨Nat.le_of_ble_eq_true rfl, Nat.le_of_ble_eq_true rfl⟩ (fun H locs hP hD hS => ?_)
        have hP := pX4 (L1 := [(a_mo, .inr (13, [.int 0, .int mo_trouble_12, .int mo_where_13, .ref a_wa, mo_read, mo_tape, .int mo_taped, .int mo_size, .int mo_spot, .int mo_sort, .int mo_place, .int mo_number, .int mo_fault, .int mo_wrongAt, .int mo_laneTold, .long mo_word, .ref a_mo_v, mo_x, mo_past, mo_kept, .int mo_acts, .int mo_marks, mo_put, mo_bestPut, .long mo_bestSum, mo_row, mo_best, mo_left, .int mo_bestSize, .int mo_bestLeft, mo_counts, .int mo_sets, .int mo_foeHarm, .int mo_ownHarm, .int mo_across, .int mo_sumFoe, .int mo_sumOwn, .int mo_sumWon, .int mo_sumAcross])), (a_mo_v, .inl (cy 1, 19, .inl mo_v)), (a_wa, .inr (12, [.int wa_lanes, .int wa_deep, .int wa_told, .int wa_beasts, .int wa_cities, .int wa_passes, .int wa_turned, .int wa_names, .ref a_wa_who, wa_strong, .ref a_wa_kind, wa_lane, wa_mood, wa_price, wa_loses, wa_name, wa_nameSort, wa_numberOf])), (a_wa_who, .inl (cy 1, 6, .inl wa_who)), (a_wa_kind, .inl (cy 1, 5, .inl wa_kind))]) hP [0, 1, 2, 3, 4] rfl
        have hD := dX4 (L1 := [(a_mo, .inr (13, [.int 0, .int mo_trouble_12, .int mo_where_13, .ref a_wa, mo_read, mo_tape, .int mo_taped, .int mo_size, .int mo_spot, .int mo_sort, .int mo_place, .int mo_number, .int mo_fault, .int mo_wrongAt, .int mo_laneTold, .long mo_word, .ref a_mo_v, mo_x, mo_past, mo_kept, .int mo_acts, .int mo_marks, mo_put, mo_bestPut, .long mo_bestSum, mo_row, mo_best, mo_left, .int mo_bestSize, .int mo_bestLeft, mo_counts, .int mo_sets, .int mo_foeHarm, .int mo_ownHarm, .int mo_across, .int mo_sumFoe, .int mo_sumOwn, .int mo_sumWon, .int mo_sumAcross])), (a_mo_v, .inl (cy 1, 19, .inl mo_v)), (a_wa, .inr (12, [.int wa_lanes, .int wa_deep, .int wa_told, .int wa_beasts, .int wa_cities, .int wa_passes, .int wa_turned, .int wa_names, .ref a_wa_who, wa_strong, .ref a_wa_kind, wa_lane, wa_mood, wa_price, wa_loses, wa_name, wa_nameSort, wa_numberOf])), (a_wa_who, .inl (cy 1, 6, .inl wa_who)), (a_wa_kind, .inl (cy 1, 5, .inl wa_kind))]) hD [0, 1, 2, 3, 4] rfl rfl
        cases h
        exact W.iret hx hb hr (fun t ht _ => ⟨⟨_, (), rfl, rfl, by rw [ht]; exact hP, hD⟩, hS.F ht⟩) hS.2.2 dX13_moodFor_86
      have lp29 : ∀ (n29 : Nat) (x3_15 : Int32), f_X13_moodFor_L29 mo_v wa_lanes wa_deep wa_beasts wa_who wa_kind p1 p2 0 mo_trouble mo_where n29 x3_15 = some (res, mo_thrown', mo_trouble', mo_where') → ∀ (H : Heap) (locs : List Loc), va_P D vwCl ([(a_mo, .inr (13, [.int 0, .int mo_trouble, .int mo_where, .ref a_wa, mo_read, mo_tape, .int mo_taped, .int mo_size, .int mo_spot, .int mo_sort, .int mo_place, .int mo_number, .int mo_fault, .int mo_wrongAt, .int mo_laneTold, .long mo_word, .ref a_mo_v, mo_x, mo_past, mo_kept, .int mo_acts, .int mo_marks, mo_put, mo_bestPut, .long mo_bestSum, mo_row, mo_best, mo_left, .int mo_bestSize, .int mo_bestLeft, mo_counts, .int mo_sets, .int mo_foeHarm, .int mo_ownHarm, .int mo_across, .int mo_sumFoe, .int mo_sumOwn, .int mo_sumWon, .int mo_sumAcross])), (a_mo_v, .inl (cy 1, 19, .inl mo_v)), (a_wa, .inr (12, [.int wa_lanes, .int wa_deep, .int wa_told, .int wa_beasts, .int wa_cities, .int wa_passes, .int wa_turned, .int wa_names, .ref a_wa_who, wa_strong, .ref a_wa_kind, wa_lane, wa_mood, wa_price, wa_loses, wa_name, wa_nameSort, wa_numberOf])), (a_wa_who, .inl (cy 1, 6, .inl wa_who)), (a_wa_kind, .inl (cy 1, 5, .inl wa_kind))] ++ X) H → va_D A ([(a_mo, .inr (13, [.int 0, .int mo_trouble, .int mo_where, .ref a_wa, mo_read, mo_tape, .int mo_taped, .int mo_size, .int mo_spot, .int mo_sort, .int mo_place, .int mo_number, .int mo_fault, .int mo_wrongAt, .int mo_laneTold, .long mo_word, .ref a_mo_v, mo_x, mo_past, mo_kept, .int mo_acts, .int mo_marks, mo_put, mo_bestPut, .long mo_bestSum, mo_row, mo_best, mo_left, .int mo_bestSize, .int mo_bestLeft, mo_counts, .int mo_sets, .int mo_foeHarm, .int mo_ownHarm, .int mo_across, .int mo_sumFoe, .int mo_sumOwn, .int mo_sumWon, .int mo_sumAcross])), (a_mo_v, .inl (cy 1, 19, .inl mo_v)), (a_wa, .inr (12, [.int wa_lanes, .int wa_deep, .int wa_told, .int wa_beasts, .int wa_cities, .int wa_passes, .int wa_turned, .int wa_names, .ref a_wa_who, wa_strong, .ref a_wa_kind, wa_lane, wa_mood, wa_price, wa_loses, wa_name, wa_nameSort, wa_numberOf])), (a_wa_who, .inl (cy 1, 6, .inl wa_who)), (a_wa_kind, .inl (cy 1, 5, .inl wa_kind))] ++ X) → va_S A s.heap H locs → ∀ ls : Array Slot, lv_has ls 4 [(0, .ref a_mo), (1, .int p1), (2, .int p2), (3, .int x3_15)] → W p l e (headSpec wo_X13_moodFor ({ frames := 6, cells := 0, slots := 0, locals := 137 })).room s m (([.ref a_mo, .int p1, .int p2] : List Value).toArray) below meth c H locs 0 0 (MQ below (va_Qi (fun (r : Int32) (_ : Unit) => r = res) (wB D A ([(a_mo, .inr (13, [.int mo_thrown', .int mo_trouble', .int mo_where', .ref a_wa, mo_read, mo_tape, .int mo_taped, .int mo_size, .int mo_spot, .int mo_sort, .int mo_place, .int mo_number, .int mo_fault, .int mo_wrongAt, .int mo_laneTold, .long mo_word, .ref a_mo_v, mo_x, mo_past, mo_kept, .int mo_acts, .int mo_marks, mo_put, mo_bestPut, .long mo_bestSum, mo_row, mo_best, mo_left, .int mo_bestSize, .int mo_bestLeft, mo_counts, .int mo_sets, .int mo_foeHarm, .int mo_ownHarm, .int mo_across, .int mo_sumFoe, .int mo_sumOwn, .int mo_sumWon, .int mo_sumAcross])), (a_mo_v, .inl (cy 1, 19, .inl mo_v)), (a_wa, .inr (12, [.int wa_lanes, .int wa_deep, .int wa_told, .int wa_beasts, .int wa_cities, .int wa_passes, .int wa_turned, .int wa_names, .ref a_wa_who, wa_strong, .ref a_wa_kind, wa_lane, wa_mood, wa_price, wa_loses, wa_name, wa_nameSort, wa_numberOf])), (a_wa_who, .inl (cy 1, 6, .inl wa_who)), (a_wa_kind, .inl (cy 1, 5, .inl wa_kind))] ++ X)) A) (([.ref a_mo, .int p1, .int p2] : List Value).toArray) s 0 0 A) (F0 m 29 ls []) := by
        intro n29
        induction n29 with
        | zero => intro x3_15 h; exact absurd (show (none : Option (Int32 × Int32 × Int32 × Int32)) = some _ from h) (by intro q; cases q)
        | succ n29 ih29 =>
          intro x3_15 h H locs hP hD hS ls hl
          have h : f_X13_moodFor_b29 mo_v wa_lanes wa_deep wa_beasts wa_who wa_kind p1 p2 0 mo_trouble mo_where (f_X13_moodFor_L29 mo_v wa_lanes wa_deep wa_beasts wa_who wa_kind p1 p2 0 mo_trouble mo_where n29) x3_15 = some (res, mo_thrown', mo_trouble', mo_where') := h
          unfold f_X13_moodFor_b29 at h
          refine lv_iload_n hx hb dX13_moodFor_29 rfl (lv_at hl 3 rfl) ?_
          refine lv_bipush (v := 100) hx hb dX13_moodFor_30 (by decide) ?_
          refine lv_icmp_gt (tgt := 80) hx hb dX13_moodFor_32 (by decide) (fun cd => ?_) (fun cd => ?_)
          · have h := ifT cd h
            exact jn80 h _ _ hP hD hS _ (lv_sub hl [0] rfl)
          · have h := ifF cd h
            refine lv_aload_n hx hb dX13_moodFor_35 rfl (lv_at hl 0 rfl) ?_
            refine lv_iload_n hx hb dX13_moodFor_36 rfl (lv_at hl 1 rfl) ?_
            refine lv_iload_n hx hb dX13_moodFor_37 rfl (lv_at hl 2 rfl) ?_
            refine lv_aload_n hx hb dX13_moodFor_38 rfl (lv_at hl 0 rfl) ?_
            refine lv_iload_n hx hb dX13_moodFor_39 rfl (lv_at hl 1 rfl) ?_
            refine lv_iload_n hx hb dX13_moodFor_40 rfl (lv_at hl 3 rfl) ?_
            refine lv_aload_n hx hb dX13_moodFor_41 rfl (lv_at hl 0 rfl) ?_
            refine va_get (D := D) (ci := 13) (C := RX13) (T := TX13) (N := 39) (v := .ref a_mo_v) hx hb hX13 (fun _ q => q) hown hK hP 0 rfl rfl 16 (by decide) (hts (.fieldLink RX13 17 "ElephantLineModel" "v" "[I") (by decide +kernel)) (fun _ h9 => h9) rfl dX13_moodFor_42 ?_
            refine lv_bipush (v := 17) hx hb dX13_moodFor_45 (by decide) ?_
            refine va_iald hx hb hK hP 1 1 rfl rfl (vpc (by decide)) dX13_moodFor_47 ?_
            refine lv_iconst (v := 1) hx hb dX13_moodFor_48 (by decide) ?_
            have jn57 : ∀ (t6_16 : Int32), nbv t6_16 → f_X13_moodFor_B57 (f_X13_moodFor_L29 mo_v wa_lanes wa_deep wa_beasts wa_who wa_kind p1 p2 0 mo_trouble mo_where n29) mo_v wa_lanes wa_deep wa_beasts wa_who wa_kind p1 p2 x3_15 p1 p2 p1 x3_15 t6_16 0 mo_trouble mo_where = some (res, mo_thrown', mo_trouble', mo_where') → ∀ (H : Heap) (locs : List Loc), va_P D vwCl ([(a_mo, .inr (13, [.int 0, .int mo_trouble, .int mo_where, .ref a_wa, mo_read, mo_tape, .int mo_taped, .int mo_size, .int mo_spot, .int mo_sort, .int mo_place, .int mo_number, .int mo_fault, .int mo_wrongAt, .int mo_laneTold, .long mo_word, .ref a_mo_v, mo_x, mo_past, mo_kept, .int mo_acts, .int mo_marks, mo_put, mo_bestPut, .long mo_bestSum, mo_row, mo_best, mo_left, .int mo_bestSize, .int mo_bestLeft, mo_counts, .int mo_sets, .int mo_foeHarm, .int mo_ownHarm, .int mo_across, .int mo_sumFoe, .int mo_sumOwn, .int mo_sumWon, .int mo_sumAcross])), (a_mo_v, .inl (cy 1, 19, .inl mo_v)), (a_wa, .inr (12, [.int wa_lanes, .int wa_deep, .int wa_told, .int wa_beasts, .int wa_cities, .int wa_passes, .int wa_turned, .int wa_names, .ref a_wa_who, wa_strong, .ref a_wa_kind, wa_lane, wa_mood, wa_price, wa_loses, wa_name, wa_nameSort, wa_numberOf])), (a_wa_who, .inl (cy 1, 6, .inl wa_who)), (a_wa_kind, .inl (cy 1, 5, .inl wa_kind))] ++ X) H → va_D A ([(a_mo, .inr (13, [.int 0, .int mo_trouble, .int mo_where, .ref a_wa, mo_read, mo_tape, .int mo_taped, .int mo_size, .int mo_spot, .int mo_sort, .int mo_place, .int mo_number, .int mo_fault, .int mo_wrongAt, .int mo_laneTold, .long mo_word, .ref a_mo_v, mo_x, mo_past, mo_kept, .int mo_acts, .int mo_marks, mo_put, mo_bestPut, .long mo_bestSum, mo_row, mo_best, mo_left, .int mo_bestSize, .int mo_bestLeft, mo_counts, .int mo_sets, .int mo_foeHarm, .int mo_ownHarm, .int mo_across, .int mo_sumFoe, .int mo_sumOwn, .int mo_sumWon, .int mo_sumAcross])), (a_mo_v, .inl (cy 1, 19, .inl mo_v)), (a_wa, .inr (12, [.int wa_lanes, .int wa_deep, .int wa_told, .int wa_beasts, .int wa_cities, .int wa_passes, .int wa_turned, .int wa_names, .ref a_wa_who, wa_strong, .ref a_wa_kind, wa_lane, wa_mood, wa_price, wa_loses, wa_name, wa_nameSort, wa_numberOf])), (a_wa_who, .inl (cy 1, 6, .inl wa_who)), (a_wa_kind, .inl (cy 1, 5, .inl wa_kind))] ++ X) → va_S A s.heap H locs → ∀ ls : Array Slot, lv_has ls 4 [(0, .ref a_mo), (1, .int p1), (2, .int p2), (3, .int x3_15)] → W p l e (headSpec wo_X13_moodFor ({ frames := 6, cells := 0, slots := 0, locals := 137 })).room s m (([.ref a_mo, .int p1, .int p2] : List Value).toArray) below meth c H locs 0 0 (MQ below (va_Qi (fun (r : Int32) (_ : Unit) => r = res) (wB D A ([(a_mo, .inr (13, [.int mo_thrown', .int mo_trouble', .int mo_where', .ref a_wa, mo_read, mo_tape, .int mo_taped, .int mo_size, .int mo_spot, .int mo_sort, .int mo_place, .int mo_number, .int mo_fault, .int mo_wrongAt, .int mo_laneTold, .long mo_word, .ref a_mo_v, mo_x, mo_past, mo_kept, .int mo_acts, .int mo_marks, mo_put, mo_bestPut, .long mo_bestSum, mo_row, mo_best, mo_left, .int mo_bestSize, .int mo_bestLeft, mo_counts, .int mo_sets, .int mo_foeHarm, .int mo_ownHarm, .int mo_across, .int mo_sumFoe, .int mo_sumOwn, .int mo_sumWon, .int mo_sumAcross])), (a_mo_v, .inl (cy 1, 19, .inl mo_v)), (a_wa, .inr (12, [.int wa_lanes, .int wa_deep, .int wa_told, .int wa_beasts, .int wa_cities, .int wa_passes, .int wa_turned, .int wa_names, .ref a_wa_who, wa_strong, .ref a_wa_kind, wa_lane, wa_mood, wa_price, wa_loses, wa_name, wa_nameSort, wa_numberOf])), (a_wa_who, .inl (cy 1, 6, .inl wa_who)), (a_wa_kind, .inl (cy 1, 5, .inl wa_kind))] ++ X)) A) (([.ref a_mo, .int p1, .int p2] : List Value).toArray) s 0 0 A) (F0 m 57 ls [.int t6_16, .int x3_15, .int p1, .ref a_mo, .int p2, .int p1, .ref a_mo]) := by
              intro t6_16 hnb_t6_16 h H locs hP hD hS ls hl
              unfold f_X13_moodFor_B57 at h
              obtain ⟨r_17, hc_18, h⟩ := bd1_some h
              refine kVi [.int p1, .int x3_15, .int t6_16] [.int p2, .int p1, .ref a_mo] ⟨hx, hb, hml, hown, hts⟩ (c_X13_holdBy l D cy a_mo a_wa a_wa_kind 0 mo_trouble mo_where (mo_read) (mo_tape) mo_taped mo_size mo_spot mo_sort mo_place mo_number mo_fault mo_wrongAt mo_laneTold mo_word (.ref a_mo_v) (mo_x) (mo_past) (mo_kept) mo_acts mo_marks (mo_put) (mo_bestPut) mo_bestSum (mo_row) (mo_best) (mo_left) mo_bestSize mo_bestLeft (mo_counts) mo_sets mo_foeHarm mo_ownHarm mo_across mo_sumFoe mo_sumOwn mo_sumWon mo_sumAcross wa_lanes wa_deep wa_told wa_beasts wa_cities wa_passes wa_turned wa_names (.ref a_wa_who) (wa_strong) (wa_lane) (wa_mood) (wa_price) (wa_loses) (wa_name) (wa_nameSort) (wa_numberOf) wa_kind p1 x3_15 t6_16 r_17 hc_18) gX13_moodFor_X13_holdBy rfl hd_X13_holdBy ⟨Nat.le_of_ble_eq_true rfl, Nat.le_of_ble_eq_true rfl⟩ rfl rfl hKN (pXc hP [0, 2, 4] rfl) 13 0 rfl rfl rfl hl.1 rfl (Nat.le_of_ble_eq_true rfl) dX13_moodFor_57 ⟨Nat.le_of_ble_eq_true rfl, Nat.le_of_ble_eq_true rfl⟩ ?_
              obtain ⟨r_19, hc_20, h⟩ := bd1_some h
              refine kVl [.int p1, .int p2, .int r_17] [] ⟨hx, hb, hml, hown, hts⟩ (c_X13_worthHeld l D cy a_mo a_mo_v a_wa a_wa_who a_wa_kind 0 mo_trouble mo_where (mo_read) (mo_tape) mo_taped mo_size mo_spot mo_sort mo_place mo_number mo_fault mo_wrongAt mo_laneTold mo_word (mo_x) (mo_past) (mo_kept) mo_acts mo_marks (mo_put) (mo_bestPut) mo_bestSum (mo_row) (mo_best) (mo_left) mo_bestSize mo_bestLeft (mo_counts) mo_sets mo_foeHarm mo_ownHarm mo_across mo_sumFoe mo_sumOwn mo_sumWon mo_sumAcross mo_v wa_lanes wa_deep wa_told wa_beasts wa_cities wa_passes wa_turned wa_names (wa_strong) (wa_lane) (wa_mood) (wa_price) (wa_loses) (wa_name) (wa_nameSort) (wa_numberOf) wa_who wa_kind p1 p2 r_17 r_19 hc_20) gX13_moodFor_X13_worthHeld rfl hd_X13_worthHeld ⟨Nat.le_of_ble_eq_true rfl, Nat.le_of_ble_eq_true rfl⟩ rfl rfl hKN (pXc hP [0, 1, 2, 3, 4] rfl) 13 0 rfl rfl rfl hl.1 rfl (Nat.le_of_ble_eq_true rfl) dX13_moodFor_60 ⟨Nat.le_of_ble_eq_true rfl, Nat.le_of_ble_eq_true rfl⟩ ?_
              refine lv_lconst (v := 0) hx hb dX13_moodFor_63 (by decide) ?_
              refine W.lcmp hx hb dX13_moodFor_64 ?_
              refine lv_if_le (tgt := 74) hx hb dX13_moodFor_65 (by decide) (fun cd => ?_) (fun cd => ?_)
              · have cd := (lgc_le _ _).mp cd
                have h := ifT cd h
                refine lv_iinc (v := x3_15 + 1) (lv' := [(3, .int (x3_15 + 1)), (0, .ref a_mo), (1, .int p1), (2, .int p2)]) hx hb dX13_moodFor_74 hl (k := 3) rfl (by first | rfl | decide) (by decide) rfl (fun ls hl => ?_)
                refine lv_goto (tgt := 29) hx hb dX13_moodFor_77 (by decide) ?_
                exact ih29 (x3_15 + 1) h _ _ hP hD hS _ (lv_sub hl [1, 2, 3, 0] rfl)
              · have cd := fun q => cd ((lgc_le _ _).mpr q)
                have h := ifF cd h
                refine lv_aload_n hx hb dX13_moodFor_68 rfl (lv_at hl 0 rfl) ?_
                refine lv_iload_n hx hb dX13_moodFor_69 rfl (lv_at hl 3 rfl) ?_
                obtain ⟨r_21, mo_trouble_22, mo_where_23, hc_24, h⟩ := bd3_some h
                refine wVi [.int x3_15] [] ⟨hx, hb, hml, hown, hts⟩ (c_X13_good l D cy A ([(a_mo_v, .inl (cy 1, 19, .inl mo_v)), (a_wa, .inr (12, [.int wa_lanes, .int wa_deep, .int wa_told, .int wa_beasts, .int wa_cities, .int wa_passes, .int wa_turned, .int wa_names, .ref a_wa_who, wa_strong, .ref a_wa_kind, wa_lane, wa_mood, wa_price, wa_loses, wa_name, wa_nameSort, wa_numberOf])), (a_wa_who, .inl (cy 1, 6, .inl wa_who)), (a_wa_kind, .inl (cy 1, 5, .inl wa_kind))] ++ X) a_mo 0 mo_trouble mo_where (.ref a_wa) (mo_read) (mo_tape) mo_taped mo_size mo_spot mo_sort mo_place mo_number mo_fault mo_wrongAt mo_laneTold mo_word (.ref a_mo_v) (mo_x) (mo_past) (mo_kept) mo_acts mo_marks (mo_put) (mo_bestPut) mo_bestSum (mo_row) (mo_best) (mo_left) mo_bestSize mo_bestLeft (mo_counts) mo_sets mo_foeHarm mo_ownHarm mo_across mo_sumFoe mo_sumOwn mo_sumWon mo_sumAcross x3_15 r_21 mo_trouble_22 mo_where_23 hc_24) gX13_moodFor_X13_good rfl hd_X13_good ⟨Nat.le_of_ble_eq_true rfl, Nat.le_of_ble_eq_true rfl⟩ rfl rfl hKN (pX3 hP [0, 1, 2, 3, 4] rfl) (dX3 hD [0, 1, 2, 3, 4] rfl rfl) hS hA 13 0 rfl rfl rfl hl.1 rfl (Nat.le_of_ble_eq_true rfl) dX13_moodFor_70 ⟨Nat.le_of_ble_eq_true rfl, Nat.le_of_ble_eq_true rfl⟩ (fun H locs hP hD hS => ?_)
                have hP := pX4 (L1 := [(a_mo, .inr (13, [.int 0, .int mo_trouble_22, .int mo_where_23, .ref a_wa, mo_read, mo_tape, .int mo_taped, .int mo_size, .int mo_spot, .int mo_sort, .int mo_place, .int mo_number, .int mo_fault, .int mo_wrongAt, .int mo_laneTold, .long mo_word, .ref a_mo_v, mo_x, mo_past, mo_kept, .int mo_acts, .int mo_marks, mo_put, mo_bestPut, .long mo_bestSum, mo_row, mo_best, mo_left, .int mo_bestSize, .int mo_bestLeft, mo_counts, .int mo_sets, .int mo_foeHarm, .int mo_ownHarm, .int mo_across, .int mo_sumFoe, .int mo_sumOwn, .int mo_sumWon, .int mo_sumAcross])), (a_mo_v, .inl (cy 1, 19, .inl mo_v)), (a_wa, .inr (12, [.int wa_lanes, .int wa_deep, .int wa_told, .int wa_beasts, .int wa_cities, .int wa_passes, .int wa_turned, .int wa_names, .ref a_wa_who, wa_strong, .ref a_wa_kind, wa_lane, wa_mood, wa_price, wa_loses, wa_name, wa_nameSort, wa_numberOf])), (a_wa_who, .inl (cy 1, 6, .inl wa_who)), (a_wa_kind, .inl (cy 1, 5, .inl wa_kind))]) hP [0, 1, 2, 3, 4] rfl
                have hD := dX4 (L1 := [(a_mo, .inr (13, [.int 0, .int mo_trouble_22, .int mo_where_23, .ref a_wa, mo_read, mo_tape, .int mo_taped, .int mo_size, .int mo_spot, .int mo_sort, .int mo_place, .int mo_number, .int mo_fault, .int mo_wrongAt, .int mo_laneTold, .long mo_word, .ref a_mo_v, mo_x, mo_past, mo_kept, .int mo_acts, .int mo_marks, mo_put, mo_bestPut, .long mo_bestSum, mo_row, mo_best, mo_left, .int mo_bestSize, .int mo_bestLeft, mo_counts, .int mo_sets, .int mo_foeHarm, .int mo_ownHarm, .int mo_across, .int mo_sumFoe, .int mo_sumOwn, .int mo_sumWon, .int mo_sumAcross])), (a_mo_v, .inl (cy 1, 19, .inl mo_v)), (a_wa, .inr (12, [.int wa_lanes, .int wa_deep, .int wa_told, .int wa_beasts, .int wa_cities, .int wa_passes, .int wa_turned, .int wa_names, .ref a_wa_who, wa_strong, .ref a_wa_kind, wa_lane, wa_mood, wa_price, wa_loses, wa_name, wa_nameSort, wa_numberOf])), (a_wa_who, .inl (cy 1, 6, .inl wa_who)), (a_wa_kind, .inl (cy 1, 5, .inl wa_kind))]) hD [0, 1, 2, 3, 4] rfl rfl
                cases h
                exact W.iret hx hb hr (fun t ht _ => ⟨⟨_, (), rfl, rfl, by rw [ht]; exact hP, hD⟩, hS.F ht⟩) hS.2.2 dX13_moodFor_73
            refine lv_icmp_ne (tgt := 56) hx hb dX13_moodFor_49 (by decide) (fun cd => ?_) (fun cd => ?_)
            · have h := ifF cd h
              refine lv_iconst (v := 0) hx hb dX13_moodFor_56 (by decide) ?_
              exact jn57 (0 : Int32) nbv_0 h _ _ hP hD hS _ (lv_sub hl [0, 1, 2, 3] rfl)
            · have h := ifT cd h
              refine lv_iconst (v := 1) hx hb dX13_moodFor_52 (by decide) ?_
              refine lv_goto (tgt := 57) hx hb dX13_moodFor_53 (by decide) ?_
              exact jn57 (1 : Int32) nbv_1 h _ _ hP hD hS _ (lv_sub hl [0, 1, 2, 3] rfl)
      exact lp29 fuelN (0 : Int32) h _ _ hP hD hS _ (lv_sub hl [1, 2, 3, 0] rfl)
    · have h := ifT cd h
      exact jn21 h _ _ hP hD hS _ (lv_sub hl [0] rfl)
noncomputable def f_X13_areUnlike_B60 (k4 : Int32 → Int32 → Option (Int32)) (mo_put : Nat → Int32) (wa_lanes : Int32) (wa_beasts : Int32) (x1 : Int32) (x2 : Int32) : Option (Int32) :=
  k4 x1 (x2 + 1)
noncomputable def f_X13_areUnlike_b4 (mo_put : Nat → Int32) (wa_lanes : Int32) (wa_beasts : Int32) (k4 : Int32 → Int32 → Option (Int32)) (x1 : Int32) (x2 : Int32) : Option (Int32) :=
  (if wa_beasts ≤ x2 then
  some (1)
  else
  gIn x2 5 <|
  (if (mo_put x2.toNatClampNeg) = wa_lanes then
  f_X13_areUnlike_B60 k4 mo_put wa_lanes wa_beasts x1 x2
  else
  gIn x2 5 <|
  bd1 (f_X13_bit  x1 (mo_put x2.toNatClampNeg)) fun r_3 =>
  (if r_3 = 0 then
  gIn x2 5 <|
  f_X13_areUnlike_B60 k4 mo_put wa_lanes wa_beasts (x1 ||| ((1 : Int32) <<< ((mo_put x2.toNatClampNeg) &&& 31))) x2
  else
  some (0))))
noncomputable def f_X13_areUnlike_L4 (mo_put : Nat → Int32) (wa_lanes : Int32) (wa_beasts : Int32) : Nat → Int32 → Int32 → Option (Int32)
  | 0 => fun _ _ => none
  | n + 1 => f_X13_areUnlike_b4 mo_put wa_lanes wa_beasts (f_X13_areUnlike_L4 mo_put wa_lanes wa_beasts n)
noncomputable def f_X13_areUnlike (mo_put : Nat → Int32) (wa_lanes : Int32) (wa_beasts : Int32) : Option (Int32) :=
  f_X13_areUnlike_L4 mo_put wa_lanes wa_beasts fuelN 0 0
theorem hd_X13_areUnlike : yX13_areUnlike.cls = RX13 ∧ yX13_areUnlike.cls ≠ "java/lang/invoke/MethodHandle" ∧ yX13_areUnlike.cls ≠ "java/lang/invoke/VarHandle" ∧ (parseMethodDescriptor yX13_areUnlike.desc).map (fun d => d.parameters.length) = some 0 := by decide +kernel
set_option maxHeartbeats 4000000 in
set_option maxRecDepth 100000 in
theorem c_X13_areUnlike (l : Launch) (D : va_G) (cy : Nat → ClassId) (a_mo a_mo_put a_wa : Nat) (mo_thrown : Int32) (mo_trouble : Int32) (mo_where : Int32) (mo_read : Value) (mo_tape : Value) (mo_taped : Int32) (mo_size : Int32) (mo_spot : Int32) (mo_sort : Int32) (mo_place : Int32) (mo_number : Int32) (mo_fault : Int32) (mo_wrongAt : Int32) (mo_laneTold : Int32) (mo_word : Int64) (mo_v : Value) (mo_x : Value) (mo_past : Value) (mo_kept : Value) (mo_acts : Int32) (mo_marks : Int32) (mo_bestPut : Value) (mo_bestSum : Int64) (mo_row : Value) (mo_best : Value) (mo_left : Value) (mo_bestSize : Int32) (mo_bestLeft : Int32) (mo_counts : Value) (mo_sets : Int32) (mo_foeHarm : Int32) (mo_ownHarm : Int32) (mo_across : Int32) (mo_sumFoe : Int32) (mo_sumOwn : Int32) (mo_sumWon : Int32) (mo_sumAcross : Int32) (mo_put : Nat → Int32) (wa_lanes : Int32) (wa_deep : Int32) (wa_told : Int32) (wa_beasts : Int32) (wa_cities : Int32) (wa_passes : Int32) (wa_turned : Int32) (wa_names : Int32) (wa_who : Value) (wa_strong : Value) (wa_kind : Value) (wa_lane : Value) (wa_mood : Value) (wa_price : Value) (wa_loses : Value) (wa_name : Value) (wa_nameSort : Value) (wa_numberOf : Value) (res : Int32) (h : f_X13_areUnlike mo_put wa_lanes wa_beasts = some (res)) : Met l yX13_areUnlike wo_X13_areUnlike ({ frames := 1, cells := 0, slots := 0, locals := 21 }) (roPc D cy [.ref a_mo] [(a_mo, .inr (13, [.int mo_thrown, .int mo_trouble, .int mo_where, .ref a_wa, mo_read, mo_tape, .int mo_taped, .int mo_size, .int mo_spot, .int mo_sort, .int mo_place, .int mo_number, .int mo_fault, .int mo_wrongAt, .int mo_laneTold, .long mo_word, mo_v, mo_x, mo_past, mo_kept, .int mo_acts, .int mo_marks, .ref a_mo_put, mo_bestPut, .long mo_bestSum, mo_row, mo_best, mo_left, .int mo_bestSize, .int mo_bestLeft, mo_counts, .int mo_sets, .int mo_foeHarm, .int mo_ownHarm, .int mo_across, .int mo_sumFoe, .int mo_sumOwn, .int mo_sumWon, .int mo_sumAcross])), (a_mo_put, .inl (cy 1, 5, .inl mo_put)), (a_wa, .inr (12, [.int wa_lanes, .int wa_deep, .int wa_told, .int wa_beasts, .int wa_cities, .int wa_passes, .int wa_turned, .int wa_names, wa_who, wa_strong, wa_kind, wa_lane, wa_mood, wa_price, wa_loses, wa_name, wa_nameSort, wa_numberOf]))]) (vp_Si (fun r => r = res ∧ nbv r)) 0 0 (fun _ => False) := by
  refine Met.ofW (cc := cX13_areUnlike) (maxL := 3) (ret := (some .boolean)) (by decide) rfl ?_
  intro p e s m args below meth c s₁ B hml hv
  obtain ⟨rfl, hP, hKN⟩ := hv
  have hK := hKN.1
  have hx := B.exec
  have hb := B.bytes
  have hr := B.returns
  have hts := wt_X13_areUnlike hKN.2.2 (([.ref a_mo] : List Value).toArray)
  have hown : s.vm.findClass RX13 = some m.cls := findClass_of_methodNamed B.named
  have hlocks := B.notSynchronized
  have hX12 := wc_X12 hKN.2.2 (([.ref a_mo] : List Value).toArray)
  have hX13 := wc_X13 hKN.2.2 (([.ref a_mo] : List Value).toArray)
  have hl := lv_entry ([.ref a_mo]) (n := 3) (Nat.le_of_ble_eq_true rfl)
  rw [lg_entry_eq]
  generalize (lg_sl ([.ref a_mo]) ++ List.replicate (3 - (lg_sl ([.ref a_mo])).length) Slot.unset).toArray = ls at hl ⊢
  have hl : lv_has ls 3 [(0, .ref a_mo)] := hl
  unfold f_X13_areUnlike at h
  refine lv_iconst (v := 0) hx hb dX13_areUnlike_0 (by decide) ?_
  refine lv_istore_n (lv' := [(1, .int 0), (0, .ref a_mo)]) hx hb dX13_areUnlike_1 rfl hl (by decide) rfl (fun ls hl => ?_)
  refine lv_iconst (v := 0) hx hb dX13_areUnlike_2 (by decide) ?_
  refine lv_istore_n (lv' := [(2, .int 0), (1, .int 0), (0, .ref a_mo)]) hx hb dX13_areUnlike_3 rfl hl (by decide) rfl (fun ls hl => ?_)
  have lp4 : ∀ (n4 : Nat) (x1_1 : Int32) (x2_2 : Int32), f_X13_areUnlike_L4 mo_put wa_lanes wa_beasts n4 x1_1 x2_2 = some (res) → ∀ ls : Array Slot, lv_has ls 3 [(0, .ref a_mo), (1, .int x1_1), (2, .int x2_2)] → W p l e (headSpec wo_X13_areUnlike ({ frames := 1, cells := 0, slots := 0, locals := 21 })).room s m (([.ref a_mo] : List Value).toArray) below meth c s.heap [] 0 0 (MQ below (vp_Si (fun r => r = res ∧ nbv r)) (([.ref a_mo] : List Value).toArray) s 0 0 (fun _ => False)) (F0 m 4 ls []) := by
    intro n4
    induction n4 with
    | zero => intro x1_1 x2_2 h; exact absurd (show (none : Option (Int32)) = some _ from h) (by intro q; cases q)
    | succ n4 ih4 =>
      intro x1_1 x2_2 h ls hl
      have h : f_X13_areUnlike_b4 mo_put wa_lanes wa_beasts (f_X13_areUnlike_L4 mo_put wa_lanes wa_beasts n4) x1_1 x2_2 = some (res) := h
      unfold f_X13_areUnlike_b4 at h
      refine lv_iload_n hx hb dX13_areUnlike_4 rfl (lv_at hl 2 rfl) ?_
      refine lv_aload_n hx hb dX13_areUnlike_5 rfl (lv_at hl 0 rfl) ?_
      refine va_get (D := D) (ci := 13) (C := RX13) (T := TX13) (N := 39) (v := .ref a_wa) hx hb hX13 (fun _ q => q) hown hK hP 0 rfl rfl 3 (by decide) (hts (.fieldLink RX13 301 "ElephantLineModel" "war" "LElephantLineModel$War;") (by decide +kernel)) (fun _ h9 => h9) rfl dX13_areUnlike_6 ?_
      refine va_getN (D := D) (ci := 12) (C := RX12) (T := TX12) (N := 18) (v := .int wa_beasts) hx hb hX12 (fun _ q => q) hown hK hP 2 rfl rfl 3 (by decide) (va_Nw.use rfl (hKN.2.1.1 ("ElephantLineModel", 195, "ElephantLineModel$War", "beasts", "I", "ElephantLineModel") (List.mem_of_getElem? (i := 70) rfl))) (fun _ h9 => h9) rfl dX13_areUnlike_9 ?_
      refine lv_icmp_ge (tgt := 66) hx hb dX13_areUnlike_12 (by decide) (fun cd => ?_) (fun cd => ?_)
      · have h := ifT cd h
        refine lv_iconst (v := 1) hx hb dX13_areUnlike_66 (by decide) ?_
        exact W.zret (ty := .boolean) (v := 1) hx hb hr (nbv.n nbv_1) (fun t ht _ => ⟨_, rfl, ⟨Option.some.inj h, nbv_1⟩, ht⟩) (fun _ q => by cases q) dX13_areUnlike_67
      · have h := ifF cd h
        refine lv_aload_n hx hb dX13_areUnlike_15 rfl (lv_at hl 0 rfl) ?_
        refine va_get (D := D) (ci := 13) (C := RX13) (T := TX13) (N := 39) (v := .ref a_mo_put) hx hb hX13 (fun _ q => q) hown hK hP 0 rfl rfl 22 (by decide) (hts (.fieldLink RX13 30 "ElephantLineModel" "put" "[I") (by decide +kernel)) (fun _ h9 => h9) rfl dX13_areUnlike_16 ?_
        refine lv_iload_n hx hb dX13_areUnlike_19 rfl (lv_at hl 2 rfl) ?_
        obtain ⟨i_3, h⟩ := gIn_some h
        refine va_iald hx hb hK hP 1 1 rfl rfl i_3 dX13_areUnlike_20 ?_
        refine lv_aload_n hx hb dX13_areUnlike_21 rfl (lv_at hl 0 rfl) ?_
        refine va_get (D := D) (ci := 13) (C := RX13) (T := TX13) (N := 39) (v := .ref a_wa) hx hb hX13 (fun _ q => q) hown hK hP 0 rfl rfl 3 (by decide) (hts (.fieldLink RX13 301 "ElephantLineModel" "war" "LElephantLineModel$War;") (by decide +kernel)) (fun _ h9 => h9) rfl dX13_areUnlike_22 ?_
        refine va_getN (D := D) (ci := 12) (C := RX12) (T := TX12) (N := 18) (v := .int wa_lanes) hx hb hX12 (fun _ q => q) hown hK hP 2 rfl rfl 0 (by decide) (va_Nw.use rfl (hKN.2.1.1 ("ElephantLineModel", 160, "ElephantLineModel$War", "lanes", "I", "ElephantLineModel") (List.mem_of_getElem? (i := 67) rfl))) (fun _ h9 => h9) rfl dX13_areUnlike_25 ?_
        have jn60 : ∀ (x1_4 : Int32), f_X13_areUnlike_B60 (f_X13_areUnlike_L4 mo_put wa_lanes wa_beasts n4) mo_put wa_lanes wa_beasts x1_4 x2_2 = some (res) → ∀ ls : Array Slot, lv_has ls 3 [(0, .ref a_mo), (1, .int x1_4), (2, .int x2_2)] → W p l e (headSpec wo_X13_areUnlike ({ frames := 1, cells := 0, slots := 0, locals := 21 })).room s m (([.ref a_mo] : List Value).toArray) below meth c s.heap [] 0 0 (MQ below (vp_Si (fun r => r = res ∧ nbv r)) (([.ref a_mo] : List Value).toArray) s 0 0 (fun _ => False)) (F0 m 60 ls []) := by
          intro x1_4 h ls hl
          unfold f_X13_areUnlike_B60 at h
          refine lv_iinc (v := x2_2 + 1) (lv' := [(2, .int (x2_2 + 1)), (0, .ref a_mo), (1, .int x1_4)]) hx hb dX13_areUnlike_60 hl (k := 2) rfl (by first | rfl | decide) (by decide) rfl (fun ls hl => ?_)
          refine lv_goto (tgt := 4) hx hb dX13_areUnlike_63 (by decide) ?_
          exact ih4 x1_4 (x2_2 + 1) h _ (lv_sub hl [1, 2, 0] rfl)
        refine lv_icmp_ne (tgt := 34) hx hb dX13_areUnlike_28 (by decide) (fun cd => ?_) (fun cd => ?_)
        · have h := ifF cd h
          refine lv_iload_n hx hb dX13_areUnlike_34 rfl (lv_at hl 1 rfl) ?_
          refine lv_aload_n hx hb dX13_areUnlike_35 rfl (lv_at hl 0 rfl) ?_
          refine va_get (D := D) (ci := 13) (C := RX13) (T := TX13) (N := 39) (v := .ref a_mo_put) hx hb hX13 (fun _ q => q) hown hK hP 0 rfl rfl 22 (by decide) (hts (.fieldLink RX13 30 "ElephantLineModel" "put" "[I") (by decide +kernel)) (fun _ h9 => h9) rfl dX13_areUnlike_36 ?_
          refine lv_iload_n hx hb dX13_areUnlike_39 rfl (lv_at hl 2 rfl) ?_
          obtain ⟨i_5, h⟩ := gIn_some h
          refine va_iald hx hb hK hP 1 1 rfl rfl i_5 dX13_areUnlike_40 ?_
          obtain ⟨r_6, hc_7, h⟩ := bd1_some h
          refine kSb [.int x1_1, .int (mo_put x2_2.toNatClampNeg)] [] ⟨hx, hb, hml, hown, hts⟩ (c_X13_bit l D cy x1_1 (mo_put x2_2.toNatClampNeg) r_6 hc_7) gX13_areUnlike_X13_bit rfl hd_X13_bit ⟨Nat.le_of_ble_eq_true rfl, Nat.le_of_ble_eq_true rfl⟩ rfl rfl hKN va_nil rfl hl.1 rfl (Nat.le_of_ble_eq_true rfl) dX13_areUnlike_41 ⟨Nat.le_of_ble_eq_true rfl, Nat.le_of_ble_eq_true rfl⟩ (fun nb_8 => ?_)
          refine lv_if_eq (tgt := 49) hx hb dX13_areUnlike_44 (by decide) (fun cd => ?_) (fun cd => ?_)
          · have h := ifT cd h
            refine lv_iload_n hx hb dX13_areUnlike_49 rfl (lv_at hl 1 rfl) ?_
            refine lv_iconst (v := 1) hx hb dX13_areUnlike_50 (by decide) ?_
            refine lv_aload_n hx hb dX13_areUnlike_51 rfl (lv_at hl 0 rfl) ?_
            refine va_get (D := D) (ci := 13) (C := RX13) (T := TX13) (N := 39) (v := .ref a_mo_put) hx hb hX13 (fun _ q => q) hown hK hP 0 rfl rfl 22 (by decide) (hts (.fieldLink RX13 30 "ElephantLineModel" "put" "[I") (by decide +kernel)) (fun _ h9 => h9) rfl dX13_areUnlike_52 ?_
            refine lv_iload_n hx hb dX13_areUnlike_55 rfl (lv_at hl 2 rfl) ?_
            obtain ⟨i_9, h⟩ := gIn_some h
            refine va_iald hx hb hK hP 1 1 rfl rfl i_9 dX13_areUnlike_56 ?_
            refine lv_ishl hx hb dX13_areUnlike_57 ?_
            refine lv_ior hx hb dX13_areUnlike_58 ?_
            refine lv_istore_n (lv' := [(1, .int (x1_1 ||| ((1 : Int32) <<< ((mo_put x2_2.toNatClampNeg) &&& 31)))), (0, .ref a_mo), (2, .int x2_2)]) hx hb dX13_areUnlike_59 rfl hl (by decide) rfl (fun ls hl => ?_)
            exact jn60 (x1_1 ||| ((1 : Int32) <<< ((mo_put x2_2.toNatClampNeg) &&& 31))) h _ (lv_sub hl [1, 0, 2] rfl)
          · have h := ifF cd h
            refine lv_iconst (v := 0) hx hb dX13_areUnlike_47 (by decide) ?_
            exact W.zret (ty := .boolean) (v := 0) hx hb hr (nbv.n nbv_0) (fun t ht _ => ⟨_, rfl, ⟨Option.some.inj h, nbv_0⟩, ht⟩) (fun _ q => by cases q) dX13_areUnlike_48
        · have h := ifT cd h
          refine lv_goto (tgt := 60) hx hb dX13_areUnlike_31 (by decide) ?_
          exact jn60 x1_1 h _ (lv_sub hl [0, 1, 2] rfl)
  exact lp4 fuelN (0 : Int32) (0 : Int32) h _ (lv_sub hl [2, 1, 0] rfl)
noncomputable def f_X13_nextPut_B60 (k10 : Int32 → (Nat → Int32) → Option (Int32 × (Nat → Int32))) (mo_v : Nat → Int32) (wa_lanes : Int32) (wa_beasts : Int32) (x1 : Int32) (mo_put : Nat → Int32) : Option (Int32 × (Nat → Int32)) :=
  k10 (x1 + (-1)) mo_put
noncomputable def f_X13_nextPut_b10 (mo_v : Nat → Int32) (wa_lanes : Int32) (wa_beasts : Int32) (k10 : Int32 → (Nat → Int32) → Option (Int32 × (Nat → Int32))) (x1 : Int32) (mo_put : Nat → Int32) : Option (Int32 × (Nat → Int32)) :=
  (if x1 < 0 then
  some (0, mo_put)
  else
  bd1 (f_X13_isDead mo_v x1) fun r_1 =>
  (if r_1 = 0 then
  gIn x1 5 <|
  gIn x1 5 <|
  gIn x1 5 <|
  (if wa_lanes < ((upd mo_put x1.toNatClampNeg ((mo_put x1.toNatClampNeg) + 1)) x1.toNatClampNeg) then
  gIn x1 5 <|
  f_X13_nextPut_B60 k10 mo_v wa_lanes wa_beasts x1 (upd (upd mo_put x1.toNatClampNeg ((mo_put x1.toNatClampNeg) + 1)) x1.toNatClampNeg 0)
  else
  some (1, upd mo_put x1.toNatClampNeg ((mo_put x1.toNatClampNeg) + 1)))
  else
  f_X13_nextPut_B60 k10 mo_v wa_lanes wa_beasts x1 mo_put))
noncomputable def f_X13_nextPut_L10 (mo_v : Nat → Int32) (wa_lanes : Int32) (wa_beasts : Int32) : Nat → Int32 → (Nat → Int32) → Option (Int32 × (Nat → Int32))
  | 0 => fun _ _ => none
  | n + 1 => f_X13_nextPut_b10 mo_v wa_lanes wa_beasts (f_X13_nextPut_L10 mo_v wa_lanes wa_beasts n)
noncomputable def f_X13_nextPut (mo_v : Nat → Int32) (mo_put : Nat → Int32) (wa_lanes : Int32) (wa_beasts : Int32) : Option (Int32 × (Nat → Int32)) :=
  f_X13_nextPut_L10 mo_v wa_lanes wa_beasts fuelN (wa_beasts - 1) mo_put
theorem hd_X13_nextPut : yX13_nextPut.cls = RX13 ∧ yX13_nextPut.cls ≠ "java/lang/invoke/MethodHandle" ∧ yX13_nextPut.cls ≠ "java/lang/invoke/VarHandle" ∧ (parseMethodDescriptor yX13_nextPut.desc).map (fun d => d.parameters.length) = some 0 := by decide +kernel
set_option maxHeartbeats 4000000 in
set_option maxRecDepth 100000 in
theorem c_X13_nextPut (l : Launch) (D : va_G) (cy : Nat → ClassId) (A : Nat → Prop) (X : va_W) (a_mo a_mo_v a_mo_put a_wa : Nat) (mo_thrown : Int32) (mo_trouble : Int32) (mo_where : Int32) (mo_read : Value) (mo_tape : Value) (mo_taped : Int32) (mo_size : Int32) (mo_spot : Int32) (mo_sort : Int32) (mo_place : Int32) (mo_number : Int32) (mo_fault : Int32) (mo_wrongAt : Int32) (mo_laneTold : Int32) (mo_word : Int64) (mo_x : Value) (mo_past : Value) (mo_kept : Value) (mo_acts : Int32) (mo_marks : Int32) (mo_bestPut : Value) (mo_bestSum : Int64) (mo_row : Value) (mo_best : Value) (mo_left : Value) (mo_bestSize : Int32) (mo_bestLeft : Int32) (mo_counts : Value) (mo_sets : Int32) (mo_foeHarm : Int32) (mo_ownHarm : Int32) (mo_across : Int32) (mo_sumFoe : Int32) (mo_sumOwn : Int32) (mo_sumWon : Int32) (mo_sumAcross : Int32) (mo_v : Nat → Int32) (mo_put : Nat → Int32) (wa_lanes : Int32) (wa_deep : Int32) (wa_told : Int32) (wa_beasts : Int32) (wa_cities : Int32) (wa_passes : Int32) (wa_turned : Int32) (wa_names : Int32) (wa_who : Value) (wa_strong : Value) (wa_kind : Value) (wa_lane : Value) (wa_mood : Value) (wa_price : Value) (wa_loses : Value) (wa_name : Value) (wa_nameSort : Value) (wa_numberOf : Value) (res : Int32) (mo_put' : Nat → Int32) (h : f_X13_nextPut mo_v mo_put wa_lanes wa_beasts = some (res, mo_put')) : Met l yX13_nextPut wo_X13_nextPut ({ frames := 2, cells := 0, slots := 0, locals := 42 }) (wrPc D cy A [.ref a_mo] ([(a_mo, .inr (13, [.int mo_thrown, .int mo_trouble, .int mo_where, .ref a_wa, mo_read, mo_tape, .int mo_taped, .int mo_size, .int mo_spot, .int mo_sort, .int mo_place, .int mo_number, .int mo_fault, .int mo_wrongAt, .int mo_laneTold, .long mo_word, .ref a_mo_v, mo_x, mo_past, mo_kept, .int mo_acts, .int mo_marks, .ref a_mo_put, mo_bestPut, .long mo_bestSum, mo_row, mo_best, mo_left, .int mo_bestSize, .int mo_bestLeft, mo_counts, .int mo_sets, .int mo_foeHarm, .int mo_ownHarm, .int mo_across, .int mo_sumFoe, .int mo_sumOwn, .int mo_sumWon, .int mo_sumAcross])), (a_mo_v, .inl (cy 1, 19, .inl mo_v)), (a_mo_put, .inl (cy 1, 5, .inl mo_put)), (a_wa, .inr (12, [.int wa_lanes, .int wa_deep, .int wa_told, .int wa_beasts, .int wa_cities, .int wa_passes, .int wa_turned, .int wa_names, wa_who, wa_strong, wa_kind, wa_lane, wa_mood, wa_price, wa_loses, wa_name, wa_nameSort, wa_numberOf]))] ++ X)) (va_Qi (fun (r : Int32) (_ : Unit) => r = res ∧ nbv r) (wB D A ([(a_mo, .inr (13, [.int mo_thrown, .int mo_trouble, .int mo_where, .ref a_wa, mo_read, mo_tape, .int mo_taped, .int mo_size, .int mo_spot, .int mo_sort, .int mo_place, .int mo_number, .int mo_fault, .int mo_wrongAt, .int mo_laneTold, .long mo_word, .ref a_mo_v, mo_x, mo_past, mo_kept, .int mo_acts, .int mo_marks, .ref a_mo_put, mo_bestPut, .long mo_bestSum, mo_row, mo_best, mo_left, .int mo_bestSize, .int mo_bestLeft, mo_counts, .int mo_sets, .int mo_foeHarm, .int mo_ownHarm, .int mo_across, .int mo_sumFoe, .int mo_sumOwn, .int mo_sumWon, .int mo_sumAcross])), (a_mo_v, .inl (cy 1, 19, .inl mo_v)), (a_mo_put, .inl (cy 1, 5, .inl mo_put')), (a_wa, .inr (12, [.int wa_lanes, .int wa_deep, .int wa_told, .int wa_beasts, .int wa_cities, .int wa_passes, .int wa_turned, .int wa_names, wa_who, wa_strong, wa_kind, wa_lane, wa_mood, wa_price, wa_loses, wa_name, wa_nameSort, wa_numberOf]))] ++ X)) A) 0 0 A := by
  refine Met.ofW (cc := cX13_nextPut) (maxL := 2) (ret := (some .boolean)) (by decide) rfl ?_
  intro p e s m args below meth c s₁ B hml hv
  obtain ⟨rfl, hP, hKN, hD, hA⟩ := hv
  have hK := hKN.1
  have hx := B.exec
  have hb := B.bytes
  have hr := B.returns
  have hts := wt_X13_nextPut hKN.2.2 (([.ref a_mo] : List Value).toArray)
  have hown : s.vm.findClass RX13 = some m.cls := findClass_of_methodNamed B.named
  have hlocks := B.notSynchronized
  have hS : va_S A s.heap s.heap [] := va_S.rf
  have hX12 := wc_X12 hKN.2.2 (([.ref a_mo] : List Value).toArray)
  have hX13 := wc_X13 hKN.2.2 (([.ref a_mo] : List Value).toArray)
  have hl := lv_entry ([.ref a_mo]) (n := 2) (Nat.le_of_ble_eq_true rfl)
  rw [lg_entry_eq]
  generalize (lg_sl ([.ref a_mo]) ++ List.replicate (2 - (lg_sl ([.ref a_mo])).length) Slot.unset).toArray = ls at hl ⊢
  have hl : lv_has ls 2 [(0, .ref a_mo)] := hl
  unfold f_X13_nextPut at h
  refine lv_aload_n hx hb dX13_nextPut_0 rfl (lv_at hl 0 rfl) ?_
  refine va_get (D := D) (ci := 13) (C := RX13) (T := TX13) (N := 39) (v := .ref a_wa) hx hb hX13 (fun _ q => q) hown hK hP 0 rfl rfl 3 (by decide) (hts (.fieldLink RX13 301 "ElephantLineModel" "war" "LElephantLineModel$War;") (by decide +kernel)) (fun _ h9 => h9) rfl dX13_nextPut_1 ?_
  refine va_getN (D := D) (ci := 12) (C := RX12) (T := TX12) (N := 18) (v := .int wa_beasts) hx hb hX12 (fun _ q => q) hown hK hP 3 rfl rfl 3 (by decide) (va_Nw.use rfl (hKN.2.1.1 ("ElephantLineModel", 195, "ElephantLineModel$War", "beasts", "I", "ElephantLineModel") (List.mem_of_getElem? (i := 70) rfl))) (fun _ h9 => h9) rfl dX13_nextPut_4 ?_
  refine lv_iconst (v := 1) hx hb dX13_nextPut_7 (by decide) ?_
  refine lv_isub hx hb dX13_nextPut_8 ?_
  refine lv_istore_n (lv' := [(1, .int (wa_beasts - 1)), (0, .ref a_mo)]) hx hb dX13_nextPut_9 rfl hl (by decide) rfl (fun ls hl => ?_)
  have lp10 : ∀ (n10 : Nat) (x1_1 : Int32) (mo_put_2 : Nat → Int32), f_X13_nextPut_L10 mo_v wa_lanes wa_beasts n10 x1_1 mo_put_2 = some (res, mo_put') → ∀ (H : Heap) (locs : List Loc), va_P D vwCl ([(a_mo, .inr (13, [.int mo_thrown, .int mo_trouble, .int mo_where, .ref a_wa, mo_read, mo_tape, .int mo_taped, .int mo_size, .int mo_spot, .int mo_sort, .int mo_place, .int mo_number, .int mo_fault, .int mo_wrongAt, .int mo_laneTold, .long mo_word, .ref a_mo_v, mo_x, mo_past, mo_kept, .int mo_acts, .int mo_marks, .ref a_mo_put, mo_bestPut, .long mo_bestSum, mo_row, mo_best, mo_left, .int mo_bestSize, .int mo_bestLeft, mo_counts, .int mo_sets, .int mo_foeHarm, .int mo_ownHarm, .int mo_across, .int mo_sumFoe, .int mo_sumOwn, .int mo_sumWon, .int mo_sumAcross])), (a_mo_v, .inl (cy 1, 19, .inl mo_v)), (a_mo_put, .inl (cy 1, 5, .inl mo_put_2)), (a_wa, .inr (12, [.int wa_lanes, .int wa_deep, .int wa_told, .int wa_beasts, .int wa_cities, .int wa_passes, .int wa_turned, .int wa_names, wa_who, wa_strong, wa_kind, wa_lane, wa_mood, wa_price, wa_loses, wa_name, wa_nameSort, wa_numberOf]))] ++ X) H → va_D A ([(a_mo, .inr (13, [.int mo_thrown, .int mo_trouble, .int mo_where, .ref a_wa, mo_read, mo_tape, .int mo_taped, .int mo_size, .int mo_spot, .int mo_sort, .int mo_place, .int mo_number, .int mo_fault, .int mo_wrongAt, .int mo_laneTold, .long mo_word, .ref a_mo_v, mo_x, mo_past, mo_kept, .int mo_acts, .int mo_marks, .ref a_mo_put, mo_bestPut, .long mo_bestSum, mo_row, mo_best, mo_left, .int mo_bestSize, .int mo_bestLeft, mo_counts, .int mo_sets, .int mo_foeHarm, .int mo_ownHarm, .int mo_across, .int mo_sumFoe, .int mo_sumOwn, .int mo_sumWon, .int mo_sumAcross])), (a_mo_v, .inl (cy 1, 19, .inl mo_v)), (a_mo_put, .inl (cy 1, 5, .inl mo_put_2)), (a_wa, .inr (12, [.int wa_lanes, .int wa_deep, .int wa_told, .int wa_beasts, .int wa_cities, .int wa_passes, .int wa_turned, .int wa_names, wa_who, wa_strong, wa_kind, wa_lane, wa_mood, wa_price, wa_loses, wa_name, wa_nameSort, wa_numberOf]))] ++ X) → va_S A s.heap H locs → ∀ ls : Array Slot, lv_has ls 2 [(0, .ref a_mo), (1, .int x1_1)] → W p l e (headSpec wo_X13_nextPut ({ frames := 2, cells := 0, slots := 0, locals := 42 })).room s m (([.ref a_mo] : List Value).toArray) below meth c H locs 0 0 (MQ below (va_Qi (fun (r : Int32) (_ : Unit) => r = res ∧ nbv r) (wB D A ([(a_mo, .inr (13, [.int mo_thrown, .int mo_trouble, .int mo_where, .ref a_wa, mo_read, mo_tape, .int mo_taped, .int mo_size, .int mo_spot, .int mo_sort, .int mo_place, .int mo_number, .int mo_fault, .int mo_wrongAt, .int mo_laneTold, .long mo_word, .ref a_mo_v, mo_x, mo_past, mo_kept, .int mo_acts, .int mo_marks, .ref a_mo_put, mo_bestPut, .long mo_bestSum, mo_row, mo_best, mo_left, .int mo_bestSize, .int mo_bestLeft, mo_counts, .int mo_sets, .int mo_foeHarm, .int mo_ownHarm, .int mo_across, .int mo_sumFoe, .int mo_sumOwn, .int mo_sumWon, .int mo_sumAcross])), (a_mo_v, .inl (cy 1, 19, .inl mo_v)), (a_mo_put, .inl (cy 1, 5, .inl mo_put')), (a_wa, .inr (12, [.int wa_lanes, .int wa_deep, .int wa_told, .int wa_beasts, .int wa_cities, .int wa_passes, .int wa_turned, .int wa_names, wa_who, wa_strong, wa_kind, wa_lane, wa_mood, wa_price, wa_loses, wa_name, wa_nameSort, wa_numberOf]))] ++ X)) A) (([.ref a_mo] : List Value).toArray) s 0 0 A) (F0 m 10 ls []) := by
    intro n10
    induction n10 with
    | zero => intro x1_1 mo_put_2 h; exact absurd (show (none : Option (Int32 × (Nat → Int32))) = some _ from h) (by intro q; cases q)
    | succ n10 ih10 =>
      intro x1_1 mo_put_2 h H locs hP hD hS ls hl
      have h : f_X13_nextPut_b10 mo_v wa_lanes wa_beasts (f_X13_nextPut_L10 mo_v wa_lanes wa_beasts n10) x1_1 mo_put_2 = some (res, mo_put') := h
      unfold f_X13_nextPut_b10 at h
      refine lv_iload_n hx hb dX13_nextPut_10 rfl (lv_at hl 1 rfl) ?_
      refine lv_if_lt (tgt := 66) hx hb dX13_nextPut_11 (by decide) (fun cd => ?_) (fun cd => ?_)
      · have h := ifT cd h
        refine lv_iconst (v := 0) hx hb dX13_nextPut_66 (by decide) ?_
        cases h
        exact W.zret (ty := .boolean) hx hb hr (nbv.n nbv_0) (fun t ht _ => ⟨⟨_, (), rfl, ⟨rfl, nbv_0⟩, by rw [ht]; exact hP, hD⟩, hS.F ht⟩) hS.2.2 dX13_nextPut_67
      · have h := ifF cd h
        refine lv_aload_n hx hb dX13_nextPut_14 rfl (lv_at hl 0 rfl) ?_
        refine lv_iload_n hx hb dX13_nextPut_15 rfl (lv_at hl 1 rfl) ?_
        obtain ⟨r_3, hc_4, h⟩ := bd1_some h
        refine kVb [.int x1_1] [] ⟨hx, hb, hml, hown, hts⟩ (c_X13_isDead l D cy a_mo a_mo_v mo_thrown mo_trouble mo_where (.ref a_wa) (mo_read) (mo_tape) mo_taped mo_size mo_spot mo_sort mo_place mo_number mo_fault mo_wrongAt mo_laneTold mo_word (mo_x) (mo_past) (mo_kept) mo_acts mo_marks (.ref a_mo_put) (mo_bestPut) mo_bestSum (mo_row) (mo_best) (mo_left) mo_bestSize mo_bestLeft (mo_counts) mo_sets mo_foeHarm mo_ownHarm mo_across mo_sumFoe mo_sumOwn mo_sumWon mo_sumAcross mo_v x1_1 r_3 hc_4) gX13_nextPut_X13_isDead rfl hd_X13_isDead ⟨Nat.le_of_ble_eq_true rfl, Nat.le_of_ble_eq_true rfl⟩ rfl rfl hKN (pXc hP [0, 1] rfl) 13 0 rfl rfl rfl hl.1 rfl (Nat.le_of_ble_eq_true rfl) dX13_nextPut_16 ⟨Nat.le_of_ble_eq_true rfl, Nat.le_of_ble_eq_true rfl⟩ (fun nb_5 => ?_)
        have jn60 : ∀ (mo_put_6 : Nat → Int32), f_X13_nextPut_B60 (f_X13_nextPut_L10 mo_v wa_lanes wa_beasts n10) mo_v wa_lanes wa_beasts x1_1 mo_put_6 = some (res, mo_put') → ∀ (H : Heap) (locs : List Loc), va_P D vwCl ([(a_mo, .inr (13, [.int mo_thrown, .int mo_trouble, .int mo_where, .ref a_wa, mo_read, mo_tape, .int mo_taped, .int mo_size, .int mo_spot, .int mo_sort, .int mo_place, .int mo_number, .int mo_fault, .int mo_wrongAt, .int mo_laneTold, .long mo_word, .ref a_mo_v, mo_x, mo_past, mo_kept, .int mo_acts, .int mo_marks, .ref a_mo_put, mo_bestPut, .long mo_bestSum, mo_row, mo_best, mo_left, .int mo_bestSize, .int mo_bestLeft, mo_counts, .int mo_sets, .int mo_foeHarm, .int mo_ownHarm, .int mo_across, .int mo_sumFoe, .int mo_sumOwn, .int mo_sumWon, .int mo_sumAcross])), (a_mo_v, .inl (cy 1, 19, .inl mo_v)), (a_mo_put, .inl (cy 1, 5, .inl mo_put_6)), (a_wa, .inr (12, [.int wa_lanes, .int wa_deep, .int wa_told, .int wa_beasts, .int wa_cities, .int wa_passes, .int wa_turned, .int wa_names, wa_who, wa_strong, wa_kind, wa_lane, wa_mood, wa_price, wa_loses, wa_name, wa_nameSort, wa_numberOf]))] ++ X) H → va_D A ([(a_mo, .inr (13, [.int mo_thrown, .int mo_trouble, .int mo_where, .ref a_wa, mo_read, mo_tape, .int mo_taped, .int mo_size, .int mo_spot, .int mo_sort, .int mo_place, .int mo_number, .int mo_fault, .int mo_wrongAt, .int mo_laneTold, .long mo_word, .ref a_mo_v, mo_x, mo_past, mo_kept, .int mo_acts, .int mo_marks, .ref a_mo_put, mo_bestPut, .long mo_bestSum, mo_row, mo_best, mo_left, .int mo_bestSize, .int mo_bestLeft, mo_counts, .int mo_sets, .int mo_foeHarm, .int mo_ownHarm, .int mo_across, .int mo_sumFoe, .int mo_sumOwn, .int mo_sumWon, .int mo_sumAcross])), (a_mo_v, .inl (cy 1, 19, .inl mo_v)), (a_mo_put, .inl (cy 1, 5, .inl mo_put_6)), (a_wa, .inr (12, [.int wa_lanes, .int wa_deep, .int wa_told, .int wa_beasts, .int wa_cities, .int wa_passes, .int wa_turned, .int wa_names, wa_who, wa_strong, wa_kind, wa_lane, wa_mood, wa_price, wa_loses, wa_name, wa_nameSort, wa_numberOf]))] ++ X) → va_S A s.heap H locs → ∀ ls : Array Slot, lv_has ls 2 [(0, .ref a_mo), (1, .int x1_1)] → W p l e (headSpec wo_X13_nextPut ({ frames := 2, cells := 0, slots := 0, locals := 42 })).room s m (([.ref a_mo] : List Value).toArray) below meth c H locs 0 0 (MQ below (va_Qi (fun (r : Int32) (_ : Unit) => r = res ∧ nbv r) (wB D A ([(a_mo, .inr (13, [.int mo_thrown, .int mo_trouble, .int mo_where, .ref a_wa, mo_read, mo_tape, .int mo_taped, .int mo_size, .int mo_spot, .int mo_sort, .int mo_place, .int mo_number, .int mo_fault, .int mo_wrongAt, .int mo_laneTold, .long mo_word, .ref a_mo_v, mo_x, mo_past, mo_kept, .int mo_acts, .int mo_marks, .ref a_mo_put, mo_bestPut, .long mo_bestSum, mo_row, mo_best, mo_left, .int mo_bestSize, .int mo_bestLeft, mo_counts, .int mo_sets, .int mo_foeHarm, .int mo_ownHarm, .int mo_across, .int mo_sumFoe, .int mo_sumOwn, .int mo_sumWon, .int mo_sumAcross])), (a_mo_v, .inl (cy 1, 19, .inl mo_v)), (a_mo_put, .inl (cy 1, 5, .inl mo_put')), (a_wa, .inr (12, [.int wa_lanes, .int wa_deep, .int wa_told, .int wa_beasts, .int wa_cities, .int wa_passes, .int wa_turned, .int wa_names, wa_who, wa_strong, wa_kind, wa_lane, wa_mood, wa_price, wa_loses, wa_name, wa_nameSort, wa_numberOf]))] ++ X)) A) (([.ref a_mo] : List Value).toArray) s 0 0 A) (F0 m 60 ls []) := by
          intro mo_put_6 h H locs hP hD hS ls hl
          unfold f_X13_nextPut_B60 at h
          refine lv_iinc (v := x1_1 + (-1)) (lv' := [(1, .int (x1_1 + (-1))), (0, .ref a_mo)]) hx hb dX13_nextPut_60 hl (k := 1) rfl (by first | rfl | decide) (by decide) rfl (fun ls hl => ?_)
          refine lv_goto (tgt := 10) hx hb dX13_nextPut_63 (by decide) ?_
          exact ih10 (x1_1 + (-1)) mo_put_6 h _ _ hP hD hS _ (lv_sub hl [1, 0] rfl)
        refine lv_if_eq (tgt := 25) hx hb dX13_nextPut_19 (by decide) (fun cd => ?_) (fun cd => ?_)
        · have h := ifT cd h
          refine lv_aload_n hx hb dX13_nextPut_25 rfl (lv_at hl 0 rfl) ?_
          refine va_get (D := D) (ci := 13) (C := RX13) (T := TX13) (N := 39) (v := .ref a_mo_put) hx hb hX13 (fun _ q => q) hown hK hP 0 rfl rfl 22 (by decide) (hts (.fieldLink RX13 30 "ElephantLineModel" "put" "[I") (by decide +kernel)) (fun _ h9 => h9) rfl dX13_nextPut_26 ?_
          refine lv_iload_n hx hb dX13_nextPut_29 rfl (lv_at hl 1 rfl) ?_
          refine lv_dup2_11 hx hb dX13_nextPut_30 rfl rfl ?_
          obtain ⟨i_7, h⟩ := gIn_some h
          refine va_iald hx hb hK hP 2 1 rfl rfl i_7 dX13_nextPut_31 ?_
          refine lv_iconst (v := 1) hx hb dX13_nextPut_32 (by decide) ?_
          refine lv_iadd hx hb dX13_nextPut_33 ?_
          obtain ⟨i_8, h⟩ := gIn_some h
          refine va_iast hx hb hK hP hD hS 2 1 rfl rfl i_8 dX13_nextPut_34 (fun H locs hP hD hS => ?_)
          refine lv_aload_n hx hb dX13_nextPut_35 rfl (lv_at hl 0 rfl) ?_
          refine va_get (D := D) (ci := 13) (C := RX13) (T := TX13) (N := 39) (v := .ref a_mo_put) hx hb hX13 (fun _ q => q) hown hK hP 0 rfl rfl 22 (by decide) (hts (.fieldLink RX13 30 "ElephantLineModel" "put" "[I") (by decide +kernel)) (fun _ h9 => h9) rfl dX13_nextPut_36 ?_
          refine lv_iload_n hx hb dX13_nextPut_39 rfl (lv_at hl 1 rfl) ?_
          obtain ⟨i_9, h⟩ := gIn_some h
          refine va_iald hx hb hK hP 2 1 rfl rfl i_9 dX13_nextPut_40 ?_
          refine lv_aload_n hx hb dX13_nextPut_41 rfl (lv_at hl 0 rfl) ?_
          refine va_get (D := D) (ci := 13) (C := RX13) (T := TX13) (N := 39) (v := .ref a_wa) hx hb hX13 (fun _ q => q) hown hK hP 0 rfl rfl 3 (by decide) (hts (.fieldLink RX13 301 "ElephantLineModel" "war" "LElephantLineModel$War;") (by decide +kernel)) (fun _ h9 => h9) rfl dX13_nextPut_42 ?_
          refine va_getN (D := D) (ci := 12) (C := RX12) (T := TX12) (N := 18) (v := .int wa_lanes) hx hb hX12 (fun _ q => q) hown hK hP 3 rfl rfl 0 (by decide) (va_Nw.use rfl (hKN.2.1.1 ("ElephantLineModel", 160, "ElephantLineModel$War", "lanes", "I", "ElephantLineModel") (List.mem_of_getElem? (i := 67) rfl))) (fun _ h9 => h9) rfl dX13_nextPut_45 ?_
          refine lv_icmp_gt (tgt := 53) hx hb dX13_nextPut_48 (by decide) (fun cd => ?_) (fun cd => ?_)
          · have h := ifT cd h
            refine lv_aload_n hx hb dX13_nextPut_53 rfl (lv_at hl 0 rfl) ?_
            refine va_get (D := D) (ci := 13) (C := RX13) (T := TX13) (N := 39) (v := .ref a_mo_put) hx hb hX13 (fun _ q => q) hown hK hP 0 rfl rfl 22 (by decide) (hts (.fieldLink RX13 30 "ElephantLineModel" "put" "[I") (by decide +kernel)) (fun _ h9 => h9) rfl dX13_nextPut_54 ?_
            refine lv_iload_n hx hb dX13_nextPut_57 rfl (lv_at hl 1 rfl) ?_
            refine lv_iconst (v := 0) hx hb dX13_nextPut_58 (by decide) ?_
            obtain ⟨i_10, h⟩ := gIn_some h
            refine va_iast hx hb hK hP hD hS 2 1 rfl rfl i_10 dX13_nextPut_59 (fun H locs hP hD hS => ?_)
            exact jn60 (upd (upd mo_put_2 x1_1.toNatClampNeg ((mo_put_2 x1_1.toNatClampNeg) + 1)) x1_1.toNatClampNeg 0) h _ _ hP hD hS _ (lv_sub hl [0, 1] rfl)
          · have h := ifF cd h
            refine lv_iconst (v := 1) hx hb dX13_nextPut_51 (by decide) ?_
            cases h
            exact W.zret (ty := .boolean) hx hb hr (nbv.n nbv_1) (fun t ht _ => ⟨⟨_, (), rfl, ⟨rfl, nbv_1⟩, by rw [ht]; exact hP, hD⟩, hS.F ht⟩) hS.2.2 dX13_nextPut_52
        · have h := ifF cd h
          refine lv_goto (tgt := 60) hx hb dX13_nextPut_22 (by decide) ?_
          exact jn60 mo_put_2 h _ _ hP hD hS _ (lv_sub hl [0, 1] rfl)
  exact lp10 fuelN (wa_beasts - 1) mo_put h _ _ hP hD hS _ (lv_sub hl [1, 0] rfl)
noncomputable def f_X13_priceOf_B37 (k4 : Int32 → Int32 → Option (Int32)) (wa_beasts : Int32) (wa_price : Nat → Int32) (x1 : Int32) (x3 : Int32) (t0 : Int32) (t1 : Int32) : Option (Int32) :=
  k4 (t0 + t1) (x3 + 1)
noncomputable def f_X13_priceOf_b4 (wa_beasts : Int32) (wa_price : Nat → Int32) (x1 : Int32) (k4 : Int32 → Int32 → Option (Int32)) (x2 : Int32) (x3 : Int32) : Option (Int32) :=
  (if wa_beasts ≤ x3 then
  some (x2)
  else
  bd1 (f_X13_bit  x1 x3) fun r_1 =>
  (if r_1 = 0 then
  f_X13_priceOf_B37 k4 wa_beasts wa_price x1 x3 x2 0
  else
  gIn x3 5 <|
  f_X13_priceOf_B37 k4 wa_beasts wa_price x1 x3 x2 (wa_price x3.toNatClampNeg)))
noncomputable def f_X13_priceOf_L4 (wa_beasts : Int32) (wa_price : Nat → Int32) (x1 : Int32) : Nat → Int32 → Int32 → Option (Int32)
  | 0 => fun _ _ => none
  | n + 1 => f_X13_priceOf_b4 wa_beasts wa_price x1 (f_X13_priceOf_L4 wa_beasts wa_price x1 n)
noncomputable def f_X13_priceOf (wa_beasts : Int32) (wa_price : Nat → Int32) (p1 : Int32) : Option (Int32) :=
  f_X13_priceOf_L4 wa_beasts wa_price p1 fuelN 0 0
theorem hd_X13_priceOf : yX13_priceOf.cls = RX13 ∧ yX13_priceOf.cls ≠ "java/lang/invoke/MethodHandle" ∧ yX13_priceOf.cls ≠ "java/lang/invoke/VarHandle" ∧ (parseMethodDescriptor yX13_priceOf.desc).map (fun d => d.parameters.length) = some 1 := by decide +kernel
set_option maxHeartbeats 4000000 in
set_option maxRecDepth 100000 in
theorem c_X13_priceOf (l : Launch) (D : va_G) (cy : Nat → ClassId) (a_mo a_wa a_wa_price : Nat) (mo_thrown : Int32) (mo_trouble : Int32) (mo_where : Int32) (mo_read : Value) (mo_tape : Value) (mo_taped : Int32) (mo_size : Int32) (mo_spot : Int32) (mo_sort : Int32) (mo_place : Int32) (mo_number : Int32) (mo_fault : Int32) (mo_wrongAt : Int32) (mo_laneTold : Int32) (mo_word : Int64) (mo_v : Value) (mo_x : Value) (mo_past : Value) (mo_kept : Value) (mo_acts : Int32) (mo_marks : Int32) (mo_put : Value) (mo_bestPut : Value) (mo_bestSum : Int64) (mo_row : Value) (mo_best : Value) (mo_left : Value) (mo_bestSize : Int32) (mo_bestLeft : Int32) (mo_counts : Value) (mo_sets : Int32) (mo_foeHarm : Int32) (mo_ownHarm : Int32) (mo_across : Int32) (mo_sumFoe : Int32) (mo_sumOwn : Int32) (mo_sumWon : Int32) (mo_sumAcross : Int32) (wa_lanes : Int32) (wa_deep : Int32) (wa_told : Int32) (wa_beasts : Int32) (wa_cities : Int32) (wa_passes : Int32) (wa_turned : Int32) (wa_names : Int32) (wa_who : Value) (wa_strong : Value) (wa_kind : Value) (wa_lane : Value) (wa_mood : Value) (wa_loses : Value) (wa_name : Value) (wa_nameSort : Value) (wa_numberOf : Value) (wa_price : Nat → Int32) (p1 : Int32) (res : Int32) (h : f_X13_priceOf wa_beasts wa_price p1 = some (res)) : Met l yX13_priceOf wo_X13_priceOf ({ frames := 1, cells := 0, slots := 0, locals := 21 }) (roPc D cy [.ref a_mo, .int p1] [(a_mo, .inr (13, [.int mo_thrown, .int mo_trouble, .int mo_where, .ref a_wa, mo_read, mo_tape, .int mo_taped, .int mo_size, .int mo_spot, .int mo_sort, .int mo_place, .int mo_number, .int mo_fault, .int mo_wrongAt, .int mo_laneTold, .long mo_word, mo_v, mo_x, mo_past, mo_kept, .int mo_acts, .int mo_marks, mo_put, mo_bestPut, .long mo_bestSum, mo_row, mo_best, mo_left, .int mo_bestSize, .int mo_bestLeft, mo_counts, .int mo_sets, .int mo_foeHarm, .int mo_ownHarm, .int mo_across, .int mo_sumFoe, .int mo_sumOwn, .int mo_sumWon, .int mo_sumAcross])), (a_wa, .inr (12, [.int wa_lanes, .int wa_deep, .int wa_told, .int wa_beasts, .int wa_cities, .int wa_passes, .int wa_turned, .int wa_names, wa_who, wa_strong, wa_kind, wa_lane, wa_mood, .ref a_wa_price, wa_loses, wa_name, wa_nameSort, wa_numberOf])), (a_wa_price, .inl (cy 1, 5, .inl wa_price))]) (vp_Si (fun r => r = res)) 0 0 (fun _ => False) := by
  refine Met.ofW (cc := cX13_priceOf) (maxL := 4) (ret := (some .int)) (by decide) rfl ?_
  intro p e s m args below meth c s₁ B hml hv
  obtain ⟨rfl, hP, hKN⟩ := hv
  have hK := hKN.1
  have hx := B.exec
  have hb := B.bytes
  have hr := B.returns
  have hts := wt_X13_priceOf hKN.2.2 (([.ref a_mo, .int p1] : List Value).toArray)
  have hown : s.vm.findClass RX13 = some m.cls := findClass_of_methodNamed B.named
  have hlocks := B.notSynchronized
  have hX12 := wc_X12 hKN.2.2 (([.ref a_mo, .int p1] : List Value).toArray)
  have hX13 := wc_X13 hKN.2.2 (([.ref a_mo, .int p1] : List Value).toArray)
  have hl := lv_entry ([.ref a_mo, .int p1]) (n := 4) (Nat.le_of_ble_eq_true rfl)
  rw [lg_entry_eq]
  generalize (lg_sl ([.ref a_mo, .int p1]) ++ List.replicate (4 - (lg_sl ([.ref a_mo, .int p1])).length) Slot.unset).toArray = ls at hl ⊢
  have hl : lv_has ls 4 [(0, .ref a_mo), (1, .int p1)] := hl
  unfold f_X13_priceOf at h
  refine lv_iconst (v := 0) hx hb dX13_priceOf_0 (by decide) ?_
  refine lv_istore_n (lv' := [(2, .int 0), (0, .ref a_mo), (1, .int p1)]) hx hb dX13_priceOf_1 rfl hl (by decide) rfl (fun ls hl => ?_)
  refine lv_iconst (v := 0) hx hb dX13_priceOf_2 (by decide) ?_
  refine lv_istore_n (lv' := [(3, .int 0), (2, .int 0), (0, .ref a_mo), (1, .int p1)]) hx hb dX13_priceOf_3 rfl hl (by decide) rfl (fun ls hl => ?_)
  have lp4 : ∀ (n4 : Nat) (x2_1 : Int32) (x3_2 : Int32), f_X13_priceOf_L4 wa_beasts wa_price p1 n4 x2_1 x3_2 = some (res) → ∀ ls : Array Slot, lv_has ls 4 [(0, .ref a_mo), (1, .int p1), (2, .int x2_1), (3, .int x3_2)] → W p l e (headSpec wo_X13_priceOf ({ frames := 1, cells := 0, slots := 0, locals := 21 })).room s m (([.ref a_mo, .int p1] : List Value).toArray) below meth c s.heap [] 0 0 (MQ below (vp_Si (fun r => r = res)) (([.ref a_mo, .int p1] : List Value).toArray) s 0 0 (fun _ => False)) (F0 m 4 ls []) := by
    intro n4
    induction n4 with
    | zero => intro x2_1 x3_2 h; exact absurd (show (none : Option (Int32)) = some _ from h) (by intro q; cases q)
    | succ n4 ih4 =>
      intro x2_1 x3_2 h ls hl
      have h : f_X13_priceOf_b4 wa_beasts wa_price p1 (f_X13_priceOf_L4 wa_beasts wa_price p1 n4) x2_1 x3_2 = some (res) := h
      unfold f_X13_priceOf_b4 at h
      refine lv_iload_n hx hb dX13_priceOf_4 rfl (lv_at hl 3 rfl) ?_
      refine lv_aload_n hx hb dX13_priceOf_5 rfl (lv_at hl 0 rfl) ?_
      refine va_get (D := D) (ci := 13) (C := RX13) (T := TX13) (N := 39) (v := .ref a_wa) hx hb hX13 (fun _ q => q) hown hK hP 0 rfl rfl 3 (by decide) (hts (.fieldLink RX13 301 "ElephantLineModel" "war" "LElephantLineModel$War;") (by decide +kernel)) (fun _ h9 => h9) rfl dX13_priceOf_6 ?_
      refine va_getN (D := D) (ci := 12) (C := RX12) (T := TX12) (N := 18) (v := .int wa_beasts) hx hb hX12 (fun _ q => q) hown hK hP 1 rfl rfl 3 (by decide) (va_Nw.use rfl (hKN.2.1.1 ("ElephantLineModel", 195, "ElephantLineModel$War", "beasts", "I", "ElephantLineModel") (List.mem_of_getElem? (i := 70) rfl))) (fun _ h9 => h9) rfl dX13_priceOf_9 ?_
      refine lv_icmp_ge (tgt := 45) hx hb dX13_priceOf_12 (by decide) (fun cd => ?_) (fun cd => ?_)
      · have h := ifT cd h
        refine lv_iload_n hx hb dX13_priceOf_45 rfl (lv_at hl 2 rfl) ?_
        exact W.iret (v := x2_1) hx hb hr (fun t ht _ => ⟨_, rfl, Option.some.inj h, ht⟩) (fun _ q => by cases q) dX13_priceOf_46
      · have h := ifF cd h
        refine lv_iload_n hx hb dX13_priceOf_15 rfl (lv_at hl 2 rfl) ?_
        refine lv_iload_n hx hb dX13_priceOf_16 rfl (lv_at hl 1 rfl) ?_
        refine lv_iload_n hx hb dX13_priceOf_17 rfl (lv_at hl 3 rfl) ?_
        obtain ⟨r_3, hc_4, h⟩ := bd1_some h
        refine kSb [.int p1, .int x3_2] [.int x2_1] ⟨hx, hb, hml, hown, hts⟩ (c_X13_bit l D cy p1 x3_2 r_3 hc_4) gX13_priceOf_X13_bit rfl hd_X13_bit ⟨Nat.le_of_ble_eq_true rfl, Nat.le_of_ble_eq_true rfl⟩ rfl rfl hKN va_nil rfl hl.1 rfl (Nat.le_of_ble_eq_true rfl) dX13_priceOf_18 ⟨Nat.le_of_ble_eq_true rfl, Nat.le_of_ble_eq_true rfl⟩ (fun nb_5 => ?_)
        have jn37 : ∀ (t1_6 : Int32), f_X13_priceOf_B37 (f_X13_priceOf_L4 wa_beasts wa_price p1 n4) wa_beasts wa_price p1 x3_2 x2_1 t1_6 = some (res) → ∀ ls : Array Slot, lv_has ls 4 [(0, .ref a_mo), (1, .int p1), (3, .int x3_2)] → W p l e (headSpec wo_X13_priceOf ({ frames := 1, cells := 0, slots := 0, locals := 21 })).room s m (([.ref a_mo, .int p1] : List Value).toArray) below meth c s.heap [] 0 0 (MQ below (vp_Si (fun r => r = res)) (([.ref a_mo, .int p1] : List Value).toArray) s 0 0 (fun _ => False)) (F0 m 37 ls [.int t1_6, .int x2_1]) := by
          intro t1_6 h ls hl
          unfold f_X13_priceOf_B37 at h
          refine lv_iadd hx hb dX13_priceOf_37 ?_
          refine lv_istore_n (lv' := [(2, .int (x2_1 + t1_6)), (0, .ref a_mo), (1, .int p1), (3, .int x3_2)]) hx hb dX13_priceOf_38 rfl hl (by decide) rfl (fun ls hl => ?_)
          refine lv_iinc (v := x3_2 + 1) (lv' := [(3, .int (x3_2 + 1)), (2, .int (x2_1 + t1_6)), (0, .ref a_mo), (1, .int p1)]) hx hb dX13_priceOf_39 hl (k := 3) rfl (by first | rfl | decide) (by decide) rfl (fun ls hl => ?_)
          refine lv_goto (tgt := 4) hx hb dX13_priceOf_42 (by decide) ?_
          exact ih4 (x2_1 + t1_6) (x3_2 + 1) h _ (lv_sub hl [2, 3, 1, 0] rfl)
        refine lv_if_eq (tgt := 36) hx hb dX13_priceOf_21 (by decide) (fun cd => ?_) (fun cd => ?_)
        · have h := ifT cd h
          refine lv_iconst (v := 0) hx hb dX13_priceOf_36 (by decide) ?_
          exact jn37 (0 : Int32) h _ (lv_sub hl [0, 1, 3] rfl)
        · have h := ifF cd h
          refine lv_aload_n hx hb dX13_priceOf_24 rfl (lv_at hl 0 rfl) ?_
          refine va_get (D := D) (ci := 13) (C := RX13) (T := TX13) (N := 39) (v := .ref a_wa) hx hb hX13 (fun _ q => q) hown hK hP 0 rfl rfl 3 (by decide) (hts (.fieldLink RX13 301 "ElephantLineModel" "war" "LElephantLineModel$War;") (by decide +kernel)) (fun _ h9 => h9) rfl dX13_priceOf_25 ?_
          refine va_getN (D := D) (ci := 12) (C := RX12) (T := TX12) (N := 18) (v := .ref a_wa_price) hx hb hX12 (fun _ q => q) hown hK hP 1 rfl rfl 13 (by decide) (va_Nw.use rfl (hKN.2.1.1 ("ElephantLineModel", 277, "ElephantLineModel$War", "price", "[I", "ElephantLineModel") (List.mem_of_getElem? (i := 80) rfl))) (fun _ h9 => h9) rfl dX13_priceOf_28 ?_
          refine lv_iload_n hx hb dX13_priceOf_31 rfl (lv_at hl 3 rfl) ?_
          obtain ⟨i_7, h⟩ := gIn_some h
          refine va_iald hx hb hK hP 2 1 rfl rfl i_7 dX13_priceOf_32 ?_
          refine lv_goto (tgt := 37) hx hb dX13_priceOf_33 (by decide) ?_
          exact jn37 (wa_price x3_2.toNatClampNeg) h _ (lv_sub hl [0, 1, 3] rfl)
  exact lp4 fuelN (0 : Int32) (0 : Int32) h _ (lv_sub hl [2, 3, 1, 0] rfl)
noncomputable def f_X13_sold_B58 (k5 : Int32 → Int32 → Option (Int32)) (mo_v : Nat → Int32) (wa_beasts : Int32) (wa_price : Nat → Int32) (x1 : Int32) (x2 : Int32) (x3 : Int32) : Option (Int32) :=
  k5 x2 (x3 + 1)
noncomputable def f_X13_sold_B56 (k5 : Int32 → Int32 → Option (Int32)) (mo_v : Nat → Int32) (wa_beasts : Int32) (wa_price : Nat → Int32) (x1 : Int32) (x3 : Int32) : Option (Int32) :=
  f_X13_sold_B58 k5 mo_v wa_beasts wa_price x1 x3 x3
noncomputable def f_X13_sold_b5 (mo_v : Nat → Int32) (wa_beasts : Int32) (wa_price : Nat → Int32) (x1 : Int32) (k5 : Int32 → Int32 → Option (Int32)) (x2 : Int32) (x3 : Int32) : Option (Int32) :=
  (if ((1 : Int32) <<< (wa_beasts &&& 31)) ≤ x3 then
  some (x2)
  else
  (if (x3 &&& (mo_v (10 : Int32).toNatClampNeg)) = 0 then
  bd1 (f_X13_priceOf wa_beasts wa_price x3) fun r_1 =>
  (if r_1 < x1 then
  f_X13_sold_B58 k5 mo_v wa_beasts wa_price x1 x2 x3
  else
  (if x2 = (-2) then
  f_X13_sold_B56 k5 mo_v wa_beasts wa_price x1 x3
  else
  bd1 (f_X13_bits  x3) fun r_3 =>
  bd1 (f_X13_bits  x2) fun r_5 =>
  (if r_5 ≤ r_3 then
  f_X13_sold_B58 k5 mo_v wa_beasts wa_price x1 x2 x3
  else
  f_X13_sold_B56 k5 mo_v wa_beasts wa_price x1 x3)))
  else
  f_X13_sold_B58 k5 mo_v wa_beasts wa_price x1 x2 x3))
noncomputable def f_X13_sold_L5 (mo_v : Nat → Int32) (wa_beasts : Int32) (wa_price : Nat → Int32) (x1 : Int32) : Nat → Int32 → Int32 → Option (Int32)
  | 0 => fun _ _ => none
  | n + 1 => f_X13_sold_b5 mo_v wa_beasts wa_price x1 (f_X13_sold_L5 mo_v wa_beasts wa_price x1 n)
noncomputable def f_X13_sold (mo_v : Nat → Int32) (wa_beasts : Int32) (wa_price : Nat → Int32) (p1 : Int32) : Option (Int32) :=
  f_X13_sold_L5 mo_v wa_beasts wa_price p1 fuelN (-2) 0
theorem hd_X13_sold : yX13_sold.cls = RX13 ∧ yX13_sold.cls ≠ "java/lang/invoke/MethodHandle" ∧ yX13_sold.cls ≠ "java/lang/invoke/VarHandle" ∧ (parseMethodDescriptor yX13_sold.desc).map (fun d => d.parameters.length) = some 1 := by decide +kernel
set_option maxHeartbeats 4000000 in
set_option maxRecDepth 100000 in
theorem c_X13_sold (l : Launch) (D : va_G) (cy : Nat → ClassId) (a_mo a_mo_v a_wa a_wa_price : Nat) (mo_thrown : Int32) (mo_trouble : Int32) (mo_where : Int32) (mo_read : Value) (mo_tape : Value) (mo_taped : Int32) (mo_size : Int32) (mo_spot : Int32) (mo_sort : Int32) (mo_place : Int32) (mo_number : Int32) (mo_fault : Int32) (mo_wrongAt : Int32) (mo_laneTold : Int32) (mo_word : Int64) (mo_x : Value) (mo_past : Value) (mo_kept : Value) (mo_acts : Int32) (mo_marks : Int32) (mo_put : Value) (mo_bestPut : Value) (mo_bestSum : Int64) (mo_row : Value) (mo_best : Value) (mo_left : Value) (mo_bestSize : Int32) (mo_bestLeft : Int32) (mo_counts : Value) (mo_sets : Int32) (mo_foeHarm : Int32) (mo_ownHarm : Int32) (mo_across : Int32) (mo_sumFoe : Int32) (mo_sumOwn : Int32) (mo_sumWon : Int32) (mo_sumAcross : Int32) (mo_v : Nat → Int32) (wa_lanes : Int32) (wa_deep : Int32) (wa_told : Int32) (wa_beasts : Int32) (wa_cities : Int32) (wa_passes : Int32) (wa_turned : Int32) (wa_names : Int32) (wa_who : Value) (wa_strong : Value) (wa_kind : Value) (wa_lane : Value) (wa_mood : Value) (wa_loses : Value) (wa_name : Value) (wa_nameSort : Value) (wa_numberOf : Value) (wa_price : Nat → Int32) (p1 : Int32) (res : Int32) (h : f_X13_sold mo_v wa_beasts wa_price p1 = some (res)) : Met l yX13_sold wo_X13_sold ({ frames := 2, cells := 0, slots := 0, locals := 44 }) (roPc D cy [.ref a_mo, .int p1] [(a_mo, .inr (13, [.int mo_thrown, .int mo_trouble, .int mo_where, .ref a_wa, mo_read, mo_tape, .int mo_taped, .int mo_size, .int mo_spot, .int mo_sort, .int mo_place, .int mo_number, .int mo_fault, .int mo_wrongAt, .int mo_laneTold, .long mo_word, .ref a_mo_v, mo_x, mo_past, mo_kept, .int mo_acts, .int mo_marks, mo_put, mo_bestPut, .long mo_bestSum, mo_row, mo_best, mo_left, .int mo_bestSize, .int mo_bestLeft, mo_counts, .int mo_sets, .int mo_foeHarm, .int mo_ownHarm, .int mo_across, .int mo_sumFoe, .int mo_sumOwn, .int mo_sumWon, .int mo_sumAcross])), (a_mo_v, .inl (cy 1, 19, .inl mo_v)), (a_wa, .inr (12, [.int wa_lanes, .int wa_deep, .int wa_told, .int wa_beasts, .int wa_cities, .int wa_passes, .int wa_turned, .int wa_names, wa_who, wa_strong, wa_kind, wa_lane, wa_mood, .ref a_wa_price, wa_loses, wa_name, wa_nameSort, wa_numberOf])), (a_wa_price, .inl (cy 1, 5, .inl wa_price))]) (vp_Si (fun r => r = res)) 0 0 (fun _ => False) := by
  refine Met.ofW (cc := cX13_sold) (maxL := 4) (ret := (some .int)) (by decide) rfl ?_
  intro p e s m args below meth c s₁ B hml hv
  obtain ⟨rfl, hP, hKN⟩ := hv
  have hK := hKN.1
  have hx := B.exec
  have hb := B.bytes
  have hr := B.returns
  have hts := wt_X13_sold hKN.2.2 (([.ref a_mo, .int p1] : List Value).toArray)
  have hown : s.vm.findClass RX13 = some m.cls := findClass_of_methodNamed B.named
  have hlocks := B.notSynchronized
  have hX12 := wc_X12 hKN.2.2 (([.ref a_mo, .int p1] : List Value).toArray)
  have hX13 := wc_X13 hKN.2.2 (([.ref a_mo, .int p1] : List Value).toArray)
  have hl := lv_entry ([.ref a_mo, .int p1]) (n := 4) (Nat.le_of_ble_eq_true rfl)
  rw [lg_entry_eq]
  generalize (lg_sl ([.ref a_mo, .int p1]) ++ List.replicate (4 - (lg_sl ([.ref a_mo, .int p1])).length) Slot.unset).toArray = ls at hl ⊢
  have hl : lv_has ls 4 [(0, .ref a_mo), (1, .int p1)] := hl
  unfold f_X13_sold at h
  refine lv_bipush (v := (-2)) hx hb dX13_sold_0 (by decide) ?_
  refine lv_istore_n (lv' := [(2, .int (-2)), (0, .ref a_mo), (1, .int p1)]) hx hb dX13_sold_2 rfl hl (by decide) rfl (fun ls hl => ?_)
  refine lv_iconst (v := 0) hx hb dX13_sold_3 (by decide) ?_
  refine lv_istore_n (lv' := [(3, .int 0), (2, .int (-2)), (0, .ref a_mo), (1, .int p1)]) hx hb dX13_sold_4 rfl hl (by decide) rfl (fun ls hl => ?_)
  have lp5 : ∀ (n5 : Nat) (x2_1 : Int32) (x3_2 : Int32), f_X13_sold_L5 mo_v wa_beasts wa_price p1 n5 x2_1 x3_2 = some (res) → ∀ ls : Array Slot, lv_has ls 4 [(0, .ref a_mo), (1, .int p1), (2, .int x2_1), (3, .int x3_2)] → W p l e (headSpec wo_X13_sold ({ frames := 2, cells := 0, slots := 0, locals := 44 })).room s m (([.ref a_mo, .int p1] : List Value).toArray) below meth c s.heap [] 0 0 (MQ below (vp_Si (fun r => r = res)) (([.ref a_mo, .int p1] : List Value).toArray) s 0 0 (fun _ => False)) (F0 m 5 ls []) := by
    intro n5
    induction n5 with
    | zero => intro x2_1 x3_2 h; exact absurd (show (none : Option (Int32)) = some _ from h) (by intro q; cases q)
    | succ n5 ih5 =>
      intro x2_1 x3_2 h ls hl
      have h : f_X13_sold_b5 mo_v wa_beasts wa_price p1 (f_X13_sold_L5 mo_v wa_beasts wa_price p1 n5) x2_1 x3_2 = some (res) := h
      unfold f_X13_sold_b5 at h
      refine lv_iload_n hx hb dX13_sold_5 rfl (lv_at hl 3 rfl) ?_
      refine lv_iconst (v := 1) hx hb dX13_sold_6 (by decide) ?_
      refine lv_aload_n hx hb dX13_sold_7 rfl (lv_at hl 0 rfl) ?_
      refine va_get (D := D) (ci := 13) (C := RX13) (T := TX13) (N := 39) (v := .ref a_wa) hx hb hX13 (fun _ q => q) hown hK hP 0 rfl rfl 3 (by decide) (hts (.fieldLink RX13 301 "ElephantLineModel" "war" "LElephantLineModel$War;") (by decide +kernel)) (fun _ h9 => h9) rfl dX13_sold_8 ?_
      refine va_getN (D := D) (ci := 12) (C := RX12) (T := TX12) (N := 18) (v := .int wa_beasts) hx hb hX12 (fun _ q => q) hown hK hP 2 rfl rfl 3 (by decide) (va_Nw.use rfl (hKN.2.1.1 ("ElephantLineModel", 195, "ElephantLineModel$War", "beasts", "I", "ElephantLineModel") (List.mem_of_getElem? (i := 70) rfl))) (fun _ h9 => h9) rfl dX13_sold_11 ?_
      refine lv_ishl hx hb dX13_sold_14 ?_
      refine lv_icmp_ge (tgt := 64) hx hb dX13_sold_15 (by decide) (fun cd => ?_) (fun cd => ?_)
      · have h := ifT cd h
        refine lv_iload_n hx hb dX13_sold_64 rfl (lv_at hl 2 rfl) ?_
        exact W.iret (v := x2_1) hx hb hr (fun t ht _ => ⟨_, rfl, Option.some.inj h, ht⟩) (fun _ q => by cases q) dX13_sold_65
      · have h := ifF cd h
        refine lv_iload_n hx hb dX13_sold_18 rfl (lv_at hl 3 rfl) ?_
        refine lv_aload_n hx hb dX13_sold_19 rfl (lv_at hl 0 rfl) ?_
        refine va_get (D := D) (ci := 13) (C := RX13) (T := TX13) (N := 39) (v := .ref a_mo_v) hx hb hX13 (fun _ q => q) hown hK hP 0 rfl rfl 16 (by decide) (hts (.fieldLink RX13 17 "ElephantLineModel" "v" "[I") (by decide +kernel)) (fun _ h9 => h9) rfl dX13_sold_20 ?_
        refine lv_bipush (v := 10) hx hb dX13_sold_23 (by decide) ?_
        refine va_iald hx hb hK hP 1 1 rfl rfl (vpc (by decide)) dX13_sold_25 ?_
        refine lv_iand hx hb dX13_sold_26 ?_
        have jn58 : ∀ (x2_3 : Int32), f_X13_sold_B58 (f_X13_sold_L5 mo_v wa_beasts wa_price p1 n5) mo_v wa_beasts wa_price p1 x2_3 x3_2 = some (res) → ∀ ls : Array Slot, lv_has ls 4 [(0, .ref a_mo), (1, .int p1), (2, .int x2_3), (3, .int x3_2)] → W p l e (headSpec wo_X13_sold ({ frames := 2, cells := 0, slots := 0, locals := 44 })).room s m (([.ref a_mo, .int p1] : List Value).toArray) below meth c s.heap [] 0 0 (MQ below (vp_Si (fun r => r = res)) (([.ref a_mo, .int p1] : List Value).toArray) s 0 0 (fun _ => False)) (F0 m 58 ls []) := by
          intro x2_3 h ls hl
          unfold f_X13_sold_B58 at h
          refine lv_iinc (v := x3_2 + 1) (lv' := [(3, .int (x3_2 + 1)), (0, .ref a_mo), (1, .int p1), (2, .int x2_3)]) hx hb dX13_sold_58 hl (k := 3) rfl (by first | rfl | decide) (by decide) rfl (fun ls hl => ?_)
          refine lv_goto (tgt := 5) hx hb dX13_sold_61 (by decide) ?_
          exact ih5 x2_3 (x3_2 + 1) h _ (lv_sub hl [1, 2, 3, 0] rfl)
        refine lv_if_ne (tgt := 58) hx hb dX13_sold_27 (by decide) (fun cd => ?_) (fun cd => ?_)
        · have h := ifF cd h
          exact jn58 x2_1 h _ (lv_sub hl [0, 1, 2, 3] rfl)
        · have h := ifT cd h
          refine lv_aload_n hx hb dX13_sold_30 rfl (lv_at hl 0 rfl) ?_
          refine lv_iload_n hx hb dX13_sold_31 rfl (lv_at hl 3 rfl) ?_
          obtain ⟨r_4, hc_5, h⟩ := bd1_some h
          refine kVi [.int x3_2] [] ⟨hx, hb, hml, hown, hts⟩ (c_X13_priceOf l D cy a_mo a_wa a_wa_price mo_thrown mo_trouble mo_where (mo_read) (mo_tape) mo_taped mo_size mo_spot mo_sort mo_place mo_number mo_fault mo_wrongAt mo_laneTold mo_word (.ref a_mo_v) (mo_x) (mo_past) (mo_kept) mo_acts mo_marks (mo_put) (mo_bestPut) mo_bestSum (mo_row) (mo_best) (mo_left) mo_bestSize mo_bestLeft (mo_counts) mo_sets mo_foeHarm mo_ownHarm mo_across mo_sumFoe mo_sumOwn mo_sumWon mo_sumAcross wa_lanes wa_deep wa_told wa_beasts wa_cities wa_passes wa_turned wa_names (wa_who) (wa_strong) (wa_kind) (wa_lane) (wa_mood) (wa_loses) (wa_name) (wa_nameSort) (wa_numberOf) wa_price x3_2 r_4 hc_5) gX13_sold_X13_priceOf rfl hd_X13_priceOf ⟨Nat.le_of_ble_eq_true rfl, Nat.le_of_ble_eq_true rfl⟩ rfl rfl hKN (hP.sub [0, 2, 3] rfl) 13 0 rfl rfl rfl hl.1 rfl (Nat.le_of_ble_eq_true rfl) dX13_sold_32 ⟨Nat.le_of_ble_eq_true rfl, Nat.le_of_ble_eq_true rfl⟩ ?_
          refine lv_iload_n hx hb dX13_sold_35 rfl (lv_at hl 1 rfl) ?_
          refine lv_icmp_lt (tgt := 58) hx hb dX13_sold_36 (by decide) (fun cd => ?_) (fun cd => ?_)
          · have h := ifT cd h
            exact jn58 x2_1 h _ (lv_sub hl [0, 1, 2, 3] rfl)
          · have h := ifF cd h
            refine lv_iload_n hx hb dX13_sold_39 rfl (lv_at hl 2 rfl) ?_
            refine lv_bipush (v := (-2)) hx hb dX13_sold_40 (by decide) ?_
            have jn56 : f_X13_sold_B56 (f_X13_sold_L5 mo_v wa_beasts wa_price p1 n5) mo_v wa_beasts wa_price p1 x3_2 = some (res) → ∀ ls : Array Slot, lv_has ls 4 [(0, .ref a_mo), (1, .int p1), (3, .int x3_2)] → W p l e (headSpec wo_X13_sold ({ frames := 2, cells := 0, slots := 0, locals := 44 })).room s m (([.ref a_mo, .int p1] : List Value).toArray) below meth c s.heap [] 0 0 (MQ below (vp_Si (fun r => r = res)) (([.ref a_mo, .int p1] : List Value).toArray) s 0 0 (fun _ => False)) (F0 m 56 ls []) := by
              intro h ls hl
              unfold f_X13_sold_B56 at h
              refine lv_iload_n hx hb dX13_sold_56 rfl (lv_at hl 2 rfl) ?_
              refine lv_istore_n (lv' := [(2, .int x3_2), (0, .ref a_mo), (1, .int p1), (3, .int x3_2)]) hx hb dX13_sold_57 rfl hl (by decide) rfl (fun ls hl => ?_)
              exact jn58 x3_2 h _ (lv_sub hl [1, 2, 0, 3] rfl)
            refine lv_icmp_eq (tgt := 56) hx hb dX13_sold_42 (by decide) (fun cd => ?_) (fun cd => ?_)
            · have h := ifT cd h
              exact jn56 h _ (lv_sub hl [0, 1, 3] rfl)
            · have h := ifF cd h
              refine lv_iload_n hx hb dX13_sold_45 rfl (lv_at hl 3 rfl) ?_
              obtain ⟨r_6, hc_7, h⟩ := bd1_some h
              refine kSi [.int x3_2] [] ⟨hx, hb, hml, hown, hts⟩ (c_X13_bits l D cy x3_2 r_6 hc_7) gX13_sold_X13_bits rfl hd_X13_bits ⟨Nat.le_of_ble_eq_true rfl, Nat.le_of_ble_eq_true rfl⟩ rfl rfl hKN va_nil rfl hl.1 rfl (Nat.le_of_ble_eq_true rfl) dX13_sold_46 ⟨Nat.le_of_ble_eq_true rfl, Nat.le_of_ble_eq_true rfl⟩ ?_
              refine lv_iload_n hx hb dX13_sold_49 rfl (lv_at hl 2 rfl) ?_
              obtain ⟨r_8, hc_9, h⟩ := bd1_some h
              refine kSi [.int x2_1] [.int r_6] ⟨hx, hb, hml, hown, hts⟩ (c_X13_bits l D cy x2_1 r_8 hc_9) gX13_sold_X13_bits rfl hd_X13_bits ⟨Nat.le_of_ble_eq_true rfl, Nat.le_of_ble_eq_true rfl⟩ rfl rfl hKN va_nil rfl hl.1 rfl (Nat.le_of_ble_eq_true rfl) dX13_sold_50 ⟨Nat.le_of_ble_eq_true rfl, Nat.le_of_ble_eq_true rfl⟩ ?_
              refine lv_icmp_ge (tgt := 58) hx hb dX13_sold_53 (by decide) (fun cd => ?_) (fun cd => ?_)
              · have h := ifT cd h
                exact jn58 x2_1 h _ (lv_sub hl [0, 1, 2, 3] rfl)
              · have h := ifF cd h
                exact jn56 h _ (lv_sub hl [0, 1, 3] rfl)
  exact lp5 fuelN ((-2) : Int32) (0 : Int32) h _ (lv_sub hl [2, 3, 1, 0] rfl)
noncomputable def f_X13_sale (mo_thrown : Int32) (mo_trouble : Int32) (mo_where : Int32) (mo_v : Nat → Int32) (wa_beasts : Int32) (wa_price : Nat → Int32) (p1 : Int32) : Option (Int32 × Int32 × Int32 × Int32) :=
  bd1 (f_X13_in  p1 (0 : Int32) (500 : Int32)) fun r_1 =>
  (if r_1 = 0 then
  bd3 (f_X13_refused mo_trouble mo_where (2 : Int32)) fun r_4 mo_trouble_5 mo_where_6 =>
  some (r_4, 0, mo_trouble_5, mo_where_6)
  else
  bd1 (f_X13_sold mo_v wa_beasts wa_price p1) fun r_8 =>
  bd3 (f_X13_good mo_trouble mo_where r_8) fun r_10 mo_trouble_11 mo_where_12 =>
  some (r_10, 0, mo_trouble_11, mo_where_12))
theorem hd_X13_sale : yX13_sale.cls = RX13 ∧ yX13_sale.cls ≠ "java/lang/invoke/MethodHandle" ∧ yX13_sale.cls ≠ "java/lang/invoke/VarHandle" ∧ (parseMethodDescriptor yX13_sale.desc).map (fun d => d.parameters.length) = some 1 := by decide +kernel
set_option maxHeartbeats 4000000 in
set_option maxRecDepth 100000 in
theorem c_X13_sale (l : Launch) (D : va_G) (cy : Nat → ClassId) (A : Nat → Prop) (X : va_W) (a_mo a_mo_v a_wa a_wa_price : Nat) (mo_thrown : Int32) (mo_trouble : Int32) (mo_where : Int32) (mo_read : Value) (mo_tape : Value) (mo_taped : Int32) (mo_size : Int32) (mo_spot : Int32) (mo_sort : Int32) (mo_place : Int32) (mo_number : Int32) (mo_fault : Int32) (mo_wrongAt : Int32) (mo_laneTold : Int32) (mo_word : Int64) (mo_x : Value) (mo_past : Value) (mo_kept : Value) (mo_acts : Int32) (mo_marks : Int32) (mo_put : Value) (mo_bestPut : Value) (mo_bestSum : Int64) (mo_row : Value) (mo_best : Value) (mo_left : Value) (mo_bestSize : Int32) (mo_bestLeft : Int32) (mo_counts : Value) (mo_sets : Int32) (mo_foeHarm : Int32) (mo_ownHarm : Int32) (mo_across : Int32) (mo_sumFoe : Int32) (mo_sumOwn : Int32) (mo_sumWon : Int32) (mo_sumAcross : Int32) (mo_v : Nat → Int32) (wa_lanes : Int32) (wa_deep : Int32) (wa_told : Int32) (wa_beasts : Int32) (wa_cities : Int32) (wa_passes : Int32) (wa_turned : Int32) (wa_names : Int32) (wa_who : Value) (wa_strong : Value) (wa_kind : Value) (wa_lane : Value) (wa_mood : Value) (wa_loses : Value) (wa_name : Value) (wa_nameSort : Value) (wa_numberOf : Value) (wa_price : Nat → Int32) (p1 : Int32) (res : Int32) (mo_thrown' : Int32) (mo_trouble' : Int32) (mo_where' : Int32) (h : f_X13_sale mo_thrown mo_trouble mo_where mo_v wa_beasts wa_price p1 = some (res, mo_thrown', mo_trouble', mo_where')) : Met l yX13_sale wo_X13_sale ({ frames := 3, cells := 0, slots := 0, locals := 67 }) (wrPc D cy A [.ref a_mo, .int p1] ([(a_mo, .inr (13, [.int mo_thrown, .int mo_trouble, .int mo_where, .ref a_wa, mo_read, mo_tape, .int mo_taped, .int mo_size, .int mo_spot, .int mo_sort, .int mo_place, .int mo_number, .int mo_fault, .int mo_wrongAt, .int mo_laneTold, .long mo_word, .ref a_mo_v, mo_x, mo_past, mo_kept, .int mo_acts, .int mo_marks, mo_put, mo_bestPut, .long mo_bestSum, mo_row, mo_best, mo_left, .int mo_bestSize, .int mo_bestLeft, mo_counts, .int mo_sets, .int mo_foeHarm, .int mo_ownHarm, .int mo_across, .int mo_sumFoe, .int mo_sumOwn, .int mo_sumWon, .int mo_sumAcross])), (a_mo_v, .inl (cy 1, 19, .inl mo_v)), (a_wa, .inr (12, [.int wa_lanes, .int wa_deep, .int wa_told, .int wa_beasts, .int wa_cities, .int wa_passes, .int wa_turned, .int wa_names, wa_who, wa_strong, wa_kind, wa_lane, wa_mood, .ref a_wa_price, wa_loses, wa_name, wa_nameSort, wa_numberOf])), (a_wa_price, .inl (cy 1, 5, .inl wa_price))] ++ X)) (va_Qi (fun (r : Int32) (_ : Unit) => r = res) (wB D A ([(a_mo, .inr (13, [.int mo_thrown', .int mo_trouble', .int mo_where', .ref a_wa, mo_read, mo_tape, .int mo_taped, .int mo_size, .int mo_spot, .int mo_sort, .int mo_place, .int mo_number, .int mo_fault, .int mo_wrongAt, .int mo_laneTold, .long mo_word, .ref a_mo_v, mo_x, mo_past, mo_kept, .int mo_acts, .int mo_marks, mo_put, mo_bestPut, .long mo_bestSum, mo_row, mo_best, mo_left, .int mo_bestSize, .int mo_bestLeft, mo_counts, .int mo_sets, .int mo_foeHarm, .int mo_ownHarm, .int mo_across, .int mo_sumFoe, .int mo_sumOwn, .int mo_sumWon, .int mo_sumAcross])), (a_mo_v, .inl (cy 1, 19, .inl mo_v)), (a_wa, .inr (12, [.int wa_lanes, .int wa_deep, .int wa_told, .int wa_beasts, .int wa_cities, .int wa_passes, .int wa_turned, .int wa_names, wa_who, wa_strong, wa_kind, wa_lane, wa_mood, .ref a_wa_price, wa_loses, wa_name, wa_nameSort, wa_numberOf])), (a_wa_price, .inl (cy 1, 5, .inl wa_price))] ++ X)) A) 0 0 A := by
  refine Met.ofW (cc := cX13_sale) (maxL := 2) (ret := (some .int)) (by decide) rfl ?_
  intro p e s m args below meth c s₁ B hml hv
  obtain ⟨rfl, hP, hKN, hD, hA⟩ := hv
  have hK := hKN.1
  have hx := B.exec
  have hb := B.bytes
  have hr := B.returns
  have hts := wt_X13_sale hKN.2.2 (([.ref a_mo, .int p1] : List Value).toArray)
  have hown : s.vm.findClass RX13 = some m.cls := findClass_of_methodNamed B.named
  have hlocks := B.notSynchronized
  have hS : va_S A s.heap s.heap [] := va_S.rf
  have hX13 := wc_X13 hKN.2.2 (([.ref a_mo, .int p1] : List Value).toArray)
  have hl := lv_entry ([.ref a_mo, .int p1]) (n := 2) (Nat.le_of_ble_eq_true rfl)
  rw [lg_entry_eq]
  generalize (lg_sl ([.ref a_mo, .int p1]) ++ List.replicate (2 - (lg_sl ([.ref a_mo, .int p1])).length) Slot.unset).toArray = ls at hl ⊢
  have hl : lv_has ls 2 [(0, .ref a_mo), (1, .int p1)] := hl
  unfold f_X13_sale at h
  refine lv_aload_n hx hb dX13_sale_0 rfl (lv_at hl 0 rfl) ?_
  refine lv_iconst (v := 0) hx hb dX13_sale_1 (by decide) ?_
  refine va_put (D := D) (ci := 13) (C := RX13) (T := TX13) (N := 39) (v := .int 0) (ty := .int) hx hb hX13 (fun _ q => q) tyX13 tyX13_ok nmX13 hown hK hP hD hS 0 rfl rfl 0 (by decide) (hts (.fieldLink RX13 48 "ElephantLineModel" "thrown" "I") (by decide +kernel)) (fun _ h9 => h9) rfl (tyX13_ok 0 (by decide)) rfl rfl (Nat.le_of_ble_eq_true rfl) dX13_sale_2 (fun H locs hP hD hS => ?_)
  refine lv_aload_n hx hb dX13_sale_5 rfl (lv_at hl 0 rfl) ?_
  refine va_get (D := D) (ci := 13) (C := RX13) (T := TX13) (N := 39) (v := .ref a_wa) hx hb hX13 (fun _ q => q) hown hK hP 0 rfl rfl 3 (by decide) (hts (.fieldLink RX13 301 "ElephantLineModel" "war" "LElephantLineModel$War;") (by decide +kernel)) (fun _ h9 => h9) rfl dX13_sale_6 ?_
  refine lv_ifnonnull (tgt := 18) hx hb dX13_sale_9 (by decide) ?_
  refine lv_iload_n hx hb dX13_sale_18 rfl (lv_at hl 1 rfl) ?_
  refine lv_iconst (v := 0) hx hb dX13_sale_19 (by decide) ?_
  refine lv_sipush (v := 500) hx hb dX13_sale_20 (by decide) ?_
  have hP : va_P D vwCl ([(a_mo, .inr (13, [.int 0, .int mo_trouble, .int mo_where, .ref a_wa, mo_read, mo_tape, .int mo_taped, .int mo_size, .int mo_spot, .int mo_sort, .int mo_place, .int mo_number, .int mo_fault, .int mo_wrongAt, .int mo_laneTold, .long mo_word, .ref a_mo_v, mo_x, mo_past, mo_kept, .int mo_acts, .int mo_marks, mo_put, mo_bestPut, .long mo_bestSum, mo_row, mo_best, mo_left, .int mo_bestSize, .int mo_bestLeft, mo_counts, .int mo_sets, .int mo_foeHarm, .int mo_ownHarm, .int mo_across, .int mo_sumFoe, .int mo_sumOwn, .int mo_sumWon, .int mo_sumAcross])), (a_mo_v, .inl (cy 1, 19, .inl mo_v)), (a_wa, .inr (12, [.int wa_lanes, .int wa_deep, .int wa_told, .int wa_beasts, .int wa_cities, .int wa_passes, .int wa_turned, .int wa_names, wa_who, wa_strong, wa_kind, wa_lane, wa_mood, .ref a_wa_price, wa_loses, wa_name, wa_nameSort, wa_numberOf])), (a_wa_price, .inl (cy 1, 5, .inl wa_price))] ++ X) H := hP
  have hD : va_D A ([(a_mo, .inr (13, [.int 0, .int mo_trouble, .int mo_where, .ref a_wa, mo_read, mo_tape, .int mo_taped, .int mo_size, .int mo_spot, .int mo_sort, .int mo_place, .int mo_number, .int mo_fault, .int mo_wrongAt, .int mo_laneTold, .long mo_word, .ref a_mo_v, mo_x, mo_past, mo_kept, .int mo_acts, .int mo_marks, mo_put, mo_bestPut, .long mo_bestSum, mo_row, mo_best, mo_left, .int mo_bestSize, .int mo_bestLeft, mo_counts, .int mo_sets, .int mo_foeHarm, .int mo_ownHarm, .int mo_across, .int mo_sumFoe, .int mo_sumOwn, .int mo_sumWon, .int mo_sumAcross])), (a_mo_v, .inl (cy 1, 19, .inl mo_v)), (a_wa, .inr (12, [.int wa_lanes, .int wa_deep, .int wa_told, .int wa_beasts, .int wa_cities, .int wa_passes, .int wa_turned, .int wa_names, wa_who, wa_strong, wa_kind, wa_lane, wa_mood, .ref a_wa_price, wa_loses, wa_name, wa_nameSort, wa_numberOf])), (a_wa_price, .inl (cy 1, 5, .inl wa_price))] ++ X) := hD
  obtain ⟨r_1, hc_2, h⟩ := bd1_some h
  refine kSb [.int p1, .int 0, .int 500] [] ⟨hx, hb, hml, hown, hts⟩ (c_X13_in l D cy p1 (0 : Int32) (500 : Int32) r_1 hc_2) gX13_sale_X13_in rfl hd_X13_in ⟨Nat.le_of_ble_eq_true rfl, Nat.le_of_ble_eq_true rfl⟩ rfl rfl hKN va_nil rfl hl.1 rfl (Nat.le_of_ble_eq_true rfl) dX13_sale_23 ⟨Nat.le_of_ble_eq_true rfl, Nat.le_of_ble_eq_true rfl⟩ (fun nb_3 => ?_)
  refine lv_if_eq (tgt := 41) hx hb dX13_sale_26 (by decide) (fun cd => ?_) (fun cd => ?_)
  · have h := ifT cd h
    refine lv_aload_n hx hb dX13_sale_41 rfl (lv_at hl 0 rfl) ?_
    refine lv_iconst (v := 2) hx hb dX13_sale_42 (by decide) ?_
    obtain ⟨r_4, mo_trouble_5, mo_where_6, hc_7, h⟩ := bd3_some h
    refine wVi [.int 2] [] ⟨hx, hb, hml, hown, hts⟩ (c_X13_refused l D cy A ([(a_mo_v, .inl (cy 1, 19, .inl mo_v)), (a_wa, .inr (12, [.int wa_lanes, .int wa_deep, .int wa_told, .int wa_beasts, .int wa_cities, .int wa_passes, .int wa_turned, .int wa_names, wa_who, wa_strong, wa_kind, wa_lane, wa_mood, .ref a_wa_price, wa_loses, wa_name, wa_nameSort, wa_numberOf])), (a_wa_price, .inl (cy 1, 5, .inl wa_price))] ++ X) a_mo 0 mo_trouble mo_where (.ref a_wa) (mo_read) (mo_tape) mo_taped mo_size mo_spot mo_sort mo_place mo_number mo_fault mo_wrongAt mo_laneTold mo_word (.ref a_mo_v) (mo_x) (mo_past) (mo_kept) mo_acts mo_marks (mo_put) (mo_bestPut) mo_bestSum (mo_row) (mo_best) (mo_left) mo_bestSize mo_bestLeft (mo_counts) mo_sets mo_foeHarm mo_ownHarm mo_across mo_sumFoe mo_sumOwn mo_sumWon mo_sumAcross (2 : Int32) r_4 mo_trouble_5 mo_where_6 hc_7) gX13_sale_X13_refused rfl hd_X13_refused ⟨Nat.le_of_ble_eq_true rfl, Nat.le_of_ble_eq_true rfl⟩ rfl rfl hKN (pX3 hP [0, 1, 2, 3] rfl) (dX3 hD [0, 1, 2, 3] rfl rfl) hS hA 13 0 rfl rfl rfl hl.1 rfl (Nat.le_of_ble_eq_true rfl) dX13_sale_43 ⟨Nat.le_of_ble_eq_true rfl, Nat.le_of_ble_eq_true rfl⟩ (fun H locs hP hD hS => ?_)
    have hP := pX4 (L1 := [(a_mo, .inr (13, [.int 0, .int mo_trouble_5, .int mo_where_6, .ref a_wa, mo_read, mo_tape, .int mo_taped, .int mo_size, .int mo_spot, .int mo_sort, .int mo_place, .int mo_number, .int mo_fault, .int mo_wrongAt, .int mo_laneTold, .long mo_word, .ref a_mo_v, mo_x, mo_past, mo_kept, .int mo_acts, .int mo_marks, mo_put, mo_bestPut, .long mo_bestSum, mo_row, mo_best, mo_left, .int mo_bestSize, .int mo_bestLeft, mo_counts, .int mo_sets, .int mo_foeHarm, .int mo_ownHarm, .int mo_across, .int mo_sumFoe, .int mo_sumOwn, .int mo_sumWon, .int mo_sumAcross])), (a_mo_v, .inl (cy 1, 19, .inl mo_v)), (a_wa, .inr (12, [.int wa_lanes, .int wa_deep, .int wa_told, .int wa_beasts, .int wa_cities, .int wa_passes, .int wa_turned, .int wa_names, wa_who, wa_strong, wa_kind, wa_lane, wa_mood, .ref a_wa_price, wa_loses, wa_name, wa_nameSort, wa_numberOf])), (a_wa_price, .inl (cy 1, 5, .inl wa_price))]) hP [0, 1, 2, 3] rfl
    have hD := dX4 (L1 := [(a_mo, .inr (13, [.int 0, .int mo_trouble_5, .int mo_where_6, .ref a_wa, mo_read, mo_tape, .int mo_taped, .int mo_size, .int mo_spot, .int mo_sort, .int mo_place, .int mo_number, .int mo_fault, .int mo_wrongAt, .int mo_laneTold, .long mo_word, .ref a_mo_v, mo_x, mo_past, mo_kept, .int mo_acts, .int mo_marks, mo_put, mo_bestPut, .long mo_bestSum, mo_row, mo_best, mo_left, .int mo_bestSize, .int mo_bestLeft, mo_counts, .int mo_sets, .int mo_foeHarm, .int mo_ownHarm, .int mo_across, .int mo_sumFoe, .int mo_sumOwn, .int mo_sumWon, .int mo_sumAcross])), (a_mo_v, .inl (cy 1, 19, .inl mo_v)), (a_wa, .inr (12, [.int wa_lanes, .int wa_deep, .int wa_told, .int wa_beasts, .int wa_cities, .int wa_passes, .int wa_turned, .int wa_names, wa_who, wa_strong, wa_kind, wa_lane, wa_mood, .ref a_wa_price, wa_loses, wa_name, wa_nameSort, wa_numberOf])), (a_wa_price, .inl (cy 1, 5, .inl wa_price))]) hD [0, 1, 2, 3] rfl rfl
    cases h
    exact W.iret hx hb hr (fun t ht _ => ⟨⟨_, (), rfl, rfl, by rw [ht]; exact hP, hD⟩, hS.F ht⟩) hS.2.2 dX13_sale_46
  · have h := ifF cd h
    refine lv_aload_n hx hb dX13_sale_29 rfl (lv_at hl 0 rfl) ?_
    refine lv_aload_n hx hb dX13_sale_30 rfl (lv_at hl 0 rfl) ?_
    refine lv_iload_n hx hb dX13_sale_31 rfl (lv_at hl 1 rfl) ?_
    obtain ⟨r_8, hc_9, h⟩ := bd1_some h
    refine kVi [.int p1] [.ref a_mo] ⟨hx, hb, hml, hown, hts⟩ (c_X13_sold l D cy a_mo a_mo_v a_wa a_wa_price 0 mo_trouble mo_where (mo_read) (mo_tape) mo_taped mo_size mo_spot mo_sort mo_place mo_number mo_fault mo_wrongAt mo_laneTold mo_word (mo_x) (mo_past) (mo_kept) mo_acts mo_marks (mo_put) (mo_bestPut) mo_bestSum (mo_row) (mo_best) (mo_left) mo_bestSize mo_bestLeft (mo_counts) mo_sets mo_foeHarm mo_ownHarm mo_across mo_sumFoe mo_sumOwn mo_sumWon mo_sumAcross mo_v wa_lanes wa_deep wa_told wa_beasts wa_cities wa_passes wa_turned wa_names (wa_who) (wa_strong) (wa_kind) (wa_lane) (wa_mood) (wa_loses) (wa_name) (wa_nameSort) (wa_numberOf) wa_price p1 r_8 hc_9) gX13_sale_X13_sold rfl hd_X13_sold ⟨Nat.le_of_ble_eq_true rfl, Nat.le_of_ble_eq_true rfl⟩ rfl rfl hKN (pXc hP [0, 1, 2, 3] rfl) 13 0 rfl rfl rfl hl.1 rfl (Nat.le_of_ble_eq_true rfl) dX13_sale_32 ⟨Nat.le_of_ble_eq_true rfl, Nat.le_of_ble_eq_true rfl⟩ ?_
    obtain ⟨r_10, mo_trouble_11, mo_where_12, hc_13, h⟩ := bd3_some h
    refine wVi [.int r_8] [] ⟨hx, hb, hml, hown, hts⟩ (c_X13_good l D cy A ([(a_mo_v, .inl (cy 1, 19, .inl mo_v)), (a_wa, .inr (12, [.int wa_lanes, .int wa_deep, .int wa_told, .int wa_beasts, .int wa_cities, .int wa_passes, .int wa_turned, .int wa_names, wa_who, wa_strong, wa_kind, wa_lane, wa_mood, .ref a_wa_price, wa_loses, wa_name, wa_nameSort, wa_numberOf])), (a_wa_price, .inl (cy 1, 5, .inl wa_price))] ++ X) a_mo 0 mo_trouble mo_where (.ref a_wa) (mo_read) (mo_tape) mo_taped mo_size mo_spot mo_sort mo_place mo_number mo_fault mo_wrongAt mo_laneTold mo_word (.ref a_mo_v) (mo_x) (mo_past) (mo_kept) mo_acts mo_marks (mo_put) (mo_bestPut) mo_bestSum (mo_row) (mo_best) (mo_left) mo_bestSize mo_bestLeft (mo_counts) mo_sets mo_foeHarm mo_ownHarm mo_across mo_sumFoe mo_sumOwn mo_sumWon mo_sumAcross r_8 r_10 mo_trouble_11 mo_where_12 hc_13) gX13_sale_X13_good rfl hd_X13_good ⟨Nat.le_of_ble_eq_true rfl, Nat.le_of_ble_eq_true rfl⟩ rfl rfl hKN (pX3 hP [0, 1, 2, 3] rfl) (dX3 hD [0, 1, 2, 3] rfl rfl) hS hA 13 0 rfl rfl rfl hl.1 rfl (Nat.le_of_ble_eq_true rfl) dX13_sale_35 ⟨Nat.le_of_ble_eq_true rfl, Nat.le_of_ble_eq_true rfl⟩ (fun H locs hP hD hS => ?_)
    have hP := pX4 (L1 := [(a_mo, .inr (13, [.int 0, .int mo_trouble_11, .int mo_where_12, .ref a_wa, mo_read, mo_tape, .int mo_taped, .int mo_size, .int mo_spot, .int mo_sort, .int mo_place, .int mo_number, .int mo_fault, .int mo_wrongAt, .int mo_laneTold, .long mo_word, .ref a_mo_v, mo_x, mo_past, mo_kept, .int mo_acts, .int mo_marks, mo_put, mo_bestPut, .long mo_bestSum, mo_row, mo_best, mo_left, .int mo_bestSize, .int mo_bestLeft, mo_counts, .int mo_sets, .int mo_foeHarm, .int mo_ownHarm, .int mo_across, .int mo_sumFoe, .int mo_sumOwn, .int mo_sumWon, .int mo_sumAcross])), (a_mo_v, .inl (cy 1, 19, .inl mo_v)), (a_wa, .inr (12, [.int wa_lanes, .int wa_deep, .int wa_told, .int wa_beasts, .int wa_cities, .int wa_passes, .int wa_turned, .int wa_names, wa_who, wa_strong, wa_kind, wa_lane, wa_mood, .ref a_wa_price, wa_loses, wa_name, wa_nameSort, wa_numberOf])), (a_wa_price, .inl (cy 1, 5, .inl wa_price))]) hP [0, 1, 2, 3] rfl
    have hD := dX4 (L1 := [(a_mo, .inr (13, [.int 0, .int mo_trouble_11, .int mo_where_12, .ref a_wa, mo_read, mo_tape, .int mo_taped, .int mo_size, .int mo_spot, .int mo_sort, .int mo_place, .int mo_number, .int mo_fault, .int mo_wrongAt, .int mo_laneTold, .long mo_word, .ref a_mo_v, mo_x, mo_past, mo_kept, .int mo_acts, .int mo_marks, mo_put, mo_bestPut, .long mo_bestSum, mo_row, mo_best, mo_left, .int mo_bestSize, .int mo_bestLeft, mo_counts, .int mo_sets, .int mo_foeHarm, .int mo_ownHarm, .int mo_across, .int mo_sumFoe, .int mo_sumOwn, .int mo_sumWon, .int mo_sumAcross])), (a_mo_v, .inl (cy 1, 19, .inl mo_v)), (a_wa, .inr (12, [.int wa_lanes, .int wa_deep, .int wa_told, .int wa_beasts, .int wa_cities, .int wa_passes, .int wa_turned, .int wa_names, wa_who, wa_strong, wa_kind, wa_lane, wa_mood, .ref a_wa_price, wa_loses, wa_name, wa_nameSort, wa_numberOf])), (a_wa_price, .inl (cy 1, 5, .inl wa_price))]) hD [0, 1, 2, 3] rfl rfl
    refine lv_goto (tgt := 46) hx hb dX13_sale_38 (by decide) ?_
    cases h
    exact W.iret hx hb hr (fun t ht _ => ⟨⟨_, (), rfl, rfl, by rw [ht]; exact hP, hD⟩, hS.F ht⟩) hS.2.2 dX13_sale_46
noncomputable def f_X13_saleOver (mo_thrown : Int32) (mo_trouble : Int32) (mo_where : Int32) (mo_v : Nat → Int32) (wa_beasts : Int32) (wa_price : Nat → Int32) (p1 : Int32) : Option (Int32 × Int32 × Int32 × Int32) :=
  bd1 (f_X13_in  p1 (0 : Int32) (500 : Int32)) fun r_1 =>
  (if r_1 = 0 then
  bd3 (f_X13_refused mo_trouble mo_where (2 : Int32)) fun r_16 mo_trouble_17 mo_where_18 =>
  some (r_16, 0, mo_trouble_17, mo_where_18)
  else
  bd1 (f_X13_sold mo_v wa_beasts wa_price p1) fun r_4 =>
  (if r_4 = (-2) then
  bd3 (f_X13_refused mo_trouble mo_where (6 : Int32)) fun r_12 mo_trouble_13 mo_where_14 =>
  some (r_12, 0, mo_trouble_13, mo_where_14)
  else
  bd1 (f_X13_priceOf wa_beasts wa_price r_4) fun r_6 =>
  bd3 (f_X13_good mo_trouble mo_where (r_6 - p1)) fun r_8 mo_trouble_9 mo_where_10 =>
  some (r_8, 0, mo_trouble_9, mo_where_10)))
theorem hd_X13_saleOver : yX13_saleOver.cls = RX13 ∧ yX13_saleOver.cls ≠ "java/lang/invoke/MethodHandle" ∧ yX13_saleOver.cls ≠ "java/lang/invoke/VarHandle" ∧ (parseMethodDescriptor yX13_saleOver.desc).map (fun d => d.parameters.length) = some 1 := by decide +kernel
set_option maxHeartbeats 4000000 in
set_option maxRecDepth 100000 in
theorem c_X13_saleOver (l : Launch) (D : va_G) (cy : Nat → ClassId) (A : Nat → Prop) (X : va_W) (a_mo a_mo_v a_wa a_wa_price : Nat) (mo_thrown : Int32) (mo_trouble : Int32) (mo_where : Int32) (mo_read : Value) (mo_tape : Value) (mo_taped : Int32) (mo_size : Int32) (mo_spot : Int32) (mo_sort : Int32) (mo_place : Int32) (mo_number : Int32) (mo_fault : Int32) (mo_wrongAt : Int32) (mo_laneTold : Int32) (mo_word : Int64) (mo_x : Value) (mo_past : Value) (mo_kept : Value) (mo_acts : Int32) (mo_marks : Int32) (mo_put : Value) (mo_bestPut : Value) (mo_bestSum : Int64) (mo_row : Value) (mo_best : Value) (mo_left : Value) (mo_bestSize : Int32) (mo_bestLeft : Int32) (mo_counts : Value) (mo_sets : Int32) (mo_foeHarm : Int32) (mo_ownHarm : Int32) (mo_across : Int32) (mo_sumFoe : Int32) (mo_sumOwn : Int32) (mo_sumWon : Int32) (mo_sumAcross : Int32) (mo_v : Nat → Int32) (wa_lanes : Int32) (wa_deep : Int32) (wa_told : Int32) (wa_beasts : Int32) (wa_cities : Int32) (wa_passes : Int32) (wa_turned : Int32) (wa_names : Int32) (wa_who : Value) (wa_strong : Value) (wa_kind : Value) (wa_lane : Value) (wa_mood : Value) (wa_loses : Value) (wa_name : Value) (wa_nameSort : Value) (wa_numberOf : Value) (wa_price : Nat → Int32) (p1 : Int32) (res : Int32) (mo_thrown' : Int32) (mo_trouble' : Int32) (mo_where' : Int32) (h : f_X13_saleOver mo_thrown mo_trouble mo_where mo_v wa_beasts wa_price p1 = some (res, mo_thrown', mo_trouble', mo_where')) : Met l yX13_saleOver wo_X13_saleOver ({ frames := 3, cells := 0, slots := 0, locals := 67 }) (wrPc D cy A [.ref a_mo, .int p1] ([(a_mo, .inr (13, [.int mo_thrown, .int mo_trouble, .int mo_where, .ref a_wa, mo_read, mo_tape, .int mo_taped, .int mo_size, .int mo_spot, .int mo_sort, .int mo_place, .int mo_number, .int mo_fault, .int mo_wrongAt, .int mo_laneTold, .long mo_word, .ref a_mo_v, mo_x, mo_past, mo_kept, .int mo_acts, .int mo_marks, mo_put, mo_bestPut, .long mo_bestSum, mo_row, mo_best, mo_left, .int mo_bestSize, .int mo_bestLeft, mo_counts, .int mo_sets, .int mo_foeHarm, .int mo_ownHarm, .int mo_across, .int mo_sumFoe, .int mo_sumOwn, .int mo_sumWon, .int mo_sumAcross])), (a_mo_v, .inl (cy 1, 19, .inl mo_v)), (a_wa, .inr (12, [.int wa_lanes, .int wa_deep, .int wa_told, .int wa_beasts, .int wa_cities, .int wa_passes, .int wa_turned, .int wa_names, wa_who, wa_strong, wa_kind, wa_lane, wa_mood, .ref a_wa_price, wa_loses, wa_name, wa_nameSort, wa_numberOf])), (a_wa_price, .inl (cy 1, 5, .inl wa_price))] ++ X)) (va_Qi (fun (r : Int32) (_ : Unit) => r = res) (wB D A ([(a_mo, .inr (13, [.int mo_thrown', .int mo_trouble', .int mo_where', .ref a_wa, mo_read, mo_tape, .int mo_taped, .int mo_size, .int mo_spot, .int mo_sort, .int mo_place, .int mo_number, .int mo_fault, .int mo_wrongAt, .int mo_laneTold, .long mo_word, .ref a_mo_v, mo_x, mo_past, mo_kept, .int mo_acts, .int mo_marks, mo_put, mo_bestPut, .long mo_bestSum, mo_row, mo_best, mo_left, .int mo_bestSize, .int mo_bestLeft, mo_counts, .int mo_sets, .int mo_foeHarm, .int mo_ownHarm, .int mo_across, .int mo_sumFoe, .int mo_sumOwn, .int mo_sumWon, .int mo_sumAcross])), (a_mo_v, .inl (cy 1, 19, .inl mo_v)), (a_wa, .inr (12, [.int wa_lanes, .int wa_deep, .int wa_told, .int wa_beasts, .int wa_cities, .int wa_passes, .int wa_turned, .int wa_names, wa_who, wa_strong, wa_kind, wa_lane, wa_mood, .ref a_wa_price, wa_loses, wa_name, wa_nameSort, wa_numberOf])), (a_wa_price, .inl (cy 1, 5, .inl wa_price))] ++ X)) A) 0 0 A := by
  refine Met.ofW (cc := cX13_saleOver) (maxL := 3) (ret := (some .int)) (by decide) rfl ?_
  intro p e s m args below meth c s₁ B hml hv
  obtain ⟨rfl, hP, hKN, hD, hA⟩ := hv
  have hK := hKN.1
  have hx := B.exec
  have hb := B.bytes
  have hr := B.returns
  have hts := wt_X13_saleOver hKN.2.2 (([.ref a_mo, .int p1] : List Value).toArray)
  have hown : s.vm.findClass RX13 = some m.cls := findClass_of_methodNamed B.named
  have hlocks := B.notSynchronized
  have hS : va_S A s.heap s.heap [] := va_S.rf
  have hX13 := wc_X13 hKN.2.2 (([.ref a_mo, .int p1] : List Value).toArray)
  have hl := lv_entry ([.ref a_mo, .int p1]) (n := 3) (Nat.le_of_ble_eq_true rfl)
  rw [lg_entry_eq]
  generalize (lg_sl ([.ref a_mo, .int p1]) ++ List.replicate (3 - (lg_sl ([.ref a_mo, .int p1])).length) Slot.unset).toArray = ls at hl ⊢
  have hl : lv_has ls 3 [(0, .ref a_mo), (1, .int p1)] := hl
  unfold f_X13_saleOver at h
  refine lv_aload_n hx hb dX13_saleOver_0 rfl (lv_at hl 0 rfl) ?_
  refine lv_iconst (v := 0) hx hb dX13_saleOver_1 (by decide) ?_
  refine va_put (D := D) (ci := 13) (C := RX13) (T := TX13) (N := 39) (v := .int 0) (ty := .int) hx hb hX13 (fun _ q => q) tyX13 tyX13_ok nmX13 hown hK hP hD hS 0 rfl rfl 0 (by decide) (hts (.fieldLink RX13 48 "ElephantLineModel" "thrown" "I") (by decide +kernel)) (fun _ h9 => h9) rfl (tyX13_ok 0 (by decide)) rfl rfl (Nat.le_of_ble_eq_true rfl) dX13_saleOver_2 (fun H locs hP hD hS => ?_)
  refine lv_aload_n hx hb dX13_saleOver_5 rfl (lv_at hl 0 rfl) ?_
  refine va_get (D := D) (ci := 13) (C := RX13) (T := TX13) (N := 39) (v := .ref a_wa) hx hb hX13 (fun _ q => q) hown hK hP 0 rfl rfl 3 (by decide) (hts (.fieldLink RX13 301 "ElephantLineModel" "war" "LElephantLineModel$War;") (by decide +kernel)) (fun _ h9 => h9) rfl dX13_saleOver_6 ?_
  refine lv_ifnonnull (tgt := 18) hx hb dX13_saleOver_9 (by decide) ?_
  refine lv_iload_n hx hb dX13_saleOver_18 rfl (lv_at hl 1 rfl) ?_
  refine lv_iconst (v := 0) hx hb dX13_saleOver_19 (by decide) ?_
  refine lv_sipush (v := 500) hx hb dX13_saleOver_20 (by decide) ?_
  have hP : va_P D vwCl ([(a_mo, .inr (13, [.int 0, .int mo_trouble, .int mo_where, .ref a_wa, mo_read, mo_tape, .int mo_taped, .int mo_size, .int mo_spot, .int mo_sort, .int mo_place, .int mo_number, .int mo_fault, .int mo_wrongAt, .int mo_laneTold, .long mo_word, .ref a_mo_v, mo_x, mo_past, mo_kept, .int mo_acts, .int mo_marks, mo_put, mo_bestPut, .long mo_bestSum, mo_row, mo_best, mo_left, .int mo_bestSize, .int mo_bestLeft, mo_counts, .int mo_sets, .int mo_foeHarm, .int mo_ownHarm, .int mo_across, .int mo_sumFoe, .int mo_sumOwn, .int mo_sumWon, .int mo_sumAcross])), (a_mo_v, .inl (cy 1, 19, .inl mo_v)), (a_wa, .inr (12, [.int wa_lanes, .int wa_deep, .int wa_told, .int wa_beasts, .int wa_cities, .int wa_passes, .int wa_turned, .int wa_names, wa_who, wa_strong, wa_kind, wa_lane, wa_mood, .ref a_wa_price, wa_loses, wa_name, wa_nameSort, wa_numberOf])), (a_wa_price, .inl (cy 1, 5, .inl wa_price))] ++ X) H := hP
  have hD : va_D A ([(a_mo, .inr (13, [.int 0, .int mo_trouble, .int mo_where, .ref a_wa, mo_read, mo_tape, .int mo_taped, .int mo_size, .int mo_spot, .int mo_sort, .int mo_place, .int mo_number, .int mo_fault, .int mo_wrongAt, .int mo_laneTold, .long mo_word, .ref a_mo_v, mo_x, mo_past, mo_kept, .int mo_acts, .int mo_marks, mo_put, mo_bestPut, .long mo_bestSum, mo_row, mo_best, mo_left, .int mo_bestSize, .int mo_bestLeft, mo_counts, .int mo_sets, .int mo_foeHarm, .int mo_ownHarm, .int mo_across, .int mo_sumFoe, .int mo_sumOwn, .int mo_sumWon, .int mo_sumAcross])), (a_mo_v, .inl (cy 1, 19, .inl mo_v)), (a_wa, .inr (12, [.int wa_lanes, .int wa_deep, .int wa_told, .int wa_beasts, .int wa_cities, .int wa_passes, .int wa_turned, .int wa_names, wa_who, wa_strong, wa_kind, wa_lane, wa_mood, .ref a_wa_price, wa_loses, wa_name, wa_nameSort, wa_numberOf])), (a_wa_price, .inl (cy 1, 5, .inl wa_price))] ++ X) := hD
  obtain ⟨r_1, hc_2, h⟩ := bd1_some h
  refine kSb [.int p1, .int 0, .int 500] [] ⟨hx, hb, hml, hown, hts⟩ (c_X13_in l D cy p1 (0 : Int32) (500 : Int32) r_1 hc_2) gX13_saleOver_X13_in rfl hd_X13_in ⟨Nat.le_of_ble_eq_true rfl, Nat.le_of_ble_eq_true rfl⟩ rfl rfl hKN va_nil rfl hl.1 rfl (Nat.le_of_ble_eq_true rfl) dX13_saleOver_23 ⟨Nat.le_of_ble_eq_true rfl, Nat.le_of_ble_eq_true rfl⟩ (fun nb_3 => ?_)
  refine lv_if_ne (tgt := 35) hx hb dX13_saleOver_26 (by decide) (fun cd => ?_) (fun cd => ?_)
  · have h := ifF cd h
    refine lv_aload_n hx hb dX13_saleOver_35 rfl (lv_at hl 0 rfl) ?_
    refine lv_iload_n hx hb dX13_saleOver_36 rfl (lv_at hl 1 rfl) ?_
    obtain ⟨r_4, hc_5, h⟩ := bd1_some h
    refine kVi [.int p1] [] ⟨hx, hb, hml, hown, hts⟩ (c_X13_sold l D cy a_mo a_mo_v a_wa a_wa_price 0 mo_trouble mo_where (mo_read) (mo_tape) mo_taped mo_size mo_spot mo_sort mo_place mo_number mo_fault mo_wrongAt mo_laneTold mo_word (mo_x) (mo_past) (mo_kept) mo_acts mo_marks (mo_put) (mo_bestPut) mo_bestSum (mo_row) (mo_best) (mo_left) mo_bestSize mo_bestLeft (mo_counts) mo_sets mo_foeHarm mo_ownHarm mo_across mo_sumFoe mo_sumOwn mo_sumWon mo_sumAcross mo_v wa_lanes wa_deep wa_told wa_beasts wa_cities wa_passes wa_turned wa_names (wa_who) (wa_strong) (wa_kind) (wa_lane) (wa_mood) (wa_loses) (wa_name) (wa_nameSort) (wa_numberOf) wa_price p1 r_4 hc_5) gX13_saleOver_X13_sold rfl hd_X13_sold ⟨Nat.le_of_ble_eq_true rfl, Nat.le_of_ble_eq_true rfl⟩ rfl rfl hKN (pXc hP [0, 1, 2, 3] rfl) 13 0 rfl rfl rfl hl.1 rfl (Nat.le_of_ble_eq_true rfl) dX13_saleOver_37 ⟨Nat.le_of_ble_eq_true rfl, Nat.le_of_ble_eq_true rfl⟩ ?_
    refine lv_istore_n (lv' := [(2, .int r_4), (0, .ref a_mo), (1, .int p1)]) hx hb dX13_saleOver_40 rfl hl (by decide) rfl (fun ls hl => ?_)
    refine lv_iload_n hx hb dX13_saleOver_41 rfl (lv_at hl 0 rfl) ?_
    refine lv_bipush (v := (-2)) hx hb dX13_saleOver_42 (by decide) ?_
    refine lv_icmp_ne (tgt := 56) hx hb dX13_saleOver_44 (by decide) (fun cd => ?_) (fun cd => ?_)
    · have h := ifF cd h
      refine lv_aload_n hx hb dX13_saleOver_56 rfl (lv_at hl 1 rfl) ?_
      refine lv_aload_n hx hb dX13_saleOver_57 rfl (lv_at hl 1 rfl) ?_
      refine lv_iload_n hx hb dX13_saleOver_58 rfl (lv_at hl 0 rfl) ?_
      obtain ⟨r_6, hc_7, h⟩ := bd1_some h
      refine kVi [.int r_4] [.ref a_mo] ⟨hx, hb, hml, hown, hts⟩ (c_X13_priceOf l D cy a_mo a_wa a_wa_price 0 mo_trouble mo_where (mo_read) (mo_tape) mo_taped mo_size mo_spot mo_sort mo_place mo_number mo_fault mo_wrongAt mo_laneTold mo_word (.ref a_mo_v) (mo_x) (mo_past) (mo_kept) mo_acts mo_marks (mo_put) (mo_bestPut) mo_bestSum (mo_row) (mo_best) (mo_left) mo_bestSize mo_bestLeft (mo_counts) mo_sets mo_foeHarm mo_ownHarm mo_across mo_sumFoe mo_sumOwn mo_sumWon mo_sumAcross wa_lanes wa_deep wa_told wa_beasts wa_cities wa_passes wa_turned wa_names (wa_who) (wa_strong) (wa_kind) (wa_lane) (wa_mood) (wa_loses) (wa_name) (wa_nameSort) (wa_numberOf) wa_price r_4 r_6 hc_7) gX13_saleOver_X13_priceOf rfl hd_X13_priceOf ⟨Nat.le_of_ble_eq_true rfl, Nat.le_of_ble_eq_true rfl⟩ rfl rfl hKN (pXc hP [0, 2, 3] rfl) 13 0 rfl rfl rfl hl.1 rfl (Nat.le_of_ble_eq_true rfl) dX13_saleOver_59 ⟨Nat.le_of_ble_eq_true rfl, Nat.le_of_ble_eq_true rfl⟩ ?_
      refine lv_iload_n hx hb dX13_saleOver_62 rfl (lv_at hl 2 rfl) ?_
      refine lv_isub hx hb dX13_saleOver_63 ?_
      obtain ⟨r_8, mo_trouble_9, mo_where_10, hc_11, h⟩ := bd3_some h
      refine wVi [.int (r_6 - p1)] [] ⟨hx, hb, hml, hown, hts⟩ (c_X13_good l D cy A ([(a_mo_v, .inl (cy 1, 19, .inl mo_v)), (a_wa, .inr (12, [.int wa_lanes, .int wa_deep, .int wa_told, .int wa_beasts, .int wa_cities, .int wa_passes, .int wa_turned, .int wa_names, wa_who, wa_strong, wa_kind, wa_lane, wa_mood, .ref a_wa_price, wa_loses, wa_name, wa_nameSort, wa_numberOf])), (a_wa_price, .inl (cy 1, 5, .inl wa_price))] ++ X) a_mo 0 mo_trouble mo_where (.ref a_wa) (mo_read) (mo_tape) mo_taped mo_size mo_spot mo_sort mo_place mo_number mo_fault mo_wrongAt mo_laneTold mo_word (.ref a_mo_v) (mo_x) (mo_past) (mo_kept) mo_acts mo_marks (mo_put) (mo_bestPut) mo_bestSum (mo_row) (mo_best) (mo_left) mo_bestSize mo_bestLeft (mo_counts) mo_sets mo_foeHarm mo_ownHarm mo_across mo_sumFoe mo_sumOwn mo_sumWon mo_sumAcross (r_6 - p1) r_8 mo_trouble_9 mo_where_10 hc_11) gX13_saleOver_X13_good rfl hd_X13_good ⟨Nat.le_of_ble_eq_true rfl, Nat.le_of_ble_eq_true rfl⟩ rfl rfl hKN (pX3 hP [0, 1, 2, 3] rfl) (dX3 hD [0, 1, 2, 3] rfl rfl) hS hA 13 0 rfl rfl rfl hl.1 rfl (Nat.le_of_ble_eq_true rfl) dX13_saleOver_64 ⟨Nat.le_of_ble_eq_true rfl, Nat.le_of_ble_eq_true rfl⟩ (fun H locs hP hD hS => ?_)
      have hP := pX4 (L1 := [(a_mo, .inr (13, [.int 0, .int mo_trouble_9, .int mo_where_10, .ref a_wa, mo_read, mo_tape, .int mo_taped, .int mo_size, .int mo_spot, .int mo_sort, .int mo_place, .int mo_number, .int mo_fault, .int mo_wrongAt, .int mo_laneTold, .long mo_word, .ref a_mo_v, mo_x, mo_past, mo_kept, .int mo_acts, .int mo_marks, mo_put, mo_bestPut, .long mo_bestSum, mo_row, mo_best, mo_left, .int mo_bestSize, .int mo_bestLeft, mo_counts, .int mo_sets, .int mo_foeHarm, .int mo_ownHarm, .int mo_across, .int mo_sumFoe, .int mo_sumOwn, .int mo_sumWon, .int mo_sumAcross])), (a_mo_v, .inl (cy 1, 19, .inl mo_v)), (a_wa, .inr (12, [.int wa_lanes, .int wa_deep, .int wa_told, .int wa_beasts, .int wa_cities, .int wa_passes, .int wa_turned, .int wa_names, wa_who, wa_strong, wa_kind, wa_lane, wa_mood, .ref a_wa_price, wa_loses, wa_name, wa_nameSort, wa_numberOf])), (a_wa_price, .inl (cy 1, 5, .inl wa_price))]) hP [0, 1, 2, 3] rfl
      have hD := dX4 (L1 := [(a_mo, .inr (13, [.int 0, .int mo_trouble_9, .int mo_where_10, .ref a_wa, mo_read, mo_tape, .int mo_taped, .int mo_size, .int mo_spot, .int mo_sort, .int mo_place, .int mo_number, .int mo_fault, .int mo_wrongAt, .int mo_laneTold, .long mo_word, .ref a_mo_v, mo_x, mo_past, mo_kept, .int mo_acts, .int mo_marks, mo_put, mo_bestPut, .long mo_bestSum, mo_row, mo_best, mo_left, .int mo_bestSize, .int mo_bestLeft, mo_counts, .int mo_sets, .int mo_foeHarm, .int mo_ownHarm, .int mo_across, .int mo_sumFoe, .int mo_sumOwn, .int mo_sumWon, .int mo_sumAcross])), (a_mo_v, .inl (cy 1, 19, .inl mo_v)), (a_wa, .inr (12, [.int wa_lanes, .int wa_deep, .int wa_told, .int wa_beasts, .int wa_cities, .int wa_passes, .int wa_turned, .int wa_names, wa_who, wa_strong, wa_kind, wa_lane, wa_mood, .ref a_wa_price, wa_loses, wa_name, wa_nameSort, wa_numberOf])), (a_wa_price, .inl (cy 1, 5, .inl wa_price))]) hD [0, 1, 2, 3] rfl rfl
      cases h
      exact W.iret hx hb hr (fun t ht _ => ⟨⟨_, (), rfl, rfl, by rw [ht]; exact hP, hD⟩, hS.F ht⟩) hS.2.2 dX13_saleOver_67
    · have h := ifT cd h
      refine lv_aload_n hx hb dX13_saleOver_47 rfl (lv_at hl 1 rfl) ?_
      refine lv_bipush (v := 6) hx hb dX13_saleOver_48 (by decide) ?_
      obtain ⟨r_12, mo_trouble_13, mo_where_14, hc_15, h⟩ := bd3_some h
      refine wVi [.int 6] [] ⟨hx, hb, hml, hown, hts⟩ (c_X13_refused l D cy A ([(a_mo_v, .inl (cy 1, 19, .inl mo_v)), (a_wa, .inr (12, [.int wa_lanes, .int wa_deep, .int wa_told, .int wa_beasts, .int wa_cities, .int wa_passes, .int wa_turned, .int wa_names, wa_who, wa_strong, wa_kind, wa_lane, wa_mood, .ref a_wa_price, wa_loses, wa_name, wa_nameSort, wa_numberOf])), (a_wa_price, .inl (cy 1, 5, .inl wa_price))] ++ X) a_mo 0 mo_trouble mo_where (.ref a_wa) (mo_read) (mo_tape) mo_taped mo_size mo_spot mo_sort mo_place mo_number mo_fault mo_wrongAt mo_laneTold mo_word (.ref a_mo_v) (mo_x) (mo_past) (mo_kept) mo_acts mo_marks (mo_put) (mo_bestPut) mo_bestSum (mo_row) (mo_best) (mo_left) mo_bestSize mo_bestLeft (mo_counts) mo_sets mo_foeHarm mo_ownHarm mo_across mo_sumFoe mo_sumOwn mo_sumWon mo_sumAcross (6 : Int32) r_12 mo_trouble_13 mo_where_14 hc_15) gX13_saleOver_X13_refused rfl hd_X13_refused ⟨Nat.le_of_ble_eq_true rfl, Nat.le_of_ble_eq_true rfl⟩ rfl rfl hKN (pX3 hP [0, 1, 2, 3] rfl) (dX3 hD [0, 1, 2, 3] rfl rfl) hS hA 13 0 rfl rfl rfl hl.1 rfl (Nat.le_of_ble_eq_true rfl) dX13_saleOver_50 ⟨Nat.le_of_ble_eq_true rfl, Nat.le_of_ble_eq_true rfl⟩ (fun H locs hP hD hS => ?_)
      have hP := pX4 (L1 := [(a_mo, .inr (13, [.int 0, .int mo_trouble_13, .int mo_where_14, .ref a_wa, mo_read, mo_tape, .int mo_taped, .int mo_size, .int mo_spot, .int mo_sort, .int mo_place, .int mo_number, .int mo_fault, .int mo_wrongAt, .int mo_laneTold, .long mo_word, .ref a_mo_v, mo_x, mo_past, mo_kept, .int mo_acts, .int mo_marks, mo_put, mo_bestPut, .long mo_bestSum, mo_row, mo_best, mo_left, .int mo_bestSize, .int mo_bestLeft, mo_counts, .int mo_sets, .int mo_foeHarm, .int mo_ownHarm, .int mo_across, .int mo_sumFoe, .int mo_sumOwn, .int mo_sumWon, .int mo_sumAcross])), (a_mo_v, .inl (cy 1, 19, .inl mo_v)), (a_wa, .inr (12, [.int wa_lanes, .int wa_deep, .int wa_told, .int wa_beasts, .int wa_cities, .int wa_passes, .int wa_turned, .int wa_names, wa_who, wa_strong, wa_kind, wa_lane, wa_mood, .ref a_wa_price, wa_loses, wa_name, wa_nameSort, wa_numberOf])), (a_wa_price, .inl (cy 1, 5, .inl wa_price))]) hP [0, 1, 2, 3] rfl
      have hD := dX4 (L1 := [(a_mo, .inr (13, [.int 0, .int mo_trouble_13, .int mo_where_14, .ref a_wa, mo_read, mo_tape, .int mo_taped, .int mo_size, .int mo_spot, .int mo_sort, .int mo_place, .int mo_number, .int mo_fault, .int mo_wrongAt, .int mo_laneTold, .long mo_word, .ref a_mo_v, mo_x, mo_past, mo_kept, .int mo_acts, .int mo_marks, mo_put, mo_bestPut, .long mo_bestSum, mo_row, mo_best, mo_left, .int mo_bestSize, .int mo_bestLeft, mo_counts, .int mo_sets, .int mo_foeHarm, .int mo_ownHarm, .int mo_across, .int mo_sumFoe, .int mo_sumOwn, .int mo_sumWon, .int mo_sumAcross])), (a_mo_v, .inl (cy 1, 19, .inl mo_v)), (a_wa, .inr (12, [.int wa_lanes, .int wa_deep, .int wa_told, .int wa_beasts, .int wa_cities, .int wa_passes, .int wa_turned, .int wa_names, wa_who, wa_strong, wa_kind, wa_lane, wa_mood, .ref a_wa_price, wa_loses, wa_name, wa_nameSort, wa_numberOf])), (a_wa_price, .inl (cy 1, 5, .inl wa_price))]) hD [0, 1, 2, 3] rfl rfl
      refine lv_goto (tgt := 67) hx hb dX13_saleOver_53 (by decide) ?_
      cases h
      exact W.iret hx hb hr (fun t ht _ => ⟨⟨_, (), rfl, rfl, by rw [ht]; exact hP, hD⟩, hS.F ht⟩) hS.2.2 dX13_saleOver_67
  · have h := ifT cd h
    refine lv_aload_n hx hb dX13_saleOver_29 rfl (lv_at hl 0 rfl) ?_
    refine lv_iconst (v := 2) hx hb dX13_saleOver_30 (by decide) ?_
    obtain ⟨r_16, mo_trouble_17, mo_where_18, hc_19, h⟩ := bd3_some h
    refine wVi [.int 2] [] ⟨hx, hb, hml, hown, hts⟩ (c_X13_refused l D cy A ([(a_mo_v, .inl (cy 1, 19, .inl mo_v)), (a_wa, .inr (12, [.int wa_lanes, .int wa_deep, .int wa_told, .int wa_beasts, .int wa_cities, .int wa_passes, .int wa_turned, .int wa_names, wa_who, wa_strong, wa_kind, wa_lane, wa_mood, .ref a_wa_price, wa_loses, wa_name, wa_nameSort, wa_numberOf])), (a_wa_price, .inl (cy 1, 5, .inl wa_price))] ++ X) a_mo 0 mo_trouble mo_where (.ref a_wa) (mo_read) (mo_tape) mo_taped mo_size mo_spot mo_sort mo_place mo_number mo_fault mo_wrongAt mo_laneTold mo_word (.ref a_mo_v) (mo_x) (mo_past) (mo_kept) mo_acts mo_marks (mo_put) (mo_bestPut) mo_bestSum (mo_row) (mo_best) (mo_left) mo_bestSize mo_bestLeft (mo_counts) mo_sets mo_foeHarm mo_ownHarm mo_across mo_sumFoe mo_sumOwn mo_sumWon mo_sumAcross (2 : Int32) r_16 mo_trouble_17 mo_where_18 hc_19) gX13_saleOver_X13_refused rfl hd_X13_refused ⟨Nat.le_of_ble_eq_true rfl, Nat.le_of_ble_eq_true rfl⟩ rfl rfl hKN (pX3 hP [0, 1, 2, 3] rfl) (dX3 hD [0, 1, 2, 3] rfl rfl) hS hA 13 0 rfl rfl rfl hl.1 rfl (Nat.le_of_ble_eq_true rfl) dX13_saleOver_31 ⟨Nat.le_of_ble_eq_true rfl, Nat.le_of_ble_eq_true rfl⟩ (fun H locs hP hD hS => ?_)
    have hP := pX4 (L1 := [(a_mo, .inr (13, [.int 0, .int mo_trouble_17, .int mo_where_18, .ref a_wa, mo_read, mo_tape, .int mo_taped, .int mo_size, .int mo_spot, .int mo_sort, .int mo_place, .int mo_number, .int mo_fault, .int mo_wrongAt, .int mo_laneTold, .long mo_word, .ref a_mo_v, mo_x, mo_past, mo_kept, .int mo_acts, .int mo_marks, mo_put, mo_bestPut, .long mo_bestSum, mo_row, mo_best, mo_left, .int mo_bestSize, .int mo_bestLeft, mo_counts, .int mo_sets, .int mo_foeHarm, .int mo_ownHarm, .int mo_across, .int mo_sumFoe, .int mo_sumOwn, .int mo_sumWon, .int mo_sumAcross])), (a_mo_v, .inl (cy 1, 19, .inl mo_v)), (a_wa, .inr (12, [.int wa_lanes, .int wa_deep, .int wa_told, .int wa_beasts, .int wa_cities, .int wa_passes, .int wa_turned, .int wa_names, wa_who, wa_strong, wa_kind, wa_lane, wa_mood, .ref a_wa_price, wa_loses, wa_name, wa_nameSort, wa_numberOf])), (a_wa_price, .inl (cy 1, 5, .inl wa_price))]) hP [0, 1, 2, 3] rfl
    have hD := dX4 (L1 := [(a_mo, .inr (13, [.int 0, .int mo_trouble_17, .int mo_where_18, .ref a_wa, mo_read, mo_tape, .int mo_taped, .int mo_size, .int mo_spot, .int mo_sort, .int mo_place, .int mo_number, .int mo_fault, .int mo_wrongAt, .int mo_laneTold, .long mo_word, .ref a_mo_v, mo_x, mo_past, mo_kept, .int mo_acts, .int mo_marks, mo_put, mo_bestPut, .long mo_bestSum, mo_row, mo_best, mo_left, .int mo_bestSize, .int mo_bestLeft, mo_counts, .int mo_sets, .int mo_foeHarm, .int mo_ownHarm, .int mo_across, .int mo_sumFoe, .int mo_sumOwn, .int mo_sumWon, .int mo_sumAcross])), (a_mo_v, .inl (cy 1, 19, .inl mo_v)), (a_wa, .inr (12, [.int wa_lanes, .int wa_deep, .int wa_told, .int wa_beasts, .int wa_cities, .int wa_passes, .int wa_turned, .int wa_names, wa_who, wa_strong, wa_kind, wa_lane, wa_mood, .ref a_wa_price, wa_loses, wa_name, wa_nameSort, wa_numberOf])), (a_wa_price, .inl (cy 1, 5, .inl wa_price))]) hD [0, 1, 2, 3] rfl rfl
    cases h
    exact W.iret hx hb hr (fun t ht _ => ⟨⟨_, (), rfl, rfl, by rw [ht]; exact hP, hD⟩, hS.F ht⟩) hS.2.2 dX13_saleOver_34
noncomputable def f_X13_over (p0 : Int32) (p1 : Int32) : Option (Int32) :=
  some ((p0 * (100 - p1)) / 100)
theorem hd_X13_over : yX13_over.cls ≠ "java/lang/invoke/MethodHandle" ∧ yX13_over.cls ≠ "java/lang/invoke/VarHandle" ∧ (parseMethodDescriptor yX13_over.desc).map (fun d => d.parameters.length) = some 2 := by decide +kernel
set_option maxHeartbeats 4000000 in
set_option maxRecDepth 100000 in
theorem c_X13_over (l : Launch) (D : va_G) (cy : Nat → ClassId) (p0 : Int32) (p1 : Int32) (res : Int32) (h : f_X13_over  p0 p1 = some (res)) : Met l yX13_over wo_X13_over ({ frames := 0, cells := 0, slots := 0, locals := 0 }) (roPc D cy [.int p0, .int p1] []) (vp_Si (fun r => r = res)) 0 0 (fun _ => False) := by
  refine Met.ofW (cc := cX13_over) (maxL := 2) (ret := (some .int)) (by decide) rfl ?_
  intro p e s m args below meth c s₁ B hml hv
  obtain ⟨rfl, hP, hKN⟩ := hv
  have hK := hKN.1
  have hx := B.exec
  have hb := B.bytes
  have hr := B.returns
  have hts := wt_X13_over hKN.2.2 (([.int p0, .int p1] : List Value).toArray)
  have hown : s.vm.findClass RX13 = some m.cls := findClass_of_methodNamed B.named
  have hlocks := B.notSynchronized
  have hl := lv_entry ([.int p0, .int p1]) (n := 2) (Nat.le_of_ble_eq_true rfl)
  rw [lg_entry_eq]
  generalize (lg_sl ([.int p0, .int p1]) ++ List.replicate (2 - (lg_sl ([.int p0, .int p1])).length) Slot.unset).toArray = ls at hl ⊢
  have hl : lv_has ls 2 [(0, .int p0), (1, .int p1)] := hl
  unfold f_X13_over at h
  refine lv_iload_n hx hb dX13_over_0 rfl (lv_at hl 0 rfl) ?_
  refine lv_bipush (v := 100) hx hb dX13_over_1 (by decide) ?_
  refine lv_iload_n hx hb dX13_over_3 rfl (lv_at hl 1 rfl) ?_
  refine lv_isub hx hb dX13_over_4 ?_
  refine lv_imul hx hb dX13_over_5 ?_
  refine lv_bipush (v := 100) hx hb dX13_over_6 (by decide) ?_
  refine lv_idiv hx hb dX13_over_8 (by decide) ?_
  exact W.iret (v := (p0 * (100 - p1)) / 100) hx hb hr (fun t ht _ => ⟨_, rfl, Option.some.inj h, ht⟩) (fun _ q => by cases q) dX13_over_9
noncomputable def f_X13_comes_b35 (mo_row : Nat → Int32) (mo_left : Nat → Int32) (x1 : Int32) (mo_bestSize : Int32) (mo_bestLeft : Int32) (k35 : Int32 → (Nat → Int32) → Option (Int32 × Int32 × (Nat → Int32))) (x2 : Int32) (mo_best : Nat → Int32) : Option (Int32 × Int32 × (Nat → Int32)) :=
  (if x1 ≤ x2 then
  some (mo_bestSize, mo_bestLeft, mo_best)
  else
  gIn x2 6 <|
  gIn x2 6 <|
  k35 (x2 + 1) (upd mo_best x2.toNatClampNeg (mo_row x2.toNatClampNeg)))
noncomputable def f_X13_comes_L35 (mo_row : Nat → Int32) (mo_left : Nat → Int32) (x1 : Int32) (mo_bestSize : Int32) (mo_bestLeft : Int32) : Nat → Int32 → (Nat → Int32) → Option (Int32 × Int32 × (Nat → Int32))
  | 0 => fun _ _ => none
  | n + 1 => f_X13_comes_b35 mo_row mo_left x1 mo_bestSize mo_bestLeft (f_X13_comes_L35 mo_row mo_left x1 mo_bestSize mo_bestLeft n)
noncomputable def f_X13_comes (mo_bestSize : Int32) (mo_bestLeft : Int32) (mo_row : Nat → Int32) (mo_best : Nat → Int32) (mo_left : Nat → Int32) (p1 : Int32) : Option (Int32 × Int32 × (Nat → Int32)) :=
  gIn (p1 - 1) 6 <|
  (if mo_bestLeft < (mo_left (p1 - 1).toNatClampNeg) then
  gIn (p1 - 1) 6 <|
  f_X13_comes_L35 mo_row mo_left p1 p1 (mo_left (p1 - 1).toNatClampNeg) fuelN 0 mo_best
  else
  some (mo_bestSize, mo_bestLeft, mo_best))
theorem hd_X13_comes : yX13_comes.cls = RX13 ∧ yX13_comes.cls ≠ "java/lang/invoke/MethodHandle" ∧ yX13_comes.cls ≠ "java/lang/invoke/VarHandle" ∧ (parseMethodDescriptor yX13_comes.desc).map (fun d => d.parameters.length) = some 1 := by decide +kernel
set_option maxHeartbeats 4000000 in
set_option maxRecDepth 100000 in
theorem c_X13_comes (l : Launch) (D : va_G) (cy : Nat → ClassId) (A : Nat → Prop) (X : va_W) (a_mo a_mo_row a_mo_best a_mo_left : Nat) (mo_thrown : Int32) (mo_trouble : Int32) (mo_where : Int32) (mo_war : Value) (mo_read : Value) (mo_tape : Value) (mo_taped : Int32) (mo_size : Int32) (mo_spot : Int32) (mo_sort : Int32) (mo_place : Int32) (mo_number : Int32) (mo_fault : Int32) (mo_wrongAt : Int32) (mo_laneTold : Int32) (mo_word : Int64) (mo_v : Value) (mo_x : Value) (mo_past : Value) (mo_kept : Value) (mo_acts : Int32) (mo_marks : Int32) (mo_put : Value) (mo_bestPut : Value) (mo_bestSum : Int64) (mo_bestSize : Int32) (mo_bestLeft : Int32) (mo_counts : Value) (mo_sets : Int32) (mo_foeHarm : Int32) (mo_ownHarm : Int32) (mo_across : Int32) (mo_sumFoe : Int32) (mo_sumOwn : Int32) (mo_sumWon : Int32) (mo_sumAcross : Int32) (mo_row : Nat → Int32) (mo_best : Nat → Int32) (mo_left : Nat → Int32) (p1 : Int32) (mo_bestSize' : Int32) (mo_bestLeft' : Int32) (mo_best' : Nat → Int32) (h : f_X13_comes mo_bestSize mo_bestLeft mo_row mo_best mo_left p1 = some (mo_bestSize', mo_bestLeft', mo_best')) : Met l yX13_comes wo_X13_comes ({ frames := 0, cells := 0, slots := 0, locals := 0 }) (wrPc D cy A [.ref a_mo, .int p1] ([(a_mo, .inr (13, [.int mo_thrown, .int mo_trouble, .int mo_where, mo_war, mo_read, mo_tape, .int mo_taped, .int mo_size, .int mo_spot, .int mo_sort, .int mo_place, .int mo_number, .int mo_fault, .int mo_wrongAt, .int mo_laneTold, .long mo_word, mo_v, mo_x, mo_past, mo_kept, .int mo_acts, .int mo_marks, mo_put, mo_bestPut, .long mo_bestSum, .ref a_mo_row, .ref a_mo_best, .ref a_mo_left, .int mo_bestSize, .int mo_bestLeft, mo_counts, .int mo_sets, .int mo_foeHarm, .int mo_ownHarm, .int mo_across, .int mo_sumFoe, .int mo_sumOwn, .int mo_sumWon, .int mo_sumAcross])), (a_mo_row, .inl (cy 1, 6, .inl mo_row)), (a_mo_best, .inl (cy 1, 6, .inl mo_best)), (a_mo_left, .inl (cy 1, 6, .inl mo_left))] ++ X)) (va_Qv (fun (_ : Unit) => True) (wB D A ([(a_mo, .inr (13, [.int mo_thrown, .int mo_trouble, .int mo_where, mo_war, mo_read, mo_tape, .int mo_taped, .int mo_size, .int mo_spot, .int mo_sort, .int mo_place, .int mo_number, .int mo_fault, .int mo_wrongAt, .int mo_laneTold, .long mo_word, mo_v, mo_x, mo_past, mo_kept, .int mo_acts, .int mo_marks, mo_put, mo_bestPut, .long mo_bestSum, .ref a_mo_row, .ref a_mo_best, .ref a_mo_left, .int mo_bestSize', .int mo_bestLeft', mo_counts, .int mo_sets, .int mo_foeHarm, .int mo_ownHarm, .int mo_across, .int mo_sumFoe, .int mo_sumOwn, .int mo_sumWon, .int mo_sumAcross])), (a_mo_row, .inl (cy 1, 6, .inl mo_row)), (a_mo_best, .inl (cy 1, 6, .inl mo_best')), (a_mo_left, .inl (cy 1, 6, .inl mo_left))] ++ X)) A) 0 0 A := by
  refine Met.ofW (cc := cX13_comes) (maxL := 3) (ret := none) (by decide) rfl ?_
  intro p e s m args below meth c s₁ B hml hv
  obtain ⟨rfl, hP, hKN, hD, hA⟩ := hv
  have hK := hKN.1
  have hx := B.exec
  have hb := B.bytes
  have hr := B.returns
  have hts := wt_X13_comes hKN.2.2 (([.ref a_mo, .int p1] : List Value).toArray)
  have hown : s.vm.findClass RX13 = some m.cls := findClass_of_methodNamed B.named
  have hlocks := B.notSynchronized
  have hS : va_S A s.heap s.heap [] := va_S.rf
  have hX13 := wc_X13 hKN.2.2 (([.ref a_mo, .int p1] : List Value).toArray)
  have hl := lv_entry ([.ref a_mo, .int p1]) (n := 3) (Nat.le_of_ble_eq_true rfl)
  rw [lg_entry_eq]
  generalize (lg_sl ([.ref a_mo, .int p1]) ++ List.replicate (3 - (lg_sl ([.ref a_mo, .int p1])).length) Slot.unset).toArray = ls at hl ⊢
  have hl : lv_has ls 3 [(0, .ref a_mo), (1, .int p1)] := hl
  unfold f_X13_comes at h
  refine lv_aload_n hx hb dX13_comes_0 rfl (lv_at hl 0 rfl) ?_
  refine va_get (D := D) (ci := 13) (C := RX13) (T := TX13) (N := 39) (v := .ref a_mo_left) hx hb hX13 (fun _ q => q) hown hK hP 0 rfl rfl 27 (by decide) (hts (.fieldLink RX13 42 "ElephantLineModel" "left" "[I") (by decide +kernel)) (fun _ h9 => h9) rfl dX13_comes_1 ?_
  refine lv_iload_n hx hb dX13_comes_4 rfl (lv_at hl 1 rfl) ?_
  refine lv_iconst (v := 1) hx hb dX13_comes_5 (by decide) ?_
  refine lv_isub hx hb dX13_comes_6 ?_
  obtain ⟨i_1, h⟩ := gIn_some h
  refine va_iald hx hb hK hP 3 1 rfl rfl i_1 dX13_comes_7 ?_
  refine lv_aload_n hx hb dX13_comes_8 rfl (lv_at hl 0 rfl) ?_
  refine va_get (D := D) (ci := 13) (C := RX13) (T := TX13) (N := 39) (v := .int mo_bestLeft) hx hb hX13 (fun _ q => q) hown hK hP 0 rfl rfl 29 (by decide) (hts (.fieldLink RX13 411 "ElephantLineModel" "bestLeft" "I") (by decide +kernel)) (fun _ h9 => h9) rfl dX13_comes_9 ?_
  refine lv_icmp_gt (tgt := 16) hx hb dX13_comes_12 (by decide) (fun cd => ?_) (fun cd => ?_)
  · have h := ifT cd h
    refine lv_aload_n hx hb dX13_comes_16 rfl (lv_at hl 0 rfl) ?_
    refine lv_aload_n hx hb dX13_comes_17 rfl (lv_at hl 0 rfl) ?_
    refine va_get (D := D) (ci := 13) (C := RX13) (T := TX13) (N := 39) (v := .ref a_mo_left) hx hb hX13 (fun _ q => q) hown hK hP 0 rfl rfl 27 (by decide) (hts (.fieldLink RX13 42 "ElephantLineModel" "left" "[I") (by decide +kernel)) (fun _ h9 => h9) rfl dX13_comes_18 ?_
    refine lv_iload_n hx hb dX13_comes_21 rfl (lv_at hl 1 rfl) ?_
    refine lv_iconst (v := 1) hx hb dX13_comes_22 (by decide) ?_
    refine lv_isub hx hb dX13_comes_23 ?_
    obtain ⟨i_2, h⟩ := gIn_some h
    refine va_iald hx hb hK hP 3 1 rfl rfl i_2 dX13_comes_24 ?_
    refine va_put (D := D) (ci := 13) (C := RX13) (T := TX13) (N := 39) (v := .int (mo_left (p1 - 1).toNatClampNeg)) (ty := .int) hx hb hX13 (fun _ q => q) tyX13 tyX13_ok nmX13 hown hK hP hD hS 0 rfl rfl 29 (by decide) (hts (.fieldLink RX13 411 "ElephantLineModel" "bestLeft" "I") (by decide +kernel)) (fun _ h9 => h9) rfl (tyX13_ok 29 (by decide)) rfl rfl (Nat.le_of_ble_eq_true rfl) dX13_comes_25 (fun H locs hP hD hS => ?_)
    refine lv_aload_n hx hb dX13_comes_28 rfl (lv_at hl 0 rfl) ?_
    refine lv_iload_n hx hb dX13_comes_29 rfl (lv_at hl 1 rfl) ?_
    refine va_put (D := D) (ci := 13) (C := RX13) (T := TX13) (N := 39) (v := .int p1) (ty := .int) hx hb hX13 (fun _ q => q) tyX13 tyX13_ok nmX13 hown hK hP hD hS 0 rfl rfl 28 (by decide) (hts (.fieldLink RX13 408 "ElephantLineModel" "bestSize" "I") (by decide +kernel)) (fun _ h9 => h9) rfl (tyX13_ok 28 (by decide)) rfl rfl (Nat.le_of_ble_eq_true rfl) dX13_comes_30 (fun H locs hP hD hS => ?_)
    refine lv_iconst (v := 0) hx hb dX13_comes_33 (by decide) ?_
    refine lv_istore_n (lv' := [(2, .int 0), (0, .ref a_mo), (1, .int p1)]) hx hb dX13_comes_34 rfl hl (by decide) rfl (fun ls hl => ?_)
    have lp35 : ∀ (n35 : Nat) (x2_3 : Int32) (mo_best_4 : Nat → Int32), f_X13_comes_L35 mo_row mo_left p1 p1 (mo_left (p1 - 1).toNatClampNeg) n35 x2_3 mo_best_4 = some (mo_bestSize', mo_bestLeft', mo_best') → ∀ (H : Heap) (locs : List Loc), va_P D vwCl ([(a_mo, .inr (13, [.int mo_thrown, .int mo_trouble, .int mo_where, mo_war, mo_read, mo_tape, .int mo_taped, .int mo_size, .int mo_spot, .int mo_sort, .int mo_place, .int mo_number, .int mo_fault, .int mo_wrongAt, .int mo_laneTold, .long mo_word, mo_v, mo_x, mo_past, mo_kept, .int mo_acts, .int mo_marks, mo_put, mo_bestPut, .long mo_bestSum, .ref a_mo_row, .ref a_mo_best, .ref a_mo_left, .int p1, .int (mo_left (p1 - 1).toNatClampNeg), mo_counts, .int mo_sets, .int mo_foeHarm, .int mo_ownHarm, .int mo_across, .int mo_sumFoe, .int mo_sumOwn, .int mo_sumWon, .int mo_sumAcross])), (a_mo_row, .inl (cy 1, 6, .inl mo_row)), (a_mo_best, .inl (cy 1, 6, .inl mo_best_4)), (a_mo_left, .inl (cy 1, 6, .inl mo_left))] ++ X) H → va_D A ([(a_mo, .inr (13, [.int mo_thrown, .int mo_trouble, .int mo_where, mo_war, mo_read, mo_tape, .int mo_taped, .int mo_size, .int mo_spot, .int mo_sort, .int mo_place, .int mo_number, .int mo_fault, .int mo_wrongAt, .int mo_laneTold, .long mo_word, mo_v, mo_x, mo_past, mo_kept, .int mo_acts, .int mo_marks, mo_put, mo_bestPut, .long mo_bestSum, .ref a_mo_row, .ref a_mo_best, .ref a_mo_left, .int p1, .int (mo_left (p1 - 1).toNatClampNeg), mo_counts, .int mo_sets, .int mo_foeHarm, .int mo_ownHarm, .int mo_across, .int mo_sumFoe, .int mo_sumOwn, .int mo_sumWon, .int mo_sumAcross])), (a_mo_row, .inl (cy 1, 6, .inl mo_row)), (a_mo_best, .inl (cy 1, 6, .inl mo_best_4)), (a_mo_left, .inl (cy 1, 6, .inl mo_left))] ++ X) → va_S A s.heap H locs → ∀ ls : Array Slot, lv_has ls 3 [(0, .ref a_mo), (1, .int p1), (2, .int x2_3)] → W p l e (headSpec wo_X13_comes ({ frames := 0, cells := 0, slots := 0, locals := 0 })).room s m (([.ref a_mo, .int p1] : List Value).toArray) below meth c H locs 0 0 (MQ below (va_Qv (fun (_ : Unit) => True) (wB D A ([(a_mo, .inr (13, [.int mo_thrown, .int mo_trouble, .int mo_where, mo_war, mo_read, mo_tape, .int mo_taped, .int mo_size, .int mo_spot, .int mo_sort, .int mo_place, .int mo_number, .int mo_fault, .int mo_wrongAt, .int mo_laneTold, .long mo_word, mo_v, mo_x, mo_past, mo_kept, .int mo_acts, .int mo_marks, mo_put, mo_bestPut, .long mo_bestSum, .ref a_mo_row, .ref a_mo_best, .ref a_mo_left, .int mo_bestSize', .int mo_bestLeft', mo_counts, .int mo_sets, .int mo_foeHarm, .int mo_ownHarm, .int mo_across, .int mo_sumFoe, .int mo_sumOwn, .int mo_sumWon, .int mo_sumAcross])), (a_mo_row, .inl (cy 1, 6, .inl mo_row)), (a_mo_best, .inl (cy 1, 6, .inl mo_best')), (a_mo_left, .inl (cy 1, 6, .inl mo_left))] ++ X)) A) (([.ref a_mo, .int p1] : List Value).toArray) s 0 0 A) (F0 m 35 ls []) := by
      intro n35
      induction n35 with
      | zero => intro x2_3 mo_best_4 h; exact absurd (show (none : Option (Int32 × Int32 × (Nat → Int32))) = some _ from h) (by intro q; cases q)
      | succ n35 ih35 =>
        intro x2_3 mo_best_4 h H locs hP hD hS ls hl
        have h : f_X13_comes_b35 mo_row mo_left p1 p1 (mo_left (p1 - 1).toNatClampNeg) (f_X13_comes_L35 mo_row mo_left p1 p1 (mo_left (p1 - 1).toNatClampNeg) n35) x2_3 mo_best_4 = some (mo_bestSize', mo_bestLeft', mo_best') := h
        unfold f_X13_comes_b35 at h
        refine lv_iload_n hx hb dX13_comes_35 rfl (lv_at hl 2 rfl) ?_
        refine lv_iload_n hx hb dX13_comes_36 rfl (lv_at hl 1 rfl) ?_
        refine lv_icmp_ge (tgt := 58) hx hb dX13_comes_37 (by decide) (fun cd => ?_) (fun cd => ?_)
        · have h := ifT cd h
          cases h
          exact W.vret hx hb hr (fun t ht _ => ⟨⟨(), rfl, trivial, by rw [ht]; exact hP, hD⟩, hS.F ht⟩) hS.2.2 dX13_comes_58
        · have h := ifF cd h
          refine lv_aload_n hx hb dX13_comes_40 rfl (lv_at hl 0 rfl) ?_
          refine va_get (D := D) (ci := 13) (C := RX13) (T := TX13) (N := 39) (v := .ref a_mo_best) hx hb hX13 (fun _ q => q) hown hK hP 0 rfl rfl 26 (by decide) (hts (.fieldLink RX13 39 "ElephantLineModel" "best" "[I") (by decide +kernel)) (fun _ h9 => h9) rfl dX13_comes_41 ?_
          refine lv_iload_n hx hb dX13_comes_44 rfl (lv_at hl 2 rfl) ?_
          refine lv_aload_n hx hb dX13_comes_45 rfl (lv_at hl 0 rfl) ?_
          refine va_get (D := D) (ci := 13) (C := RX13) (T := TX13) (N := 39) (v := .ref a_mo_row) hx hb hX13 (fun _ q => q) hown hK hP 0 rfl rfl 25 (by decide) (hts (.fieldLink RX13 36 "ElephantLineModel" "row" "[I") (by decide +kernel)) (fun _ h9 => h9) rfl dX13_comes_46 ?_
          refine lv_iload_n hx hb dX13_comes_49 rfl (lv_at hl 2 rfl) ?_
          obtain ⟨i_5, h⟩ := gIn_some h
          refine va_iald hx hb hK hP 1 1 rfl rfl i_5 dX13_comes_50 ?_
          obtain ⟨i_6, h⟩ := gIn_some h
          refine va_iast hx hb hK hP hD hS 2 1 rfl rfl i_6 dX13_comes_51 (fun H locs hP hD hS => ?_)
          refine lv_iinc (v := x2_3 + 1) (lv' := [(2, .int (x2_3 + 1)), (0, .ref a_mo), (1, .int p1)]) hx hb dX13_comes_52 hl (k := 2) rfl (by first | rfl | decide) (by decide) rfl (fun ls hl => ?_)
          refine lv_goto (tgt := 35) hx hb dX13_comes_55 (by decide) ?_
          exact ih35 (x2_3 + 1) (upd mo_best_4 x2_3.toNatClampNeg (mo_row x2_3.toNatClampNeg)) h _ _ hP hD hS _ (lv_sub hl [1, 2, 0] rfl)
    exact lp35 fuelN (0 : Int32) mo_best h _ _ hP hD hS _ (lv_sub hl [1, 2, 0] rfl)
  · have h := ifF cd h
    cases h
    exact W.vret hx hb hr (fun t ht _ => ⟨⟨(), rfl, trivial, by rw [ht]; exact hP, hD⟩, hS.F ht⟩) hS.2.2 dX13_comes_15
noncomputable def f_X13_refusesMarch_B16 (wa_cities : Int32) : Option (Int32) :=
  some (1)
noncomputable def f_X13_refusesMarch (wa_cities : Int32) (p1 : Int32) (p2 : Int32) (p3 : Int32) : Option (Int32) :=
  bd1 (f_X13_isCity wa_cities p1) fun r_1 =>
  (if r_1 = 0 then
  f_X13_refusesMarch_B16 wa_cities
  else
  bd1 (f_X13_isCity wa_cities p2) fun r_4 =>
  (if r_4 = 0 then
  f_X13_refusesMarch_B16 wa_cities
  else
  bd1 (f_X13_in  p3 (0 : Int32) (999 : Int32)) fun r_7 =>
  (if r_7 = 0 then
  some (2)
  else
  some (0))))
theorem hd_X13_refusesMarch : yX13_refusesMarch.cls = RX13 ∧ yX13_refusesMarch.cls ≠ "java/lang/invoke/MethodHandle" ∧ yX13_refusesMarch.cls ≠ "java/lang/invoke/VarHandle" ∧ (parseMethodDescriptor yX13_refusesMarch.desc).map (fun d => d.parameters.length) = some 3 := by decide +kernel
set_option maxHeartbeats 4000000 in
set_option maxRecDepth 100000 in
theorem c_X13_refusesMarch (l : Launch) (D : va_G) (cy : Nat → ClassId) (a_mo a_wa : Nat) (mo_thrown : Int32) (mo_trouble : Int32) (mo_where : Int32) (mo_read : Value) (mo_tape : Value) (mo_taped : Int32) (mo_size : Int32) (mo_spot : Int32) (mo_sort : Int32) (mo_place : Int32) (mo_number : Int32) (mo_fault : Int32) (mo_wrongAt : Int32) (mo_laneTold : Int32) (mo_word : Int64) (mo_v : Value) (mo_x : Value) (mo_past : Value) (mo_kept : Value) (mo_acts : Int32) (mo_marks : Int32) (mo_put : Value) (mo_bestPut : Value) (mo_bestSum : Int64) (mo_row : Value) (mo_best : Value) (mo_left : Value) (mo_bestSize : Int32) (mo_bestLeft : Int32) (mo_counts : Value) (mo_sets : Int32) (mo_foeHarm : Int32) (mo_ownHarm : Int32) (mo_across : Int32) (mo_sumFoe : Int32) (mo_sumOwn : Int32) (mo_sumWon : Int32) (mo_sumAcross : Int32) (wa_lanes : Int32) (wa_deep : Int32) (wa_told : Int32) (wa_beasts : Int32) (wa_cities : Int32) (wa_passes : Int32) (wa_turned : Int32) (wa_names : Int32) (wa_who : Value) (wa_strong : Value) (wa_kind : Value) (wa_lane : Value) (wa_mood : Value) (wa_price : Value) (wa_loses : Value) (wa_name : Value) (wa_nameSort : Value) (wa_numberOf : Value) (p1 : Int32) (p2 : Int32) (p3 : Int32) (res : Int32) (h : f_X13_refusesMarch wa_cities p1 p2 p3 = some (res)) : Met l yX13_refusesMarch wo_X13_refusesMarch ({ frames := 1, cells := 0, slots := 0, locals := 22 }) (roPc D cy [.ref a_mo, .int p1, .int p2, .int p3] [(a_mo, .inr (13, [.int mo_thrown, .int mo_trouble, .int mo_where, .ref a_wa, mo_read, mo_tape, .int mo_taped, .int mo_size, .int mo_spot, .int mo_sort, .int mo_place, .int mo_number, .int mo_fault, .int mo_wrongAt, .int mo_laneTold, .long mo_word, mo_v, mo_x, mo_past, mo_kept, .int mo_acts, .int mo_marks, mo_put, mo_bestPut, .long mo_bestSum, mo_row, mo_best, mo_left, .int mo_bestSize, .int mo_bestLeft, mo_counts, .int mo_sets, .int mo_foeHarm, .int mo_ownHarm, .int mo_across, .int mo_sumFoe, .int mo_sumOwn, .int mo_sumWon, .int mo_sumAcross])), (a_wa, .inr (12, [.int wa_lanes, .int wa_deep, .int wa_told, .int wa_beasts, .int wa_cities, .int wa_passes, .int wa_turned, .int wa_names, wa_who, wa_strong, wa_kind, wa_lane, wa_mood, wa_price, wa_loses, wa_name, wa_nameSort, wa_numberOf]))]) (vp_Si (fun r => r = res)) 0 0 (fun _ => False) := by
  refine Met.ofW (cc := cX13_refusesMarch) (maxL := 4) (ret := (some .int)) (by decide) rfl ?_
  intro p e s m args below meth c s₁ B hml hv
  obtain ⟨rfl, hP, hKN⟩ := hv
  have hK := hKN.1
  have hx := B.exec
  have hb := B.bytes
  have hr := B.returns
  have hts := wt_X13_refusesMarch hKN.2.2 (([.ref a_mo, .int p1, .int p2, .int p3] : List Value).toArray)
  have hown : s.vm.findClass RX13 = some m.cls := findClass_of_methodNamed B.named
  have hlocks := B.notSynchronized
  have hl := lv_entry ([.ref a_mo, .int p1, .int p2, .int p3]) (n := 4) (Nat.le_of_ble_eq_true rfl)
  rw [lg_entry_eq]
  generalize (lg_sl ([.ref a_mo, .int p1, .int p2, .int p3]) ++ List.replicate (4 - (lg_sl ([.ref a_mo, .int p1, .int p2, .int p3])).length) Slot.unset).toArray = ls at hl ⊢
  have hl : lv_has ls 4 [(0, .ref a_mo), (1, .int p1), (2, .int p2), (3, .int p3)] := hl
  unfold f_X13_refusesMarch at h
  refine lv_aload_n hx hb dX13_refusesMarch_0 rfl (lv_at hl 0 rfl) ?_
  refine lv_iload_n hx hb dX13_refusesMarch_1 rfl (lv_at hl 1 rfl) ?_
  obtain ⟨r_1, hc_2, h⟩ := bd1_some h
  refine kVb [.int p1] [] ⟨hx, hb, hml, hown, hts⟩ (c_X13_isCity l D cy a_mo a_wa mo_thrown mo_trouble mo_where (mo_read) (mo_tape) mo_taped mo_size mo_spot mo_sort mo_place mo_number mo_fault mo_wrongAt mo_laneTold mo_word (mo_v) (mo_x) (mo_past) (mo_kept) mo_acts mo_marks (mo_put) (mo_bestPut) mo_bestSum (mo_row) (mo_best) (mo_left) mo_bestSize mo_bestLeft (mo_counts) mo_sets mo_foeHarm mo_ownHarm mo_across mo_sumFoe mo_sumOwn mo_sumWon mo_sumAcross wa_lanes wa_deep wa_told wa_beasts wa_cities wa_passes wa_turned wa_names (wa_who) (wa_strong) (wa_kind) (wa_lane) (wa_mood) (wa_price) (wa_loses) (wa_name) (wa_nameSort) (wa_numberOf) p1 r_1 hc_2) gX13_refusesMarch_X13_isCity rfl hd_X13_isCity ⟨Nat.le_of_ble_eq_true rfl, Nat.le_of_ble_eq_true rfl⟩ rfl rfl hKN (hP.sub [0, 1] rfl) 13 0 rfl rfl rfl hl.1 rfl (Nat.le_of_ble_eq_true rfl) dX13_refusesMarch_2 ⟨Nat.le_of_ble_eq_true rfl, Nat.le_of_ble_eq_true rfl⟩ (fun nb_3 => ?_)
  have jn16 : f_X13_refusesMarch_B16 wa_cities = some (res) → ∀ ls : Array Slot, lv_has ls 4 [] → W p l e (headSpec wo_X13_refusesMarch ({ frames := 1, cells := 0, slots := 0, locals := 22 })).room s m (([.ref a_mo, .int p1, .int p2, .int p3] : List Value).toArray) below meth c s.heap [] 0 0 (MQ below (vp_Si (fun r => r = res)) (([.ref a_mo, .int p1, .int p2, .int p3] : List Value).toArray) s 0 0 (fun _ => False)) (F0 m 16 ls []) := by
    intro h ls hl
    unfold f_X13_refusesMarch_B16 at h
    refine lv_iconst (v := 1) hx hb dX13_refusesMarch_16 (by decide) ?_
    refine lv_goto (tgt := 36) hx hb dX13_refusesMarch_17 (by decide) ?_
    exact W.iret (v := 1) hx hb hr (fun t ht _ => ⟨_, rfl, Option.some.inj h, ht⟩) (fun _ q => by cases q) dX13_refusesMarch_36
  refine lv_if_eq (tgt := 16) hx hb dX13_refusesMarch_5 (by decide) (fun cd => ?_) (fun cd => ?_)
  · have h := ifT cd h
    exact jn16 h _ (lv_sub hl [] rfl)
  · have h := ifF cd h
    refine lv_aload_n hx hb dX13_refusesMarch_8 rfl (lv_at hl 0 rfl) ?_
    refine lv_iload_n hx hb dX13_refusesMarch_9 rfl (lv_at hl 2 rfl) ?_
    obtain ⟨r_4, hc_5, h⟩ := bd1_some h
    refine kVb [.int p2] [] ⟨hx, hb, hml, hown, hts⟩ (c_X13_isCity l D cy a_mo a_wa mo_thrown mo_trouble mo_where (mo_read) (mo_tape) mo_taped mo_size mo_spot mo_sort mo_place mo_number mo_fault mo_wrongAt mo_laneTold mo_word (mo_v) (mo_x) (mo_past) (mo_kept) mo_acts mo_marks (mo_put) (mo_bestPut) mo_bestSum (mo_row) (mo_best) (mo_left) mo_bestSize mo_bestLeft (mo_counts) mo_sets mo_foeHarm mo_ownHarm mo_across mo_sumFoe mo_sumOwn mo_sumWon mo_sumAcross wa_lanes wa_deep wa_told wa_beasts wa_cities wa_passes wa_turned wa_names (wa_who) (wa_strong) (wa_kind) (wa_lane) (wa_mood) (wa_price) (wa_loses) (wa_name) (wa_nameSort) (wa_numberOf) p2 r_4 hc_5) gX13_refusesMarch_X13_isCity rfl hd_X13_isCity ⟨Nat.le_of_ble_eq_true rfl, Nat.le_of_ble_eq_true rfl⟩ rfl rfl hKN (hP.sub [0, 1] rfl) 13 0 rfl rfl rfl hl.1 rfl (Nat.le_of_ble_eq_true rfl) dX13_refusesMarch_10 ⟨Nat.le_of_ble_eq_true rfl, Nat.le_of_ble_eq_true rfl⟩ (fun nb_6 => ?_)
    refine lv_if_ne (tgt := 20) hx hb dX13_refusesMarch_13 (by decide) (fun cd => ?_) (fun cd => ?_)
    · have h := ifF cd h
      refine lv_iload_n hx hb dX13_refusesMarch_20 rfl (lv_at hl 3 rfl) ?_
      refine lv_iconst (v := 0) hx hb dX13_refusesMarch_21 (by decide) ?_
      refine lv_sipush (v := 999) hx hb dX13_refusesMarch_22 (by decide) ?_
      obtain ⟨r_7, hc_8, h⟩ := bd1_some h
      refine kSb [.int p3, .int 0, .int 999] [] ⟨hx, hb, hml, hown, hts⟩ (c_X13_in l D cy p3 (0 : Int32) (999 : Int32) r_7 hc_8) gX13_refusesMarch_X13_in rfl hd_X13_in ⟨Nat.le_of_ble_eq_true rfl, Nat.le_of_ble_eq_true rfl⟩ rfl rfl hKN va_nil rfl hl.1 rfl (Nat.le_of_ble_eq_true rfl) dX13_refusesMarch_25 ⟨Nat.le_of_ble_eq_true rfl, Nat.le_of_ble_eq_true rfl⟩ (fun nb_9 => ?_)
      refine lv_if_eq (tgt := 35) hx hb dX13_refusesMarch_28 (by decide) (fun cd => ?_) (fun cd => ?_)
      · have h := ifT cd h
        refine lv_iconst (v := 2) hx hb dX13_refusesMarch_35 (by decide) ?_
        exact W.iret (v := 2) hx hb hr (fun t ht _ => ⟨_, rfl, Option.some.inj h, ht⟩) (fun _ q => by cases q) dX13_refusesMarch_36
      · have h := ifF cd h
        refine lv_iconst (v := 0) hx hb dX13_refusesMarch_31 (by decide) ?_
        refine lv_goto (tgt := 36) hx hb dX13_refusesMarch_32 (by decide) ?_
        exact W.iret (v := 0) hx hb hr (fun t ht _ => ⟨_, rfl, Option.some.inj h, ht⟩) (fun _ q => by cases q) dX13_refusesMarch_36
    · have h := ifT cd h
      exact jn16 h _ (lv_sub hl [] rfl)
noncomputable def f_X13_reach_B121 (wa_cities : Int32) (wa_loses : Nat → Int32) (x2 : Int32) (mo_thrown : Int32) (mo_trouble : Int32) (mo_where : Int32) : Option (Int32 × Int32 × Int32 × Int32) :=
  bd3 (f_X13_good mo_trouble mo_where x2) fun r_4 mo_trouble_5 mo_where_6 =>
  some (r_4, mo_thrown, mo_trouble_5, mo_where_6)
noncomputable def f_X13_reach_B115 (k25 : Int32 → Int32 → Option (Int32 × Int32 × Int32 × Int32)) (wa_cities : Int32) (wa_loses : Nat → Int32) (x2 : Int32) (x3 : Int32) (mo_thrown : Int32) (mo_trouble : Int32) (mo_where : Int32) : Option (Int32 × Int32 × Int32 × Int32) :=
  k25 x2 (x3 + 1)
noncomputable def f_X13_reach_B109 (k25 : Int32 → Int32 → Option (Int32 × Int32 × Int32 × Int32)) (k34 : Int32 → Int32 → Option (Int32 × Int32 × Int32 × Int32)) (wa_cities : Int32) (wa_loses : Nat → Int32) (x2 : Int32) (x3 : Int32) (x4 : Int32) (mo_thrown : Int32) (mo_trouble : Int32) (mo_where : Int32) : Option (Int32 × Int32 × Int32 × Int32) :=
  k34 x2 (x4 + 1)
noncomputable def f_X13_reach_b34 (k25 : Int32 → Int32 → Option (Int32 × Int32 × Int32 × Int32)) (wa_cities : Int32) (wa_loses : Nat → Int32) (x3 : Int32) (mo_thrown : Int32) (mo_trouble : Int32) (mo_where : Int32) (k34 : Int32 → Int32 → Option (Int32 × Int32 × Int32 × Int32)) (x2 : Int32) (x4 : Int32) : Option (Int32 × Int32 × Int32 × Int32) :=
  (if 36 ≤ x4 then
  f_X13_reach_B115 k25 wa_cities wa_loses x2 x3 mo_thrown mo_trouble mo_where
  else
  (if wa_cities ≤ (x4 / 6) then
  f_X13_reach_B109 k25 k34 wa_cities wa_loses x2 x3 x4 mo_thrown mo_trouble mo_where
  else
  (if wa_cities ≤ (x4 - x4 / 6 * 6) then
  f_X13_reach_B109 k25 k34 wa_cities wa_loses x2 x3 x4 mo_thrown mo_trouble mo_where
  else
  bd1 (f_X13_bit  x2 (x4 / 6)) fun r_8 =>
  (if r_8 = 0 then
  f_X13_reach_B109 k25 k34 wa_cities wa_loses x2 x3 x4 mo_thrown mo_trouble mo_where
  else
  gIn x4 36 <|
  (if (wa_loses x4.toNatClampNeg) = (-1) then
  f_X13_reach_B109 k25 k34 wa_cities wa_loses x2 x3 x4 mo_thrown mo_trouble mo_where
  else
  f_X13_reach_B109 k25 k34 wa_cities wa_loses (x2 ||| ((1 : Int32) <<< ((x4 - x4 / 6 * 6) &&& 31))) x3 x4 mo_thrown mo_trouble mo_where)))))
noncomputable def f_X13_reach_L34 (k25 : Int32 → Int32 → Option (Int32 × Int32 × Int32 × Int32)) (wa_cities : Int32) (wa_loses : Nat → Int32) (x3 : Int32) (mo_thrown : Int32) (mo_trouble : Int32) (mo_where : Int32) : Nat → Int32 → Int32 → Option (Int32 × Int32 × Int32 × Int32)
  | 0 => fun _ _ => none
  | n + 1 => f_X13_reach_b34 k25 wa_cities wa_loses x3 mo_thrown mo_trouble mo_where (f_X13_reach_L34 k25 wa_cities wa_loses x3 mo_thrown mo_trouble mo_where n)
noncomputable def f_X13_reach_b25 (wa_cities : Int32) (wa_loses : Nat → Int32) (mo_thrown : Int32) (mo_trouble : Int32) (mo_where : Int32) (k25 : Int32 → Int32 → Option (Int32 × Int32 × Int32 × Int32)) (x2 : Int32) (x3 : Int32) : Option (Int32 × Int32 × Int32 × Int32) :=
  (if 6 ≤ x3 then
  f_X13_reach_B121 wa_cities wa_loses x2 mo_thrown mo_trouble mo_where
  else
  f_X13_reach_L34 k25 wa_cities wa_loses x3 mo_thrown mo_trouble mo_where fuelN x2 0)
noncomputable def f_X13_reach_L25 (wa_cities : Int32) (wa_loses : Nat → Int32) (mo_thrown : Int32) (mo_trouble : Int32) (mo_where : Int32) : Nat → Int32 → Int32 → Option (Int32 × Int32 × Int32 × Int32)
  | 0 => fun _ _ => none
  | n + 1 => f_X13_reach_b25 wa_cities wa_loses mo_thrown mo_trouble mo_where (f_X13_reach_L25 wa_cities wa_loses mo_thrown mo_trouble mo_where n)
noncomputable def f_X13_reach (mo_thrown : Int32) (mo_trouble : Int32) (mo_where : Int32) (wa_cities : Int32) (wa_loses : Nat → Int32) (p1 : Int32) : Option (Int32 × Int32 × Int32 × Int32) :=
  bd1 (f_X13_isCity wa_cities p1) fun r_1 =>
  (if r_1 = 0 then
  bd3 (f_X13_refused mo_trouble mo_where (1 : Int32)) fun r_12 mo_trouble_13 mo_where_14 =>
  some (r_12, 0, mo_trouble_13, mo_where_14)
  else
  f_X13_reach_L25 wa_cities wa_loses 0 mo_trouble mo_where fuelN ((1 : Int32) <<< (p1 &&& 31)) 0)
theorem hd_X13_reach : yX13_reach.cls = RX13 ∧ yX13_reach.cls ≠ "java/lang/invoke/MethodHandle" ∧ yX13_reach.cls ≠ "java/lang/invoke/VarHandle" ∧ (parseMethodDescriptor yX13_reach.desc).map (fun d => d.parameters.length) = some 1 := by decide +kernel
set_option maxHeartbeats 4000000 in
set_option maxRecDepth 100000 in
theorem c_X13_reach (l : Launch) (D : va_G) (cy : Nat → ClassId) (A : Nat → Prop) (X : va_W) (a_mo a_wa a_wa_loses : Nat) (mo_thrown : Int32) (mo_trouble : Int32) (mo_where : Int32) (mo_read : Value) (mo_tape : Value) (mo_taped : Int32) (mo_size : Int32) (mo_spot : Int32) (mo_sort : Int32) (mo_place : Int32) (mo_number : Int32) (mo_fault : Int32) (mo_wrongAt : Int32) (mo_laneTold : Int32) (mo_word : Int64) (mo_v : Value) (mo_x : Value) (mo_past : Value) (mo_kept : Value) (mo_acts : Int32) (mo_marks : Int32) (mo_put : Value) (mo_bestPut : Value) (mo_bestSum : Int64) (mo_row : Value) (mo_best : Value) (mo_left : Value) (mo_bestSize : Int32) (mo_bestLeft : Int32) (mo_counts : Value) (mo_sets : Int32) (mo_foeHarm : Int32) (mo_ownHarm : Int32) (mo_across : Int32) (mo_sumFoe : Int32) (mo_sumOwn : Int32) (mo_sumWon : Int32) (mo_sumAcross : Int32) (wa_lanes : Int32) (wa_deep : Int32) (wa_told : Int32) (wa_beasts : Int32) (wa_cities : Int32) (wa_passes : Int32) (wa_turned : Int32) (wa_names : Int32) (wa_who : Value) (wa_strong : Value) (wa_kind : Value) (wa_lane : Value) (wa_mood : Value) (wa_price : Value) (wa_name : Value) (wa_nameSort : Value) (wa_numberOf : Value) (wa_loses : Nat → Int32) (p1 : Int32) (res : Int32) (mo_thrown' : Int32) (mo_trouble' : Int32) (mo_where' : Int32) (h : f_X13_reach mo_thrown mo_trouble mo_where wa_cities wa_loses p1 = some (res, mo_thrown', mo_trouble', mo_where')) : Met l yX13_reach wo_X13_reach ({ frames := 1, cells := 0, slots := 0, locals := 21 }) (wrPc D cy A [.ref a_mo, .int p1] ([(a_mo, .inr (13, [.int mo_thrown, .int mo_trouble, .int mo_where, .ref a_wa, mo_read, mo_tape, .int mo_taped, .int mo_size, .int mo_spot, .int mo_sort, .int mo_place, .int mo_number, .int mo_fault, .int mo_wrongAt, .int mo_laneTold, .long mo_word, mo_v, mo_x, mo_past, mo_kept, .int mo_acts, .int mo_marks, mo_put, mo_bestPut, .long mo_bestSum, mo_row, mo_best, mo_left, .int mo_bestSize, .int mo_bestLeft, mo_counts, .int mo_sets, .int mo_foeHarm, .int mo_ownHarm, .int mo_across, .int mo_sumFoe, .int mo_sumOwn, .int mo_sumWon, .int mo_sumAcross])), (a_wa, .inr (12, [.int wa_lanes, .int wa_deep, .int wa_told, .int wa_beasts, .int wa_cities, .int wa_passes, .int wa_turned, .int wa_names, wa_who, wa_strong, wa_kind, wa_lane, wa_mood, wa_price, .ref a_wa_loses, wa_name, wa_nameSort, wa_numberOf])), (a_wa_loses, .inl (cy 1, 36, .inl wa_loses))] ++ X)) (va_Qi (fun (r : Int32) (_ : Unit) => r = res) (wB D A ([(a_mo, .inr (13, [.int mo_thrown', .int mo_trouble', .int mo_where', .ref a_wa, mo_read, mo_tape, .int mo_taped, .int mo_size, .int mo_spot, .int mo_sort, .int mo_place, .int mo_number, .int mo_fault, .int mo_wrongAt, .int mo_laneTold, .long mo_word, mo_v, mo_x, mo_past, mo_kept, .int mo_acts, .int mo_marks, mo_put, mo_bestPut, .long mo_bestSum, mo_row, mo_best, mo_left, .int mo_bestSize, .int mo_bestLeft, mo_counts, .int mo_sets, .int mo_foeHarm, .int mo_ownHarm, .int mo_across, .int mo_sumFoe, .int mo_sumOwn, .int mo_sumWon, .int mo_sumAcross])), (a_wa, .inr (12, [.int wa_lanes, .int wa_deep, .int wa_told, .int wa_beasts, .int wa_cities, .int wa_passes, .int wa_turned, .int wa_names, wa_who, wa_strong, wa_kind, wa_lane, wa_mood, wa_price, .ref a_wa_loses, wa_name, wa_nameSort, wa_numberOf])), (a_wa_loses, .inl (cy 1, 36, .inl wa_loses))] ++ X)) A) 0 0 A := by
  refine Met.ofW (cc := cX13_reach) (maxL := 7) (ret := (some .int)) (by decide) rfl ?_
  intro p e s m args below meth c s₁ B hml hv
  obtain ⟨rfl, hP, hKN, hD, hA⟩ := hv
  have hK := hKN.1
  have hx := B.exec
  have hb := B.bytes
  have hr := B.returns
  have hts := wt_X13_reach hKN.2.2 (([.ref a_mo, .int p1] : List Value).toArray)
  have hown : s.vm.findClass RX13 = some m.cls := findClass_of_methodNamed B.named
  have hlocks := B.notSynchronized
  have hS : va_S A s.heap s.heap [] := va_S.rf
  have hX12 := wc_X12 hKN.2.2 (([.ref a_mo, .int p1] : List Value).toArray)
  have hX13 := wc_X13 hKN.2.2 (([.ref a_mo, .int p1] : List Value).toArray)
  have hl := lv_entry ([.ref a_mo, .int p1]) (n := 7) (Nat.le_of_ble_eq_true rfl)
  rw [lg_entry_eq]
  generalize (lg_sl ([.ref a_mo, .int p1]) ++ List.replicate (7 - (lg_sl ([.ref a_mo, .int p1])).length) Slot.unset).toArray = ls at hl ⊢
  have hl : lv_has ls 7 [(0, .ref a_mo), (1, .int p1)] := hl
  unfold f_X13_reach at h
  refine lv_aload_n hx hb dX13_reach_0 rfl (lv_at hl 0 rfl) ?_
  refine lv_iconst (v := 0) hx hb dX13_reach_1 (by decide) ?_
  refine va_put (D := D) (ci := 13) (C := RX13) (T := TX13) (N := 39) (v := .int 0) (ty := .int) hx hb hX13 (fun _ q => q) tyX13 tyX13_ok nmX13 hown hK hP hD hS 0 rfl rfl 0 (by decide) (hts (.fieldLink RX13 48 "ElephantLineModel" "thrown" "I") (by decide +kernel)) (fun _ h9 => h9) rfl (tyX13_ok 0 (by decide)) rfl rfl (Nat.le_of_ble_eq_true rfl) dX13_reach_2 (fun H locs hP hD hS => ?_)
  refine lv_aload_n hx hb dX13_reach_5 rfl (lv_at hl 0 rfl) ?_
  refine lv_iload_n hx hb dX13_reach_6 rfl (lv_at hl 1 rfl) ?_
  have hP : va_P D vwCl ([(a_mo, .inr (13, [.int 0, .int mo_trouble, .int mo_where, .ref a_wa, mo_read, mo_tape, .int mo_taped, .int mo_size, .int mo_spot, .int mo_sort, .int mo_place, .int mo_number, .int mo_fault, .int mo_wrongAt, .int mo_laneTold, .long mo_word, mo_v, mo_x, mo_past, mo_kept, .int mo_acts, .int mo_marks, mo_put, mo_bestPut, .long mo_bestSum, mo_row, mo_best, mo_left, .int mo_bestSize, .int mo_bestLeft, mo_counts, .int mo_sets, .int mo_foeHarm, .int mo_ownHarm, .int mo_across, .int mo_sumFoe, .int mo_sumOwn, .int mo_sumWon, .int mo_sumAcross])), (a_wa, .inr (12, [.int wa_lanes, .int wa_deep, .int wa_told, .int wa_beasts, .int wa_cities, .int wa_passes, .int wa_turned, .int wa_names, wa_who, wa_strong, wa_kind, wa_lane, wa_mood, wa_price, .ref a_wa_loses, wa_name, wa_nameSort, wa_numberOf])), (a_wa_loses, .inl (cy 1, 36, .inl wa_loses))] ++ X) H := hP
  have hD : va_D A ([(a_mo, .inr (13, [.int 0, .int mo_trouble, .int mo_where, .ref a_wa, mo_read, mo_tape, .int mo_taped, .int mo_size, .int mo_spot, .int mo_sort, .int mo_place, .int mo_number, .int mo_fault, .int mo_wrongAt, .int mo_laneTold, .long mo_word, mo_v, mo_x, mo_past, mo_kept, .int mo_acts, .int mo_marks, mo_put, mo_bestPut, .long mo_bestSum, mo_row, mo_best, mo_left, .int mo_bestSize, .int mo_bestLeft, mo_counts, .int mo_sets, .int mo_foeHarm, .int mo_ownHarm, .int mo_across, .int mo_sumFoe, .int mo_sumOwn, .int mo_sumWon, .int mo_sumAcross])), (a_wa, .inr (12, [.int wa_lanes, .int wa_deep, .int wa_told, .int wa_beasts, .int wa_cities, .int wa_passes, .int wa_turned, .int wa_names, wa_who, wa_strong, wa_kind, wa_lane, wa_mood, wa_price, .ref a_wa_loses, wa_name, wa_nameSort, wa_numberOf])), (a_wa_loses, .inl (cy 1, 36, .inl wa_loses))] ++ X) := hD
  obtain ⟨r_1, hc_2, h⟩ := bd1_some h
  refine kVb [.int p1] [] ⟨hx, hb, hml, hown, hts⟩ (c_X13_isCity l D cy a_mo a_wa 0 mo_trouble mo_where (mo_read) (mo_tape) mo_taped mo_size mo_spot mo_sort mo_place mo_number mo_fault mo_wrongAt mo_laneTold mo_word (mo_v) (mo_x) (mo_past) (mo_kept) mo_acts mo_marks (mo_put) (mo_bestPut) mo_bestSum (mo_row) (mo_best) (mo_left) mo_bestSize mo_bestLeft (mo_counts) mo_sets mo_foeHarm mo_ownHarm mo_across mo_sumFoe mo_sumOwn mo_sumWon mo_sumAcross wa_lanes wa_deep wa_told wa_beasts wa_cities wa_passes wa_turned wa_names (wa_who) (wa_strong) (wa_kind) (wa_lane) (wa_mood) (wa_price) (.ref a_wa_loses) (wa_name) (wa_nameSort) (wa_numberOf) p1 r_1 hc_2) gX13_reach_X13_isCity rfl hd_X13_isCity ⟨Nat.le_of_ble_eq_true rfl, Nat.le_of_ble_eq_true rfl⟩ rfl rfl hKN (pXc hP [0, 1] rfl) 13 0 rfl rfl rfl hl.1 rfl (Nat.le_of_ble_eq_true rfl) dX13_reach_7 ⟨Nat.le_of_ble_eq_true rfl, Nat.le_of_ble_eq_true rfl⟩ (fun nb_3 => ?_)
  refine lv_if_ne (tgt := 19) hx hb dX13_reach_10 (by decide) (fun cd => ?_) (fun cd => ?_)
  · have h := ifF cd h
    refine lv_iconst (v := 1) hx hb dX13_reach_19 (by decide) ?_
    refine lv_iload_n hx hb dX13_reach_20 rfl (lv_at hl 1 rfl) ?_
    refine lv_ishl hx hb dX13_reach_21 ?_
    refine lv_istore_n (lv' := [(2, .int ((1 : Int32) <<< (p1 &&& 31))), (0, .ref a_mo), (1, .int p1)]) hx hb dX13_reach_22 rfl hl (by decide) rfl (fun ls hl => ?_)
    refine lv_iconst (v := 0) hx hb dX13_reach_23 (by decide) ?_
    refine lv_istore_n (lv' := [(3, .int 0), (2, .int ((1 : Int32) <<< (p1 &&& 31))), (0, .ref a_mo), (1, .int p1)]) hx hb dX13_reach_24 rfl hl (by decide) rfl (fun ls hl => ?_)
    have jn121 : ∀ (x2_4 : Int32), f_X13_reach_B121 wa_cities wa_loses x2_4 0 mo_trouble mo_where = some (res, mo_thrown', mo_trouble', mo_where') → ∀ (H : Heap) (locs : List Loc), va_P D vwCl ([(a_mo, .inr (13, [.int 0, .int mo_trouble, .int mo_where, .ref a_wa, mo_read, mo_tape, .int mo_taped, .int mo_size, .int mo_spot, .int mo_sort, .int mo_place, .int mo_number, .int mo_fault, .int mo_wrongAt, .int mo_laneTold, .long mo_word, mo_v, mo_x, mo_past, mo_kept, .int mo_acts, .int mo_marks, mo_put, mo_bestPut, .long mo_bestSum, mo_row, mo_best, mo_left, .int mo_bestSize, .int mo_bestLeft, mo_counts, .int mo_sets, .int mo_foeHarm, .int mo_ownHarm, .int mo_across, .int mo_sumFoe, .int mo_sumOwn, .int mo_sumWon, .int mo_sumAcross])), (a_wa, .inr (12, [.int wa_lanes, .int wa_deep, .int wa_told, .int wa_beasts, .int wa_cities, .int wa_passes, .int wa_turned, .int wa_names, wa_who, wa_strong, wa_kind, wa_lane, wa_mood, wa_price, .ref a_wa_loses, wa_name, wa_nameSort, wa_numberOf])), (a_wa_loses, .inl (cy 1, 36, .inl wa_loses))] ++ X) H → va_D A ([(a_mo, .inr (13, [.int 0, .int mo_trouble, .int mo_where, .ref a_wa, mo_read, mo_tape, .int mo_taped, .int mo_size, .int mo_spot, .int mo_sort, .int mo_place, .int mo_number, .int mo_fault, .int mo_wrongAt, .int mo_laneTold, .long mo_word, mo_v, mo_x, mo_past, mo_kept, .int mo_acts, .int mo_marks, mo_put, mo_bestPut, .long mo_bestSum, mo_row, mo_best, mo_left, .int mo_bestSize, .int mo_bestLeft, mo_counts, .int mo_sets, .int mo_foeHarm, .int mo_ownHarm, .int mo_across, .int mo_sumFoe, .int mo_sumOwn, .int mo_sumWon, .int mo_sumAcross])), (a_wa, .inr (12, [.int wa_lanes, .int wa_deep, .int wa_told, .int wa_beasts, .int wa_cities, .int wa_passes, .int wa_turned, .int wa_names, wa_who, wa_strong, wa_kind, wa_lane, wa_mood, wa_price, .ref a_wa_loses, wa_name, wa_nameSort, wa_numberOf])), (a_wa_loses, .inl (cy 1, 36, .inl wa_loses))] ++ X) → va_S A s.heap H locs → ∀ ls : Array Slot, lv_has ls 7 [(0, .ref a_mo), (2, .int x2_4)] → W p l e (headSpec wo_X13_reach ({ frames := 1, cells := 0, slots := 0, locals := 21 })).room s m (([.ref a_mo, .int p1] : List Value).toArray) below meth c H locs 0 0 (MQ below (va_Qi (fun (r : Int32) (_ : Unit) => r = res) (wB D A ([(a_mo, .inr (13, [.int mo_thrown', .int mo_trouble', .int mo_where', .ref a_wa, mo_read, mo_tape, .int mo_taped, .int mo_size, .int mo_spot, .int mo_sort, .int mo_place, .int mo_number, .int mo_fault, .int mo_wrongAt, .int mo_laneTold, .long mo_word, mo_v, mo_x, mo_past, mo_kept, .int mo_acts, .int mo_marks, mo_put, mo_bestPut, .long mo_bestSum, mo_row, mo_best, mo_left, .int mo_bestSize, .int mo_bestLeft, mo_counts, .int mo_sets, .int mo_foeHarm, .int mo_ownHarm, .int mo_across, .int mo_sumFoe, .int mo_sumOwn, .int mo_sumWon, .int mo_sumAcross])), (a_wa, .inr (12, [.int wa_lanes, .int wa_deep, .int wa_told, .int wa_beasts, .int wa_cities, .int wa_passes, .int wa_turned, .int wa_names, wa_who, wa_strong, wa_kind, wa_lane, wa_mood, wa_price, .ref a_wa_loses, wa_name, wa_nameSort, wa_numberOf])), (a_wa_loses, .inl (cy 1, 36, .inl wa_loses))] ++ X)) A) (([.ref a_mo, .int p1] : List Value).toArray) s 0 0 A) (F0 m 121 ls []) := by
      intro x2_4 h H locs hP hD hS ls hl
      unfold f_X13_reach_B121 at h
      refine lv_aload_n hx hb dX13_reach_121 rfl (lv_at hl 0 rfl) ?_
      refine lv_iload_n hx hb dX13_reach_122 rfl (lv_at hl 1 rfl) ?_
      obtain ⟨r_5, mo_trouble_6, mo_where_7, hc_8, h⟩ := bd3_some h
      refine wVi [.int x2_4] [] ⟨hx, hb, hml, hown, hts⟩ (c_X13_good l D cy A ([(a_wa, .inr (12, [.int wa_lanes, .int wa_deep, .int wa_told, .int wa_beasts, .int wa_cities, .int wa_passes, .int wa_turned, .int wa_names, wa_who, wa_strong, wa_kind, wa_lane, wa_mood, wa_price, .ref a_wa_loses, wa_name, wa_nameSort, wa_numberOf])), (a_wa_loses, .inl (cy 1, 36, .inl wa_loses))] ++ X) a_mo 0 mo_trouble mo_where (.ref a_wa) (mo_read) (mo_tape) mo_taped mo_size mo_spot mo_sort mo_place mo_number mo_fault mo_wrongAt mo_laneTold mo_word (mo_v) (mo_x) (mo_past) (mo_kept) mo_acts mo_marks (mo_put) (mo_bestPut) mo_bestSum (mo_row) (mo_best) (mo_left) mo_bestSize mo_bestLeft (mo_counts) mo_sets mo_foeHarm mo_ownHarm mo_across mo_sumFoe mo_sumOwn mo_sumWon mo_sumAcross x2_4 r_5 mo_trouble_6 mo_where_7 hc_8) gX13_reach_X13_good rfl hd_X13_good ⟨Nat.le_of_ble_eq_true rfl, Nat.le_of_ble_eq_true rfl⟩ rfl rfl hKN (pX3 hP [0, 1, 2] rfl) (dX3 hD [0, 1, 2] rfl rfl) hS hA 13 0 rfl rfl rfl hl.1 rfl (Nat.le_of_ble_eq_true rfl) dX13_reach_123 ⟨Nat.le_of_ble_eq_true rfl, Nat.le_of_ble_eq_true rfl⟩ (fun H locs hP hD hS => ?_)
      have hP := pX4 (L1 := [(a_mo, .inr (13, [.int 0, .int mo_trouble_6, .int mo_where_7, .ref a_wa, mo_read, mo_tape, .int mo_taped, .int mo_size, .int mo_spot, .int mo_sort, .int mo_place, .int mo_number, .int mo_fault, .int mo_wrongAt, .int mo_laneTold, .long mo_word, mo_v, mo_x, mo_past, mo_kept, .int mo_acts, .int mo_marks, mo_put, mo_bestPut, .long mo_bestSum, mo_row, mo_best, mo_left, .int mo_bestSize, .int mo_bestLeft, mo_counts, .int mo_sets, .int mo_foeHarm, .int mo_ownHarm, .int mo_across, .int mo_sumFoe, .int mo_sumOwn, .int mo_sumWon, .int mo_sumAcross])), (a_wa, .inr (12, [.int wa_lanes, .int wa_deep, .int wa_told, .int wa_beasts, .int wa_cities, .int wa_passes, .int wa_turned, .int wa_names, wa_who, wa_strong, wa_kind, wa_lane, wa_mood, wa_price, .ref a_wa_loses, wa_name, wa_nameSort, wa_numberOf])), (a_wa_loses, .inl (cy 1, 36, .inl wa_loses))]) hP [0, 1, 2] rfl
      have hD := dX4 (L1 := [(a_mo, .inr (13, [.int 0, .int mo_trouble_6, .int mo_where_7, .ref a_wa, mo_read, mo_tape, .int mo_taped, .int mo_size, .int mo_spot, .int mo_sort, .int mo_place, .int mo_number, .int mo_fault, .int mo_wrongAt, .int mo_laneTold, .long mo_word, mo_v, mo_x, mo_past, mo_kept, .int mo_acts, .int mo_marks, mo_put, mo_bestPut, .long mo_bestSum, mo_row, mo_best, mo_left, .int mo_bestSize, .int mo_bestLeft, mo_counts, .int mo_sets, .int mo_foeHarm, .int mo_ownHarm, .int mo_across, .int mo_sumFoe, .int mo_sumOwn, .int mo_sumWon, .int mo_sumAcross])), (a_wa, .inr (12, [.int wa_lanes, .int wa_deep, .int wa_told, .int wa_beasts, .int wa_cities, .int wa_passes, .int wa_turned, .int wa_names, wa_who, wa_strong, wa_kind, wa_lane, wa_mood, wa_price, .ref a_wa_loses, wa_name, wa_nameSort, wa_numberOf])), (a_wa_loses, .inl (cy 1, 36, .inl wa_loses))]) hD [0, 1, 2] rfl rfl
      cases h
      exact W.iret hx hb hr (fun t ht _ => ⟨⟨_, (), rfl, rfl, by rw [ht]; exact hP, hD⟩, hS.F ht⟩) hS.2.2 dX13_reach_126
    have lp25 : ∀ (n25 : Nat) (x2_9 : Int32) (x3_10 : Int32), f_X13_reach_L25 wa_cities wa_loses 0 mo_trouble mo_where n25 x2_9 x3_10 = some (res, mo_thrown', mo_trouble', mo_where') → ∀ (H : Heap) (locs : List Loc), va_P D vwCl ([(a_mo, .inr (13, [.int 0, .int mo_trouble, .int mo_where, .ref a_wa, mo_read, mo_tape, .int mo_taped, .int mo_size, .int mo_spot, .int mo_sort, .int mo_place, .int mo_number, .int mo_fault, .int mo_wrongAt, .int mo_laneTold, .long mo_word, mo_v, mo_x, mo_past, mo_kept, .int mo_acts, .int mo_marks, mo_put, mo_bestPut, .long mo_bestSum, mo_row, mo_best, mo_left, .int mo_bestSize, .int mo_bestLeft, mo_counts, .int mo_sets, .int mo_foeHarm, .int mo_ownHarm, .int mo_across, .int mo_sumFoe, .int mo_sumOwn, .int mo_sumWon, .int mo_sumAcross])), (a_wa, .inr (12, [.int wa_lanes, .int wa_deep, .int wa_told, .int wa_beasts, .int wa_cities, .int wa_passes, .int wa_turned, .int wa_names, wa_who, wa_strong, wa_kind, wa_lane, wa_mood, wa_price, .ref a_wa_loses, wa_name, wa_nameSort, wa_numberOf])), (a_wa_loses, .inl (cy 1, 36, .inl wa_loses))] ++ X) H → va_D A ([(a_mo, .inr (13, [.int 0, .int mo_trouble, .int mo_where, .ref a_wa, mo_read, mo_tape, .int mo_taped, .int mo_size, .int mo_spot, .int mo_sort, .int mo_place, .int mo_number, .int mo_fault, .int mo_wrongAt, .int mo_laneTold, .long mo_word, mo_v, mo_x, mo_past, mo_kept, .int mo_acts, .int mo_marks, mo_put, mo_bestPut, .long mo_bestSum, mo_row, mo_best, mo_left, .int mo_bestSize, .int mo_bestLeft, mo_counts, .int mo_sets, .int mo_foeHarm, .int mo_ownHarm, .int mo_across, .int mo_sumFoe, .int mo_sumOwn, .int mo_sumWon, .int mo_sumAcross])), (a_wa, .inr (12, [.int wa_lanes, .int wa_deep, .int wa_told, .int wa_beasts, .int wa_cities, .int wa_passes, .int wa_turned, .int wa_names, wa_who, wa_strong, wa_kind, wa_lane, wa_mood, wa_price, .ref a_wa_loses, wa_name, wa_nameSort, wa_numberOf])), (a_wa_loses, .inl (cy 1, 36, .inl wa_loses))] ++ X) → va_S A s.heap H locs → ∀ ls : Array Slot, lv_has ls 7 [(0, .ref a_mo), (2, .int x2_9), (3, .int x3_10)] → W p l e (headSpec wo_X13_reach ({ frames := 1, cells := 0, slots := 0, locals := 21 })).room s m (([.ref a_mo, .int p1] : List Value).toArray) below meth c H locs 0 0 (MQ below (va_Qi (fun (r : Int32) (_ : Unit) => r = res) (wB D A ([(a_mo, .inr (13, [.int mo_thrown', .int mo_trouble', .int mo_where', .ref a_wa, mo_read, mo_tape, .int mo_taped, .int mo_size, .int mo_spot, .int mo_sort, .int mo_place, .int mo_number, .int mo_fault, .int mo_wrongAt, .int mo_laneTold, .long mo_word, mo_v, mo_x, mo_past, mo_kept, .int mo_acts, .int mo_marks, mo_put, mo_bestPut, .long mo_bestSum, mo_row, mo_best, mo_left, .int mo_bestSize, .int mo_bestLeft, mo_counts, .int mo_sets, .int mo_foeHarm, .int mo_ownHarm, .int mo_across, .int mo_sumFoe, .int mo_sumOwn, .int mo_sumWon, .int mo_sumAcross])), (a_wa, .inr (12, [.int wa_lanes, .int wa_deep, .int wa_told, .int wa_beasts, .int wa_cities, .int wa_passes, .int wa_turned, .int wa_names, wa_who, wa_strong, wa_kind, wa_lane, wa_mood, wa_price, .ref a_wa_loses, wa_name, wa_nameSort, wa_numberOf])), (a_wa_loses, .inl (cy 1, 36, .inl wa_loses))] ++ X)) A) (([.ref a_mo, .int p1] : List Value).toArray) s 0 0 A) (F0 m 25 ls []) := by
      intro n25
      induction n25 with
      | zero => intro x2_9 x3_10 h; exact absurd (show (none : Option (Int32 × Int32 × Int32 × Int32)) = some _ from h) (by intro q; cases q)
      | succ n25 ih25 =>
        intro x2_9 x3_10 h H locs hP hD hS ls hl
        have h : f_X13_reach_b25 wa_cities wa_loses 0 mo_trouble mo_where (f_X13_reach_L25 wa_cities wa_loses 0 mo_trouble mo_where n25) x2_9 x3_10 = some (res, mo_thrown', mo_trouble', mo_where') := h
        unfold f_X13_reach_b25 at h
        refine lv_iload_n hx hb dX13_reach_25 rfl (lv_at hl 2 rfl) ?_
        refine lv_bipush (v := 6) hx hb dX13_reach_26 (by decide) ?_
        refine lv_icmp_ge (tgt := 121) hx hb dX13_reach_28 (by decide) (fun cd => ?_) (fun cd => ?_)
        · have h := ifT cd h
          exact jn121 x2_9 h _ _ hP hD hS _ (lv_sub hl [0, 1] rfl)
        · have h := ifF cd h
          refine lv_iconst (v := 0) hx hb dX13_reach_31 (by decide) ?_
          refine lv_istore (lv' := [(4, .int 0), (0, .ref a_mo), (2, .int x2_9), (3, .int x3_10)]) hx hb dX13_reach_32 hl (by decide) rfl (fun ls hl => ?_)
          have jn115 : ∀ (x2_11 : Int32), f_X13_reach_B115 (f_X13_reach_L25 wa_cities wa_loses 0 mo_trouble mo_where n25) wa_cities wa_loses x2_11 x3_10 0 mo_trouble mo_where = some (res, mo_thrown', mo_trouble', mo_where') → ∀ (H : Heap) (locs : List Loc), va_P D vwCl ([(a_mo, .inr (13, [.int 0, .int mo_trouble, .int mo_where, .ref a_wa, mo_read, mo_tape, .int mo_taped, .int mo_size, .int mo_spot, .int mo_sort, .int mo_place, .int mo_number, .int mo_fault, .int mo_wrongAt, .int mo_laneTold, .long mo_word, mo_v, mo_x, mo_past, mo_kept, .int mo_acts, .int mo_marks, mo_put, mo_bestPut, .long mo_bestSum, mo_row, mo_best, mo_left, .int mo_bestSize, .int mo_bestLeft, mo_counts, .int mo_sets, .int mo_foeHarm, .int mo_ownHarm, .int mo_across, .int mo_sumFoe, .int mo_sumOwn, .int mo_sumWon, .int mo_sumAcross])), (a_wa, .inr (12, [.int wa_lanes, .int wa_deep, .int wa_told, .int wa_beasts, .int wa_cities, .int wa_passes, .int wa_turned, .int wa_names, wa_who, wa_strong, wa_kind, wa_lane, wa_mood, wa_price, .ref a_wa_loses, wa_name, wa_nameSort, wa_numberOf])), (a_wa_loses, .inl (cy 1, 36, .inl wa_loses))] ++ X) H → va_D A ([(a_mo, .inr (13, [.int 0, .int mo_trouble, .int mo_where, .ref a_wa, mo_read, mo_tape, .int mo_taped, .int mo_size, .int mo_spot, .int mo_sort, .int mo_place, .int mo_number, .int mo_fault, .int mo_wrongAt, .int mo_laneTold, .long mo_word, mo_v, mo_x, mo_past, mo_kept, .int mo_acts, .int mo_marks, mo_put, mo_bestPut, .long mo_bestSum, mo_row, mo_best, mo_left, .int mo_bestSize, .int mo_bestLeft, mo_counts, .int mo_sets, .int mo_foeHarm, .int mo_ownHarm, .int mo_across, .int mo_sumFoe, .int mo_sumOwn, .int mo_sumWon, .int mo_sumAcross])), (a_wa, .inr (12, [.int wa_lanes, .int wa_deep, .int wa_told, .int wa_beasts, .int wa_cities, .int wa_passes, .int wa_turned, .int wa_names, wa_who, wa_strong, wa_kind, wa_lane, wa_mood, wa_price, .ref a_wa_loses, wa_name, wa_nameSort, wa_numberOf])), (a_wa_loses, .inl (cy 1, 36, .inl wa_loses))] ++ X) → va_S A s.heap H locs → ∀ ls : Array Slot, lv_has ls 7 [(0, .ref a_mo), (2, .int x2_11), (3, .int x3_10)] → W p l e (headSpec wo_X13_reach ({ frames := 1, cells := 0, slots := 0, locals := 21 })).room s m (([.ref a_mo, .int p1] : List Value).toArray) below meth c H locs 0 0 (MQ below (va_Qi (fun (r : Int32) (_ : Unit) => r = res) (wB D A ([(a_mo, .inr (13, [.int mo_thrown', .int mo_trouble', .int mo_where', .ref a_wa, mo_read, mo_tape, .int mo_taped, .int mo_size, .int mo_spot, .int mo_sort, .int mo_place, .int mo_number, .int mo_fault, .int mo_wrongAt, .int mo_laneTold, .long mo_word, mo_v, mo_x, mo_past, mo_kept, .int mo_acts, .int mo_marks, mo_put, mo_bestPut, .long mo_bestSum, mo_row, mo_best, mo_left, .int mo_bestSize, .int mo_bestLeft, mo_counts, .int mo_sets, .int mo_foeHarm, .int mo_ownHarm, .int mo_across, .int mo_sumFoe, .int mo_sumOwn, .int mo_sumWon, .int mo_sumAcross])), (a_wa, .inr (12, [.int wa_lanes, .int wa_deep, .int wa_told, .int wa_beasts, .int wa_cities, .int wa_passes, .int wa_turned, .int wa_names, wa_who, wa_strong, wa_kind, wa_lane, wa_mood, wa_price, .ref a_wa_loses, wa_name, wa_nameSort, wa_numberOf])), (a_wa_loses, .inl (cy 1, 36, .inl wa_loses))] ++ X)) A) (([.ref a_mo, .int p1] : List Value).toArray) s 0 0 A) (F0 m 115 ls []) := by
            intro x2_11 h H locs hP hD hS ls hl
            unfold f_X13_reach_B115 at h
            refine lv_iinc (v := x3_10 + 1) (lv' := [(3, .int (x3_10 + 1)), (0, .ref a_mo), (2, .int x2_11)]) hx hb dX13_reach_115 hl (k := 2) rfl (by first | rfl | decide) (by decide) rfl (fun ls hl => ?_)
            refine lv_goto (tgt := 25) hx hb dX13_reach_118 (by decide) ?_
            exact ih25 x2_11 (x3_10 + 1) h _ _ hP hD hS _ (lv_sub hl [1, 2, 0] rfl)
          have lp34 : ∀ (n34 : Nat) (x2_12 : Int32) (x4_13 : Int32), f_X13_reach_L34 (f_X13_reach_L25 wa_cities wa_loses 0 mo_trouble mo_where n25) wa_cities wa_loses x3_10 0 mo_trouble mo_where n34 x2_12 x4_13 = some (res, mo_thrown', mo_trouble', mo_where') → ∀ (H : Heap) (locs : List Loc), va_P D vwCl ([(a_mo, .inr (13, [.int 0, .int mo_trouble, .int mo_where, .ref a_wa, mo_read, mo_tape, .int mo_taped, .int mo_size, .int mo_spot, .int mo_sort, .int mo_place, .int mo_number, .int mo_fault, .int mo_wrongAt, .int mo_laneTold, .long mo_word, mo_v, mo_x, mo_past, mo_kept, .int mo_acts, .int mo_marks, mo_put, mo_bestPut, .long mo_bestSum, mo_row, mo_best, mo_left, .int mo_bestSize, .int mo_bestLeft, mo_counts, .int mo_sets, .int mo_foeHarm, .int mo_ownHarm, .int mo_across, .int mo_sumFoe, .int mo_sumOwn, .int mo_sumWon, .int mo_sumAcross])), (a_wa, .inr (12, [.int wa_lanes, .int wa_deep, .int wa_told, .int wa_beasts, .int wa_cities, .int wa_passes, .int wa_turned, .int wa_names, wa_who, wa_strong, wa_kind, wa_lane, wa_mood, wa_price, .ref a_wa_loses, wa_name, wa_nameSort, wa_numberOf])), (a_wa_loses, .inl (cy 1, 36, .inl wa_loses))] ++ X) H → va_D A ([(a_mo, .inr (13, [.int 0, .int mo_trouble, .int mo_where, .ref a_wa, mo_read, mo_tape, .int mo_taped, .int mo_size, .int mo_spot, .int mo_sort, .int mo_place, .int mo_number, .int mo_fault, .int mo_wrongAt, .int mo_laneTold, .long mo_word, mo_v, mo_x, mo_past, mo_kept, .int mo_acts, .int mo_marks, mo_put, mo_bestPut, .long mo_bestSum, mo_row, mo_best, mo_left, .int mo_bestSize, .int mo_bestLeft, mo_counts, .int mo_sets, .int mo_foeHarm, .int mo_ownHarm, .int mo_across, .int mo_sumFoe, .int mo_sumOwn, .int mo_sumWon, .int mo_sumAcross])), (a_wa, .inr (12, [.int wa_lanes, .int wa_deep, .int wa_told, .int wa_beasts, .int wa_cities, .int wa_passes, .int wa_turned, .int wa_names, wa_who, wa_strong, wa_kind, wa_lane, wa_mood, wa_price, .ref a_wa_loses, wa_name, wa_nameSort, wa_numberOf])), (a_wa_loses, .inl (cy 1, 36, .inl wa_loses))] ++ X) → va_S A s.heap H locs → ∀ ls : Array Slot, lv_has ls 7 [(0, .ref a_mo), (2, .int x2_12), (3, .int x3_10), (4, .int x4_13)] → W p l e (headSpec wo_X13_reach ({ frames := 1, cells := 0, slots := 0, locals := 21 })).room s m (([.ref a_mo, .int p1] : List Value).toArray) below meth c H locs 0 0 (MQ below (va_Qi (fun (r : Int32) (_ : Unit) => r = res) (wB D A ([(a_mo, .inr (13, [.int mo_thrown', .int mo_trouble', .int mo_where', .ref a_wa, mo_read, mo_tape, .int mo_taped, .int mo_size, .int mo_spot, .int mo_sort, .int mo_place, .int mo_number, .int mo_fault, .int mo_wrongAt, .int mo_laneTold, .long mo_word, mo_v, mo_x, mo_past, mo_kept, .int mo_acts, .int mo_marks, mo_put, mo_bestPut, .long mo_bestSum, mo_row, mo_best, mo_left, .int mo_bestSize, .int mo_bestLeft, mo_counts, .int mo_sets, .int mo_foeHarm, .int mo_ownHarm, .int mo_across, .int mo_sumFoe, .int mo_sumOwn, .int mo_sumWon, .int mo_sumAcross])), (a_wa, .inr (12, [.int wa_lanes, .int wa_deep, .int wa_told, .int wa_beasts, .int wa_cities, .int wa_passes, .int wa_turned, .int wa_names, wa_who, wa_strong, wa_kind, wa_lane, wa_mood, wa_price, .ref a_wa_loses, wa_name, wa_nameSort, wa_numberOf])), (a_wa_loses, .inl (cy 1, 36, .inl wa_loses))] ++ X)) A) (([.ref a_mo, .int p1] : List Value).toArray) s 0 0 A) (F0 m 34 ls []) := by
            intro n34
            induction n34 with
            | zero => intro x2_12 x4_13 h; exact absurd (show (none : Option (Int32 × Int32 × Int32 × Int32)) = some _ from h) (by intro q; cases q)
            | succ n34 ih34 =>
              intro x2_12 x4_13 h H locs hP hD hS ls hl
              have h : f_X13_reach_b34 (f_X13_reach_L25 wa_cities wa_loses 0 mo_trouble mo_where n25) wa_cities wa_loses x3_10 0 mo_trouble mo_where (f_X13_reach_L34 (f_X13_reach_L25 wa_cities wa_loses 0 mo_trouble mo_where n25) wa_cities wa_loses x3_10 0 mo_trouble mo_where n34) x2_12 x4_13 = some (res, mo_thrown', mo_trouble', mo_where') := h
              unfold f_X13_reach_b34 at h
              refine lv_iload hx hb dX13_reach_34 (lv_at hl 3 rfl) ?_
              refine lv_bipush (v := 36) hx hb dX13_reach_36 (by decide) ?_
              refine lv_icmp_ge (tgt := 115) hx hb dX13_reach_38 (by decide) (fun cd => ?_) (fun cd => ?_)
              · have h := ifT cd h
                exact jn115 x2_12 h _ _ hP hD hS _ (lv_sub hl [0, 1, 2] rfl)
              · have h := ifF cd h
                refine lv_iload hx hb dX13_reach_41 (lv_at hl 3 rfl) ?_
                refine lv_bipush (v := 6) hx hb dX13_reach_43 (by decide) ?_
                refine lv_idiv hx hb dX13_reach_45 (by decide) ?_
                refine lv_istore (lv' := [(5, .int (x4_13 / 6)), (0, .ref a_mo), (2, .int x2_12), (3, .int x3_10), (4, .int x4_13)]) hx hb dX13_reach_46 hl (by decide) rfl (fun ls hl => ?_)
                refine lv_iload hx hb dX13_reach_48 (lv_at hl 4 rfl) ?_
                refine lv_bipush (v := 6) hx hb dX13_reach_50 (by decide) ?_
                refine lv_irem hx hb dX13_reach_52 (by decide) ?_
                refine lv_istore (lv' := [(6, .int (x4_13 - x4_13 / 6 * 6)), (5, .int (x4_13 / 6)), (0, .ref a_mo), (2, .int x2_12), (3, .int x3_10), (4, .int x4_13)]) hx hb dX13_reach_53 hl (by decide) rfl (fun ls hl => ?_)
                refine lv_iload hx hb dX13_reach_55 (lv_at hl 1 rfl) ?_
                refine lv_aload_n hx hb dX13_reach_57 rfl (lv_at hl 2 rfl) ?_
                refine va_get (D := D) (ci := 13) (C := RX13) (T := TX13) (N := 39) (v := .ref a_wa) hx hb hX13 (fun _ q => q) hown hK hP 0 rfl rfl 3 (by decide) (hts (.fieldLink RX13 301 "ElephantLineModel" "war" "LElephantLineModel$War;") (by decide +kernel)) (fun _ h9 => h9) rfl dX13_reach_58 ?_
                refine va_getN (D := D) (ci := 12) (C := RX12) (T := TX12) (N := 18) (v := .int wa_cities) hx hb hX12 (fun _ q => q) hown hK hP 1 rfl rfl 4 (by decide) (va_Nw.use rfl (hKN.2.1.1 ("ElephantLineModel", 279, "ElephantLineModel$War", "cities", "I", "ElephantLineModel") (List.mem_of_getElem? (i := 71) rfl))) (fun _ h9 => h9) rfl dX13_reach_61 ?_
                have jn109 : ∀ (x2_14 : Int32), f_X13_reach_B109 (f_X13_reach_L25 wa_cities wa_loses 0 mo_trouble mo_where n25) (f_X13_reach_L34 (f_X13_reach_L25 wa_cities wa_loses 0 mo_trouble mo_where n25) wa_cities wa_loses x3_10 0 mo_trouble mo_where n34) wa_cities wa_loses x2_14 x3_10 x4_13 0 mo_trouble mo_where = some (res, mo_thrown', mo_trouble', mo_where') → ∀ (H : Heap) (locs : List Loc), va_P D vwCl ([(a_mo, .inr (13, [.int 0, .int mo_trouble, .int mo_where, .ref a_wa, mo_read, mo_tape, .int mo_taped, .int mo_size, .int mo_spot, .int mo_sort, .int mo_place, .int mo_number, .int mo_fault, .int mo_wrongAt, .int mo_laneTold, .long mo_word, mo_v, mo_x, mo_past, mo_kept, .int mo_acts, .int mo_marks, mo_put, mo_bestPut, .long mo_bestSum, mo_row, mo_best, mo_left, .int mo_bestSize, .int mo_bestLeft, mo_counts, .int mo_sets, .int mo_foeHarm, .int mo_ownHarm, .int mo_across, .int mo_sumFoe, .int mo_sumOwn, .int mo_sumWon, .int mo_sumAcross])), (a_wa, .inr (12, [.int wa_lanes, .int wa_deep, .int wa_told, .int wa_beasts, .int wa_cities, .int wa_passes, .int wa_turned, .int wa_names, wa_who, wa_strong, wa_kind, wa_lane, wa_mood, wa_price, .ref a_wa_loses, wa_name, wa_nameSort, wa_numberOf])), (a_wa_loses, .inl (cy 1, 36, .inl wa_loses))] ++ X) H → va_D A ([(a_mo, .inr (13, [.int 0, .int mo_trouble, .int mo_where, .ref a_wa, mo_read, mo_tape, .int mo_taped, .int mo_size, .int mo_spot, .int mo_sort, .int mo_place, .int mo_number, .int mo_fault, .int mo_wrongAt, .int mo_laneTold, .long mo_word, mo_v, mo_x, mo_past, mo_kept, .int mo_acts, .int mo_marks, mo_put, mo_bestPut, .long mo_bestSum, mo_row, mo_best, mo_left, .int mo_bestSize, .int mo_bestLeft, mo_counts, .int mo_sets, .int mo_foeHarm, .int mo_ownHarm, .int mo_across, .int mo_sumFoe, .int mo_sumOwn, .int mo_sumWon, .int mo_sumAcross])), (a_wa, .inr (12, [.int wa_lanes, .int wa_deep, .int wa_told, .int wa_beasts, .int wa_cities, .int wa_passes, .int wa_turned, .int wa_names, wa_who, wa_strong, wa_kind, wa_lane, wa_mood, wa_price, .ref a_wa_loses, wa_name, wa_nameSort, wa_numberOf])), (a_wa_loses, .inl (cy 1, 36, .inl wa_loses))] ++ X) → va_S A s.heap H locs → ∀ ls : Array Slot, lv_has ls 7 [(0, .ref a_mo), (2, .int x2_14), (3, .int x3_10), (4, .int x4_13)] → W p l e (headSpec wo_X13_reach ({ frames := 1, cells := 0, slots := 0, locals := 21 })).room s m (([.ref a_mo, .int p1] : List Value).toArray) below meth c H locs 0 0 (MQ below (va_Qi (fun (r : Int32) (_ : Unit) => r = res) (wB D A ([(a_mo, .inr (13, [.int mo_thrown', .int mo_trouble', .int mo_where', .ref a_wa, mo_read, mo_tape, .int mo_taped, .int mo_size, .int mo_spot, .int mo_sort, .int mo_place, .int mo_number, .int mo_fault, .int mo_wrongAt, .int mo_laneTold, .long mo_word, mo_v, mo_x, mo_past, mo_kept, .int mo_acts, .int mo_marks, mo_put, mo_bestPut, .long mo_bestSum, mo_row, mo_best, mo_left, .int mo_bestSize, .int mo_bestLeft, mo_counts, .int mo_sets, .int mo_foeHarm, .int mo_ownHarm, .int mo_across, .int mo_sumFoe, .int mo_sumOwn, .int mo_sumWon, .int mo_sumAcross])), (a_wa, .inr (12, [.int wa_lanes, .int wa_deep, .int wa_told, .int wa_beasts, .int wa_cities, .int wa_passes, .int wa_turned, .int wa_names, wa_who, wa_strong, wa_kind, wa_lane, wa_mood, wa_price, .ref a_wa_loses, wa_name, wa_nameSort, wa_numberOf])), (a_wa_loses, .inl (cy 1, 36, .inl wa_loses))] ++ X)) A) (([.ref a_mo, .int p1] : List Value).toArray) s 0 0 A) (F0 m 109 ls []) := by
                  intro x2_14 h H locs hP hD hS ls hl
                  unfold f_X13_reach_B109 at h
                  refine lv_iinc (v := x4_13 + 1) (lv' := [(4, .int (x4_13 + 1)), (0, .ref a_mo), (2, .int x2_14), (3, .int x3_10)]) hx hb dX13_reach_109 hl (k := 3) rfl (by first | rfl | decide) (by decide) rfl (fun ls hl => ?_)
                  refine lv_goto (tgt := 34) hx hb dX13_reach_112 (by decide) ?_
                  exact ih34 x2_14 (x4_13 + 1) h _ _ hP hD hS _ (lv_sub hl [1, 2, 3, 0] rfl)
                refine lv_icmp_ge (tgt := 109) hx hb dX13_reach_64 (by decide) (fun cd => ?_) (fun cd => ?_)
                · have h := ifT cd h
                  exact jn109 x2_12 h _ _ hP hD hS _ (lv_sub hl [2, 3, 4, 5] rfl)
                · have h := ifF cd h
                  refine lv_iload hx hb dX13_reach_67 (lv_at hl 0 rfl) ?_
                  refine lv_aload_n hx hb dX13_reach_69 rfl (lv_at hl 2 rfl) ?_
                  refine va_get (D := D) (ci := 13) (C := RX13) (T := TX13) (N := 39) (v := .ref a_wa) hx hb hX13 (fun _ q => q) hown hK hP 0 rfl rfl 3 (by decide) (hts (.fieldLink RX13 301 "ElephantLineModel" "war" "LElephantLineModel$War;") (by decide +kernel)) (fun _ h9 => h9) rfl dX13_reach_70 ?_
                  refine va_getN (D := D) (ci := 12) (C := RX12) (T := TX12) (N := 18) (v := .int wa_cities) hx hb hX12 (fun _ q => q) hown hK hP 1 rfl rfl 4 (by decide) (va_Nw.use rfl (hKN.2.1.1 ("ElephantLineModel", 279, "ElephantLineModel$War", "cities", "I", "ElephantLineModel") (List.mem_of_getElem? (i := 71) rfl))) (fun _ h9 => h9) rfl dX13_reach_73 ?_
                  refine lv_icmp_ge (tgt := 109) hx hb dX13_reach_76 (by decide) (fun cd => ?_) (fun cd => ?_)
                  · have h := ifT cd h
                    exact jn109 x2_12 h _ _ hP hD hS _ (lv_sub hl [2, 3, 4, 5] rfl)
                  · have h := ifF cd h
                    refine lv_iload_n hx hb dX13_reach_79 rfl (lv_at hl 3 rfl) ?_
                    refine lv_iload hx hb dX13_reach_80 (lv_at hl 1 rfl) ?_
                    obtain ⟨r_15, hc_16, h⟩ := bd1_some h
                    refine kSb [.int x2_12, .int (x4_13 / 6)] [] ⟨hx, hb, hml, hown, hts⟩ (c_X13_bit l D cy x2_12 (x4_13 / 6) r_15 hc_16) gX13_reach_X13_bit rfl hd_X13_bit ⟨Nat.le_of_ble_eq_true rfl, Nat.le_of_ble_eq_true rfl⟩ rfl rfl hKN va_nil rfl hl.1 rfl (Nat.le_of_ble_eq_true rfl) dX13_reach_82 ⟨Nat.le_of_ble_eq_true rfl, Nat.le_of_ble_eq_true rfl⟩ (fun nb_17 => ?_)
                    refine lv_if_eq (tgt := 109) hx hb dX13_reach_85 (by decide) (fun cd => ?_) (fun cd => ?_)
                    · have h := ifT cd h
                      exact jn109 x2_12 h _ _ hP hD hS _ (lv_sub hl [2, 3, 4, 5] rfl)
                    · have h := ifF cd h
                      refine lv_aload_n hx hb dX13_reach_88 rfl (lv_at hl 2 rfl) ?_
                      refine va_get (D := D) (ci := 13) (C := RX13) (T := TX13) (N := 39) (v := .ref a_wa) hx hb hX13 (fun _ q => q) hown hK hP 0 rfl rfl 3 (by decide) (hts (.fieldLink RX13 301 "ElephantLineModel" "war" "LElephantLineModel$War;") (by decide +kernel)) (fun _ h9 => h9) rfl dX13_reach_89 ?_
                      refine va_getN (D := D) (ci := 12) (C := RX12) (T := TX12) (N := 18) (v := .ref a_wa_loses) hx hb hX12 (fun _ q => q) hown hK hP 1 rfl rfl 14 (by decide) (va_Nw.use rfl (hKN.2.1.1 ("ElephantLineModel", 282, "ElephantLineModel$War", "loses", "[I", "ElephantLineModel") (List.mem_of_getElem? (i := 81) rfl))) (fun _ h9 => h9) rfl dX13_reach_92 ?_
                      refine lv_iload hx hb dX13_reach_95 (lv_at hl 5 rfl) ?_
                      obtain ⟨i_18, h⟩ := gIn_some h
                      refine va_iald hx hb hK hP 2 1 rfl rfl i_18 dX13_reach_97 ?_
                      refine lv_iconst (v := (-1)) hx hb dX13_reach_98 (by decide) ?_
                      refine lv_icmp_eq (tgt := 109) hx hb dX13_reach_99 (by decide) (fun cd => ?_) (fun cd => ?_)
                      · have h := ifT cd h
                        exact jn109 x2_12 h _ _ hP hD hS _ (lv_sub hl [2, 3, 4, 5] rfl)
                      · have h := ifF cd h
                        refine lv_iload_n hx hb dX13_reach_102 rfl (lv_at hl 3 rfl) ?_
                        refine lv_iconst (v := 1) hx hb dX13_reach_103 (by decide) ?_
                        refine lv_iload hx hb dX13_reach_104 (lv_at hl 0 rfl) ?_
                        refine lv_ishl hx hb dX13_reach_106 ?_
                        refine lv_ior hx hb dX13_reach_107 ?_
                        refine lv_istore_n (lv' := [(2, .int (x2_12 ||| ((1 : Int32) <<< ((x4_13 - x4_13 / 6 * 6) &&& 31)))), (6, .int (x4_13 - x4_13 / 6 * 6)), (5, .int (x4_13 / 6)), (0, .ref a_mo), (3, .int x3_10), (4, .int x4_13)]) hx hb dX13_reach_108 rfl hl (by decide) rfl (fun ls hl => ?_)
                        exact jn109 (x2_12 ||| ((1 : Int32) <<< ((x4_13 - x4_13 / 6 * 6) &&& 31))) h _ _ hP hD hS _ (lv_sub hl [3, 0, 4, 5] rfl)
          exact lp34 fuelN x2_9 (0 : Int32) h _ _ hP hD hS _ (lv_sub hl [1, 2, 3, 0] rfl)
    exact lp25 fuelN ((1 : Int32) <<< (p1 &&& 31)) (0 : Int32) h _ _ hP hD hS _ (lv_sub hl [2, 1, 0] rfl)
  · have h := ifT cd h
    refine lv_aload_n hx hb dX13_reach_13 rfl (lv_at hl 0 rfl) ?_
    refine lv_iconst (v := 1) hx hb dX13_reach_14 (by decide) ?_
    obtain ⟨r_19, mo_trouble_20, mo_where_21, hc_22, h⟩ := bd3_some h
    refine wVi [.int 1] [] ⟨hx, hb, hml, hown, hts⟩ (c_X13_refused l D cy A ([(a_wa, .inr (12, [.int wa_lanes, .int wa_deep, .int wa_told, .int wa_beasts, .int wa_cities, .int wa_passes, .int wa_turned, .int wa_names, wa_who, wa_strong, wa_kind, wa_lane, wa_mood, wa_price, .ref a_wa_loses, wa_name, wa_nameSort, wa_numberOf])), (a_wa_loses, .inl (cy 1, 36, .inl wa_loses))] ++ X) a_mo 0 mo_trouble mo_where (.ref a_wa) (mo_read) (mo_tape) mo_taped mo_size mo_spot mo_sort mo_place mo_number mo_fault mo_wrongAt mo_laneTold mo_word (mo_v) (mo_x) (mo_past) (mo_kept) mo_acts mo_marks (mo_put) (mo_bestPut) mo_bestSum (mo_row) (mo_best) (mo_left) mo_bestSize mo_bestLeft (mo_counts) mo_sets mo_foeHarm mo_ownHarm mo_across mo_sumFoe mo_sumOwn mo_sumWon mo_sumAcross (1 : Int32) r_19 mo_trouble_20 mo_where_21 hc_22) gX13_reach_X13_refused rfl hd_X13_refused ⟨Nat.le_of_ble_eq_true rfl, Nat.le_of_ble_eq_true rfl⟩ rfl rfl hKN (pX3 hP [0, 1, 2] rfl) (dX3 hD [0, 1, 2] rfl rfl) hS hA 13 0 rfl rfl rfl hl.1 rfl (Nat.le_of_ble_eq_true rfl) dX13_reach_15 ⟨Nat.le_of_ble_eq_true rfl, Nat.le_of_ble_eq_true rfl⟩ (fun H locs hP hD hS => ?_)
    have hP := pX4 (L1 := [(a_mo, .inr (13, [.int 0, .int mo_trouble_20, .int mo_where_21, .ref a_wa, mo_read, mo_tape, .int mo_taped, .int mo_size, .int mo_spot, .int mo_sort, .int mo_place, .int mo_number, .int mo_fault, .int mo_wrongAt, .int mo_laneTold, .long mo_word, mo_v, mo_x, mo_past, mo_kept, .int mo_acts, .int mo_marks, mo_put, mo_bestPut, .long mo_bestSum, mo_row, mo_best, mo_left, .int mo_bestSize, .int mo_bestLeft, mo_counts, .int mo_sets, .int mo_foeHarm, .int mo_ownHarm, .int mo_across, .int mo_sumFoe, .int mo_sumOwn, .int mo_sumWon, .int mo_sumAcross])), (a_wa, .inr (12, [.int wa_lanes, .int wa_deep, .int wa_told, .int wa_beasts, .int wa_cities, .int wa_passes, .int wa_turned, .int wa_names, wa_who, wa_strong, wa_kind, wa_lane, wa_mood, wa_price, .ref a_wa_loses, wa_name, wa_nameSort, wa_numberOf])), (a_wa_loses, .inl (cy 1, 36, .inl wa_loses))]) hP [0, 1, 2] rfl
    have hD := dX4 (L1 := [(a_mo, .inr (13, [.int 0, .int mo_trouble_20, .int mo_where_21, .ref a_wa, mo_read, mo_tape, .int mo_taped, .int mo_size, .int mo_spot, .int mo_sort, .int mo_place, .int mo_number, .int mo_fault, .int mo_wrongAt, .int mo_laneTold, .long mo_word, mo_v, mo_x, mo_past, mo_kept, .int mo_acts, .int mo_marks, mo_put, mo_bestPut, .long mo_bestSum, mo_row, mo_best, mo_left, .int mo_bestSize, .int mo_bestLeft, mo_counts, .int mo_sets, .int mo_foeHarm, .int mo_ownHarm, .int mo_across, .int mo_sumFoe, .int mo_sumOwn, .int mo_sumWon, .int mo_sumAcross])), (a_wa, .inr (12, [.int wa_lanes, .int wa_deep, .int wa_told, .int wa_beasts, .int wa_cities, .int wa_passes, .int wa_turned, .int wa_names, wa_who, wa_strong, wa_kind, wa_lane, wa_mood, wa_price, .ref a_wa_loses, wa_name, wa_nameSort, wa_numberOf])), (a_wa_loses, .inl (cy 1, 36, .inl wa_loses))]) hD [0, 1, 2] rfl rfl
    cases h
    exact W.iret hx hb hr (fun t ht _ => ⟨⟨_, (), rfl, rfl, by rw [ht]; exact hP, hD⟩, hS.F ht⟩) hS.2.2 dX13_reach_18
noncomputable def f_X13_leaves (mo_sets : Int32) (mo_counts : Nat → Int32) (p1 : Int32) : Option (Int32) :=
  gIn p1 5 <|
  gIn p1 5 <|
  (if (mo_counts p1.toNatClampNeg) ≤ (mo_sets - (mo_counts p1.toNatClampNeg)) then
  gIn p1 5 <|
  some (mo_sets - (mo_counts p1.toNatClampNeg))
  else
  gIn p1 5 <|
  some (mo_counts p1.toNatClampNeg))
theorem hd_X13_leaves : yX13_leaves.cls = RX13 ∧ yX13_leaves.cls ≠ "java/lang/invoke/MethodHandle" ∧ yX13_leaves.cls ≠ "java/lang/invoke/VarHandle" ∧ (parseMethodDescriptor yX13_leaves.desc).map (fun d => d.parameters.length) = some 1 := by decide +kernel
set_option maxHeartbeats 4000000 in
set_option maxRecDepth 100000 in
theorem c_X13_leaves (l : Launch) (D : va_G) (cy : Nat → ClassId) (a_mo a_mo_counts : Nat) (mo_thrown : Int32) (mo_trouble : Int32) (mo_where : Int32) (mo_war : Value) (mo_read : Value) (mo_tape : Value) (mo_taped : Int32) (mo_size : Int32) (mo_spot : Int32) (mo_sort : Int32) (mo_place : Int32) (mo_number : Int32) (mo_fault : Int32) (mo_wrongAt : Int32) (mo_laneTold : Int32) (mo_word : Int64) (mo_v : Value) (mo_x : Value) (mo_past : Value) (mo_kept : Value) (mo_acts : Int32) (mo_marks : Int32) (mo_put : Value) (mo_bestPut : Value) (mo_bestSum : Int64) (mo_row : Value) (mo_best : Value) (mo_left : Value) (mo_bestSize : Int32) (mo_bestLeft : Int32) (mo_sets : Int32) (mo_foeHarm : Int32) (mo_ownHarm : Int32) (mo_across : Int32) (mo_sumFoe : Int32) (mo_sumOwn : Int32) (mo_sumWon : Int32) (mo_sumAcross : Int32) (mo_counts : Nat → Int32) (p1 : Int32) (res : Int32) (h : f_X13_leaves mo_sets mo_counts p1 = some (res)) : Met l yX13_leaves wo_X13_leaves ({ frames := 0, cells := 0, slots := 0, locals := 0 }) (roPc D cy [.ref a_mo, .int p1] [(a_mo, .inr (13, [.int mo_thrown, .int mo_trouble, .int mo_where, mo_war, mo_read, mo_tape, .int mo_taped, .int mo_size, .int mo_spot, .int mo_sort, .int mo_place, .int mo_number, .int mo_fault, .int mo_wrongAt, .int mo_laneTold, .long mo_word, mo_v, mo_x, mo_past, mo_kept, .int mo_acts, .int mo_marks, mo_put, mo_bestPut, .long mo_bestSum, mo_row, mo_best, mo_left, .int mo_bestSize, .int mo_bestLeft, .ref a_mo_counts, .int mo_sets, .int mo_foeHarm, .int mo_ownHarm, .int mo_across, .int mo_sumFoe, .int mo_sumOwn, .int mo_sumWon, .int mo_sumAcross])), (a_mo_counts, .inl (cy 1, 5, .inl mo_counts))]) (vp_Si (fun r => r = res)) 0 0 (fun _ => False) := by
  refine Met.ofW (cc := cX13_leaves) (maxL := 2) (ret := (some .int)) (by decide) rfl ?_
  intro p e s m args below meth c s₁ B hml hv
  obtain ⟨rfl, hP, hKN⟩ := hv
  have hK := hKN.1
  have hx := B.exec
  have hb := B.bytes
  have hr := B.returns
  have hts := wt_X13_leaves hKN.2.2 (([.ref a_mo, .int p1] : List Value).toArray)
  have hown : s.vm.findClass RX13 = some m.cls := findClass_of_methodNamed B.named
  have hlocks := B.notSynchronized
  have hX13 := wc_X13 hKN.2.2 (([.ref a_mo, .int p1] : List Value).toArray)
  have hl := lv_entry ([.ref a_mo, .int p1]) (n := 2) (Nat.le_of_ble_eq_true rfl)
  rw [lg_entry_eq]
  generalize (lg_sl ([.ref a_mo, .int p1]) ++ List.replicate (2 - (lg_sl ([.ref a_mo, .int p1])).length) Slot.unset).toArray = ls at hl ⊢
  have hl : lv_has ls 2 [(0, .ref a_mo), (1, .int p1)] := hl
  unfold f_X13_leaves at h
  refine lv_aload_n hx hb dX13_leaves_0 rfl (lv_at hl 0 rfl) ?_
  refine va_get (D := D) (ci := 13) (C := RX13) (T := TX13) (N := 39) (v := .ref a_mo_counts) hx hb hX13 (fun _ q => q) hown hK hP 0 rfl rfl 30 (by decide) (hts (.fieldLink RX13 45 "ElephantLineModel" "counts" "[I") (by decide +kernel)) (fun _ h9 => h9) rfl dX13_leaves_1 ?_
  refine lv_iload_n hx hb dX13_leaves_4 rfl (lv_at hl 1 rfl) ?_
  obtain ⟨i_1, h⟩ := gIn_some h
  refine va_iald hx hb hK hP 1 1 rfl rfl i_1 dX13_leaves_5 ?_
  refine lv_aload_n hx hb dX13_leaves_6 rfl (lv_at hl 0 rfl) ?_
  refine va_get (D := D) (ci := 13) (C := RX13) (T := TX13) (N := 39) (v := .int mo_sets) hx hb hX13 (fun _ q => q) hown hK hP 0 rfl rfl 31 (by decide) (hts (.fieldLink RX13 431 "ElephantLineModel" "sets" "I") (by decide +kernel)) (fun _ h9 => h9) rfl dX13_leaves_7 ?_
  refine lv_aload_n hx hb dX13_leaves_10 rfl (lv_at hl 0 rfl) ?_
  refine va_get (D := D) (ci := 13) (C := RX13) (T := TX13) (N := 39) (v := .ref a_mo_counts) hx hb hX13 (fun _ q => q) hown hK hP 0 rfl rfl 30 (by decide) (hts (.fieldLink RX13 45 "ElephantLineModel" "counts" "[I") (by decide +kernel)) (fun _ h9 => h9) rfl dX13_leaves_11 ?_
  refine lv_iload_n hx hb dX13_leaves_14 rfl (lv_at hl 1 rfl) ?_
  obtain ⟨i_2, h⟩ := gIn_some h
  refine va_iald hx hb hK hP 1 1 rfl rfl i_2 dX13_leaves_15 ?_
  refine lv_isub hx hb dX13_leaves_16 ?_
  refine lv_icmp_le (tgt := 29) hx hb dX13_leaves_17 (by decide) (fun cd => ?_) (fun cd => ?_)
  · have h := ifT cd h
    refine lv_aload_n hx hb dX13_leaves_29 rfl (lv_at hl 0 rfl) ?_
    refine va_get (D := D) (ci := 13) (C := RX13) (T := TX13) (N := 39) (v := .int mo_sets) hx hb hX13 (fun _ q => q) hown hK hP 0 rfl rfl 31 (by decide) (hts (.fieldLink RX13 431 "ElephantLineModel" "sets" "I") (by decide +kernel)) (fun _ h9 => h9) rfl dX13_leaves_30 ?_
    refine lv_aload_n hx hb dX13_leaves_33 rfl (lv_at hl 0 rfl) ?_
    refine va_get (D := D) (ci := 13) (C := RX13) (T := TX13) (N := 39) (v := .ref a_mo_counts) hx hb hX13 (fun _ q => q) hown hK hP 0 rfl rfl 30 (by decide) (hts (.fieldLink RX13 45 "ElephantLineModel" "counts" "[I") (by decide +kernel)) (fun _ h9 => h9) rfl dX13_leaves_34 ?_
    refine lv_iload_n hx hb dX13_leaves_37 rfl (lv_at hl 1 rfl) ?_
    obtain ⟨i_3, h⟩ := gIn_some h
    refine va_iald hx hb hK hP 1 1 rfl rfl i_3 dX13_leaves_38 ?_
    refine lv_isub hx hb dX13_leaves_39 ?_
    exact W.iret (v := mo_sets - (mo_counts p1.toNatClampNeg)) hx hb hr (fun t ht _ => ⟨_, rfl, Option.some.inj h, ht⟩) (fun _ q => by cases q) dX13_leaves_40
  · have h := ifF cd h
    refine lv_aload_n hx hb dX13_leaves_20 rfl (lv_at hl 0 rfl) ?_
    refine va_get (D := D) (ci := 13) (C := RX13) (T := TX13) (N := 39) (v := .ref a_mo_counts) hx hb hX13 (fun _ q => q) hown hK hP 0 rfl rfl 30 (by decide) (hts (.fieldLink RX13 45 "ElephantLineModel" "counts" "[I") (by decide +kernel)) (fun _ h9 => h9) rfl dX13_leaves_21 ?_
    refine lv_iload_n hx hb dX13_leaves_24 rfl (lv_at hl 1 rfl) ?_
    obtain ⟨i_4, h⟩ := gIn_some h
    refine va_iald hx hb hK hP 1 1 rfl rfl i_4 dX13_leaves_25 ?_
    refine lv_goto (tgt := 40) hx hb dX13_leaves_26 (by decide) ?_
    exact W.iret (v := mo_counts p1.toNatClampNeg) hx hb hr (fun t ht _ => ⟨_, rfl, Option.some.inj h, ht⟩) (fun _ q => by cases q) dX13_leaves_40
noncomputable def f_X13_refusesBattles (p1 : Int32) (p2 : Int32) (p3 : Int32) : Option (Int32) :=
  (if p1 = 0 then
  some (1)
  else
  bd1 (f_X13_in  p2 (0 : Int32) (65536 : Int32)) fun r_1 =>
  (if r_1 = 0 then
  some (2)
  else
  bd1 (f_X13_in  p3 (1 : Int32) (90 : Int32)) fun r_4 =>
  (if r_4 = 0 then
  some (2)
  else
  some (0))))
theorem hd_X13_refusesBattles : yX13_refusesBattles.cls = RX13 ∧ yX13_refusesBattles.cls ≠ "java/lang/invoke/MethodHandle" ∧ yX13_refusesBattles.cls ≠ "java/lang/invoke/VarHandle" ∧ (parseMethodDescriptor yX13_refusesBattles.desc).map (fun d => d.parameters.length) = some 3 := by decide +kernel
set_option maxHeartbeats 4000000 in
set_option maxRecDepth 100000 in
theorem c_X13_refusesBattles (l : Launch) (D : va_G) (cy : Nat → ClassId) (a_mo : Nat) (mo_thrown : Int32) (mo_trouble : Int32) (mo_where : Int32) (mo_war : Value) (mo_read : Value) (mo_tape : Value) (mo_taped : Int32) (mo_size : Int32) (mo_spot : Int32) (mo_sort : Int32) (mo_place : Int32) (mo_number : Int32) (mo_fault : Int32) (mo_wrongAt : Int32) (mo_laneTold : Int32) (mo_word : Int64) (mo_v : Value) (mo_x : Value) (mo_past : Value) (mo_kept : Value) (mo_acts : Int32) (mo_marks : Int32) (mo_put : Value) (mo_bestPut : Value) (mo_bestSum : Int64) (mo_row : Value) (mo_best : Value) (mo_left : Value) (mo_bestSize : Int32) (mo_bestLeft : Int32) (mo_counts : Value) (mo_sets : Int32) (mo_foeHarm : Int32) (mo_ownHarm : Int32) (mo_across : Int32) (mo_sumFoe : Int32) (mo_sumOwn : Int32) (mo_sumWon : Int32) (mo_sumAcross : Int32) (p1 : Int32) (p2 : Int32) (p3 : Int32) (res : Int32) (h : f_X13_refusesBattles  p1 p2 p3 = some (res)) : Met l yX13_refusesBattles wo_X13_refusesBattles ({ frames := 1, cells := 0, slots := 0, locals := 22 }) (roPc D cy [.ref a_mo, .int p1, .int p2, .int p3] [(a_mo, .inr (13, [.int mo_thrown, .int mo_trouble, .int mo_where, mo_war, mo_read, mo_tape, .int mo_taped, .int mo_size, .int mo_spot, .int mo_sort, .int mo_place, .int mo_number, .int mo_fault, .int mo_wrongAt, .int mo_laneTold, .long mo_word, mo_v, mo_x, mo_past, mo_kept, .int mo_acts, .int mo_marks, mo_put, mo_bestPut, .long mo_bestSum, mo_row, mo_best, mo_left, .int mo_bestSize, .int mo_bestLeft, mo_counts, .int mo_sets, .int mo_foeHarm, .int mo_ownHarm, .int mo_across, .int mo_sumFoe, .int mo_sumOwn, .int mo_sumWon, .int mo_sumAcross]))]) (vp_Si (fun r => r = res)) 0 0 (fun _ => False) := by
  refine Met.ofW (cc := cX13_refusesBattles) (maxL := 4) (ret := (some .int)) (by decide) rfl ?_
  intro p e s m args below meth c s₁ B hml hv
  obtain ⟨rfl, hP, hKN⟩ := hv
  have hK := hKN.1
  have hx := B.exec
  have hb := B.bytes
  have hr := B.returns
  have hts := wt_X13_refusesBattles hKN.2.2 (([.ref a_mo, .int p1, .int p2, .int p3] : List Value).toArray)
  have hown : s.vm.findClass RX13 = some m.cls := findClass_of_methodNamed B.named
  have hlocks := B.notSynchronized
  have hl := lv_entry ([.ref a_mo, .int p1, .int p2, .int p3]) (n := 4) (Nat.le_of_ble_eq_true rfl)
  rw [lg_entry_eq]
  generalize (lg_sl ([.ref a_mo, .int p1, .int p2, .int p3]) ++ List.replicate (4 - (lg_sl ([.ref a_mo, .int p1, .int p2, .int p3])).length) Slot.unset).toArray = ls at hl ⊢
  have hl : lv_has ls 4 [(0, .ref a_mo), (1, .int p1), (2, .int p2), (3, .int p3)] := hl
  unfold f_X13_refusesBattles at h
  refine lv_iload_n hx hb dX13_refusesBattles_0 rfl (lv_at hl 1 rfl) ?_
  refine lv_if_ne (tgt := 8) hx hb dX13_refusesBattles_1 (by decide) (fun cd => ?_) (fun cd => ?_)
  · have h := ifF cd h
    refine lv_iload_n hx hb dX13_refusesBattles_8 rfl (lv_at hl 2 rfl) ?_
    refine lv_iconst (v := 0) hx hb dX13_refusesBattles_9 (by decide) ?_
    refine lv_ldcw (v := 65536) hx hb hown (hts (.constant RX13 462 (65536)) (by decide +kernel)) dX13_refusesBattles_10 ?_
    obtain ⟨r_1, hc_2, h⟩ := bd1_some h
    refine kSb [.int p2, .int 0, .int 65536] [] ⟨hx, hb, hml, hown, hts⟩ (c_X13_in l D cy p2 (0 : Int32) (65536 : Int32) r_1 hc_2) gX13_refusesBattles_X13_in rfl hd_X13_in ⟨Nat.le_of_ble_eq_true rfl, Nat.le_of_ble_eq_true rfl⟩ rfl rfl hKN va_nil rfl hl.1 rfl (Nat.le_of_ble_eq_true rfl) dX13_refusesBattles_13 ⟨Nat.le_of_ble_eq_true rfl, Nat.le_of_ble_eq_true rfl⟩ (fun nb_3 => ?_)
    refine lv_if_eq (tgt := 33) hx hb dX13_refusesBattles_16 (by decide) (fun cd => ?_) (fun cd => ?_)
    · have h := ifT cd h
      refine lv_iconst (v := 2) hx hb dX13_refusesBattles_33 (by decide) ?_
      exact W.iret (v := 2) hx hb hr (fun t ht _ => ⟨_, rfl, Option.some.inj h, ht⟩) (fun _ q => by cases q) dX13_refusesBattles_34
    · have h := ifF cd h
      refine lv_iload_n hx hb dX13_refusesBattles_19 rfl (lv_at hl 3 rfl) ?_
      refine lv_iconst (v := 1) hx hb dX13_refusesBattles_20 (by decide) ?_
      refine lv_bipush (v := 90) hx hb dX13_refusesBattles_21 (by decide) ?_
      obtain ⟨r_4, hc_5, h⟩ := bd1_some h
      refine kSb [.int p3, .int 1, .int 90] [] ⟨hx, hb, hml, hown, hts⟩ (c_X13_in l D cy p3 (1 : Int32) (90 : Int32) r_4 hc_5) gX13_refusesBattles_X13_in rfl hd_X13_in ⟨Nat.le_of_ble_eq_true rfl, Nat.le_of_ble_eq_true rfl⟩ rfl rfl hKN va_nil rfl hl.1 rfl (Nat.le_of_ble_eq_true rfl) dX13_refusesBattles_23 ⟨Nat.le_of_ble_eq_true rfl, Nat.le_of_ble_eq_true rfl⟩ (fun nb_6 => ?_)
      refine lv_if_eq (tgt := 33) hx hb dX13_refusesBattles_26 (by decide) (fun cd => ?_) (fun cd => ?_)
      · have h := ifT cd h
        refine lv_iconst (v := 2) hx hb dX13_refusesBattles_33 (by decide) ?_
        exact W.iret (v := 2) hx hb hr (fun t ht _ => ⟨_, rfl, Option.some.inj h, ht⟩) (fun _ q => by cases q) dX13_refusesBattles_34
      · have h := ifF cd h
        refine lv_iconst (v := 0) hx hb dX13_refusesBattles_29 (by decide) ?_
        refine lv_goto (tgt := 34) hx hb dX13_refusesBattles_30 (by decide) ?_
        exact W.iret (v := 0) hx hb hr (fun t ht _ => ⟨_, rfl, Option.some.inj h, ht⟩) (fun _ q => by cases q) dX13_refusesBattles_34
  · have h := ifT cd h
    refine lv_iconst (v := 1) hx hb dX13_refusesBattles_4 (by decide) ?_
    refine lv_goto (tgt := 34) hx hb dX13_refusesBattles_5 (by decide) ?_
    exact W.iret (v := 1) hx hb hr (fun t ht _ => ⟨_, rfl, Option.some.inj h, ht⟩) (fun _ q => by cases q) dX13_refusesBattles_34
noncomputable def f_X13_remembers_B83 (mo_v : Nat → Int32) (mo_acts : Int32) (mo_past : Nat → Int32) : Option (Int32 × (Nat → Int32)) :=
  some (mo_acts + 1, mo_past)
noncomputable def f_X13_remembers_b51 (mo_v : Nat → Int32) (mo_acts : Int32) (k51 : Int32 → (Nat → Int32) → Option (Int32 × (Nat → Int32))) (x1 : Int32) (mo_past : Nat → Int32) : Option (Int32 × (Nat → Int32)) :=
  (if 19 ≤ x1 then
  f_X13_remembers_B83 mo_v mo_acts mo_past
  else
  gIn x1 19 <|
  gIn ((19 * mo_acts) + x1) 304 <|
  k51 (x1 + 1) (upd mo_past ((19 * mo_acts) + x1).toNatClampNeg (mo_v x1.toNatClampNeg)))
noncomputable def f_X13_remembers_L51 (mo_v : Nat → Int32) (mo_acts : Int32) : Nat → Int32 → (Nat → Int32) → Option (Int32 × (Nat → Int32))
  | 0 => fun _ _ => none
  | n + 1 => f_X13_remembers_b51 mo_v mo_acts (f_X13_remembers_L51 mo_v mo_acts n)
noncomputable def f_X13_remembers_B49 (mo_v : Nat → Int32) (mo_acts : Int32) (mo_past : Nat → Int32) : Option (Int32 × (Nat → Int32)) :=
  f_X13_remembers_L51 mo_v mo_acts fuelN 0 mo_past
noncomputable def f_X13_remembers_B39 (mo_v : Nat → Int32) (mo_acts : Int32) (mo_past : Nat → Int32) : Option (Int32 × (Nat → Int32)) :=
  f_X13_remembers_B49 mo_v (mo_acts - 1) mo_past
noncomputable def f_X13_remembers_b11 (mo_v : Nat → Int32) (mo_acts : Int32) (k11 : Int32 → (Nat → Int32) → Option (Int32 × (Nat → Int32))) (x1 : Int32) (mo_past : Nat → Int32) : Option (Int32 × (Nat → Int32)) :=
  (if 285 ≤ x1 then
  f_X13_remembers_B39 mo_v mo_acts mo_past
  else
  gIn (x1 + 19) 304 <|
  gIn x1 304 <|
  k11 (x1 + 1) (upd mo_past x1.toNatClampNeg (mo_past (x1 + 19).toNatClampNeg)))
noncomputable def f_X13_remembers_L11 (mo_v : Nat → Int32) (mo_acts : Int32) : Nat → Int32 → (Nat → Int32) → Option (Int32 × (Nat → Int32))
  | 0 => fun _ _ => none
  | n + 1 => f_X13_remembers_b11 mo_v mo_acts (f_X13_remembers_L11 mo_v mo_acts n)
noncomputable def f_X13_remembers (mo_acts : Int32) (mo_v : Nat → Int32) (mo_past : Nat → Int32) : Option (Int32 × (Nat → Int32)) :=
  (if mo_acts = 16 then
  f_X13_remembers_L11 mo_v mo_acts fuelN 0 mo_past
  else
  f_X13_remembers_B49 mo_v mo_acts mo_past)
theorem hd_X13_remembers : yX13_remembers.cls = RX13 ∧ yX13_remembers.cls ≠ "java/lang/invoke/MethodHandle" ∧ yX13_remembers.cls ≠ "java/lang/invoke/VarHandle" ∧ (parseMethodDescriptor yX13_remembers.desc).map (fun d => d.parameters.length) = some 0 := by decide +kernel
set_option maxHeartbeats 4000000 in
set_option maxRecDepth 100000 in
theorem c_X13_remembers (l : Launch) (D : va_G) (cy : Nat → ClassId) (A : Nat → Prop) (X : va_W) (a_mo a_mo_v a_mo_past : Nat) (mo_thrown : Int32) (mo_trouble : Int32) (mo_where : Int32) (mo_war : Value) (mo_read : Value) (mo_tape : Value) (mo_taped : Int32) (mo_size : Int32) (mo_spot : Int32) (mo_sort : Int32) (mo_place : Int32) (mo_number : Int32) (mo_fault : Int32) (mo_wrongAt : Int32) (mo_laneTold : Int32) (mo_word : Int64) (mo_x : Value) (mo_kept : Value) (mo_acts : Int32) (mo_marks : Int32) (mo_put : Value) (mo_bestPut : Value) (mo_bestSum : Int64) (mo_row : Value) (mo_best : Value) (mo_left : Value) (mo_bestSize : Int32) (mo_bestLeft : Int32) (mo_counts : Value) (mo_sets : Int32) (mo_foeHarm : Int32) (mo_ownHarm : Int32) (mo_across : Int32) (mo_sumFoe : Int32) (mo_sumOwn : Int32) (mo_sumWon : Int32) (mo_sumAcross : Int32) (mo_v : Nat → Int32) (mo_past : Nat → Int32) (mo_acts' : Int32) (mo_past' : Nat → Int32) (h : f_X13_remembers mo_acts mo_v mo_past = some (mo_acts', mo_past')) : Met l yX13_remembers wo_X13_remembers ({ frames := 0, cells := 0, slots := 0, locals := 0 }) (wrPc D cy A [.ref a_mo] ([(a_mo, .inr (13, [.int mo_thrown, .int mo_trouble, .int mo_where, mo_war, mo_read, mo_tape, .int mo_taped, .int mo_size, .int mo_spot, .int mo_sort, .int mo_place, .int mo_number, .int mo_fault, .int mo_wrongAt, .int mo_laneTold, .long mo_word, .ref a_mo_v, mo_x, .ref a_mo_past, mo_kept, .int mo_acts, .int mo_marks, mo_put, mo_bestPut, .long mo_bestSum, mo_row, mo_best, mo_left, .int mo_bestSize, .int mo_bestLeft, mo_counts, .int mo_sets, .int mo_foeHarm, .int mo_ownHarm, .int mo_across, .int mo_sumFoe, .int mo_sumOwn, .int mo_sumWon, .int mo_sumAcross])), (a_mo_v, .inl (cy 1, 19, .inl mo_v)), (a_mo_past, .inl (cy 1, 304, .inl mo_past))] ++ X)) (va_Qv (fun (_ : Unit) => True) (wB D A ([(a_mo, .inr (13, [.int mo_thrown, .int mo_trouble, .int mo_where, mo_war, mo_read, mo_tape, .int mo_taped, .int mo_size, .int mo_spot, .int mo_sort, .int mo_place, .int mo_number, .int mo_fault, .int mo_wrongAt, .int mo_laneTold, .long mo_word, .ref a_mo_v, mo_x, .ref a_mo_past, mo_kept, .int mo_acts', .int mo_marks, mo_put, mo_bestPut, .long mo_bestSum, mo_row, mo_best, mo_left, .int mo_bestSize, .int mo_bestLeft, mo_counts, .int mo_sets, .int mo_foeHarm, .int mo_ownHarm, .int mo_across, .int mo_sumFoe, .int mo_sumOwn, .int mo_sumWon, .int mo_sumAcross])), (a_mo_v, .inl (cy 1, 19, .inl mo_v)), (a_mo_past, .inl (cy 1, 304, .inl mo_past'))] ++ X)) A) 0 0 A := by
  refine Met.ofW (cc := cX13_remembers) (maxL := 2) (ret := none) (by decide) rfl ?_
  intro p e s m args below meth c s₁ B hml hv
  obtain ⟨rfl, hP, hKN, hD, hA⟩ := hv
  have hK := hKN.1
  have hx := B.exec
  have hb := B.bytes
  have hr := B.returns
  have hts := wt_X13_remembers hKN.2.2 (([.ref a_mo] : List Value).toArray)
  have hown : s.vm.findClass RX13 = some m.cls := findClass_of_methodNamed B.named
  have hlocks := B.notSynchronized
  have hS : va_S A s.heap s.heap [] := va_S.rf
  have hX13 := wc_X13 hKN.2.2 (([.ref a_mo] : List Value).toArray)
  have hl := lv_entry ([.ref a_mo]) (n := 2) (Nat.le_of_ble_eq_true rfl)
  rw [lg_entry_eq]
  generalize (lg_sl ([.ref a_mo]) ++ List.replicate (2 - (lg_sl ([.ref a_mo])).length) Slot.unset).toArray = ls at hl ⊢
  have hl : lv_has ls 2 [(0, .ref a_mo)] := hl
  unfold f_X13_remembers at h
  refine lv_aload_n hx hb dX13_remembers_0 rfl (lv_at hl 0 rfl) ?_
  refine va_get (D := D) (ci := 13) (C := RX13) (T := TX13) (N := 39) (v := .int mo_acts) hx hb hX13 (fun _ q => q) hown hK hP 0 rfl rfl 20 (by decide) (hts (.fieldLink RX13 304 "ElephantLineModel" "acts" "I") (by decide +kernel)) (fun _ h9 => h9) rfl dX13_remembers_1 ?_
  refine lv_bipush (v := 16) hx hb dX13_remembers_4 (by decide) ?_
  have jn49 : ∀ (mo_acts_1 : Int32) (mo_past_2 : Nat → Int32), f_X13_remembers_B49 mo_v mo_acts_1 mo_past_2 = some (mo_acts', mo_past') → ∀ (H : Heap) (locs : List Loc), va_P D vwCl ([(a_mo, .inr (13, [.int mo_thrown, .int mo_trouble, .int mo_where, mo_war, mo_read, mo_tape, .int mo_taped, .int mo_size, .int mo_spot, .int mo_sort, .int mo_place, .int mo_number, .int mo_fault, .int mo_wrongAt, .int mo_laneTold, .long mo_word, .ref a_mo_v, mo_x, .ref a_mo_past, mo_kept, .int mo_acts_1, .int mo_marks, mo_put, mo_bestPut, .long mo_bestSum, mo_row, mo_best, mo_left, .int mo_bestSize, .int mo_bestLeft, mo_counts, .int mo_sets, .int mo_foeHarm, .int mo_ownHarm, .int mo_across, .int mo_sumFoe, .int mo_sumOwn, .int mo_sumWon, .int mo_sumAcross])), (a_mo_v, .inl (cy 1, 19, .inl mo_v)), (a_mo_past, .inl (cy 1, 304, .inl mo_past_2))] ++ X) H → va_D A ([(a_mo, .inr (13, [.int mo_thrown, .int mo_trouble, .int mo_where, mo_war, mo_read, mo_tape, .int mo_taped, .int mo_size, .int mo_spot, .int mo_sort, .int mo_place, .int mo_number, .int mo_fault, .int mo_wrongAt, .int mo_laneTold, .long mo_word, .ref a_mo_v, mo_x, .ref a_mo_past, mo_kept, .int mo_acts_1, .int mo_marks, mo_put, mo_bestPut, .long mo_bestSum, mo_row, mo_best, mo_left, .int mo_bestSize, .int mo_bestLeft, mo_counts, .int mo_sets, .int mo_foeHarm, .int mo_ownHarm, .int mo_across, .int mo_sumFoe, .int mo_sumOwn, .int mo_sumWon, .int mo_sumAcross])), (a_mo_v, .inl (cy 1, 19, .inl mo_v)), (a_mo_past, .inl (cy 1, 304, .inl mo_past_2))] ++ X) → va_S A s.heap H locs → ∀ ls : Array Slot, lv_has ls 2 [(0, .ref a_mo)] → W p l e (headSpec wo_X13_remembers ({ frames := 0, cells := 0, slots := 0, locals := 0 })).room s m (([.ref a_mo] : List Value).toArray) below meth c H locs 0 0 (MQ below (va_Qv (fun (_ : Unit) => True) (wB D A ([(a_mo, .inr (13, [.int mo_thrown, .int mo_trouble, .int mo_where, mo_war, mo_read, mo_tape, .int mo_taped, .int mo_size, .int mo_spot, .int mo_sort, .int mo_place, .int mo_number, .int mo_fault, .int mo_wrongAt, .int mo_laneTold, .long mo_word, .ref a_mo_v, mo_x, .ref a_mo_past, mo_kept, .int mo_acts', .int mo_marks, mo_put, mo_bestPut, .long mo_bestSum, mo_row, mo_best, mo_left, .int mo_bestSize, .int mo_bestLeft, mo_counts, .int mo_sets, .int mo_foeHarm, .int mo_ownHarm, .int mo_across, .int mo_sumFoe, .int mo_sumOwn, .int mo_sumWon, .int mo_sumAcross])), (a_mo_v, .inl (cy 1, 19, .inl mo_v)), (a_mo_past, .inl (cy 1, 304, .inl mo_past'))] ++ X)) A) (([.ref a_mo] : List Value).toArray) s 0 0 A) (F0 m 49 ls []) := by
    intro mo_acts_1 mo_past_2 h H locs hP hD hS ls hl
    unfold f_X13_remembers_B49 at h
    refine lv_iconst (v := 0) hx hb dX13_remembers_49 (by decide) ?_
    refine lv_istore_n (lv' := [(1, .int 0), (0, .ref a_mo)]) hx hb dX13_remembers_50 rfl hl (by decide) rfl (fun ls hl => ?_)
    have jn83 : ∀ (mo_past_3 : Nat → Int32), f_X13_remembers_B83 mo_v mo_acts_1 mo_past_3 = some (mo_acts', mo_past') → ∀ (H : Heap) (locs : List Loc), va_P D vwCl ([(a_mo, .inr (13, [.int mo_thrown, .int mo_trouble, .int mo_where, mo_war, mo_read, mo_tape, .int mo_taped, .int mo_size, .int mo_spot, .int mo_sort, .int mo_place, .int mo_number, .int mo_fault, .int mo_wrongAt, .int mo_laneTold, .long mo_word, .ref a_mo_v, mo_x, .ref a_mo_past, mo_kept, .int mo_acts_1, .int mo_marks, mo_put, mo_bestPut, .long mo_bestSum, mo_row, mo_best, mo_left, .int mo_bestSize, .int mo_bestLeft, mo_counts, .int mo_sets, .int mo_foeHarm, .int mo_ownHarm, .int mo_across, .int mo_sumFoe, .int mo_sumOwn, .int mo_sumWon, .int mo_sumAcross])), (a_mo_v, .inl (cy 1, 19, .inl mo_v)), (a_mo_past, .inl (cy 1, 304, .inl mo_past_3))] ++ X) H → va_D A ([(a_mo, .inr (13, [.int mo_thrown, .int mo_trouble, .int mo_where, mo_war, mo_read, mo_tape, .int mo_taped, .int mo_size, .int mo_spot, .int mo_sort, .int mo_place, .int mo_number, .int mo_fault, .int mo_wrongAt, .int mo_laneTold, .long mo_word, .ref a_mo_v, mo_x, .ref a_mo_past, mo_kept, .int mo_acts_1, .int mo_marks, mo_put, mo_bestPut, .long mo_bestSum, mo_row, mo_best, mo_left, .int mo_bestSize, .int mo_bestLeft, mo_counts, .int mo_sets, .int mo_foeHarm, .int mo_ownHarm, .int mo_across, .int mo_sumFoe, .int mo_sumOwn, .int mo_sumWon, .int mo_sumAcross])), (a_mo_v, .inl (cy 1, 19, .inl mo_v)), (a_mo_past, .inl (cy 1, 304, .inl mo_past_3))] ++ X) → va_S A s.heap H locs → ∀ ls : Array Slot, lv_has ls 2 [(0, .ref a_mo)] → W p l e (headSpec wo_X13_remembers ({ frames := 0, cells := 0, slots := 0, locals := 0 })).room s m (([.ref a_mo] : List Value).toArray) below meth c H locs 0 0 (MQ below (va_Qv (fun (_ : Unit) => True) (wB D A ([(a_mo, .inr (13, [.int mo_thrown, .int mo_trouble, .int mo_where, mo_war, mo_read, mo_tape, .int mo_taped, .int mo_size, .int mo_spot, .int mo_sort, .int mo_place, .int mo_number, .int mo_fault, .int mo_wrongAt, .int mo_laneTold, .long mo_word, .ref a_mo_v, mo_x, .ref a_mo_past, mo_kept, .int mo_acts', .int mo_marks, mo_put, mo_bestPut, .long mo_bestSum, mo_row, mo_best, mo_left, .int mo_bestSize, .int mo_bestLeft, mo_counts, .int mo_sets, .int mo_foeHarm, .int mo_ownHarm, .int mo_across, .int mo_sumFoe, .int mo_sumOwn, .int mo_sumWon, .int mo_sumAcross])), (a_mo_v, .inl (cy 1, 19, .inl mo_v)), (a_mo_past, .inl (cy 1, 304, .inl mo_past'))] ++ X)) A) (([.ref a_mo] : List Value).toArray) s 0 0 A) (F0 m 83 ls []) := by
      intro mo_past_3 h H locs hP hD hS ls hl
      unfold f_X13_remembers_B83 at h
      refine lv_aload_n hx hb dX13_remembers_83 rfl (lv_at hl 0 rfl) ?_
      refine lv_dup hx hb dX13_remembers_84 rfl ?_
      refine va_get (D := D) (ci := 13) (C := RX13) (T := TX13) (N := 39) (v := .int mo_acts_1) hx hb hX13 (fun _ q => q) hown hK hP 0 rfl rfl 20 (by decide) (hts (.fieldLink RX13 304 "ElephantLineModel" "acts" "I") (by decide +kernel)) (fun _ h9 => h9) rfl dX13_remembers_85 ?_
      refine lv_iconst (v := 1) hx hb dX13_remembers_88 (by decide) ?_
      refine lv_iadd hx hb dX13_remembers_89 ?_
      refine va_put (D := D) (ci := 13) (C := RX13) (T := TX13) (N := 39) (v := .int (mo_acts_1 + 1)) (ty := .int) hx hb hX13 (fun _ q => q) tyX13 tyX13_ok nmX13 hown hK hP hD hS 0 rfl rfl 20 (by decide) (hts (.fieldLink RX13 304 "ElephantLineModel" "acts" "I") (by decide +kernel)) (fun _ h9 => h9) rfl (tyX13_ok 20 (by decide)) rfl rfl (Nat.le_of_ble_eq_true rfl) dX13_remembers_90 (fun H locs hP hD hS => ?_)
      cases h
      exact W.vret hx hb hr (fun t ht _ => ⟨⟨(), rfl, trivial, by rw [ht]; exact hP, hD⟩, hS.F ht⟩) hS.2.2 dX13_remembers_93
    have lp51 : ∀ (n51 : Nat) (x1_4 : Int32) (mo_past_5 : Nat → Int32), f_X13_remembers_L51 mo_v mo_acts_1 n51 x1_4 mo_past_5 = some (mo_acts', mo_past') → ∀ (H : Heap) (locs : List Loc), va_P D vwCl ([(a_mo, .inr (13, [.int mo_thrown, .int mo_trouble, .int mo_where, mo_war, mo_read, mo_tape, .int mo_taped, .int mo_size, .int mo_spot, .int mo_sort, .int mo_place, .int mo_number, .int mo_fault, .int mo_wrongAt, .int mo_laneTold, .long mo_word, .ref a_mo_v, mo_x, .ref a_mo_past, mo_kept, .int mo_acts_1, .int mo_marks, mo_put, mo_bestPut, .long mo_bestSum, mo_row, mo_best, mo_left, .int mo_bestSize, .int mo_bestLeft, mo_counts, .int mo_sets, .int mo_foeHarm, .int mo_ownHarm, .int mo_across, .int mo_sumFoe, .int mo_sumOwn, .int mo_sumWon, .int mo_sumAcross])), (a_mo_v, .inl (cy 1, 19, .inl mo_v)), (a_mo_past, .inl (cy 1, 304, .inl mo_past_5))] ++ X) H → va_D A ([(a_mo, .inr (13, [.int mo_thrown, .int mo_trouble, .int mo_where, mo_war, mo_read, mo_tape, .int mo_taped, .int mo_size, .int mo_spot, .int mo_sort, .int mo_place, .int mo_number, .int mo_fault, .int mo_wrongAt, .int mo_laneTold, .long mo_word, .ref a_mo_v, mo_x, .ref a_mo_past, mo_kept, .int mo_acts_1, .int mo_marks, mo_put, mo_bestPut, .long mo_bestSum, mo_row, mo_best, mo_left, .int mo_bestSize, .int mo_bestLeft, mo_counts, .int mo_sets, .int mo_foeHarm, .int mo_ownHarm, .int mo_across, .int mo_sumFoe, .int mo_sumOwn, .int mo_sumWon, .int mo_sumAcross])), (a_mo_v, .inl (cy 1, 19, .inl mo_v)), (a_mo_past, .inl (cy 1, 304, .inl mo_past_5))] ++ X) → va_S A s.heap H locs → ∀ ls : Array Slot, lv_has ls 2 [(0, .ref a_mo), (1, .int x1_4)] → W p l e (headSpec wo_X13_remembers ({ frames := 0, cells := 0, slots := 0, locals := 0 })).room s m (([.ref a_mo] : List Value).toArray) below meth c H locs 0 0 (MQ below (va_Qv (fun (_ : Unit) => True) (wB D A ([(a_mo, .inr (13, [.int mo_thrown, .int mo_trouble, .int mo_where, mo_war, mo_read, mo_tape, .int mo_taped, .int mo_size, .int mo_spot, .int mo_sort, .int mo_place, .int mo_number, .int mo_fault, .int mo_wrongAt, .int mo_laneTold, .long mo_word, .ref a_mo_v, mo_x, .ref a_mo_past, mo_kept, .int mo_acts', .int mo_marks, mo_put, mo_bestPut, .long mo_bestSum, mo_row, mo_best, mo_left, .int mo_bestSize, .int mo_bestLeft, mo_counts, .int mo_sets, .int mo_foeHarm, .int mo_ownHarm, .int mo_across, .int mo_sumFoe, .int mo_sumOwn, .int mo_sumWon, .int mo_sumAcross])), (a_mo_v, .inl (cy 1, 19, .inl mo_v)), (a_mo_past, .inl (cy 1, 304, .inl mo_past'))] ++ X)) A) (([.ref a_mo] : List Value).toArray) s 0 0 A) (F0 m 51 ls []) := by
      intro n51
      induction n51 with
      | zero => intro x1_4 mo_past_5 h; exact absurd (show (none : Option (Int32 × (Nat → Int32))) = some _ from h) (by intro q; cases q)
      | succ n51 ih51 =>
        intro x1_4 mo_past_5 h H locs hP hD hS ls hl
        have h : f_X13_remembers_b51 mo_v mo_acts_1 (f_X13_remembers_L51 mo_v mo_acts_1 n51) x1_4 mo_past_5 = some (mo_acts', mo_past') := h
        unfold f_X13_remembers_b51 at h
        refine lv_iload_n hx hb dX13_remembers_51 rfl (lv_at hl 1 rfl) ?_
        refine lv_bipush (v := 19) hx hb dX13_remembers_52 (by decide) ?_
        refine lv_icmp_ge (tgt := 83) hx hb dX13_remembers_54 (by decide) (fun cd => ?_) (fun cd => ?_)
        · have h := ifT cd h
          exact jn83 mo_past_5 h _ _ hP hD hS _ (lv_sub hl [0] rfl)
        · have h := ifF cd h
          refine lv_aload_n hx hb dX13_remembers_57 rfl (lv_at hl 0 rfl) ?_
          refine va_get (D := D) (ci := 13) (C := RX13) (T := TX13) (N := 39) (v := .ref a_mo_past) hx hb hX13 (fun _ q => q) hown hK hP 0 rfl rfl 18 (by decide) (hts (.fieldLink RX13 24 "ElephantLineModel" "past" "[I") (by decide +kernel)) (fun _ h9 => h9) rfl dX13_remembers_58 ?_
          refine lv_bipush (v := 19) hx hb dX13_remembers_61 (by decide) ?_
          refine lv_aload_n hx hb dX13_remembers_63 rfl (lv_at hl 0 rfl) ?_
          refine va_get (D := D) (ci := 13) (C := RX13) (T := TX13) (N := 39) (v := .int mo_acts_1) hx hb hX13 (fun _ q => q) hown hK hP 0 rfl rfl 20 (by decide) (hts (.fieldLink RX13 304 "ElephantLineModel" "acts" "I") (by decide +kernel)) (fun _ h9 => h9) rfl dX13_remembers_64 ?_
          refine lv_imul hx hb dX13_remembers_67 ?_
          refine lv_iload_n hx hb dX13_remembers_68 rfl (lv_at hl 1 rfl) ?_
          refine lv_iadd hx hb dX13_remembers_69 ?_
          refine lv_aload_n hx hb dX13_remembers_70 rfl (lv_at hl 0 rfl) ?_
          refine va_get (D := D) (ci := 13) (C := RX13) (T := TX13) (N := 39) (v := .ref a_mo_v) hx hb hX13 (fun _ q => q) hown hK hP 0 rfl rfl 16 (by decide) (hts (.fieldLink RX13 17 "ElephantLineModel" "v" "[I") (by decide +kernel)) (fun _ h9 => h9) rfl dX13_remembers_71 ?_
          refine lv_iload_n hx hb dX13_remembers_74 rfl (lv_at hl 1 rfl) ?_
          obtain ⟨i_6, h⟩ := gIn_some h
          refine va_iald hx hb hK hP 1 1 rfl rfl i_6 dX13_remembers_75 ?_
          obtain ⟨i_7, h⟩ := gIn_some h
          refine va_iast hx hb hK hP hD hS 2 1 rfl rfl i_7 dX13_remembers_76 (fun H locs hP hD hS => ?_)
          refine lv_iinc (v := x1_4 + 1) (lv' := [(1, .int (x1_4 + 1)), (0, .ref a_mo)]) hx hb dX13_remembers_77 hl (k := 1) rfl (by first | rfl | decide) (by decide) rfl (fun ls hl => ?_)
          refine lv_goto (tgt := 51) hx hb dX13_remembers_80 (by decide) ?_
          exact ih51 (x1_4 + 1) (upd mo_past_5 ((19 * mo_acts_1) + x1_4).toNatClampNeg (mo_v x1_4.toNatClampNeg)) h _ _ hP hD hS _ (lv_sub hl [1, 0] rfl)
    exact lp51 fuelN (0 : Int32) mo_past_2 h _ _ hP hD hS _ (lv_sub hl [1, 0] rfl)
  refine lv_icmp_ne (tgt := 49) hx hb dX13_remembers_6 (by decide) (fun cd => ?_) (fun cd => ?_)
  · have h := ifF cd h
    exact jn49 mo_acts mo_past h _ _ hP hD hS _ (lv_sub hl [0] rfl)
  · have h := ifT cd h
    refine lv_iconst (v := 0) hx hb dX13_remembers_9 (by decide) ?_
    refine lv_istore_n (lv' := [(1, .int 0), (0, .ref a_mo)]) hx hb dX13_remembers_10 rfl hl (by decide) rfl (fun ls hl => ?_)
    have jn39 : ∀ (mo_past_8 : Nat → Int32), f_X13_remembers_B39 mo_v mo_acts mo_past_8 = some (mo_acts', mo_past') → ∀ (H : Heap) (locs : List Loc), va_P D vwCl ([(a_mo, .inr (13, [.int mo_thrown, .int mo_trouble, .int mo_where, mo_war, mo_read, mo_tape, .int mo_taped, .int mo_size, .int mo_spot, .int mo_sort, .int mo_place, .int mo_number, .int mo_fault, .int mo_wrongAt, .int mo_laneTold, .long mo_word, .ref a_mo_v, mo_x, .ref a_mo_past, mo_kept, .int mo_acts, .int mo_marks, mo_put, mo_bestPut, .long mo_bestSum, mo_row, mo_best, mo_left, .int mo_bestSize, .int mo_bestLeft, mo_counts, .int mo_sets, .int mo_foeHarm, .int mo_ownHarm, .int mo_across, .int mo_sumFoe, .int mo_sumOwn, .int mo_sumWon, .int mo_sumAcross])), (a_mo_v, .inl (cy 1, 19, .inl mo_v)), (a_mo_past, .inl (cy 1, 304, .inl mo_past_8))] ++ X) H → va_D A ([(a_mo, .inr (13, [.int mo_thrown, .int mo_trouble, .int mo_where, mo_war, mo_read, mo_tape, .int mo_taped, .int mo_size, .int mo_spot, .int mo_sort, .int mo_place, .int mo_number, .int mo_fault, .int mo_wrongAt, .int mo_laneTold, .long mo_word, .ref a_mo_v, mo_x, .ref a_mo_past, mo_kept, .int mo_acts, .int mo_marks, mo_put, mo_bestPut, .long mo_bestSum, mo_row, mo_best, mo_left, .int mo_bestSize, .int mo_bestLeft, mo_counts, .int mo_sets, .int mo_foeHarm, .int mo_ownHarm, .int mo_across, .int mo_sumFoe, .int mo_sumOwn, .int mo_sumWon, .int mo_sumAcross])), (a_mo_v, .inl (cy 1, 19, .inl mo_v)), (a_mo_past, .inl (cy 1, 304, .inl mo_past_8))] ++ X) → va_S A s.heap H locs → ∀ ls : Array Slot, lv_has ls 2 [(0, .ref a_mo)] → W p l e (headSpec wo_X13_remembers ({ frames := 0, cells := 0, slots := 0, locals := 0 })).room s m (([.ref a_mo] : List Value).toArray) below meth c H locs 0 0 (MQ below (va_Qv (fun (_ : Unit) => True) (wB D A ([(a_mo, .inr (13, [.int mo_thrown, .int mo_trouble, .int mo_where, mo_war, mo_read, mo_tape, .int mo_taped, .int mo_size, .int mo_spot, .int mo_sort, .int mo_place, .int mo_number, .int mo_fault, .int mo_wrongAt, .int mo_laneTold, .long mo_word, .ref a_mo_v, mo_x, .ref a_mo_past, mo_kept, .int mo_acts', .int mo_marks, mo_put, mo_bestPut, .long mo_bestSum, mo_row, mo_best, mo_left, .int mo_bestSize, .int mo_bestLeft, mo_counts, .int mo_sets, .int mo_foeHarm, .int mo_ownHarm, .int mo_across, .int mo_sumFoe, .int mo_sumOwn, .int mo_sumWon, .int mo_sumAcross])), (a_mo_v, .inl (cy 1, 19, .inl mo_v)), (a_mo_past, .inl (cy 1, 304, .inl mo_past'))] ++ X)) A) (([.ref a_mo] : List Value).toArray) s 0 0 A) (F0 m 39 ls []) := by
      intro mo_past_8 h H locs hP hD hS ls hl
      unfold f_X13_remembers_B39 at h
      refine lv_aload_n hx hb dX13_remembers_39 rfl (lv_at hl 0 rfl) ?_
      refine lv_dup hx hb dX13_remembers_40 rfl ?_
      refine va_get (D := D) (ci := 13) (C := RX13) (T := TX13) (N := 39) (v := .int mo_acts) hx hb hX13 (fun _ q => q) hown hK hP 0 rfl rfl 20 (by decide) (hts (.fieldLink RX13 304 "ElephantLineModel" "acts" "I") (by decide +kernel)) (fun _ h9 => h9) rfl dX13_remembers_41 ?_
      refine lv_iconst (v := 1) hx hb dX13_remembers_44 (by decide) ?_
      refine lv_isub hx hb dX13_remembers_45 ?_
      refine va_put (D := D) (ci := 13) (C := RX13) (T := TX13) (N := 39) (v := .int (mo_acts - 1)) (ty := .int) hx hb hX13 (fun _ q => q) tyX13 tyX13_ok nmX13 hown hK hP hD hS 0 rfl rfl 20 (by decide) (hts (.fieldLink RX13 304 "ElephantLineModel" "acts" "I") (by decide +kernel)) (fun _ h9 => h9) rfl (tyX13_ok 20 (by decide)) rfl rfl (Nat.le_of_ble_eq_true rfl) dX13_remembers_46 (fun H locs hP hD hS => ?_)
      exact jn49 (mo_acts - 1) mo_past_8 h _ _ hP hD hS _ (lv_sub hl [0] rfl)
    have lp11 : ∀ (n11 : Nat) (x1_9 : Int32) (mo_past_10 : Nat → Int32), f_X13_remembers_L11 mo_v mo_acts n11 x1_9 mo_past_10 = some (mo_acts', mo_past') → ∀ (H : Heap) (locs : List Loc), va_P D vwCl ([(a_mo, .inr (13, [.int mo_thrown, .int mo_trouble, .int mo_where, mo_war, mo_read, mo_tape, .int mo_taped, .int mo_size, .int mo_spot, .int mo_sort, .int mo_place, .int mo_number, .int mo_fault, .int mo_wrongAt, .int mo_laneTold, .long mo_word, .ref a_mo_v, mo_x, .ref a_mo_past, mo_kept, .int mo_acts, .int mo_marks, mo_put, mo_bestPut, .long mo_bestSum, mo_row, mo_best, mo_left, .int mo_bestSize, .int mo_bestLeft, mo_counts, .int mo_sets, .int mo_foeHarm, .int mo_ownHarm, .int mo_across, .int mo_sumFoe, .int mo_sumOwn, .int mo_sumWon, .int mo_sumAcross])), (a_mo_v, .inl (cy 1, 19, .inl mo_v)), (a_mo_past, .inl (cy 1, 304, .inl mo_past_10))] ++ X) H → va_D A ([(a_mo, .inr (13, [.int mo_thrown, .int mo_trouble, .int mo_where, mo_war, mo_read, mo_tape, .int mo_taped, .int mo_size, .int mo_spot, .int mo_sort, .int mo_place, .int mo_number, .int mo_fault, .int mo_wrongAt, .int mo_laneTold, .long mo_word, .ref a_mo_v, mo_x, .ref a_mo_past, mo_kept, .int mo_acts, .int mo_marks, mo_put, mo_bestPut, .long mo_bestSum, mo_row, mo_best, mo_left, .int mo_bestSize, .int mo_bestLeft, mo_counts, .int mo_sets, .int mo_foeHarm, .int mo_ownHarm, .int mo_across, .int mo_sumFoe, .int mo_sumOwn, .int mo_sumWon, .int mo_sumAcross])), (a_mo_v, .inl (cy 1, 19, .inl mo_v)), (a_mo_past, .inl (cy 1, 304, .inl mo_past_10))] ++ X) → va_S A s.heap H locs → ∀ ls : Array Slot, lv_has ls 2 [(0, .ref a_mo), (1, .int x1_9)] → W p l e (headSpec wo_X13_remembers ({ frames := 0, cells := 0, slots := 0, locals := 0 })).room s m (([.ref a_mo] : List Value).toArray) below meth c H locs 0 0 (MQ below (va_Qv (fun (_ : Unit) => True) (wB D A ([(a_mo, .inr (13, [.int mo_thrown, .int mo_trouble, .int mo_where, mo_war, mo_read, mo_tape, .int mo_taped, .int mo_size, .int mo_spot, .int mo_sort, .int mo_place, .int mo_number, .int mo_fault, .int mo_wrongAt, .int mo_laneTold, .long mo_word, .ref a_mo_v, mo_x, .ref a_mo_past, mo_kept, .int mo_acts', .int mo_marks, mo_put, mo_bestPut, .long mo_bestSum, mo_row, mo_best, mo_left, .int mo_bestSize, .int mo_bestLeft, mo_counts, .int mo_sets, .int mo_foeHarm, .int mo_ownHarm, .int mo_across, .int mo_sumFoe, .int mo_sumOwn, .int mo_sumWon, .int mo_sumAcross])), (a_mo_v, .inl (cy 1, 19, .inl mo_v)), (a_mo_past, .inl (cy 1, 304, .inl mo_past'))] ++ X)) A) (([.ref a_mo] : List Value).toArray) s 0 0 A) (F0 m 11 ls []) := by
      intro n11
      induction n11 with
      | zero => intro x1_9 mo_past_10 h; exact absurd (show (none : Option (Int32 × (Nat → Int32))) = some _ from h) (by intro q; cases q)
      | succ n11 ih11 =>
        intro x1_9 mo_past_10 h H locs hP hD hS ls hl
        have h : f_X13_remembers_b11 mo_v mo_acts (f_X13_remembers_L11 mo_v mo_acts n11) x1_9 mo_past_10 = some (mo_acts', mo_past') := h
        unfold f_X13_remembers_b11 at h
        refine lv_iload_n hx hb dX13_remembers_11 rfl (lv_at hl 1 rfl) ?_
        refine lv_sipush (v := 285) hx hb dX13_remembers_12 (by decide) ?_
        refine lv_icmp_ge (tgt := 39) hx hb dX13_remembers_15 (by decide) (fun cd => ?_) (fun cd => ?_)
        · have h := ifT cd h
          exact jn39 mo_past_10 h _ _ hP hD hS _ (lv_sub hl [0] rfl)
        · have h := ifF cd h
          refine lv_aload_n hx hb dX13_remembers_18 rfl (lv_at hl 0 rfl) ?_
          refine va_get (D := D) (ci := 13) (C := RX13) (T := TX13) (N := 39) (v := .ref a_mo_past) hx hb hX13 (fun _ q => q) hown hK hP 0 rfl rfl 18 (by decide) (hts (.fieldLink RX13 24 "ElephantLineModel" "past" "[I") (by decide +kernel)) (fun _ h9 => h9) rfl dX13_remembers_19 ?_
          refine lv_iload_n hx hb dX13_remembers_22 rfl (lv_at hl 1 rfl) ?_
          refine lv_aload_n hx hb dX13_remembers_23 rfl (lv_at hl 0 rfl) ?_
          refine va_get (D := D) (ci := 13) (C := RX13) (T := TX13) (N := 39) (v := .ref a_mo_past) hx hb hX13 (fun _ q => q) hown hK hP 0 rfl rfl 18 (by decide) (hts (.fieldLink RX13 24 "ElephantLineModel" "past" "[I") (by decide +kernel)) (fun _ h9 => h9) rfl dX13_remembers_24 ?_
          refine lv_iload_n hx hb dX13_remembers_27 rfl (lv_at hl 1 rfl) ?_
          refine lv_bipush (v := 19) hx hb dX13_remembers_28 (by decide) ?_
          refine lv_iadd hx hb dX13_remembers_30 ?_
          obtain ⟨i_11, h⟩ := gIn_some h
          refine va_iald hx hb hK hP 2 1 rfl rfl i_11 dX13_remembers_31 ?_
          obtain ⟨i_12, h⟩ := gIn_some h
          refine va_iast hx hb hK hP hD hS 2 1 rfl rfl i_12 dX13_remembers_32 (fun H locs hP hD hS => ?_)
          refine lv_iinc (v := x1_9 + 1) (lv' := [(1, .int (x1_9 + 1)), (0, .ref a_mo)]) hx hb dX13_remembers_33 hl (k := 1) rfl (by first | rfl | decide) (by decide) rfl (fun ls hl => ?_)
          refine lv_goto (tgt := 11) hx hb dX13_remembers_36 (by decide) ?_
          exact ih11 (x1_9 + 1) (upd mo_past_10 x1_9.toNatClampNeg (mo_past_10 (x1_9 + 19).toNatClampNeg)) h _ _ hP hD hS _ (lv_sub hl [1, 0] rfl)
    exact lp11 fuelN (0 : Int32) mo_past h _ _ hP hD hS _ (lv_sub hl [1, 0] rfl)
noncomputable def f_X13_move_B21 (wa_lanes : Int32) (wa_beasts : Int32) (mo_thrown : Int32) (mo_trouble : Int32) (mo_where : Int32) (mo_acts : Int32) (mo_v : Nat → Int32) (mo_past : Nat → Int32) : Option (Int32 × Int32 × Int32 × Int32 × Int32 × (Nat → Int32) × (Nat → Int32)) :=
  bd3 (f_X13_denied mo_trouble mo_where (1 : Int32)) fun r_4 mo_trouble_5 mo_where_6 =>
  some (r_4, mo_thrown, mo_trouble_5, mo_where_6, mo_acts, mo_v, mo_past)
noncomputable def f_X13_move_B47 (wa_lanes : Int32) (wa_beasts : Int32) (mo_thrown : Int32) (mo_trouble : Int32) (mo_where : Int32) (mo_acts : Int32) (mo_v : Nat → Int32) (mo_past : Nat → Int32) : Option (Int32 × Int32 × Int32 × Int32 × Int32 × (Nat → Int32) × (Nat → Int32)) :=
  bd3 (f_X13_denied mo_trouble mo_where (5 : Int32)) fun r_13 mo_trouble_14 mo_where_15 =>
  some (r_13, mo_thrown, mo_trouble_14, mo_where_15, mo_acts, mo_v, mo_past)
noncomputable def f_X13_move (mo_thrown : Int32) (mo_trouble : Int32) (mo_where : Int32) (mo_acts : Int32) (mo_v : Nat → Int32) (mo_past : Nat → Int32) (wa_lanes : Int32) (wa_beasts : Int32) (p1 : Int32) (p2 : Int32) : Option (Int32 × Int32 × Int32 × Int32 × Int32 × (Nat → Int32) × (Nat → Int32)) :=
  bd1 (f_X13_isBeast wa_beasts p1) fun r_1 =>
  (if r_1 = 0 then
  f_X13_move_B21 wa_lanes wa_beasts 0 mo_trouble mo_where mo_acts mo_v mo_past
  else
  bd1 (f_X13_isLane wa_lanes p2) fun r_9 =>
  (if r_9 = 0 then
  f_X13_move_B21 wa_lanes wa_beasts 0 mo_trouble mo_where mo_acts mo_v mo_past
  else
  gIn (0 + p1) 19 <|
  (if (mo_v (0 + p1).toNatClampNeg) = p2 then
  f_X13_move_B47 wa_lanes wa_beasts 0 mo_trouble mo_where mo_acts mo_v mo_past
  else
  bd1 (f_X13_isDead mo_v p1) fun r_18 =>
  (if r_18 = 0 then
  bd2 (f_X13_remembers mo_acts mo_v mo_past) fun mo_acts_21 mo_past_22 =>
  gIn (0 + p1) 19 <|
  bd3 (f_X13_granted mo_trouble mo_where) fun r_25 mo_trouble_26 mo_where_27 =>
  some (r_25, 0, mo_trouble_26, mo_where_27, mo_acts_21, upd mo_v (0 + p1).toNatClampNeg p2, mo_past_22)
  else
  f_X13_move_B47 wa_lanes wa_beasts 0 mo_trouble mo_where mo_acts mo_v mo_past))))
theorem hd_X13_move : yX13_move.cls = RX13 ∧ yX13_move.cls ≠ "java/lang/invoke/MethodHandle" ∧ yX13_move.cls ≠ "java/lang/invoke/VarHandle" ∧ (parseMethodDescriptor yX13_move.desc).map (fun d => d.parameters.length) = some 2 := by decide +kernel
set_option maxHeartbeats 4000000 in
set_option maxRecDepth 100000 in
theorem c_X13_move (l : Launch) (D : va_G) (cy : Nat → ClassId) (A : Nat → Prop) (X : va_W) (a_mo a_mo_v a_mo_past a_wa : Nat) (mo_thrown : Int32) (mo_trouble : Int32) (mo_where : Int32) (mo_read : Value) (mo_tape : Value) (mo_taped : Int32) (mo_size : Int32) (mo_spot : Int32) (mo_sort : Int32) (mo_place : Int32) (mo_number : Int32) (mo_fault : Int32) (mo_wrongAt : Int32) (mo_laneTold : Int32) (mo_word : Int64) (mo_x : Value) (mo_kept : Value) (mo_acts : Int32) (mo_marks : Int32) (mo_put : Value) (mo_bestPut : Value) (mo_bestSum : Int64) (mo_row : Value) (mo_best : Value) (mo_left : Value) (mo_bestSize : Int32) (mo_bestLeft : Int32) (mo_counts : Value) (mo_sets : Int32) (mo_foeHarm : Int32) (mo_ownHarm : Int32) (mo_across : Int32) (mo_sumFoe : Int32) (mo_sumOwn : Int32) (mo_sumWon : Int32) (mo_sumAcross : Int32) (mo_v : Nat → Int32) (mo_past : Nat → Int32) (wa_lanes : Int32) (wa_deep : Int32) (wa_told : Int32) (wa_beasts : Int32) (wa_cities : Int32) (wa_passes : Int32) (wa_turned : Int32) (wa_names : Int32) (wa_who : Value) (wa_strong : Value) (wa_kind : Value) (wa_lane : Value) (wa_mood : Value) (wa_price : Value) (wa_loses : Value) (wa_name : Value) (wa_nameSort : Value) (wa_numberOf : Value) (p1 : Int32) (p2 : Int32) (res : Int32) (mo_thrown' : Int32) (mo_trouble' : Int32) (mo_where' : Int32) (mo_acts' : Int32) (mo_v' : Nat → Int32) (mo_past' : Nat → Int32) (h : f_X13_move mo_thrown mo_trouble mo_where mo_acts mo_v mo_past wa_lanes wa_beasts p1 p2 = some (res, mo_thrown', mo_trouble', mo_where', mo_acts', mo_v', mo_past')) : Met l yX13_move wo_X13_move ({ frames := 2, cells := 0, slots := 0, locals := 42 }) (wrPc D cy A [.ref a_mo, .int p1, .int p2] ([(a_mo, .inr (13, [.int mo_thrown, .int mo_trouble, .int mo_where, .ref a_wa, mo_read, mo_tape, .int mo_taped, .int mo_size, .int mo_spot, .int mo_sort, .int mo_place, .int mo_number, .int mo_fault, .int mo_wrongAt, .int mo_laneTold, .long mo_word, .ref a_mo_v, mo_x, .ref a_mo_past, mo_kept, .int mo_acts, .int mo_marks, mo_put, mo_bestPut, .long mo_bestSum, mo_row, mo_best, mo_left, .int mo_bestSize, .int mo_bestLeft, mo_counts, .int mo_sets, .int mo_foeHarm, .int mo_ownHarm, .int mo_across, .int mo_sumFoe, .int mo_sumOwn, .int mo_sumWon, .int mo_sumAcross])), (a_mo_v, .inl (cy 1, 19, .inl mo_v)), (a_mo_past, .inl (cy 1, 304, .inl mo_past)), (a_wa, .inr (12, [.int wa_lanes, .int wa_deep, .int wa_told, .int wa_beasts, .int wa_cities, .int wa_passes, .int wa_turned, .int wa_names, wa_who, wa_strong, wa_kind, wa_lane, wa_mood, wa_price, wa_loses, wa_name, wa_nameSort, wa_numberOf]))] ++ X)) (va_Qi (fun (r : Int32) (_ : Unit) => r = res ∧ nbv r) (wB D A ([(a_mo, .inr (13, [.int mo_thrown', .int mo_trouble', .int mo_where', .ref a_wa, mo_read, mo_tape, .int mo_taped, .int mo_size, .int mo_spot, .int mo_sort, .int mo_place, .int mo_number, .int mo_fault, .int mo_wrongAt, .int mo_laneTold, .long mo_word, .ref a_mo_v, mo_x, .ref a_mo_past, mo_kept, .int mo_acts', .int mo_marks, mo_put, mo_bestPut, .long mo_bestSum, mo_row, mo_best, mo_left, .int mo_bestSize, .int mo_bestLeft, mo_counts, .int mo_sets, .int mo_foeHarm, .int mo_ownHarm, .int mo_across, .int mo_sumFoe, .int mo_sumOwn, .int mo_sumWon, .int mo_sumAcross])), (a_mo_v, .inl (cy 1, 19, .inl mo_v')), (a_mo_past, .inl (cy 1, 304, .inl mo_past')), (a_wa, .inr (12, [.int wa_lanes, .int wa_deep, .int wa_told, .int wa_beasts, .int wa_cities, .int wa_passes, .int wa_turned, .int wa_names, wa_who, wa_strong, wa_kind, wa_lane, wa_mood, wa_price, wa_loses, wa_name, wa_nameSort, wa_numberOf]))] ++ X)) A) 0 0 A := by
  refine Met.ofW (cc := cX13_move) (maxL := 3) (ret := (some .boolean)) (by decide) rfl ?_
  intro p e s m args below meth c s₁ B hml hv
  obtain ⟨rfl, hP, hKN, hD, hA⟩ := hv
  have hK := hKN.1
  have hx := B.exec
  have hb := B.bytes
  have hr := B.returns
  have hts := wt_X13_move hKN.2.2 (([.ref a_mo, .int p1, .int p2] : List Value).toArray)
  have hown : s.vm.findClass RX13 = some m.cls := findClass_of_methodNamed B.named
  have hlocks := B.notSynchronized
  have hS : va_S A s.heap s.heap [] := va_S.rf
  have hX13 := wc_X13 hKN.2.2 (([.ref a_mo, .int p1, .int p2] : List Value).toArray)
  have hl := lv_entry ([.ref a_mo, .int p1, .int p2]) (n := 3) (Nat.le_of_ble_eq_true rfl)
  rw [lg_entry_eq]
  generalize (lg_sl ([.ref a_mo, .int p1, .int p2]) ++ List.replicate (3 - (lg_sl ([.ref a_mo, .int p1, .int p2])).length) Slot.unset).toArray = ls at hl ⊢
  have hl : lv_has ls 3 [(0, .ref a_mo), (1, .int p1), (2, .int p2)] := hl
  unfold f_X13_move at h
  refine lv_aload_n hx hb dX13_move_0 rfl (lv_at hl 0 rfl) ?_
  refine lv_iconst (v := 0) hx hb dX13_move_1 (by decide) ?_
  refine va_put (D := D) (ci := 13) (C := RX13) (T := TX13) (N := 39) (v := .int 0) (ty := .int) hx hb hX13 (fun _ q => q) tyX13 tyX13_ok nmX13 hown hK hP hD hS 0 rfl rfl 0 (by decide) (hts (.fieldLink RX13 48 "ElephantLineModel" "thrown" "I") (by decide +kernel)) (fun _ h9 => h9) rfl (tyX13_ok 0 (by decide)) rfl rfl (Nat.le_of_ble_eq_true rfl) dX13_move_2 (fun H locs hP hD hS => ?_)
  refine lv_aload_n hx hb dX13_move_5 rfl (lv_at hl 0 rfl) ?_
  refine lv_iload_n hx hb dX13_move_6 rfl (lv_at hl 1 rfl) ?_
  have hP : va_P D vwCl ([(a_mo, .inr (13, [.int 0, .int mo_trouble, .int mo_where, .ref a_wa, mo_read, mo_tape, .int mo_taped, .int mo_size, .int mo_spot, .int mo_sort, .int mo_place, .int mo_number, .int mo_fault, .int mo_wrongAt, .int mo_laneTold, .long mo_word, .ref a_mo_v, mo_x, .ref a_mo_past, mo_kept, .int mo_acts, .int mo_marks, mo_put, mo_bestPut, .long mo_bestSum, mo_row, mo_best, mo_left, .int mo_bestSize, .int mo_bestLeft, mo_counts, .int mo_sets, .int mo_foeHarm, .int mo_ownHarm, .int mo_across, .int mo_sumFoe, .int mo_sumOwn, .int mo_sumWon, .int mo_sumAcross])), (a_mo_v, .inl (cy 1, 19, .inl mo_v)), (a_mo_past, .inl (cy 1, 304, .inl mo_past)), (a_wa, .inr (12, [.int wa_lanes, .int wa_deep, .int wa_told, .int wa_beasts, .int wa_cities, .int wa_passes, .int wa_turned, .int wa_names, wa_who, wa_strong, wa_kind, wa_lane, wa_mood, wa_price, wa_loses, wa_name, wa_nameSort, wa_numberOf]))] ++ X) H := hP
  have hD : va_D A ([(a_mo, .inr (13, [.int 0, .int mo_trouble, .int mo_where, .ref a_wa, mo_read, mo_tape, .int mo_taped, .int mo_size, .int mo_spot, .int mo_sort, .int mo_place, .int mo_number, .int mo_fault, .int mo_wrongAt, .int mo_laneTold, .long mo_word, .ref a_mo_v, mo_x, .ref a_mo_past, mo_kept, .int mo_acts, .int mo_marks, mo_put, mo_bestPut, .long mo_bestSum, mo_row, mo_best, mo_left, .int mo_bestSize, .int mo_bestLeft, mo_counts, .int mo_sets, .int mo_foeHarm, .int mo_ownHarm, .int mo_across, .int mo_sumFoe, .int mo_sumOwn, .int mo_sumWon, .int mo_sumAcross])), (a_mo_v, .inl (cy 1, 19, .inl mo_v)), (a_mo_past, .inl (cy 1, 304, .inl mo_past)), (a_wa, .inr (12, [.int wa_lanes, .int wa_deep, .int wa_told, .int wa_beasts, .int wa_cities, .int wa_passes, .int wa_turned, .int wa_names, wa_who, wa_strong, wa_kind, wa_lane, wa_mood, wa_price, wa_loses, wa_name, wa_nameSort, wa_numberOf]))] ++ X) := hD
  obtain ⟨r_1, hc_2, h⟩ := bd1_some h
  refine kVb [.int p1] [] ⟨hx, hb, hml, hown, hts⟩ (c_X13_isBeast l D cy a_mo a_wa 0 mo_trouble mo_where (mo_read) (mo_tape) mo_taped mo_size mo_spot mo_sort mo_place mo_number mo_fault mo_wrongAt mo_laneTold mo_word (.ref a_mo_v) (mo_x) (.ref a_mo_past) (mo_kept) mo_acts mo_marks (mo_put) (mo_bestPut) mo_bestSum (mo_row) (mo_best) (mo_left) mo_bestSize mo_bestLeft (mo_counts) mo_sets mo_foeHarm mo_ownHarm mo_across mo_sumFoe mo_sumOwn mo_sumWon mo_sumAcross wa_lanes wa_deep wa_told wa_beasts wa_cities wa_passes wa_turned wa_names (wa_who) (wa_strong) (wa_kind) (wa_lane) (wa_mood) (wa_price) (wa_loses) (wa_name) (wa_nameSort) (wa_numberOf) p1 r_1 hc_2) gX13_move_X13_isBeast rfl hd_X13_isBeast ⟨Nat.le_of_ble_eq_true rfl, Nat.le_of_ble_eq_true rfl⟩ rfl rfl hKN (pXc hP [0, 3] rfl) 13 0 rfl rfl rfl hl.1 rfl (Nat.le_of_ble_eq_true rfl) dX13_move_7 ⟨Nat.le_of_ble_eq_true rfl, Nat.le_of_ble_eq_true rfl⟩ (fun nb_3 => ?_)
  have jn21 : f_X13_move_B21 wa_lanes wa_beasts 0 mo_trouble mo_where mo_acts mo_v mo_past = some (res, mo_thrown', mo_trouble', mo_where', mo_acts', mo_v', mo_past') → ∀ (H : Heap) (locs : List Loc), va_P D vwCl ([(a_mo, .inr (13, [.int 0, .int mo_trouble, .int mo_where, .ref a_wa, mo_read, mo_tape, .int mo_taped, .int mo_size, .int mo_spot, .int mo_sort, .int mo_place, .int mo_number, .int mo_fault, .int mo_wrongAt, .int mo_laneTold, .long mo_word, .ref a_mo_v, mo_x, .ref a_mo_past, mo_kept, .int mo_acts, .int mo_marks, mo_put, mo_bestPut, .long mo_bestSum, mo_row, mo_best, mo_left, .int mo_bestSize, .int mo_bestLeft, mo_counts, .int mo_sets, .int mo_foeHarm, .int mo_ownHarm, .int mo_across, .int mo_sumFoe, .int mo_sumOwn, .int mo_sumWon, .int mo_sumAcross])), (a_mo_v, .inl (cy 1, 19, .inl mo_v)), (a_mo_past, .inl (cy 1, 304, .inl mo_past)), (a_wa, .inr (12, [.int wa_lanes, .int wa_deep, .int wa_told, .int wa_beasts, .int wa_cities, .int wa_passes, .int wa_turned, .int wa_names, wa_who, wa_strong, wa_kind, wa_lane, wa_mood, wa_price, wa_loses, wa_name, wa_nameSort, wa_numberOf]))] ++ X) H → va_D A ([(a_mo, .inr (13, [.int 0, .int mo_trouble, .int mo_where, .ref a_wa, mo_read, mo_tape, .int mo_taped, .int mo_size, .int mo_spot, .int mo_sort, .int mo_place, .int mo_number, .int mo_fault, .int mo_wrongAt, .int mo_laneTold, .long mo_word, .ref a_mo_v, mo_x, .ref a_mo_past, mo_kept, .int mo_acts, .int mo_marks, mo_put, mo_bestPut, .long mo_bestSum, mo_row, mo_best, mo_left, .int mo_bestSize, .int mo_bestLeft, mo_counts, .int mo_sets, .int mo_foeHarm, .int mo_ownHarm, .int mo_across, .int mo_sumFoe, .int mo_sumOwn, .int mo_sumWon, .int mo_sumAcross])), (a_mo_v, .inl (cy 1, 19, .inl mo_v)), (a_mo_past, .inl (cy 1, 304, .inl mo_past)), (a_wa, .inr (12, [.int wa_lanes, .int wa_deep, .int wa_told, .int wa_beasts, .int wa_cities, .int wa_passes, .int wa_turned, .int wa_names, wa_who, wa_strong, wa_kind, wa_lane, wa_mood, wa_price, wa_loses, wa_name, wa_nameSort, wa_numberOf]))] ++ X) → va_S A s.heap H locs → ∀ ls : Array Slot, lv_has ls 3 [(0, .ref a_mo)] → W p l e (headSpec wo_X13_move ({ frames := 2, cells := 0, slots := 0, locals := 42 })).room s m (([.ref a_mo, .int p1, .int p2] : List Value).toArray) below meth c H locs 0 0 (MQ below (va_Qi (fun (r : Int32) (_ : Unit) => r = res ∧ nbv r) (wB D A ([(a_mo, .inr (13, [.int mo_thrown', .int mo_trouble', .int mo_where', .ref a_wa, mo_read, mo_tape, .int mo_taped, .int mo_size, .int mo_spot, .int mo_sort, .int mo_place, .int mo_number, .int mo_fault, .int mo_wrongAt, .int mo_laneTold, .long mo_word, .ref a_mo_v, mo_x, .ref a_mo_past, mo_kept, .int mo_acts', .int mo_marks, mo_put, mo_bestPut, .long mo_bestSum, mo_row, mo_best, mo_left, .int mo_bestSize, .int mo_bestLeft, mo_counts, .int mo_sets, .int mo_foeHarm, .int mo_ownHarm, .int mo_across, .int mo_sumFoe, .int mo_sumOwn, .int mo_sumWon, .int mo_sumAcross])), (a_mo_v, .inl (cy 1, 19, .inl mo_v')), (a_mo_past, .inl (cy 1, 304, .inl mo_past')), (a_wa, .inr (12, [.int wa_lanes, .int wa_deep, .int wa_told, .int wa_beasts, .int wa_cities, .int wa_passes, .int wa_turned, .int wa_names, wa_who, wa_strong, wa_kind, wa_lane, wa_mood, wa_price, wa_loses, wa_name, wa_nameSort, wa_numberOf]))] ++ X)) A) (([.ref a_mo, .int p1, .int p2] : List Value).toArray) s 0 0 A) (F0 m 21 ls []) := by
    intro h H locs hP hD hS ls hl
    unfold f_X13_move_B21 at h
    refine lv_aload_n hx hb dX13_move_21 rfl (lv_at hl 0 rfl) ?_
    refine lv_iconst (v := 1) hx hb dX13_move_22 (by decide) ?_
    obtain ⟨r_4, mo_trouble_5, mo_where_6, hc_7, h⟩ := bd3_some h
    refine wVb [.int 1] [] ⟨hx, hb, hml, hown, hts⟩ (c_X13_denied l D cy A ([(a_mo_v, .inl (cy 1, 19, .inl mo_v)), (a_mo_past, .inl (cy 1, 304, .inl mo_past)), (a_wa, .inr (12, [.int wa_lanes, .int wa_deep, .int wa_told, .int wa_beasts, .int wa_cities, .int wa_passes, .int wa_turned, .int wa_names, wa_who, wa_strong, wa_kind, wa_lane, wa_mood, wa_price, wa_loses, wa_name, wa_nameSort, wa_numberOf]))] ++ X) a_mo 0 mo_trouble mo_where (.ref a_wa) (mo_read) (mo_tape) mo_taped mo_size mo_spot mo_sort mo_place mo_number mo_fault mo_wrongAt mo_laneTold mo_word (.ref a_mo_v) (mo_x) (.ref a_mo_past) (mo_kept) mo_acts mo_marks (mo_put) (mo_bestPut) mo_bestSum (mo_row) (mo_best) (mo_left) mo_bestSize mo_bestLeft (mo_counts) mo_sets mo_foeHarm mo_ownHarm mo_across mo_sumFoe mo_sumOwn mo_sumWon mo_sumAcross (1 : Int32) r_4 mo_trouble_5 mo_where_6 hc_7) gX13_move_X13_denied rfl hd_X13_denied ⟨Nat.le_of_ble_eq_true rfl, Nat.le_of_ble_eq_true rfl⟩ rfl rfl hKN (pX3 hP [0, 1, 2, 3] rfl) (dX3 hD [0, 1, 2, 3] rfl rfl) hS hA 13 0 rfl rfl rfl hl.1 rfl (Nat.le_of_ble_eq_true rfl) dX13_move_23 ⟨Nat.le_of_ble_eq_true rfl, Nat.le_of_ble_eq_true rfl⟩ (fun nb_8 H locs hP hD hS => ?_)
    have hP := pX4 (L1 := [(a_mo, .inr (13, [.int 0, .int mo_trouble_5, .int mo_where_6, .ref a_wa, mo_read, mo_tape, .int mo_taped, .int mo_size, .int mo_spot, .int mo_sort, .int mo_place, .int mo_number, .int mo_fault, .int mo_wrongAt, .int mo_laneTold, .long mo_word, .ref a_mo_v, mo_x, .ref a_mo_past, mo_kept, .int mo_acts, .int mo_marks, mo_put, mo_bestPut, .long mo_bestSum, mo_row, mo_best, mo_left, .int mo_bestSize, .int mo_bestLeft, mo_counts, .int mo_sets, .int mo_foeHarm, .int mo_ownHarm, .int mo_across, .int mo_sumFoe, .int mo_sumOwn, .int mo_sumWon, .int mo_sumAcross])), (a_mo_v, .inl (cy 1, 19, .inl mo_v)), (a_mo_past, .inl (cy 1, 304, .inl mo_past)), (a_wa, .inr (12, [.int wa_lanes, .int wa_deep, .int wa_told, .int wa_beasts, .int wa_cities, .int wa_passes, .int wa_turned, .int wa_names, wa_who, wa_strong, wa_kind, wa_lane, wa_mood, wa_price, wa_loses, wa_name, wa_nameSort, wa_numberOf]))]) hP [0, 1, 2, 3] rfl
    have hD := dX4 (L1 := [(a_mo, .inr (13, [.int 0, .int mo_trouble_5, .int mo_where_6, .ref a_wa, mo_read, mo_tape, .int mo_taped, .int mo_size, .int mo_spot, .int mo_sort, .int mo_place, .int mo_number, .int mo_fault, .int mo_wrongAt, .int mo_laneTold, .long mo_word, .ref a_mo_v, mo_x, .ref a_mo_past, mo_kept, .int mo_acts, .int mo_marks, mo_put, mo_bestPut, .long mo_bestSum, mo_row, mo_best, mo_left, .int mo_bestSize, .int mo_bestLeft, mo_counts, .int mo_sets, .int mo_foeHarm, .int mo_ownHarm, .int mo_across, .int mo_sumFoe, .int mo_sumOwn, .int mo_sumWon, .int mo_sumAcross])), (a_mo_v, .inl (cy 1, 19, .inl mo_v)), (a_mo_past, .inl (cy 1, 304, .inl mo_past)), (a_wa, .inr (12, [.int wa_lanes, .int wa_deep, .int wa_told, .int wa_beasts, .int wa_cities, .int wa_passes, .int wa_turned, .int wa_names, wa_who, wa_strong, wa_kind, wa_lane, wa_mood, wa_price, wa_loses, wa_name, wa_nameSort, wa_numberOf]))]) hD [0, 1, 2, 3] rfl rfl
    cases h
    exact W.zret (ty := .boolean) hx hb hr (nbv.n nb_8) (fun t ht _ => ⟨⟨_, (), rfl, ⟨rfl, nb_8⟩, by rw [ht]; exact hP, hD⟩, hS.F ht⟩) hS.2.2 dX13_move_26
  refine lv_if_eq (tgt := 21) hx hb dX13_move_10 (by decide) (fun cd => ?_) (fun cd => ?_)
  · have h := ifT cd h
    exact jn21 h _ _ hP hD hS _ (lv_sub hl [0] rfl)
  · have h := ifF cd h
    refine lv_aload_n hx hb dX13_move_13 rfl (lv_at hl 0 rfl) ?_
    refine lv_iload_n hx hb dX13_move_14 rfl (lv_at hl 2 rfl) ?_
    obtain ⟨r_9, hc_10, h⟩ := bd1_some h
    refine kVb [.int p2] [] ⟨hx, hb, hml, hown, hts⟩ (c_X13_isLane l D cy a_mo a_wa 0 mo_trouble mo_where (mo_read) (mo_tape) mo_taped mo_size mo_spot mo_sort mo_place mo_number mo_fault mo_wrongAt mo_laneTold mo_word (.ref a_mo_v) (mo_x) (.ref a_mo_past) (mo_kept) mo_acts mo_marks (mo_put) (mo_bestPut) mo_bestSum (mo_row) (mo_best) (mo_left) mo_bestSize mo_bestLeft (mo_counts) mo_sets mo_foeHarm mo_ownHarm mo_across mo_sumFoe mo_sumOwn mo_sumWon mo_sumAcross wa_lanes wa_deep wa_told wa_beasts wa_cities wa_passes wa_turned wa_names (wa_who) (wa_strong) (wa_kind) (wa_lane) (wa_mood) (wa_price) (wa_loses) (wa_name) (wa_nameSort) (wa_numberOf) p2 r_9 hc_10) gX13_move_X13_isLane rfl hd_X13_isLane ⟨Nat.le_of_ble_eq_true rfl, Nat.le_of_ble_eq_true rfl⟩ rfl rfl hKN (pXc hP [0, 3] rfl) 13 0 rfl rfl rfl hl.1 rfl (Nat.le_of_ble_eq_true rfl) dX13_move_15 ⟨Nat.le_of_ble_eq_true rfl, Nat.le_of_ble_eq_true rfl⟩ (fun nb_11 => ?_)
    refine lv_if_ne (tgt := 27) hx hb dX13_move_18 (by decide) (fun cd => ?_) (fun cd => ?_)
    · have h := ifF cd h
      refine lv_aload_n hx hb dX13_move_27 rfl (lv_at hl 0 rfl) ?_
      refine va_get (D := D) (ci := 13) (C := RX13) (T := TX13) (N := 39) (v := .ref a_mo_v) hx hb hX13 (fun _ q => q) hown hK hP 0 rfl rfl 16 (by decide) (hts (.fieldLink RX13 17 "ElephantLineModel" "v" "[I") (by decide +kernel)) (fun _ h9 => h9) rfl dX13_move_28 ?_
      refine lv_iconst (v := 0) hx hb dX13_move_31 (by decide) ?_
      refine lv_iload_n hx hb dX13_move_32 rfl (lv_at hl 1 rfl) ?_
      refine lv_iadd hx hb dX13_move_33 ?_
      obtain ⟨i_12, h⟩ := gIn_some h
      refine va_iald hx hb hK hP 1 1 rfl rfl i_12 dX13_move_34 ?_
      refine lv_iload_n hx hb dX13_move_35 rfl (lv_at hl 2 rfl) ?_
      have jn47 : f_X13_move_B47 wa_lanes wa_beasts 0 mo_trouble mo_where mo_acts mo_v mo_past = some (res, mo_thrown', mo_trouble', mo_where', mo_acts', mo_v', mo_past') → ∀ (H : Heap) (locs : List Loc), va_P D vwCl ([(a_mo, .inr (13, [.int 0, .int mo_trouble, .int mo_where, .ref a_wa, mo_read, mo_tape, .int mo_taped, .int mo_size, .int mo_spot, .int mo_sort, .int mo_place, .int mo_number, .int mo_fault, .int mo_wrongAt, .int mo_laneTold, .long mo_word, .ref a_mo_v, mo_x, .ref a_mo_past, mo_kept, .int mo_acts, .int mo_marks, mo_put, mo_bestPut, .long mo_bestSum, mo_row, mo_best, mo_left, .int mo_bestSize, .int mo_bestLeft, mo_counts, .int mo_sets, .int mo_foeHarm, .int mo_ownHarm, .int mo_across, .int mo_sumFoe, .int mo_sumOwn, .int mo_sumWon, .int mo_sumAcross])), (a_mo_v, .inl (cy 1, 19, .inl mo_v)), (a_mo_past, .inl (cy 1, 304, .inl mo_past)), (a_wa, .inr (12, [.int wa_lanes, .int wa_deep, .int wa_told, .int wa_beasts, .int wa_cities, .int wa_passes, .int wa_turned, .int wa_names, wa_who, wa_strong, wa_kind, wa_lane, wa_mood, wa_price, wa_loses, wa_name, wa_nameSort, wa_numberOf]))] ++ X) H → va_D A ([(a_mo, .inr (13, [.int 0, .int mo_trouble, .int mo_where, .ref a_wa, mo_read, mo_tape, .int mo_taped, .int mo_size, .int mo_spot, .int mo_sort, .int mo_place, .int mo_number, .int mo_fault, .int mo_wrongAt, .int mo_laneTold, .long mo_word, .ref a_mo_v, mo_x, .ref a_mo_past, mo_kept, .int mo_acts, .int mo_marks, mo_put, mo_bestPut, .long mo_bestSum, mo_row, mo_best, mo_left, .int mo_bestSize, .int mo_bestLeft, mo_counts, .int mo_sets, .int mo_foeHarm, .int mo_ownHarm, .int mo_across, .int mo_sumFoe, .int mo_sumOwn, .int mo_sumWon, .int mo_sumAcross])), (a_mo_v, .inl (cy 1, 19, .inl mo_v)), (a_mo_past, .inl (cy 1, 304, .inl mo_past)), (a_wa, .inr (12, [.int wa_lanes, .int wa_deep, .int wa_told, .int wa_beasts, .int wa_cities, .int wa_passes, .int wa_turned, .int wa_names, wa_who, wa_strong, wa_kind, wa_lane, wa_mood, wa_price, wa_loses, wa_name, wa_nameSort, wa_numberOf]))] ++ X) → va_S A s.heap H locs → ∀ ls : Array Slot, lv_has ls 3 [(0, .ref a_mo)] → W p l e (headSpec wo_X13_move ({ frames := 2, cells := 0, slots := 0, locals := 42 })).room s m (([.ref a_mo, .int p1, .int p2] : List Value).toArray) below meth c H locs 0 0 (MQ below (va_Qi (fun (r : Int32) (_ : Unit) => r = res ∧ nbv r) (wB D A ([(a_mo, .inr (13, [.int mo_thrown', .int mo_trouble', .int mo_where', .ref a_wa, mo_read, mo_tape, .int mo_taped, .int mo_size, .int mo_spot, .int mo_sort, .int mo_place, .int mo_number, .int mo_fault, .int mo_wrongAt, .int mo_laneTold, .long mo_word, .ref a_mo_v, mo_x, .ref a_mo_past, mo_kept, .int mo_acts', .int mo_marks, mo_put, mo_bestPut, .long mo_bestSum, mo_row, mo_best, mo_left, .int mo_bestSize, .int mo_bestLeft, mo_counts, .int mo_sets, .int mo_foeHarm, .int mo_ownHarm, .int mo_across, .int mo_sumFoe, .int mo_sumOwn, .int mo_sumWon, .int mo_sumAcross])), (a_mo_v, .inl (cy 1, 19, .inl mo_v')), (a_mo_past, .inl (cy 1, 304, .inl mo_past')), (a_wa, .inr (12, [.int wa_lanes, .int wa_deep, .int wa_told, .int wa_beasts, .int wa_cities, .int wa_passes, .int wa_turned, .int wa_names, wa_who, wa_strong, wa_kind, wa_lane, wa_mood, wa_price, wa_loses, wa_name, wa_nameSort, wa_numberOf]))] ++ X)) A) (([.ref a_mo, .int p1, .int p2] : List Value).toArray) s 0 0 A) (F0 m 47 ls []) := by
        intro h H locs hP hD hS ls hl
        unfold f_X13_move_B47 at h
        refine lv_aload_n hx hb dX13_move_47 rfl (lv_at hl 0 rfl) ?_
        refine lv_iconst (v := 5) hx hb dX13_move_48 (by decide) ?_
        obtain ⟨r_13, mo_trouble_14, mo_where_15, hc_16, h⟩ := bd3_some h
        refine wVb [.int 5] [] ⟨hx, hb, hml, hown, hts⟩ (c_X13_denied l D cy A ([(a_mo_v, .inl (cy 1, 19, .inl mo_v)), (a_mo_past, .inl (cy 1, 304, .inl mo_past)), (a_wa, .inr (12, [.int wa_lanes, .int wa_deep, .int wa_told, .int wa_beasts, .int wa_cities, .int wa_passes, .int wa_turned, .int wa_names, wa_who, wa_strong, wa_kind, wa_lane, wa_mood, wa_price, wa_loses, wa_name, wa_nameSort, wa_numberOf]))] ++ X) a_mo 0 mo_trouble mo_where (.ref a_wa) (mo_read) (mo_tape) mo_taped mo_size mo_spot mo_sort mo_place mo_number mo_fault mo_wrongAt mo_laneTold mo_word (.ref a_mo_v) (mo_x) (.ref a_mo_past) (mo_kept) mo_acts mo_marks (mo_put) (mo_bestPut) mo_bestSum (mo_row) (mo_best) (mo_left) mo_bestSize mo_bestLeft (mo_counts) mo_sets mo_foeHarm mo_ownHarm mo_across mo_sumFoe mo_sumOwn mo_sumWon mo_sumAcross (5 : Int32) r_13 mo_trouble_14 mo_where_15 hc_16) gX13_move_X13_denied rfl hd_X13_denied ⟨Nat.le_of_ble_eq_true rfl, Nat.le_of_ble_eq_true rfl⟩ rfl rfl hKN (pX3 hP [0, 1, 2, 3] rfl) (dX3 hD [0, 1, 2, 3] rfl rfl) hS hA 13 0 rfl rfl rfl hl.1 rfl (Nat.le_of_ble_eq_true rfl) dX13_move_49 ⟨Nat.le_of_ble_eq_true rfl, Nat.le_of_ble_eq_true rfl⟩ (fun nb_17 H locs hP hD hS => ?_)
        have hP := pX4 (L1 := [(a_mo, .inr (13, [.int 0, .int mo_trouble_14, .int mo_where_15, .ref a_wa, mo_read, mo_tape, .int mo_taped, .int mo_size, .int mo_spot, .int mo_sort, .int mo_place, .int mo_number, .int mo_fault, .int mo_wrongAt, .int mo_laneTold, .long mo_word, .ref a_mo_v, mo_x, .ref a_mo_past, mo_kept, .int mo_acts, .int mo_marks, mo_put, mo_bestPut, .long mo_bestSum, mo_row, mo_best, mo_left, .int mo_bestSize, .int mo_bestLeft, mo_counts, .int mo_sets, .int mo_foeHarm, .int mo_ownHarm, .int mo_across, .int mo_sumFoe, .int mo_sumOwn, .int mo_sumWon, .int mo_sumAcross])), (a_mo_v, .inl (cy 1, 19, .inl mo_v)), (a_mo_past, .inl (cy 1, 304, .inl mo_past)), (a_wa, .inr (12, [.int wa_lanes, .int wa_deep, .int wa_told, .int wa_beasts, .int wa_cities, .int wa_passes, .int wa_turned, .int wa_names, wa_who, wa_strong, wa_kind, wa_lane, wa_mood, wa_price, wa_loses, wa_name, wa_nameSort, wa_numberOf]))]) hP [0, 1, 2, 3] rfl
        have hD := dX4 (L1 := [(a_mo, .inr (13, [.int 0, .int mo_trouble_14, .int mo_where_15, .ref a_wa, mo_read, mo_tape, .int mo_taped, .int mo_size, .int mo_spot, .int mo_sort, .int mo_place, .int mo_number, .int mo_fault, .int mo_wrongAt, .int mo_laneTold, .long mo_word, .ref a_mo_v, mo_x, .ref a_mo_past, mo_kept, .int mo_acts, .int mo_marks, mo_put, mo_bestPut, .long mo_bestSum, mo_row, mo_best, mo_left, .int mo_bestSize, .int mo_bestLeft, mo_counts, .int mo_sets, .int mo_foeHarm, .int mo_ownHarm, .int mo_across, .int mo_sumFoe, .int mo_sumOwn, .int mo_sumWon, .int mo_sumAcross])), (a_mo_v, .inl (cy 1, 19, .inl mo_v)), (a_mo_past, .inl (cy 1, 304, .inl mo_past)), (a_wa, .inr (12, [.int wa_lanes, .int wa_deep, .int wa_told, .int wa_beasts, .int wa_cities, .int wa_passes, .int wa_turned, .int wa_names, wa_who, wa_strong, wa_kind, wa_lane, wa_mood, wa_price, wa_loses, wa_name, wa_nameSort, wa_numberOf]))]) hD [0, 1, 2, 3] rfl rfl
        cases h
        exact W.zret (ty := .boolean) hx hb hr (nbv.n nb_17) (fun t ht _ => ⟨⟨_, (), rfl, ⟨rfl, nb_17⟩, by rw [ht]; exact hP, hD⟩, hS.F ht⟩) hS.2.2 dX13_move_52
      refine lv_icmp_eq (tgt := 47) hx hb dX13_move_36 (by decide) (fun cd => ?_) (fun cd => ?_)
      · have h := ifT cd h
        exact jn47 h _ _ hP hD hS _ (lv_sub hl [0] rfl)
      · have h := ifF cd h
        refine lv_aload_n hx hb dX13_move_39 rfl (lv_at hl 0 rfl) ?_
        refine lv_iload_n hx hb dX13_move_40 rfl (lv_at hl 1 rfl) ?_
        obtain ⟨r_18, hc_19, h⟩ := bd1_some h
        refine kVb [.int p1] [] ⟨hx, hb, hml, hown, hts⟩ (c_X13_isDead l D cy a_mo a_mo_v 0 mo_trouble mo_where (.ref a_wa) (mo_read) (mo_tape) mo_taped mo_size mo_spot mo_sort mo_place mo_number mo_fault mo_wrongAt mo_laneTold mo_word (mo_x) (.ref a_mo_past) (mo_kept) mo_acts mo_marks (mo_put) (mo_bestPut) mo_bestSum (mo_row) (mo_best) (mo_left) mo_bestSize mo_bestLeft (mo_counts) mo_sets mo_foeHarm mo_ownHarm mo_across mo_sumFoe mo_sumOwn mo_sumWon mo_sumAcross mo_v p1 r_18 hc_19) gX13_move_X13_isDead rfl hd_X13_isDead ⟨Nat.le_of_ble_eq_true rfl, Nat.le_of_ble_eq_true rfl⟩ rfl rfl hKN (pXc hP [0, 1] rfl) 13 0 rfl rfl rfl hl.1 rfl (Nat.le_of_ble_eq_true rfl) dX13_move_41 ⟨Nat.le_of_ble_eq_true rfl, Nat.le_of_ble_eq_true rfl⟩ (fun nb_20 => ?_)
        refine lv_if_eq (tgt := 53) hx hb dX13_move_44 (by decide) (fun cd => ?_) (fun cd => ?_)
        · have h := ifT cd h
          refine lv_aload_n hx hb dX13_move_53 rfl (lv_at hl 0 rfl) ?_
          obtain ⟨mo_acts_21, mo_past_22, hc_23, h⟩ := bd2_some h
          refine wVv [] [] ⟨hx, hb, hml, hown, hts⟩ (c_X13_remembers l D cy A ([(a_wa, .inr (12, [.int wa_lanes, .int wa_deep, .int wa_told, .int wa_beasts, .int wa_cities, .int wa_passes, .int wa_turned, .int wa_names, wa_who, wa_strong, wa_kind, wa_lane, wa_mood, wa_price, wa_loses, wa_name, wa_nameSort, wa_numberOf]))] ++ X) a_mo a_mo_v a_mo_past 0 mo_trouble mo_where (.ref a_wa) (mo_read) (mo_tape) mo_taped mo_size mo_spot mo_sort mo_place mo_number mo_fault mo_wrongAt mo_laneTold mo_word (mo_x) (mo_kept) mo_acts mo_marks (mo_put) (mo_bestPut) mo_bestSum (mo_row) (mo_best) (mo_left) mo_bestSize mo_bestLeft (mo_counts) mo_sets mo_foeHarm mo_ownHarm mo_across mo_sumFoe mo_sumOwn mo_sumWon mo_sumAcross mo_v mo_past mo_acts_21 mo_past_22 hc_23) gX13_move_X13_remembers rfl hd_X13_remembers ⟨Nat.le_of_ble_eq_true rfl, Nat.le_of_ble_eq_true rfl⟩ rfl rfl hKN (pX3 hP [0, 1, 2, 3] rfl) (dX3 hD [0, 1, 2, 3] rfl rfl) hS hA 13 0 rfl rfl rfl hl.1 rfl (Nat.le_of_ble_eq_true rfl) dX13_move_54 ⟨Nat.le_of_ble_eq_true rfl, Nat.le_of_ble_eq_true rfl⟩ (fun H locs hP hD hS => ?_)
          have hP := pX4 (L1 := [(a_mo, .inr (13, [.int 0, .int mo_trouble, .int mo_where, .ref a_wa, mo_read, mo_tape, .int mo_taped, .int mo_size, .int mo_spot, .int mo_sort, .int mo_place, .int mo_number, .int mo_fault, .int mo_wrongAt, .int mo_laneTold, .long mo_word, .ref a_mo_v, mo_x, .ref a_mo_past, mo_kept, .int mo_acts_21, .int mo_marks, mo_put, mo_bestPut, .long mo_bestSum, mo_row, mo_best, mo_left, .int mo_bestSize, .int mo_bestLeft, mo_counts, .int mo_sets, .int mo_foeHarm, .int mo_ownHarm, .int mo_across, .int mo_sumFoe, .int mo_sumOwn, .int mo_sumWon, .int mo_sumAcross])), (a_mo_v, .inl (cy 1, 19, .inl mo_v)), (a_mo_past, .inl (cy 1, 304, .inl mo_past_22)), (a_wa, .inr (12, [.int wa_lanes, .int wa_deep, .int wa_told, .int wa_beasts, .int wa_cities, .int wa_passes, .int wa_turned, .int wa_names, wa_who, wa_strong, wa_kind, wa_lane, wa_mood, wa_price, wa_loses, wa_name, wa_nameSort, wa_numberOf]))]) hP [0, 1, 2, 3] rfl
          have hD := dX4 (L1 := [(a_mo, .inr (13, [.int 0, .int mo_trouble, .int mo_where, .ref a_wa, mo_read, mo_tape, .int mo_taped, .int mo_size, .int mo_spot, .int mo_sort, .int mo_place, .int mo_number, .int mo_fault, .int mo_wrongAt, .int mo_laneTold, .long mo_word, .ref a_mo_v, mo_x, .ref a_mo_past, mo_kept, .int mo_acts_21, .int mo_marks, mo_put, mo_bestPut, .long mo_bestSum, mo_row, mo_best, mo_left, .int mo_bestSize, .int mo_bestLeft, mo_counts, .int mo_sets, .int mo_foeHarm, .int mo_ownHarm, .int mo_across, .int mo_sumFoe, .int mo_sumOwn, .int mo_sumWon, .int mo_sumAcross])), (a_mo_v, .inl (cy 1, 19, .inl mo_v)), (a_mo_past, .inl (cy 1, 304, .inl mo_past_22)), (a_wa, .inr (12, [.int wa_lanes, .int wa_deep, .int wa_told, .int wa_beasts, .int wa_cities, .int wa_passes, .int wa_turned, .int wa_names, wa_who, wa_strong, wa_kind, wa_lane, wa_mood, wa_price, wa_loses, wa_name, wa_nameSort, wa_numberOf]))]) hD [0, 1, 2, 3] rfl rfl
          refine lv_aload_n hx hb dX13_move_57 rfl (lv_at hl 0 rfl) ?_
          refine va_get (D := D) (ci := 13) (C := RX13) (T := TX13) (N := 39) (v := .ref a_mo_v) hx hb hX13 (fun _ q => q) hown hK hP 0 rfl rfl 16 (by decide) (hts (.fieldLink RX13 17 "ElephantLineModel" "v" "[I") (by decide +kernel)) (fun _ h9 => h9) rfl dX13_move_58 ?_
          refine lv_iconst (v := 0) hx hb dX13_move_61 (by decide) ?_
          refine lv_iload_n hx hb dX13_move_62 rfl (lv_at hl 1 rfl) ?_
          refine lv_iadd hx hb dX13_move_63 ?_
          refine lv_iload_n hx hb dX13_move_64 rfl (lv_at hl 2 rfl) ?_
          obtain ⟨i_24, h⟩ := gIn_some h
          refine va_iast hx hb hK hP hD hS 1 1 rfl rfl i_24 dX13_move_65 (fun H locs hP hD hS => ?_)
          refine lv_aload_n hx hb dX13_move_66 rfl (lv_at hl 0 rfl) ?_
          have hP : va_P D vwCl ([(a_mo, .inr (13, [.int 0, .int mo_trouble, .int mo_where, .ref a_wa, mo_read, mo_tape, .int mo_taped, .int mo_size, .int mo_spot, .int mo_sort, .int mo_place, .int mo_number, .int mo_fault, .int mo_wrongAt, .int mo_laneTold, .long mo_word, .ref a_mo_v, mo_x, .ref a_mo_past, mo_kept, .int mo_acts_21, .int mo_marks, mo_put, mo_bestPut, .long mo_bestSum, mo_row, mo_best, mo_left, .int mo_bestSize, .int mo_bestLeft, mo_counts, .int mo_sets, .int mo_foeHarm, .int mo_ownHarm, .int mo_across, .int mo_sumFoe, .int mo_sumOwn, .int mo_sumWon, .int mo_sumAcross])), (a_mo_v, .inl (cy 1, 19, .inl (upd mo_v (0 + p1).toNatClampNeg p2))), (a_mo_past, .inl (cy 1, 304, .inl mo_past_22)), (a_wa, .inr (12, [.int wa_lanes, .int wa_deep, .int wa_told, .int wa_beasts, .int wa_cities, .int wa_passes, .int wa_turned, .int wa_names, wa_who, wa_strong, wa_kind, wa_lane, wa_mood, wa_price, wa_loses, wa_name, wa_nameSort, wa_numberOf]))] ++ X) H := hP
          have hD : va_D A ([(a_mo, .inr (13, [.int 0, .int mo_trouble, .int mo_where, .ref a_wa, mo_read, mo_tape, .int mo_taped, .int mo_size, .int mo_spot, .int mo_sort, .int mo_place, .int mo_number, .int mo_fault, .int mo_wrongAt, .int mo_laneTold, .long mo_word, .ref a_mo_v, mo_x, .ref a_mo_past, mo_kept, .int mo_acts_21, .int mo_marks, mo_put, mo_bestPut, .long mo_bestSum, mo_row, mo_best, mo_left, .int mo_bestSize, .int mo_bestLeft, mo_counts, .int mo_sets, .int mo_foeHarm, .int mo_ownHarm, .int mo_across, .int mo_sumFoe, .int mo_sumOwn, .int mo_sumWon, .int mo_sumAcross])), (a_mo_v, .inl (cy 1, 19, .inl (upd mo_v (0 + p1).toNatClampNeg p2))), (a_mo_past, .inl (cy 1, 304, .inl mo_past_22)), (a_wa, .inr (12, [.int wa_lanes, .int wa_deep, .int wa_told, .int wa_beasts, .int wa_cities, .int wa_passes, .int wa_turned, .int wa_names, wa_who, wa_strong, wa_kind, wa_lane, wa_mood, wa_price, wa_loses, wa_name, wa_nameSort, wa_numberOf]))] ++ X) := hD
          obtain ⟨r_25, mo_trouble_26, mo_where_27, hc_28, h⟩ := bd3_some h
          refine wVb [] [] ⟨hx, hb, hml, hown, hts⟩ (c_X13_granted l D cy A ([(a_mo_v, .inl (cy 1, 19, .inl (upd mo_v (0 + p1).toNatClampNeg p2))), (a_mo_past, .inl (cy 1, 304, .inl mo_past_22)), (a_wa, .inr (12, [.int wa_lanes, .int wa_deep, .int wa_told, .int wa_beasts, .int wa_cities, .int wa_passes, .int wa_turned, .int wa_names, wa_who, wa_strong, wa_kind, wa_lane, wa_mood, wa_price, wa_loses, wa_name, wa_nameSort, wa_numberOf]))] ++ X) a_mo 0 mo_trouble mo_where (.ref a_wa) (mo_read) (mo_tape) mo_taped mo_size mo_spot mo_sort mo_place mo_number mo_fault mo_wrongAt mo_laneTold mo_word (.ref a_mo_v) (mo_x) (.ref a_mo_past) (mo_kept) mo_acts_21 mo_marks (mo_put) (mo_bestPut) mo_bestSum (mo_row) (mo_best) (mo_left) mo_bestSize mo_bestLeft (mo_counts) mo_sets mo_foeHarm mo_ownHarm mo_across mo_sumFoe mo_sumOwn mo_sumWon mo_sumAcross r_25 mo_trouble_26 mo_where_27 hc_28) gX13_move_X13_granted rfl hd_X13_granted ⟨Nat.le_of_ble_eq_true rfl, Nat.le_of_ble_eq_true rfl⟩ rfl rfl hKN (pX3 hP [0, 1, 2, 3] rfl) (dX3 hD [0, 1, 2, 3] rfl rfl) hS hA 13 0 rfl rfl rfl hl.1 rfl (Nat.le_of_ble_eq_true rfl) dX13_move_67 ⟨Nat.le_of_ble_eq_true rfl, Nat.le_of_ble_eq_true rfl⟩ (fun nb_29 H locs hP hD hS => ?_)
          have hP := pX4 (L1 := [(a_mo, .inr (13, [.int 0, .int mo_trouble_26, .int mo_where_27, .ref a_wa, mo_read, mo_tape, .int mo_taped, .int mo_size, .int mo_spot, .int mo_sort, .int mo_place, .int mo_number, .int mo_fault, .int mo_wrongAt, .int mo_laneTold, .long mo_word, .ref a_mo_v, mo_x, .ref a_mo_past, mo_kept, .int mo_acts_21, .int mo_marks, mo_put, mo_bestPut, .long mo_bestSum, mo_row, mo_best, mo_left, .int mo_bestSize, .int mo_bestLeft, mo_counts, .int mo_sets, .int mo_foeHarm, .int mo_ownHarm, .int mo_across, .int mo_sumFoe, .int mo_sumOwn, .int mo_sumWon, .int mo_sumAcross])), (a_mo_v, .inl (cy 1, 19, .inl (upd mo_v (0 + p1).toNatClampNeg p2))), (a_mo_past, .inl (cy 1, 304, .inl mo_past_22)), (a_wa, .inr (12, [.int wa_lanes, .int wa_deep, .int wa_told, .int wa_beasts, .int wa_cities, .int wa_passes, .int wa_turned, .int wa_names, wa_who, wa_strong, wa_kind, wa_lane, wa_mood, wa_price, wa_loses, wa_name, wa_nameSort, wa_numberOf]))]) hP [0, 1, 2, 3] rfl
          have hD := dX4 (L1 := [(a_mo, .inr (13, [.int 0, .int mo_trouble_26, .int mo_where_27, .ref a_wa, mo_read, mo_tape, .int mo_taped, .int mo_size, .int mo_spot, .int mo_sort, .int mo_place, .int mo_number, .int mo_fault, .int mo_wrongAt, .int mo_laneTold, .long mo_word, .ref a_mo_v, mo_x, .ref a_mo_past, mo_kept, .int mo_acts_21, .int mo_marks, mo_put, mo_bestPut, .long mo_bestSum, mo_row, mo_best, mo_left, .int mo_bestSize, .int mo_bestLeft, mo_counts, .int mo_sets, .int mo_foeHarm, .int mo_ownHarm, .int mo_across, .int mo_sumFoe, .int mo_sumOwn, .int mo_sumWon, .int mo_sumAcross])), (a_mo_v, .inl (cy 1, 19, .inl (upd mo_v (0 + p1).toNatClampNeg p2))), (a_mo_past, .inl (cy 1, 304, .inl mo_past_22)), (a_wa, .inr (12, [.int wa_lanes, .int wa_deep, .int wa_told, .int wa_beasts, .int wa_cities, .int wa_passes, .int wa_turned, .int wa_names, wa_who, wa_strong, wa_kind, wa_lane, wa_mood, wa_price, wa_loses, wa_name, wa_nameSort, wa_numberOf]))]) hD [0, 1, 2, 3] rfl rfl
          cases h
          exact W.zret (ty := .boolean) hx hb hr (nbv.n nb_29) (fun t ht _ => ⟨⟨_, (), rfl, ⟨rfl, nb_29⟩, by rw [ht]; exact hP, hD⟩, hS.F ht⟩) hS.2.2 dX13_move_70
        · have h := ifF cd h
          exact jn47 h _ _ hP hD hS _ (lv_sub hl [0] rfl)
    · have h := ifT cd h
      exact jn21 h _ _ hP hD hS _ (lv_sub hl [0] rfl)
