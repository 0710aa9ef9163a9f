theorem hd_X13_readTurned : yX13_readTurned.cls = RX13 ∧ yX13_readTurned.cls ≠ "java/lang/invoke/MethodHandle" ∧ yX13_readTurned.cls ≠ "java/lang/invoke/VarHandle" ∧ (parseMethodDescriptor yX13_readTurned.desc).map (fun d => d.parameters.length) = some 0 := by decide +kernel
set_option maxHeartbeats 4000000 in
set_option maxRecDepth 100000 in
theorem c_X13_readTurned (l : Launch) (D : va_G) (cy : Nat → ClassId) (sa sv : Nat → Nat) (A : Nat → Prop) (X : va_W) (a_mo a_mo_tape a_re a_re_name a_re_nameSort a_re_numberOf : Nat) (mo_thrown : Int32) (mo_trouble : Int32) (mo_where : Int32) (mo_war : Value) (mo_taped : Int32) (mo_size : Int32) (mo_spot : Int32) (mo_sort : Int32) (mo_place : Int32) (mo_number : Int32) (mo_fault : Int32) (mo_wrongAt : Int32) (mo_laneTold : Int32) (mo_word : Int64) (mo_v : Value) (mo_x : Value) (mo_past : Value) (mo_kept : Value) (mo_acts : Int32) (mo_marks : Int32) (mo_put : Value) (mo_bestPut : Value) (mo_bestSum : Int64) (mo_row : Value) (mo_best : Value) (mo_left : Value) (mo_bestSize : Int32) (mo_bestLeft : Int32) (mo_counts : Value) (mo_sets : Int32) (mo_foeHarm : Int32) (mo_ownHarm : Int32) (mo_across : Int32) (mo_sumFoe : Int32) (mo_sumOwn : Int32) (mo_sumWon : Int32) (mo_sumAcross : Int32) (mo_tape : Nat → Int32) (re_lanes : Int32) (re_deep : Int32) (re_told : Int32) (re_beasts : Int32) (re_cities : Int32) (re_passes : Int32) (re_turned : Int32) (re_names : Int32) (re_who : Value) (re_strong : Value) (re_kind : Value) (re_lane : Value) (re_mood : Value) (re_price : Value) (re_loses : Value) (re_name : Nat → Int64) (re_nameSort : Nat → Int32) (re_numberOf : Nat → Int32) (mo_spot' : Int32) (mo_sort' : Int32) (mo_place' : Int32) (mo_number' : Int32) (mo_fault' : Int32) (mo_wrongAt' : Int32) (mo_word' : Int64) (re_turned' : Int32) (h : f_X13_readTurned mo_size mo_spot mo_sort mo_place mo_number mo_fault mo_wrongAt mo_word mo_tape re_lanes re_turned re_names re_name re_nameSort re_numberOf = some (mo_spot', mo_sort', mo_place', mo_number', mo_fault', mo_wrongAt', mo_word', re_turned')) : Met l yX13_readTurned wo_X13_readTurned ({ frames := 8, cells := 0, slots := 0, locals := 177 }) (wrPcS D cy sa sv A [.ref a_mo] ([(a_mo, .inr (13, [.int mo_thrown, .int mo_trouble, .int mo_where, mo_war, .ref a_re, .ref a_mo_tape, .int mo_taped, .int mo_size, .int mo_spot, .int mo_sort, .int mo_place, .int mo_number, .int mo_fault, .int mo_wrongAt, .int mo_laneTold, .long mo_word, mo_v, mo_x, mo_past, mo_kept, .int mo_acts, .int mo_marks, mo_put, mo_bestPut, .long mo_bestSum, mo_row, mo_best, mo_left, .int mo_bestSize, .int mo_bestLeft, mo_counts, .int mo_sets, .int mo_foeHarm, .int mo_ownHarm, .int mo_across, .int mo_sumFoe, .int mo_sumOwn, .int mo_sumWon, .int mo_sumAcross])), (a_mo_tape, .inl (cy 0, 900, .inl mo_tape)), (a_re, .inr (12, [.int re_lanes, .int re_deep, .int re_told, .int re_beasts, .int re_cities, .int re_passes, .int re_turned, .int re_names, re_who, re_strong, re_kind, re_lane, re_mood, re_price, re_loses, .ref a_re_name, .ref a_re_nameSort, .ref a_re_numberOf])), (a_re_name, .inl (cy 2, 11, .inr (.inl re_name))), (a_re_nameSort, .inl (cy 1, 11, .inl re_nameSort)), (a_re_numberOf, .inl (cy 1, 11, .inl re_numberOf))] ++ X)) (va_Qv (fun (_ : Unit) => True) (wB D A ([(a_mo, .inr (13, [.int mo_thrown, .int mo_trouble, .int mo_where, mo_war, .ref a_re, .ref a_mo_tape, .int mo_taped, .int mo_size, .int mo_spot', .int mo_sort', .int mo_place', .int mo_number', .int mo_fault', .int mo_wrongAt', .int mo_laneTold, .long mo_word', mo_v, mo_x, mo_past, mo_kept, .int mo_acts, .int mo_marks, mo_put, mo_bestPut, .long mo_bestSum, mo_row, mo_best, mo_left, .int mo_bestSize, .int mo_bestLeft, mo_counts, .int mo_sets, .int mo_foeHarm, .int mo_ownHarm, .int mo_across, .int mo_sumFoe, .int mo_sumOwn, .int mo_sumWon, .int mo_sumAcross])), (a_mo_tape, .inl (cy 0, 900, .inl mo_tape)), (a_re, .inr (12, [.int re_lanes, .int re_deep, .int re_told, .int re_beasts, .int re_cities, .int re_passes, .int re_turned', .int re_names, re_who, re_strong, re_kind, re_lane, re_mood, re_price, re_loses, .ref a_re_name, .ref a_re_nameSort, .ref a_re_numberOf])), (a_re_name, .inl (cy 2, 11, .inr (.inl re_name))), (a_re_nameSort, .inl (cy 1, 11, .inl re_nameSort)), (a_re_numberOf, .inl (cy 1, 11, .inl re_numberOf))] ++ X)) A) 0 0 A := by
  refine Met.ofW (cc := cX13_readTurned) (maxL := 2) (ret := none) (by decide) rfl ?_
  intro p e s m args below meth c s₁ B hml hv
  obtain ⟨rfl, hP, hKN, hD, hA, hSS⟩ := hv
  have hK := hKN.1
  have hx := B.exec
  have hb := B.bytes
  have hr := B.returns
  have hts := wt_X13_readTurned hKN.2.2 (([.ref a_mo] : List Value).toArray)
  have hown : s.vm.findClass RX13 = some m.cls := findClass_of_methodNamed B.named
  have hlocks := B.notSynchronized
  have hS : va_S A s.heap s.heap [] := va_S.rf
  have hX12 := wc_X12 hKN.2.2 (([.ref a_mo] : List Value).toArray)
  have hX13 := wc_X13 hKN.2.2 (([.ref a_mo] : List Value).toArray)
  have hl := lv_entry ([.ref a_mo]) (n := 2) (Nat.le_of_ble_eq_true rfl)
  rw [lg_entry_eq]
  generalize (lg_sl ([.ref a_mo]) ++ List.replicate (2 - (lg_sl ([.ref a_mo])).length) Slot.unset).toArray = ls at hl ⊢
  have hl : lv_has ls 2 [(0, .ref a_mo)] := hl
  unfold f_X13_readTurned at h
  refine lv_aload_n hx hb dX13_readTurned_0 rfl (lv_at hl 0 rfl) ?_
  refine lv_iconst (v := 0) hx hb dX13_readTurned_1 (by decide) ?_
  refine lv_iconst (v := 1) hx hb dX13_readTurned_2 (by decide) ?_
  obtain ⟨mo_spot_1, mo_sort_2, mo_place_3, mo_number_4, mo_fault_5, mo_wrongAt_6, mo_word_7, hc_8, h⟩ := bd7_some h
  refine wVv [.int 0, .int 1] [] ⟨hx, hb, hml, hown, hts⟩ (c_X13_lineBegins l D cy A ([(a_re_name, .inl (cy 2, 11, .inr (.inl re_name))), (a_re_nameSort, .inl (cy 1, 11, .inl re_nameSort)), (a_re_numberOf, .inl (cy 1, 11, .inl re_numberOf))] ++ X) a_mo a_mo_tape a_re mo_thrown mo_trouble mo_where (mo_war) mo_taped mo_size mo_spot mo_sort mo_place mo_number mo_fault mo_wrongAt mo_laneTold mo_word (mo_v) (mo_x) (mo_past) (mo_kept) mo_acts mo_marks (mo_put) (mo_bestPut) mo_bestSum (mo_row) (mo_best) (mo_left) mo_bestSize mo_bestLeft (mo_counts) mo_sets mo_foeHarm mo_ownHarm mo_across mo_sumFoe mo_sumOwn mo_sumWon mo_sumAcross mo_tape re_lanes re_deep re_told re_beasts re_cities re_passes re_turned re_names (re_who) (re_strong) (re_kind) (re_lane) (re_mood) (re_price) (re_loses) (.ref a_re_name) (.ref a_re_nameSort) (.ref a_re_numberOf) (0 : Int32) (1 : Int32) mo_spot_1 mo_sort_2 mo_place_3 mo_number_4 mo_fault_5 mo_wrongAt_6 mo_word_7 hc_8) gX13_readTurned_X13_lineBegins rfl hd_X13_lineBegins ⟨Nat.le_of_ble_eq_true rfl, Nat.le_of_ble_eq_true rfl⟩ rfl rfl hKN (pX3 hP [0, 1, 2, 3, 4, 5] rfl) (dX3 hD [0, 1, 2, 3, 4, 5] rfl rfl) hS hA 13 0 rfl rfl rfl hl.1 rfl (Nat.le_of_ble_eq_true rfl) dX13_readTurned_3 ⟨Nat.le_of_ble_eq_true rfl, Nat.le_of_ble_eq_true rfl⟩ (fun H locs hP hD hS => ?_)
  have hP := pX4 (L1 := [(a_mo, .inr (13, [.int mo_thrown, .int mo_trouble, .int mo_where, mo_war, .ref a_re, .ref a_mo_tape, .int mo_taped, .int mo_size, .int mo_spot_1, .int mo_sort_2, .int mo_place_3, .int mo_number_4, .int mo_fault_5, .int mo_wrongAt_6, .int mo_laneTold, .long mo_word_7, mo_v, mo_x, mo_past, mo_kept, .int mo_acts, .int mo_marks, mo_put, mo_bestPut, .long mo_bestSum, mo_row, mo_best, mo_left, .int mo_bestSize, .int mo_bestLeft, mo_counts, .int mo_sets, .int mo_foeHarm, .int mo_ownHarm, .int mo_across, .int mo_sumFoe, .int mo_sumOwn, .int mo_sumWon, .int mo_sumAcross])), (a_mo_tape, .inl (cy 0, 900, .inl mo_tape)), (a_re, .inr (12, [.int re_lanes, .int re_deep, .int re_told, .int re_beasts, .int re_cities, .int re_passes, .int re_turned, .int re_names, re_who, re_strong, re_kind, re_lane, re_mood, re_price, re_loses, .ref a_re_name, .ref a_re_nameSort, .ref a_re_numberOf])), (a_re_name, .inl (cy 2, 11, .inr (.inl re_name))), (a_re_nameSort, .inl (cy 1, 11, .inl re_nameSort)), (a_re_numberOf, .inl (cy 1, 11, .inl re_numberOf))]) hP [0, 1, 2, 3, 4, 5] rfl
  have hD := dX4 (L1 := [(a_mo, .inr (13, [.int mo_thrown, .int mo_trouble, .int mo_where, mo_war, .ref a_re, .ref a_mo_tape, .int mo_taped, .int mo_size, .int mo_spot_1, .int mo_sort_2, .int mo_place_3, .int mo_number_4, .int mo_fault_5, .int mo_wrongAt_6, .int mo_laneTold, .long mo_word_7, mo_v, mo_x, mo_past, mo_kept, .int mo_acts, .int mo_marks, mo_put, mo_bestPut, .long mo_bestSum, mo_row, mo_best, mo_left, .int mo_bestSize, .int mo_bestLeft, mo_counts, .int mo_sets, .int mo_foeHarm, .int mo_ownHarm, .int mo_across, .int mo_sumFoe, .int mo_sumOwn, .int mo_sumWon, .int mo_sumAcross])), (a_mo_tape, .inl (cy 0, 900, .inl mo_tape)), (a_re, .inr (12, [.int re_lanes, .int re_deep, .int re_told, .int re_beasts, .int re_cities, .int re_passes, .int re_turned, .int re_names, re_who, re_strong, re_kind, re_lane, re_mood, re_price, re_loses, .ref a_re_name, .ref a_re_nameSort, .ref a_re_numberOf])), (a_re_name, .inl (cy 2, 11, .inr (.inl re_name))), (a_re_nameSort, .inl (cy 1, 11, .inl re_nameSort)), (a_re_numberOf, .inl (cy 1, 11, .inl re_numberOf))]) hD [0, 1, 2, 3, 4, 5] rfl rfl
  refine lv_aload_n hx hb dX13_readTurned_6 rfl (lv_at hl 0 rfl) ?_
  refine lv_iconst (v := 0) hx hb dX13_readTurned_7 (by decide) ?_
  obtain ⟨r_9, mo_sort_10, mo_fault_11, mo_wrongAt_12, hc_13, h⟩ := bd4_some h
  refine wViS [.int 0] [] ⟨hx, hb, hml, hown, hts⟩ (c_X13_knownOne l D cy sa sv A ([(a_mo_tape, .inl (cy 0, 900, .inl mo_tape))] ++ X) a_mo a_re a_re_name a_re_nameSort a_re_numberOf mo_thrown mo_trouble mo_where (mo_war) (.ref a_mo_tape) mo_taped mo_size mo_spot_1 mo_sort_2 mo_place_3 mo_number_4 mo_fault_5 mo_wrongAt_6 mo_laneTold mo_word_7 (mo_v) (mo_x) (mo_past) (mo_kept) mo_acts mo_marks (mo_put) (mo_bestPut) mo_bestSum (mo_row) (mo_best) (mo_left) mo_bestSize mo_bestLeft (mo_counts) mo_sets mo_foeHarm mo_ownHarm mo_across mo_sumFoe mo_sumOwn mo_sumWon mo_sumAcross re_lanes re_deep re_told re_beasts re_cities re_passes re_turned re_names (re_who) (re_strong) (re_kind) (re_lane) (re_mood) (re_price) (re_loses) re_name re_nameSort re_numberOf (0 : Int32) r_9 mo_sort_10 mo_fault_11 mo_wrongAt_12 hc_13) gX13_readTurned_X13_knownOne rfl hd_X13_knownOne ⟨Nat.le_of_ble_eq_true rfl, Nat.le_of_ble_eq_true rfl⟩ rfl rfl hKN (pX3 hP [0, 2, 3, 4, 5, 1] rfl) (hSS.kept hS) (dX3 hD [0, 2, 3, 4, 5, 1] rfl rfl) hS hA 13 0 rfl rfl rfl hl.1 rfl (Nat.le_of_ble_eq_true rfl) dX13_readTurned_8 ⟨Nat.le_of_ble_eq_true rfl, Nat.le_of_ble_eq_true rfl⟩ (fun H locs hP hD hS => ?_)
  have hP := pX4 (L1 := [(a_mo, .inr (13, [.int mo_thrown, .int mo_trouble, .int mo_where, mo_war, .ref a_re, .ref a_mo_tape, .int mo_taped, .int mo_size, .int mo_spot_1, .int mo_sort_10, .int mo_place_3, .int mo_number_4, .int mo_fault_11, .int mo_wrongAt_12, .int mo_laneTold, .long mo_word_7, mo_v, mo_x, mo_past, mo_kept, .int mo_acts, .int mo_marks, mo_put, mo_bestPut, .long mo_bestSum, mo_row, mo_best, mo_left, .int mo_bestSize, .int mo_bestLeft, mo_counts, .int mo_sets, .int mo_foeHarm, .int mo_ownHarm, .int mo_across, .int mo_sumFoe, .int mo_sumOwn, .int mo_sumWon, .int mo_sumAcross])), (a_mo_tape, .inl (cy 0, 900, .inl mo_tape)), (a_re, .inr (12, [.int re_lanes, .int re_deep, .int re_told, .int re_beasts, .int re_cities, .int re_passes, .int re_turned, .int re_names, re_who, re_strong, re_kind, re_lane, re_mood, re_price, re_loses, .ref a_re_name, .ref a_re_nameSort, .ref a_re_numberOf])), (a_re_name, .inl (cy 2, 11, .inr (.inl re_name))), (a_re_nameSort, .inl (cy 1, 11, .inl re_nameSort)), (a_re_numberOf, .inl (cy 1, 11, .inl re_numberOf))]) hP [0, 5, 1, 2, 3, 4] rfl
  have hD := dX4 (L1 := [(a_mo, .inr (13, [.int mo_thrown, .int mo_trouble, .int mo_where, mo_war, .ref a_re, .ref a_mo_tape, .int mo_taped, .int mo_size, .int mo_spot_1, .int mo_sort_10, .int mo_place_3, .int mo_number_4, .int mo_fault_11, .int mo_wrongAt_12, .int mo_laneTold, .long mo_word_7, mo_v, mo_x, mo_past, mo_kept, .int mo_acts, .int mo_marks, mo_put, mo_bestPut, .long mo_bestSum, mo_row, mo_best, mo_left, .int mo_bestSize, .int mo_bestLeft, mo_counts, .int mo_sets, .int mo_foeHarm, .int mo_ownHarm, .int mo_across, .int mo_sumFoe, .int mo_sumOwn, .int mo_sumWon, .int mo_sumAcross])), (a_mo_tape, .inl (cy 0, 900, .inl mo_tape)), (a_re, .inr (12, [.int re_lanes, .int re_deep, .int re_told, .int re_beasts, .int re_cities, .int re_passes, .int re_turned, .int re_names, re_who, re_strong, re_kind, re_lane, re_mood, re_price, re_loses, .ref a_re_name, .ref a_re_nameSort, .ref a_re_numberOf])), (a_re_name, .inl (cy 2, 11, .inr (.inl re_name))), (a_re_nameSort, .inl (cy 1, 11, .inl re_nameSort)), (a_re_numberOf, .inl (cy 1, 11, .inl re_numberOf))]) hD [0, 5, 1, 2, 3, 4] rfl rfl
  refine lv_istore_n (lv' := [(1, .int r_9), (0, .ref a_mo)]) hx hb dX13_readTurned_11 rfl hl (by decide) rfl (fun ls hl => ?_)
  refine lv_aload_n hx hb dX13_readTurned_12 rfl (lv_at hl 1 rfl) ?_
  refine va_get (D := D) (ci := 13) (C := RX13) (T := TX13) (N := 39) (v := .int mo_sort_10) hx hb hX13 (fun _ q => q) hown hK hP 0 rfl rfl 9 (by decide) (hts (.fieldLink RX13 82 "ElephantLineModel" "sort" "I") (by decide +kernel)) (fun _ h9 => h9) rfl dX13_readTurned_13 ?_
  refine lv_iconst (v := 5) hx hb dX13_readTurned_16 (by decide) ?_
  have jn39 : ∀ (mo_sort_14 : Int32) (mo_fault_15 : Int32) (mo_wrongAt_16 : Int32), f_X13_readTurned_B39 mo_size mo_tape re_lanes re_names re_name re_nameSort re_numberOf r_9 mo_spot_1 mo_sort_14 mo_place_3 mo_number_4 mo_fault_15 mo_wrongAt_16 mo_word_7 re_turned = some (mo_spot', mo_sort', mo_place', mo_number', mo_fault', mo_wrongAt', mo_word', re_turned') → ∀ (H : Heap) (locs : List Loc), va_P D vwCl ([(a_mo, .inr (13, [.int mo_thrown, .int mo_trouble, .int mo_where, mo_war, .ref a_re, .ref a_mo_tape, .int mo_taped, .int mo_size, .int mo_spot_1, .int mo_sort_14, .int mo_place_3, .int mo_number_4, .int mo_fault_15, .int mo_wrongAt_16, .int mo_laneTold, .long mo_word_7, mo_v, mo_x, mo_past, mo_kept, .int mo_acts, .int mo_marks, mo_put, mo_bestPut, .long mo_bestSum, mo_row, mo_best, mo_left, .int mo_bestSize, .int mo_bestLeft, mo_counts, .int mo_sets, .int mo_foeHarm, .int mo_ownHarm, .int mo_across, .int mo_sumFoe, .int mo_sumOwn, .int mo_sumWon, .int mo_sumAcross])), (a_mo_tape, .inl (cy 0, 900, .inl mo_tape)), (a_re, .inr (12, [.int re_lanes, .int re_deep, .int re_told, .int re_beasts, .int re_cities, .int re_passes, .int re_turned, .int re_names, re_who, re_strong, re_kind, re_lane, re_mood, re_price, re_loses, .ref a_re_name, .ref a_re_nameSort, .ref a_re_numberOf])), (a_re_name, .inl (cy 2, 11, .inr (.inl re_name))), (a_re_nameSort, .inl (cy 1, 11, .inl re_nameSort)), (a_re_numberOf, .inl (cy 1, 11, .inl re_numberOf))] ++ X) H → va_D A ([(a_mo, .inr (13, [.int mo_thrown, .int mo_trouble, .int mo_where, mo_war, .ref a_re, .ref a_mo_tape, .int mo_taped, .int mo_size, .int mo_spot_1, .int mo_sort_14, .int mo_place_3, .int mo_number_4, .int mo_fault_15, .int mo_wrongAt_16, .int mo_laneTold, .long mo_word_7, mo_v, mo_x, mo_past, mo_kept, .int mo_acts, .int mo_marks, mo_put, mo_bestPut, .long mo_bestSum, mo_row, mo_best, mo_left, .int mo_bestSize, .int mo_bestLeft, mo_counts, .int mo_sets, .int mo_foeHarm, .int mo_ownHarm, .int mo_across, .int mo_sumFoe, .int mo_sumOwn, .int mo_sumWon, .int mo_sumAcross])), (a_mo_tape, .inl (cy 0, 900, .inl mo_tape)), (a_re, .inr (12, [.int re_lanes, .int re_deep, .int re_told, .int re_beasts, .int re_cities, .int re_passes, .int re_turned, .int re_names, re_who, re_strong, re_kind, re_lane, re_mood, re_price, re_loses, .ref a_re_name, .ref a_re_nameSort, .ref a_re_numberOf])), (a_re_name, .inl (cy 2, 11, .inr (.inl re_name))), (a_re_nameSort, .inl (cy 1, 11, .inl re_nameSort)), (a_re_numberOf, .inl (cy 1, 11, .inl re_numberOf))] ++ X) → va_S A s.heap H locs → ∀ ls : Array Slot, lv_has ls 2 [(0, .ref a_mo), (1, .int r_9)] → W p l e (headSpec wo_X13_readTurned ({ frames := 8, cells := 0, slots := 0, locals := 177 })).room s m (([.ref a_mo] : List Value).toArray) below meth c H locs 0 0 (MQ below (va_Qv (fun (_ : Unit) => True) (wB D A ([(a_mo, .inr (13, [.int mo_thrown, .int mo_trouble, .int mo_where, mo_war, .ref a_re, .ref a_mo_tape, .int mo_taped, .int mo_size, .int mo_spot', .int mo_sort', .int mo_place', .int mo_number', .int mo_fault', .int mo_wrongAt', .int mo_laneTold, .long mo_word', mo_v, mo_x, mo_past, mo_kept, .int mo_acts, .int mo_marks, mo_put, mo_bestPut, .long mo_bestSum, mo_row, mo_best, mo_left, .int mo_bestSize, .int mo_bestLeft, mo_counts, .int mo_sets, .int mo_foeHarm, .int mo_ownHarm, .int mo_across, .int mo_sumFoe, .int mo_sumOwn, .int mo_sumWon, .int mo_sumAcross])), (a_mo_tape, .inl (cy 0, 900, .inl mo_tape)), (a_re, .inr (12, [.int re_lanes, .int re_deep, .int re_told, .int re_beasts, .int re_cities, .int re_passes, .int re_turned', .int re_names, re_who, re_strong, re_kind, re_lane, re_mood, re_price, re_loses, .ref a_re_name, .ref a_re_nameSort, .ref a_re_numberOf])), (a_re_name, .inl (cy 2, 11, .inr (.inl re_name))), (a_re_nameSort, .inl (cy 1, 11, .inl re_nameSort)), (a_re_numberOf, .inl (cy 1, 11, .inl re_numberOf))] ++ X)) A) (([.ref a_mo] : List Value).toArray) s 0 0 A) (F0 m 39 ls []) := by
    intro mo_sort_14 mo_fault_15 mo_wrongAt_16 h H locs hP hD hS ls hl
    unfold f_X13_readTurned_B39 at h
    refine lv_aload_n hx hb dX13_readTurned_39 rfl (lv_at hl 0 rfl) ?_
    obtain ⟨mo_spot_17, mo_sort_18, mo_place_19, mo_number_20, mo_word_21, hc_22, h⟩ := bd5_some h
    refine wVv [] [] ⟨hx, hb, hml, hown, hts⟩ (c_X13_goesOn l D cy A ([(a_re, .inr (12, [.int re_lanes, .int re_deep, .int re_told, .int re_beasts, .int re_cities, .int re_passes, .int re_turned, .int re_names, re_who, re_strong, re_kind, re_lane, re_mood, re_price, re_loses, .ref a_re_name, .ref a_re_nameSort, .ref a_re_numberOf])), (a_re_name, .inl (cy 2, 11, .inr (.inl re_name))), (a_re_nameSort, .inl (cy 1, 11, .inl re_nameSort)), (a_re_numberOf, .inl (cy 1, 11, .inl re_numberOf))] ++ X) a_mo a_mo_tape mo_thrown mo_trouble mo_where (mo_war) (.ref a_re) mo_taped mo_size mo_spot_1 mo_sort_14 mo_place_3 mo_number_4 mo_fault_15 mo_wrongAt_16 mo_laneTold mo_word_7 (mo_v) (mo_x) (mo_past) (mo_kept) mo_acts mo_marks (mo_put) (mo_bestPut) mo_bestSum (mo_row) (mo_best) (mo_left) mo_bestSize mo_bestLeft (mo_counts) mo_sets mo_foeHarm mo_ownHarm mo_across mo_sumFoe mo_sumOwn mo_sumWon mo_sumAcross mo_tape mo_spot_17 mo_sort_18 mo_place_19 mo_number_20 mo_word_21 hc_22) gX13_readTurned_X13_goesOn rfl hd_X13_goesOn ⟨Nat.le_of_ble_eq_true rfl, Nat.le_of_ble_eq_true rfl⟩ rfl rfl hKN (pX3 hP [0, 1, 2, 3, 4, 5] rfl) (dX3 hD [0, 1, 2, 3, 4, 5] rfl rfl) hS hA 13 0 rfl rfl rfl hl.1 rfl (Nat.le_of_ble_eq_true rfl) dX13_readTurned_40 ⟨Nat.le_of_ble_eq_true rfl, Nat.le_of_ble_eq_true rfl⟩ (fun H locs hP hD hS => ?_)
    have hP := pX4 (L1 := [(a_mo, .inr (13, [.int mo_thrown, .int mo_trouble, .int mo_where, mo_war, .ref a_re, .ref a_mo_tape, .int mo_taped, .int mo_size, .int mo_spot_17, .int mo_sort_18, .int mo_place_19, .int mo_number_20, .int mo_fault_15, .int mo_wrongAt_16, .int mo_laneTold, .long mo_word_21, mo_v, mo_x, mo_past, mo_kept, .int mo_acts, .int mo_marks, mo_put, mo_bestPut, .long mo_bestSum, mo_row, mo_best, mo_left, .int mo_bestSize, .int mo_bestLeft, mo_counts, .int mo_sets, .int mo_foeHarm, .int mo_ownHarm, .int mo_across, .int mo_sumFoe, .int mo_sumOwn, .int mo_sumWon, .int mo_sumAcross])), (a_mo_tape, .inl (cy 0, 900, .inl mo_tape)), (a_re, .inr (12, [.int re_lanes, .int re_deep, .int re_told, .int re_beasts, .int re_cities, .int re_passes, .int re_turned, .int re_names, re_who, re_strong, re_kind, re_lane, re_mood, re_price, re_loses, .ref a_re_name, .ref a_re_nameSort, .ref a_re_numberOf])), (a_re_name, .inl (cy 2, 11, .inr (.inl re_name))), (a_re_nameSort, .inl (cy 1, 11, .inl re_nameSort)), (a_re_numberOf, .inl (cy 1, 11, .inl re_numberOf))]) hP [0, 1, 2, 3, 4, 5] rfl
    have hD := dX4 (L1 := [(a_mo, .inr (13, [.int mo_thrown, .int mo_trouble, .int mo_where, mo_war, .ref a_re, .ref a_mo_tape, .int mo_taped, .int mo_size, .int mo_spot_17, .int mo_sort_18, .int mo_place_19, .int mo_number_20, .int mo_fault_15, .int mo_wrongAt_16, .int mo_laneTold, .long mo_word_21, mo_v, mo_x, mo_past, mo_kept, .int mo_acts, .int mo_marks, mo_put, mo_bestPut, .long mo_bestSum, mo_row, mo_best, mo_left, .int mo_bestSize, .int mo_bestLeft, mo_counts, .int mo_sets, .int mo_foeHarm, .int mo_ownHarm, .int mo_across, .int mo_sumFoe, .int mo_sumOwn, .int mo_sumWon, .int mo_sumAcross])), (a_mo_tape, .inl (cy 0, 900, .inl mo_tape)), (a_re, .inr (12, [.int re_lanes, .int re_deep, .int re_told, .int re_beasts, .int re_cities, .int re_passes, .int re_turned, .int re_names, re_who, re_strong, re_kind, re_lane, re_mood, re_price, re_loses, .ref a_re_name, .ref a_re_nameSort, .ref a_re_numberOf])), (a_re_name, .inl (cy 2, 11, .inr (.inl re_name))), (a_re_nameSort, .inl (cy 1, 11, .inl re_nameSort)), (a_re_numberOf, .inl (cy 1, 11, .inl re_numberOf))]) hD [0, 1, 2, 3, 4, 5] rfl rfl
    refine lv_aload_n hx hb dX13_readTurned_43 rfl (lv_at hl 0 rfl) ?_
    refine va_get (D := D) (ci := 13) (C := RX13) (T := TX13) (N := 39) (v := .int mo_sort_18) hx hb hX13 (fun _ q => q) hown hK hP 0 rfl rfl 9 (by decide) (hts (.fieldLink RX13 82 "ElephantLineModel" "sort" "I") (by decide +kernel)) (fun _ h9 => h9) rfl dX13_readTurned_44 ?_
    refine lv_iconst (v := 5) hx hb dX13_readTurned_47 (by decide) ?_
    refine lv_icmp_eq (tgt := 66) hx hb dX13_readTurned_48 (by decide) (fun cd => ?_) (fun cd => ?_)
    · have h := ifT cd h
      cases h
      exact W.vret hx hb hr (fun t ht _ => ⟨⟨(), rfl, trivial, by rw [ht]; exact hP, hD⟩, hS.F ht⟩) hS.2.2 dX13_readTurned_66
    · have h := ifF cd h
      refine lv_aload_n hx hb dX13_readTurned_51 rfl (lv_at hl 0 rfl) ?_
      refine va_get (D := D) (ci := 13) (C := RX13) (T := TX13) (N := 39) (v := .ref a_re) hx hb hX13 (fun _ q => q) hown hK hP 0 rfl rfl 4 (by decide) (hts (.fieldLink RX13 156 "ElephantLineModel" "read" "LElephantLineModel$War;") (by decide +kernel)) (fun _ h9 => h9) rfl dX13_readTurned_52 ?_
      refine lv_dup hx hb dX13_readTurned_55 rfl ?_
      refine va_getN (D := D) (ci := 12) (C := RX12) (T := TX12) (N := 18) (v := .int re_turned) hx hb hX12 (fun _ q => q) hown hK hP 2 rfl rfl 6 (by decide) (va_Nw.use rfl (hKN.2.1.1 ("ElephantLineModel", 292, "ElephantLineModel$War", "turned", "I", "ElephantLineModel") (List.mem_of_getElem? (i := 73) rfl))) (fun _ h9 => h9) rfl dX13_readTurned_56 ?_
      refine lv_iconst (v := 1) hx hb dX13_readTurned_59 (by decide) ?_
      refine lv_iload_n hx hb dX13_readTurned_60 rfl (lv_at hl 1 rfl) ?_
      refine lv_ishl hx hb dX13_readTurned_61 ?_
      refine lv_ior hx hb dX13_readTurned_62 ?_
      refine va_putN (D := D) (ci := 12) (C := RX12) (T := TX12) (N := 18) (v := .int (re_turned ||| ((1 : Int32) <<< (r_9 &&& 31)))) (ty := .int) hx hb hX12 (fun _ q => q) tyX12 tyX12_ok nmX12 hown hK hP hD hS 2 rfl rfl 6 (by decide) (va_Nw.use rfl (hKN.2.1.1 ("ElephantLineModel", 292, "ElephantLineModel$War", "turned", "I", "ElephantLineModel") (List.mem_of_getElem? (i := 73) rfl))) (fun _ h9 => h9) rfl (tyX12_ok 6 (by decide)) rfl rfl (Nat.le_of_ble_eq_true rfl) dX13_readTurned_63 (fun H locs hP hD hS => ?_)
      cases h
      exact W.vret hx hb hr (fun t ht _ => ⟨⟨(), rfl, trivial, by rw [ht]; exact hP, hD⟩, hS.F ht⟩) hS.2.2 dX13_readTurned_66
  refine lv_icmp_eq (tgt := 39) hx hb dX13_readTurned_17 (by decide) (fun cd => ?_) (fun cd => ?_)
  · have h := ifT cd h
    exact jn39 mo_sort_10 mo_fault_11 mo_wrongAt_12 h _ _ hP hD hS _ (lv_sub hl [1, 0] rfl)
  · have h := ifF cd h
    refine lv_aload_n hx hb dX13_readTurned_20 rfl (lv_at hl 1 rfl) ?_
    refine va_get (D := D) (ci := 13) (C := RX13) (T := TX13) (N := 39) (v := .ref a_re) hx hb hX13 (fun _ q => q) hown hK hP 0 rfl rfl 4 (by decide) (hts (.fieldLink RX13 156 "ElephantLineModel" "read" "LElephantLineModel$War;") (by decide +kernel)) (fun _ h9 => h9) rfl dX13_readTurned_21 ?_
    refine va_getN (D := D) (ci := 12) (C := RX12) (T := TX12) (N := 18) (v := .int re_turned) hx hb hX12 (fun _ q => q) hown hK hP 2 rfl rfl 6 (by decide) (va_Nw.use rfl (hKN.2.1.1 ("ElephantLineModel", 292, "ElephantLineModel$War", "turned", "I", "ElephantLineModel") (List.mem_of_getElem? (i := 73) rfl))) (fun _ h9 => h9) rfl dX13_readTurned_24 ?_
    refine lv_iload_n hx hb dX13_readTurned_27 rfl (lv_at hl 0 rfl) ?_
    obtain ⟨r_23, hc_24, h⟩ := bd1_some h
    refine kSb [.int re_turned, .int r_9] [] ⟨hx, hb, hml, hown, hts⟩ (c_X13_bit l D cy re_turned r_9 r_23 hc_24) gX13_readTurned_X13_bit rfl hd_X13_bit ⟨Nat.le_of_ble_eq_true rfl, Nat.le_of_ble_eq_true rfl⟩ rfl rfl hKN va_nil rfl hl.1 rfl (Nat.le_of_ble_eq_true rfl) dX13_readTurned_28 ⟨Nat.le_of_ble_eq_true rfl, Nat.le_of_ble_eq_true rfl⟩ (fun nb_25 => ?_)
    refine lv_if_eq (tgt := 39) hx hb dX13_readTurned_31 (by decide) (fun cd => ?_) (fun cd => ?_)
    · have h := ifT cd h
      exact jn39 mo_sort_10 mo_fault_11 mo_wrongAt_12 h _ _ hP hD hS _ (lv_sub hl [1, 0] rfl)
    · have h := ifF cd h
      refine lv_aload_n hx hb dX13_readTurned_34 rfl (lv_at hl 1 rfl) ?_
      refine lv_iconst (v := 3) hx hb dX13_readTurned_35 (by decide) ?_
      obtain ⟨mo_sort_26, mo_fault_27, mo_wrongAt_28, hc_29, h⟩ := bd3_some h
      refine wVv [.int 3] [] ⟨hx, hb, hml, hown, hts⟩ (c_X13_flaw l D cy A ([(a_mo_tape, .inl (cy 0, 900, .inl mo_tape)), (a_re, .inr (12, [.int re_lanes, .int re_deep, .int re_told, .int re_beasts, .int re_cities, .int re_passes, .int re_turned, .int re_names, re_who, re_strong, re_kind, re_lane, re_mood, re_price, re_loses, .ref a_re_name, .ref a_re_nameSort, .ref a_re_numberOf])), (a_re_name, .inl (cy 2, 11, .inr (.inl re_name))), (a_re_nameSort, .inl (cy 1, 11, .inl re_nameSort)), (a_re_numberOf, .inl (cy 1, 11, .inl re_numberOf))] ++ X) a_mo mo_thrown mo_trouble mo_where (mo_war) (.ref a_re) (.ref a_mo_tape) mo_taped mo_size mo_spot_1 mo_sort_10 mo_place_3 mo_number_4 mo_fault_11 mo_wrongAt_12 mo_laneTold mo_word_7 (mo_v) (mo_x) (mo_past) (mo_kept) mo_acts mo_marks (mo_put) (mo_bestPut) mo_bestSum (mo_row) (mo_best) (mo_left) mo_bestSize mo_bestLeft (mo_counts) mo_sets mo_foeHarm mo_ownHarm mo_across mo_sumFoe mo_sumOwn mo_sumWon mo_sumAcross (3 : Int32) mo_sort_26 mo_fault_27 mo_wrongAt_28 hc_29) gX13_readTurned_X13_flaw rfl hd_X13_flaw ⟨Nat.le_of_ble_eq_true rfl, Nat.le_of_ble_eq_true rfl⟩ rfl rfl hKN (pX3 hP [0, 1, 2, 3, 4, 5] rfl) (dX3 hD [0, 1, 2, 3, 4, 5] rfl rfl) hS hA 13 0 rfl rfl rfl hl.1 rfl (Nat.le_of_ble_eq_true rfl) dX13_readTurned_36 ⟨Nat.le_of_ble_eq_true rfl, Nat.le_of_ble_eq_true rfl⟩ (fun H locs hP hD hS => ?_)
      have hP := pX4 (L1 := [(a_mo, .inr (13, [.int mo_thrown, .int mo_trouble, .int mo_where, mo_war, .ref a_re, .ref a_mo_tape, .int mo_taped, .int mo_size, .int mo_spot_1, .int mo_sort_26, .int mo_place_3, .int mo_number_4, .int mo_fault_27, .int mo_wrongAt_28, .int mo_laneTold, .long mo_word_7, mo_v, mo_x, mo_past, mo_kept, .int mo_acts, .int mo_marks, mo_put, mo_bestPut, .long mo_bestSum, mo_row, mo_best, mo_left, .int mo_bestSize, .int mo_bestLeft, mo_counts, .int mo_sets, .int mo_foeHarm, .int mo_ownHarm, .int mo_across, .int mo_sumFoe, .int mo_sumOwn, .int mo_sumWon, .int mo_sumAcross])), (a_mo_tape, .inl (cy 0, 900, .inl mo_tape)), (a_re, .inr (12, [.int re_lanes, .int re_deep, .int re_told, .int re_beasts, .int re_cities, .int re_passes, .int re_turned, .int re_names, re_who, re_strong, re_kind, re_lane, re_mood, re_price, re_loses, .ref a_re_name, .ref a_re_nameSort, .ref a_re_numberOf])), (a_re_name, .inl (cy 2, 11, .inr (.inl re_name))), (a_re_nameSort, .inl (cy 1, 11, .inl re_nameSort)), (a_re_numberOf, .inl (cy 1, 11, .inl re_numberOf))]) hP [0, 1, 2, 3, 4, 5] rfl
      have hD := dX4 (L1 := [(a_mo, .inr (13, [.int mo_thrown, .int mo_trouble, .int mo_where, mo_war, .ref a_re, .ref a_mo_tape, .int mo_taped, .int mo_size, .int mo_spot_1, .int mo_sort_26, .int mo_place_3, .int mo_number_4, .int mo_fault_27, .int mo_wrongAt_28, .int mo_laneTold, .long mo_word_7, mo_v, mo_x, mo_past, mo_kept, .int mo_acts, .int mo_marks, mo_put, mo_bestPut, .long mo_bestSum, mo_row, mo_best, mo_left, .int mo_bestSize, .int mo_bestLeft, mo_counts, .int mo_sets, .int mo_foeHarm, .int mo_ownHarm, .int mo_across, .int mo_sumFoe, .int mo_sumOwn, .int mo_sumWon, .int mo_sumAcross])), (a_mo_tape, .inl (cy 0, 900, .inl mo_tape)), (a_re, .inr (12, [.int re_lanes, .int re_deep, .int re_told, .int re_beasts, .int re_cities, .int re_passes, .int re_turned, .int re_names, re_who, re_strong, re_kind, re_lane, re_mood, re_price, re_loses, .ref a_re_name, .ref a_re_nameSort, .ref a_re_numberOf])), (a_re_name, .inl (cy 2, 11, .inr (.inl re_name))), (a_re_nameSort, .inl (cy 1, 11, .inl re_nameSort)), (a_re_numberOf, .inl (cy 1, 11, .inl re_numberOf))]) hD [0, 1, 2, 3, 4, 5] rfl rfl
      exact jn39 mo_sort_26 mo_fault_27 mo_wrongAt_28 h _ _ hP hD hS _ (lv_sub hl [1, 0] rfl)
theorem hd_X13_feed : yX13_feed.cls = RX13 ∧ yX13_feed.cls ≠ "java/lang/invoke/MethodHandle" ∧ yX13_feed.cls ≠ "java/lang/invoke/VarHandle" ∧ (parseMethodDescriptor yX13_feed.desc).map (fun d => d.parameters.length) = some 5 := by decide +kernel
set_option maxHeartbeats 4000000 in
set_option maxRecDepth 100000 in
theorem c_X13_feed (l : Launch) (D : va_G) (cy : Nat → ClassId) (A : Nat → Prop) (X : va_W) (a_mo a_mo_tape : Nat) (mo_thrown : Int32) (mo_trouble : Int32) (mo_where : Int32) (mo_war : Value) (mo_read : Value) (mo_taped : Int32) (mo_size : Int32) (mo_spot : Int32) (mo_sort : Int32) (mo_place : Int32) (mo_number : Int32) (mo_fault : Int32) (mo_wrongAt : Int32) (mo_laneTold : Int32) (mo_word : Int64) (mo_v : Value) (mo_x : Value) (mo_past : Value) (mo_kept : Value) (mo_acts : Int32) (mo_marks : Int32) (mo_put : Value) (mo_bestPut : Value) (mo_bestSum : Int64) (mo_row : Value) (mo_best : Value) (mo_left : Value) (mo_bestSize : Int32) (mo_bestLeft : Int32) (mo_counts : Value) (mo_sets : Int32) (mo_foeHarm : Int32) (mo_ownHarm : Int32) (mo_across : Int32) (mo_sumFoe : Int32) (mo_sumOwn : Int32) (mo_sumWon : Int32) (mo_sumAcross : Int32) (mo_tape : Nat → Int32) (p1 : Int32) (p2 : Int32) (p3 : Int32) (p4 : Int32) (p5 : Int32) (res : Int32) (mo_thrown' : Int32) (mo_taped' : Int32) (mo_tape' : Nat → Int32) (h : f_X13_feed mo_thrown mo_taped mo_tape p1 p2 p3 p4 p5 = some (res, mo_thrown', mo_taped', mo_tape')) : Met l yX13_feed wo_X13_feed ({ frames := 0, cells := 0, slots := 0, locals := 0 }) (wrPc D cy A [.ref a_mo, .int p1, .int p2, .int p3, .int p4, .int p5] ([(a_mo, .inr (13, [.int mo_thrown, .int mo_trouble, .int mo_where, mo_war, mo_read, .ref a_mo_tape, .int mo_taped, .int mo_size, .int mo_spot, .int mo_sort, .int mo_place, .int mo_number, .int mo_fault, .int mo_wrongAt, .int mo_laneTold, .long mo_word, mo_v, mo_x, mo_past, mo_kept, .int mo_acts, .int mo_marks, mo_put, mo_bestPut, .long mo_bestSum, mo_row, mo_best, mo_left, .int mo_bestSize, .int mo_bestLeft, mo_counts, .int mo_sets, .int mo_foeHarm, .int mo_ownHarm, .int mo_across, .int mo_sumFoe, .int mo_sumOwn, .int mo_sumWon, .int mo_sumAcross])), (a_mo_tape, .inl (cy 0, 900, .inl mo_tape))] ++ X)) (va_Qi (fun (r : Int32) (_ : Unit) => r = res) (wB D A ([(a_mo, .inr (13, [.int mo_thrown', .int mo_trouble, .int mo_where, mo_war, mo_read, .ref a_mo_tape, .int mo_taped', .int mo_size, .int mo_spot, .int mo_sort, .int mo_place, .int mo_number, .int mo_fault, .int mo_wrongAt, .int mo_laneTold, .long mo_word, mo_v, mo_x, mo_past, mo_kept, .int mo_acts, .int mo_marks, mo_put, mo_bestPut, .long mo_bestSum, mo_row, mo_best, mo_left, .int mo_bestSize, .int mo_bestLeft, mo_counts, .int mo_sets, .int mo_foeHarm, .int mo_ownHarm, .int mo_across, .int mo_sumFoe, .int mo_sumOwn, .int mo_sumWon, .int mo_sumAcross])), (a_mo_tape, .inl (cy 0, 900, .inl mo_tape'))] ++ X)) A) 0 0 A := by
  refine Met.ofW (cc := cX13_feed) (maxL := 8) (ret := (some .int)) (by decide) rfl ?_
  intro p e s m args below meth c s₁ B hml hv
  obtain ⟨rfl, hP, hKN, hD, hA⟩ := hv
  have hK := hKN.1
  have hx := B.exec
  have hb := B.bytes
  have hr := B.returns
  have hts := wt_X13_feed hKN.2.2 (([.ref a_mo, .int p1, .int p2, .int p3, .int p4, .int p5] : List Value).toArray)
  have hown : s.vm.findClass RX13 = some m.cls := findClass_of_methodNamed B.named
  have hlocks := B.notSynchronized
  have hS : va_S A s.heap s.heap [] := va_S.rf
  have hX13 := wc_X13 hKN.2.2 (([.ref a_mo, .int p1, .int p2, .int p3, .int p4, .int p5] : List Value).toArray)
  have hl := lv_entry ([.ref a_mo, .int p1, .int p2, .int p3, .int p4, .int p5]) (n := 8) (Nat.le_of_ble_eq_true rfl)
  rw [lg_entry_eq]
  generalize (lg_sl ([.ref a_mo, .int p1, .int p2, .int p3, .int p4, .int p5]) ++ List.replicate (8 - (lg_sl ([.ref a_mo, .int p1, .int p2, .int p3, .int p4, .int p5])).length) Slot.unset).toArray = ls at hl ⊢
  have hl : lv_has ls 8 [(0, .ref a_mo), (1, .int p1), (2, .int p2), (3, .int p3), (4, .int p4), (5, .int p5)] := hl
  unfold f_X13_feed at h
  refine lv_aload_n hx hb dX13_feed_0 rfl (lv_at hl 0 rfl) ?_
  refine lv_iconst (v := 0) hx hb dX13_feed_1 (by decide) ?_
  refine va_put (D := D) (ci := 13) (C := RX13) (T := TX13) (N := 39) (v := .int 0) (ty := .int) hx hb hX13 (fun _ q => q) tyX13 tyX13_ok nmX13 hown hK hP hD hS 0 rfl rfl 0 (by decide) (hts (.fieldLink RX13 48 "ElephantLineModel" "thrown" "I") (by decide +kernel)) (fun _ h9 => h9) rfl (tyX13_ok 0 (by decide)) rfl rfl (Nat.le_of_ble_eq_true rfl) dX13_feed_2 (fun H locs hP hD hS => ?_)
  refine lv_aload_n hx hb dX13_feed_5 rfl (lv_at hl 0 rfl) ?_
  refine va_get (D := D) (ci := 13) (C := RX13) (T := TX13) (N := 39) (v := .int mo_taped) hx hb hX13 (fun _ q => q) hown hK hP 0 rfl rfl 6 (by decide) (hts (.fieldLink RX13 294 "ElephantLineModel" "taped" "I") (by decide +kernel)) (fun _ h9 => h9) rfl dX13_feed_6 ?_
  refine lv_bipush (v := 20) hx hb dX13_feed_9 (by decide) ?_
  refine lv_iadd hx hb dX13_feed_11 ?_
  refine lv_sipush (v := 900) hx hb dX13_feed_12 (by decide) ?_
  refine lv_icmp_le (tgt := 20) hx hb dX13_feed_15 (by decide) (fun cd => ?_) (fun cd => ?_)
  · have h := ifT cd h
    refine lv_iconst (v := 0) hx hb dX13_feed_20 (by decide) ?_
    refine lv_istore (lv' := [(6, .int 0), (0, .ref a_mo), (1, .int p1), (2, .int p2), (3, .int p3), (4, .int p4), (5, .int p5)]) hx hb dX13_feed_21 hl (by decide) rfl (fun ls hl => ?_)
    have lp23 : ∀ (n23 : Nat) (x6_1 : Int32) (mo_taped_2 : Int32) (mo_tape_3 : Nat → Int32), f_X13_feed_L23 p1 p2 p3 p4 p5 0 n23 x6_1 mo_taped_2 mo_tape_3 = some (res, mo_thrown', mo_taped', mo_tape') → ∀ (H : Heap) (locs : List Loc), va_P D vwCl ([(a_mo, .inr (13, [.int 0, .int mo_trouble, .int mo_where, mo_war, mo_read, .ref a_mo_tape, .int mo_taped_2, .int mo_size, .int mo_spot, .int mo_sort, .int mo_place, .int mo_number, .int mo_fault, .int mo_wrongAt, .int mo_laneTold, .long mo_word, mo_v, mo_x, mo_past, mo_kept, .int mo_acts, .int mo_marks, mo_put, mo_bestPut, .long mo_bestSum, mo_row, mo_best, mo_left, .int mo_bestSize, .int mo_bestLeft, mo_counts, .int mo_sets, .int mo_foeHarm, .int mo_ownHarm, .int mo_across, .int mo_sumFoe, .int mo_sumOwn, .int mo_sumWon, .int mo_sumAcross])), (a_mo_tape, .inl (cy 0, 900, .inl mo_tape_3))] ++ X) H → va_D A ([(a_mo, .inr (13, [.int 0, .int mo_trouble, .int mo_where, mo_war, mo_read, .ref a_mo_tape, .int mo_taped_2, .int mo_size, .int mo_spot, .int mo_sort, .int mo_place, .int mo_number, .int mo_fault, .int mo_wrongAt, .int mo_laneTold, .long mo_word, mo_v, mo_x, mo_past, mo_kept, .int mo_acts, .int mo_marks, mo_put, mo_bestPut, .long mo_bestSum, mo_row, mo_best, mo_left, .int mo_bestSize, .int mo_bestLeft, mo_counts, .int mo_sets, .int mo_foeHarm, .int mo_ownHarm, .int mo_across, .int mo_sumFoe, .int mo_sumOwn, .int mo_sumWon, .int mo_sumAcross])), (a_mo_tape, .inl (cy 0, 900, .inl mo_tape_3))] ++ X) → va_S A s.heap H locs → ∀ ls : Array Slot, lv_has ls 8 [(0, .ref a_mo), (1, .int p1), (2, .int p2), (3, .int p3), (4, .int p4), (5, .int p5), (6, .int x6_1)] → W p l e (headSpec wo_X13_feed ({ frames := 0, cells := 0, slots := 0, locals := 0 })).room s m (([.ref a_mo, .int p1, .int p2, .int p3, .int p4, .int p5] : List Value).toArray) below meth c H locs 0 0 (MQ below (va_Qi (fun (r : Int32) (_ : Unit) => r = res) (wB D A ([(a_mo, .inr (13, [.int mo_thrown', .int mo_trouble, .int mo_where, mo_war, mo_read, .ref a_mo_tape, .int mo_taped', .int mo_size, .int mo_spot, .int mo_sort, .int mo_place, .int mo_number, .int mo_fault, .int mo_wrongAt, .int mo_laneTold, .long mo_word, mo_v, mo_x, mo_past, mo_kept, .int mo_acts, .int mo_marks, mo_put, mo_bestPut, .long mo_bestSum, mo_row, mo_best, mo_left, .int mo_bestSize, .int mo_bestLeft, mo_counts, .int mo_sets, .int mo_foeHarm, .int mo_ownHarm, .int mo_across, .int mo_sumFoe, .int mo_sumOwn, .int mo_sumWon, .int mo_sumAcross])), (a_mo_tape, .inl (cy 0, 900, .inl mo_tape'))] ++ X)) A) (([.ref a_mo, .int p1, .int p2, .int p3, .int p4, .int p5] : List Value).toArray) s 0 0 A) (F0 m 23 ls []) := by
      intro n23
      induction n23 with
      | zero => intro x6_1 mo_taped_2 mo_tape_3 h; exact absurd (show (none : Option (Int32 × Int32 × Int32 × (Nat → Int32))) = some _ from h) (by intro q; cases q)
      | succ n23 ih23 =>
        intro x6_1 mo_taped_2 mo_tape_3 h H locs hP hD hS ls hl
        have h : f_X13_feed_b23 p1 p2 p3 p4 p5 0 (f_X13_feed_L23 p1 p2 p3 p4 p5 0 n23) x6_1 mo_taped_2 mo_tape_3 = some (res, mo_thrown', mo_taped', mo_tape') := h
        unfold f_X13_feed_b23 at h
        refine lv_iload hx hb dX13_feed_23 (lv_at hl 6 rfl) ?_
        refine lv_bipush (v := 20) hx hb dX13_feed_25 (by decide) ?_
        refine lv_icmp_ge (tgt := 117) hx hb dX13_feed_27 (by decide) (fun cd => ?_) (fun cd => ?_)
        · have h := ifT cd h
          refine lv_aload_n hx hb dX13_feed_117 rfl (lv_at hl 0 rfl) ?_
          refine va_get (D := D) (ci := 13) (C := RX13) (T := TX13) (N := 39) (v := .int mo_taped_2) hx hb hX13 (fun _ q => q) hown hK hP 0 rfl rfl 6 (by decide) (hts (.fieldLink RX13 294 "ElephantLineModel" "taped" "I") (by decide +kernel)) (fun _ h9 => h9) rfl dX13_feed_118 ?_
          cases h
          exact W.iret hx hb hr (fun t ht _ => ⟨⟨_, (), rfl, rfl, by rw [ht]; exact hP, hD⟩, hS.F ht⟩) hS.2.2 dX13_feed_121
        · have h := ifF cd h
          refine lv_iload hx hb dX13_feed_30 (lv_at hl 6 rfl) ?_
          refine lv_iconst (v := 4) hx hb dX13_feed_32 (by decide) ?_
          have jn76 : ∀ (t0_4 : Int32), f_X13_feed_B76 (f_X13_feed_L23 p1 p2 p3 p4 p5 0 n23) p1 p2 p3 p4 p5 x6_1 t0_4 0 mo_taped_2 mo_tape_3 = some (res, mo_thrown', mo_taped', mo_tape') → ∀ (H : Heap) (locs : List Loc), va_P D vwCl ([(a_mo, .inr (13, [.int 0, .int mo_trouble, .int mo_where, mo_war, mo_read, .ref a_mo_tape, .int mo_taped_2, .int mo_size, .int mo_spot, .int mo_sort, .int mo_place, .int mo_number, .int mo_fault, .int mo_wrongAt, .int mo_laneTold, .long mo_word, mo_v, mo_x, mo_past, mo_kept, .int mo_acts, .int mo_marks, mo_put, mo_bestPut, .long mo_bestSum, mo_row, mo_best, mo_left, .int mo_bestSize, .int mo_bestLeft, mo_counts, .int mo_sets, .int mo_foeHarm, .int mo_ownHarm, .int mo_across, .int mo_sumFoe, .int mo_sumOwn, .int mo_sumWon, .int mo_sumAcross])), (a_mo_tape, .inl (cy 0, 900, .inl mo_tape_3))] ++ X) H → va_D A ([(a_mo, .inr (13, [.int 0, .int mo_trouble, .int mo_where, mo_war, mo_read, .ref a_mo_tape, .int mo_taped_2, .int mo_size, .int mo_spot, .int mo_sort, .int mo_place, .int mo_number, .int mo_fault, .int mo_wrongAt, .int mo_laneTold, .long mo_word, mo_v, mo_x, mo_past, mo_kept, .int mo_acts, .int mo_marks, mo_put, mo_bestPut, .long mo_bestSum, mo_row, mo_best, mo_left, .int mo_bestSize, .int mo_bestLeft, mo_counts, .int mo_sets, .int mo_foeHarm, .int mo_ownHarm, .int mo_across, .int mo_sumFoe, .int mo_sumOwn, .int mo_sumWon, .int mo_sumAcross])), (a_mo_tape, .inl (cy 0, 900, .inl mo_tape_3))] ++ X) → va_S A s.heap H locs → ∀ ls : Array Slot, lv_has ls 8 [(0, .ref a_mo), (1, .int p1), (2, .int p2), (3, .int p3), (4, .int p4), (5, .int p5), (6, .int x6_1)] → W p l e (headSpec wo_X13_feed ({ frames := 0, cells := 0, slots := 0, locals := 0 })).room s m (([.ref a_mo, .int p1, .int p2, .int p3, .int p4, .int p5] : List Value).toArray) below meth c H locs 0 0 (MQ below (va_Qi (fun (r : Int32) (_ : Unit) => r = res) (wB D A ([(a_mo, .inr (13, [.int mo_thrown', .int mo_trouble, .int mo_where, mo_war, mo_read, .ref a_mo_tape, .int mo_taped', .int mo_size, .int mo_spot, .int mo_sort, .int mo_place, .int mo_number, .int mo_fault, .int mo_wrongAt, .int mo_laneTold, .long mo_word, mo_v, mo_x, mo_past, mo_kept, .int mo_acts, .int mo_marks, mo_put, mo_bestPut, .long mo_bestSum, mo_row, mo_best, mo_left, .int mo_bestSize, .int mo_bestLeft, mo_counts, .int mo_sets, .int mo_foeHarm, .int mo_ownHarm, .int mo_across, .int mo_sumFoe, .int mo_sumOwn, .int mo_sumWon, .int mo_sumAcross])), (a_mo_tape, .inl (cy 0, 900, .inl mo_tape'))] ++ X)) A) (([.ref a_mo, .int p1, .int p2, .int p3, .int p4, .int p5] : List Value).toArray) s 0 0 A) (F0 m 76 ls [.int t0_4]) := by
            intro t0_4 h H locs hP hD hS ls hl
            unfold f_X13_feed_B76 at h
            refine lv_istore (lv' := [(7, .int t0_4), (0, .ref a_mo), (1, .int p1), (2, .int p2), (3, .int p3), (4, .int p4), (5, .int p5), (6, .int x6_1)]) hx hb dX13_feed_76 hl (by decide) rfl (fun ls hl => ?_)
            refine lv_aload_n hx hb dX13_feed_78 rfl (lv_at hl 1 rfl) ?_
            refine va_get (D := D) (ci := 13) (C := RX13) (T := TX13) (N := 39) (v := .ref a_mo_tape) hx hb hX13 (fun _ q => q) hown hK hP 0 rfl rfl 5 (by decide) (hts (.fieldLink RX13 13 "ElephantLineModel" "tape" "[B") (by decide +kernel)) (fun _ h9 => h9) rfl dX13_feed_79 ?_
            refine lv_aload_n hx hb dX13_feed_82 rfl (lv_at hl 1 rfl) ?_
            refine va_get (D := D) (ci := 13) (C := RX13) (T := TX13) (N := 39) (v := .int mo_taped_2) hx hb hX13 (fun _ q => q) hown hK hP 0 rfl rfl 6 (by decide) (hts (.fieldLink RX13 294 "ElephantLineModel" "taped" "I") (by decide +kernel)) (fun _ h9 => h9) rfl dX13_feed_83 ?_
            refine lv_iload hx hb dX13_feed_86 (lv_at hl 0 rfl) ?_
            refine lv_bipush (v := 24) hx hb dX13_feed_88 (by decide) ?_
            refine lv_bipush (v := 8) hx hb dX13_feed_90 (by decide) ?_
            refine lv_iload hx hb dX13_feed_92 (lv_at hl 7 rfl) ?_
            refine lv_iconst (v := 4) hx hb dX13_feed_94 (by decide) ?_
            refine lv_irem hx hb dX13_feed_95 (by decide) ?_
            refine lv_imul hx hb dX13_feed_96 ?_
            refine lv_isub hx hb dX13_feed_97 ?_
            refine lv_ishr hx hb dX13_feed_98 ?_
            refine lv_i2b hx hb dX13_feed_99 rfl ?_
            obtain ⟨i_5, h⟩ := gIn_some h
            refine va_bast hx hb hK hP hD hS 1 0 rfl rfl i_5 dX13_feed_100 (fun H locs hP hD hS => ?_)
            refine lv_aload_n hx hb dX13_feed_101 rfl (lv_at hl 1 rfl) ?_
            refine lv_dup hx hb dX13_feed_102 rfl ?_
            refine va_get (D := D) (ci := 13) (C := RX13) (T := TX13) (N := 39) (v := .int mo_taped_2) hx hb hX13 (fun _ q => q) hown hK hP 0 rfl rfl 6 (by decide) (hts (.fieldLink RX13 294 "ElephantLineModel" "taped" "I") (by decide +kernel)) (fun _ h9 => h9) rfl dX13_feed_103 ?_
            refine lv_iconst (v := 1) hx hb dX13_feed_106 (by decide) ?_
            refine lv_iadd hx hb dX13_feed_107 ?_
            refine va_put (D := D) (ci := 13) (C := RX13) (T := TX13) (N := 39) (v := .int (mo_taped_2 + 1)) (ty := .int) hx hb hX13 (fun _ q => q) tyX13 tyX13_ok nmX13 hown hK hP hD hS 0 rfl rfl 6 (by decide) (hts (.fieldLink RX13 294 "ElephantLineModel" "taped" "I") (by decide +kernel)) (fun _ h9 => h9) rfl (tyX13_ok 6 (by decide)) rfl rfl (Nat.le_of_ble_eq_true rfl) dX13_feed_108 (fun H locs hP hD hS => ?_)
            refine lv_iinc (v := x6_1 + 1) (lv' := [(6, .int (x6_1 + 1)), (7, .int t0_4), (0, .ref a_mo), (1, .int p1), (2, .int p2), (3, .int p3), (4, .int p4), (5, .int p5)]) hx hb dX13_feed_111 hl (k := 7) rfl (by first | rfl | decide) (by decide) rfl (fun ls hl => ?_)
            refine lv_goto (tgt := 23) hx hb dX13_feed_114 (by decide) ?_
            exact ih23 (x6_1 + 1) (mo_taped_2 + 1) (upd mo_tape_3 mo_taped_2.toNatClampNeg (vp_nar .byte ((t0_4 >>> ((24 - (8 * (x6_1 - x6_1 / 4 * 4))) &&& 31)).toInt8.toInt32))) h _ _ hP hD hS _ (lv_sub hl [2, 3, 4, 5, 6, 7, 0] rfl)
          refine lv_icmp_ge (tgt := 40) hx hb dX13_feed_33 (by decide) (fun cd => ?_) (fun cd => ?_)
          · have h := ifT cd h
            refine lv_iload hx hb dX13_feed_40 (lv_at hl 6 rfl) ?_
            refine lv_bipush (v := 8) hx hb dX13_feed_42 (by decide) ?_
            refine lv_icmp_ge (tgt := 51) hx hb dX13_feed_44 (by decide) (fun cd => ?_) (fun cd => ?_)
            · have h := ifT cd h
              refine lv_iload hx hb dX13_feed_51 (lv_at hl 6 rfl) ?_
              refine lv_bipush (v := 12) hx hb dX13_feed_53 (by decide) ?_
              refine lv_icmp_ge (tgt := 62) hx hb dX13_feed_55 (by decide) (fun cd => ?_) (fun cd => ?_)
              · have h := ifT cd h
                refine lv_iload hx hb dX13_feed_62 (lv_at hl 6 rfl) ?_
                refine lv_bipush (v := 16) hx hb dX13_feed_64 (by decide) ?_
                refine lv_icmp_ge (tgt := 74) hx hb dX13_feed_66 (by decide) (fun cd => ?_) (fun cd => ?_)
                · have h := ifT cd h
                  refine lv_iload hx hb dX13_feed_74 (lv_at hl 5 rfl) ?_
                  exact jn76 p5 h _ _ hP hD hS _ (lv_sub hl [0, 1, 2, 3, 4, 5, 6] rfl)
                · have h := ifF cd h
                  refine lv_iload hx hb dX13_feed_69 (lv_at hl 4 rfl) ?_
                  refine lv_goto (tgt := 76) hx hb dX13_feed_71 (by decide) ?_
                  exact jn76 p4 h _ _ hP hD hS _ (lv_sub hl [0, 1, 2, 3, 4, 5, 6] rfl)
              · have h := ifF cd h
                refine lv_iload_n hx hb dX13_feed_58 rfl (lv_at hl 3 rfl) ?_
                refine lv_goto (tgt := 76) hx hb dX13_feed_59 (by decide) ?_
                exact jn76 p3 h _ _ hP hD hS _ (lv_sub hl [0, 1, 2, 3, 4, 5, 6] rfl)
            · have h := ifF cd h
              refine lv_iload_n hx hb dX13_feed_47 rfl (lv_at hl 2 rfl) ?_
              refine lv_goto (tgt := 76) hx hb dX13_feed_48 (by decide) ?_
              exact jn76 p2 h _ _ hP hD hS _ (lv_sub hl [0, 1, 2, 3, 4, 5, 6] rfl)
          · have h := ifF cd h
            refine lv_iload_n hx hb dX13_feed_36 rfl (lv_at hl 1 rfl) ?_
            refine lv_goto (tgt := 76) hx hb dX13_feed_37 (by decide) ?_
            exact jn76 p1 h _ _ hP hD hS _ (lv_sub hl [0, 1, 2, 3, 4, 5, 6] rfl)
    exact lp23 fuelN (0 : Int32) mo_taped mo_tape h _ _ hP hD hS _ (lv_sub hl [1, 2, 3, 4, 5, 6, 0] rfl)
  · have h := ifF cd h
    refine lv_iconst (v := (-1)) hx hb dX13_feed_18 (by decide) ?_
    cases h
    exact W.iret hx hb hr (fun t ht _ => ⟨⟨_, (), rfl, rfl, by rw [ht]; exact hP, hD⟩, hS.F ht⟩) hS.2.2 dX13_feed_19
theorem hd_X13_fault : yX13_fault.cls = RX13 ∧ yX13_fault.cls ≠ "java/lang/invoke/MethodHandle" ∧ yX13_fault.cls ≠ "java/lang/invoke/VarHandle" ∧ (parseMethodDescriptor yX13_fault.desc).map (fun d => d.parameters.length) = some 0 := by decide +kernel
set_option maxHeartbeats 4000000 in
set_option maxRecDepth 100000 in
theorem c_X13_fault (l : Launch) (D : va_G) (cy : Nat → ClassId) (A : Nat → Prop) (X : va_W) (a_mo : Nat) (mo_thrown : Int32) (mo_trouble : Int32) (mo_where : Int32) (mo_war : Value) (mo_read : Value) (mo_tape : Value) (mo_taped : Int32) (mo_size : Int32) (mo_spot : Int32) (mo_sort : Int32) (mo_place : Int32) (mo_number : Int32) (mo_fault : Int32) (mo_wrongAt : Int32) (mo_laneTold : Int32) (mo_word : Int64) (mo_v : Value) (mo_x : Value) (mo_past : Value) (mo_kept : Value) (mo_acts : Int32) (mo_marks : Int32) (mo_put : Value) (mo_bestPut : Value) (mo_bestSum : Int64) (mo_row : Value) (mo_best : Value) (mo_left : Value) (mo_bestSize : Int32) (mo_bestLeft : Int32) (mo_counts : Value) (mo_sets : Int32) (mo_foeHarm : Int32) (mo_ownHarm : Int32) (mo_across : Int32) (mo_sumFoe : Int32) (mo_sumOwn : Int32) (mo_sumWon : Int32) (mo_sumAcross : Int32) (res : Int32) (mo_thrown' : Int32) (h : f_X13_fault mo_thrown mo_fault = some (res, mo_thrown')) : Met l yX13_fault wo_X13_fault ({ frames := 0, cells := 0, slots := 0, locals := 0 }) (wrPc D cy A [.ref a_mo] ([(a_mo, .inr (13, [.int mo_thrown, .int mo_trouble, .int mo_where, mo_war, mo_read, mo_tape, .int mo_taped, .int mo_size, .int mo_spot, .int mo_sort, .int mo_place, .int mo_number, .int mo_fault, .int mo_wrongAt, .int mo_laneTold, .long mo_word, mo_v, mo_x, mo_past, mo_kept, .int mo_acts, .int mo_marks, mo_put, mo_bestPut, .long mo_bestSum, mo_row, mo_best, mo_left, .int mo_bestSize, .int mo_bestLeft, mo_counts, .int mo_sets, .int mo_foeHarm, .int mo_ownHarm, .int mo_across, .int mo_sumFoe, .int mo_sumOwn, .int mo_sumWon, .int mo_sumAcross]))] ++ X)) (va_Qi (fun (r : Int32) (_ : Unit) => r = res) (wB D A ([(a_mo, .inr (13, [.int mo_thrown', .int mo_trouble, .int mo_where, mo_war, mo_read, mo_tape, .int mo_taped, .int mo_size, .int mo_spot, .int mo_sort, .int mo_place, .int mo_number, .int mo_fault, .int mo_wrongAt, .int mo_laneTold, .long mo_word, mo_v, mo_x, mo_past, mo_kept, .int mo_acts, .int mo_marks, mo_put, mo_bestPut, .long mo_bestSum, mo_row, mo_best, mo_left, .int mo_bestSize, .int mo_bestLeft, mo_counts, .int mo_sets, .int mo_foeHarm, .int mo_ownHarm, .int mo_across, .int mo_sumFoe, .int mo_sumOwn, .int mo_sumWon, .int mo_sumAcross]))] ++ X)) A) 0 0 A := by
  refine Met.ofW (cc := cX13_fault) (maxL := 1) (ret := (some .int)) (by decide) rfl ?_
  intro p e s m args below meth c s₁ B hml hv
  obtain ⟨rfl, hP, hKN, hD, hA⟩ := hv
  have hK := hKN.1
  have hx := B.exec
  have hb := B.bytes
  have hr := B.returns
  have hts := wt_X13_fault hKN.2.2 (([.ref a_mo] : List Value).toArray)
  have hown : s.vm.findClass RX13 = some m.cls := findClass_of_methodNamed B.named
  have hlocks := B.notSynchronized
  have hS : va_S A s.heap s.heap [] := va_S.rf
  have hX13 := wc_X13 hKN.2.2 (([.ref a_mo] : List Value).toArray)
  have hl := lv_entry ([.ref a_mo]) (n := 1) (Nat.le_of_ble_eq_true rfl)
  rw [lg_entry_eq]
  generalize (lg_sl ([.ref a_mo]) ++ List.replicate (1 - (lg_sl ([.ref a_mo])).length) Slot.unset).toArray = ls at hl ⊢
  have hl : lv_has ls 1 [(0, .ref a_mo)] := hl
  unfold f_X13_fault at h
  refine lv_aload_n hx hb dX13_fault_0 rfl (lv_at hl 0 rfl) ?_
  refine lv_iconst (v := 0) hx hb dX13_fault_1 (by decide) ?_
  refine va_put (D := D) (ci := 13) (C := RX13) (T := TX13) (N := 39) (v := .int 0) (ty := .int) hx hb hX13 (fun _ q => q) tyX13 tyX13_ok nmX13 hown hK hP hD hS 0 rfl rfl 0 (by decide) (hts (.fieldLink RX13 48 "ElephantLineModel" "thrown" "I") (by decide +kernel)) (fun _ h9 => h9) rfl (tyX13_ok 0 (by decide)) rfl rfl (Nat.le_of_ble_eq_true rfl) dX13_fault_2 (fun H locs hP hD hS => ?_)
  refine lv_aload_n hx hb dX13_fault_5 rfl (lv_at hl 0 rfl) ?_
  refine va_get (D := D) (ci := 13) (C := RX13) (T := TX13) (N := 39) (v := .int mo_fault) hx hb hX13 (fun _ q => q) hown hK hP 0 rfl rfl 12 (by decide) (hts (.fieldLink RX13 108 "ElephantLineModel" "fault" "I") (by decide +kernel)) (fun _ h9 => h9) rfl dX13_fault_6 ?_
  cases h
  exact W.iret hx hb hr (fun t ht _ => ⟨⟨_, (), rfl, rfl, by rw [ht]; exact hP, hD⟩, hS.F ht⟩) hS.2.2 dX13_fault_9
theorem hd_X13_where : yX13_where.cls = RX13 ∧ yX13_where.cls ≠ "java/lang/invoke/MethodHandle" ∧ yX13_where.cls ≠ "java/lang/invoke/VarHandle" ∧ (parseMethodDescriptor yX13_where.desc).map (fun d => d.parameters.length) = some 0 := by decide +kernel
set_option maxHeartbeats 4000000 in
set_option maxRecDepth 100000 in
theorem c_X13_where (l : Launch) (D : va_G) (cy : Nat → ClassId) (A : Nat → Prop) (X : va_W) (a_mo : Nat) (mo_thrown : Int32) (mo_trouble : Int32) (mo_where : Int32) (mo_war : Value) (mo_read : Value) (mo_tape : Value) (mo_taped : Int32) (mo_size : Int32) (mo_spot : Int32) (mo_sort : Int32) (mo_place : Int32) (mo_number : Int32) (mo_fault : Int32) (mo_wrongAt : Int32) (mo_laneTold : Int32) (mo_word : Int64) (mo_v : Value) (mo_x : Value) (mo_past : Value) (mo_kept : Value) (mo_acts : Int32) (mo_marks : Int32) (mo_put : Value) (mo_bestPut : Value) (mo_bestSum : Int64) (mo_row : Value) (mo_best : Value) (mo_left : Value) (mo_bestSize : Int32) (mo_bestLeft : Int32) (mo_counts : Value) (mo_sets : Int32) (mo_foeHarm : Int32) (mo_ownHarm : Int32) (mo_across : Int32) (mo_sumFoe : Int32) (mo_sumOwn : Int32) (mo_sumWon : Int32) (mo_sumAcross : Int32) (res : Int32) (mo_thrown' : Int32) (h : f_X13_where mo_thrown mo_where = some (res, mo_thrown')) : Met l yX13_where wo_X13_where ({ frames := 0, cells := 0, slots := 0, locals := 0 }) (wrPc D cy A [.ref a_mo] ([(a_mo, .inr (13, [.int mo_thrown, .int mo_trouble, .int mo_where, mo_war, mo_read, mo_tape, .int mo_taped, .int mo_size, .int mo_spot, .int mo_sort, .int mo_place, .int mo_number, .int mo_fault, .int mo_wrongAt, .int mo_laneTold, .long mo_word, mo_v, mo_x, mo_past, mo_kept, .int mo_acts, .int mo_marks, mo_put, mo_bestPut, .long mo_bestSum, mo_row, mo_best, mo_left, .int mo_bestSize, .int mo_bestLeft, mo_counts, .int mo_sets, .int mo_foeHarm, .int mo_ownHarm, .int mo_across, .int mo_sumFoe, .int mo_sumOwn, .int mo_sumWon, .int mo_sumAcross]))] ++ X)) (va_Qi (fun (r : Int32) (_ : Unit) => r = res) (wB D A ([(a_mo, .inr (13, [.int mo_thrown', .int mo_trouble, .int mo_where, mo_war, mo_read, mo_tape, .int mo_taped, .int mo_size, .int mo_spot, .int mo_sort, .int mo_place, .int mo_number, .int mo_fault, .int mo_wrongAt, .int mo_laneTold, .long mo_word, mo_v, mo_x, mo_past, mo_kept, .int mo_acts, .int mo_marks, mo_put, mo_bestPut, .long mo_bestSum, mo_row, mo_best, mo_left, .int mo_bestSize, .int mo_bestLeft, mo_counts, .int mo_sets, .int mo_foeHarm, .int mo_ownHarm, .int mo_across, .int mo_sumFoe, .int mo_sumOwn, .int mo_sumWon, .int mo_sumAcross]))] ++ X)) A) 0 0 A := by
  refine Met.ofW (cc := cX13_where) (maxL := 1) (ret := (some .int)) (by decide) rfl ?_
  intro p e s m args below meth c s₁ B hml hv
  obtain ⟨rfl, hP, hKN, hD, hA⟩ := hv
  have hK := hKN.1
  have hx := B.exec
  have hb := B.bytes
  have hr := B.returns
  have hts := wt_X13_where hKN.2.2 (([.ref a_mo] : List Value).toArray)
  have hown : s.vm.findClass RX13 = some m.cls := findClass_of_methodNamed B.named
  have hlocks := B.notSynchronized
  have hS : va_S A s.heap s.heap [] := va_S.rf
  have hX13 := wc_X13 hKN.2.2 (([.ref a_mo] : List Value).toArray)
  have hl := lv_entry ([.ref a_mo]) (n := 1) (Nat.le_of_ble_eq_true rfl)
  rw [lg_entry_eq]
  generalize (lg_sl ([.ref a_mo]) ++ List.replicate (1 - (lg_sl ([.ref a_mo])).length) Slot.unset).toArray = ls at hl ⊢
  have hl : lv_has ls 1 [(0, .ref a_mo)] := hl
  unfold f_X13_where at h
  refine lv_aload_n hx hb dX13_where_0 rfl (lv_at hl 0 rfl) ?_
  refine lv_iconst (v := 0) hx hb dX13_where_1 (by decide) ?_
  refine va_put (D := D) (ci := 13) (C := RX13) (T := TX13) (N := 39) (v := .int 0) (ty := .int) hx hb hX13 (fun _ q => q) tyX13 tyX13_ok nmX13 hown hK hP hD hS 0 rfl rfl 0 (by decide) (hts (.fieldLink RX13 48 "ElephantLineModel" "thrown" "I") (by decide +kernel)) (fun _ h9 => h9) rfl (tyX13_ok 0 (by decide)) rfl rfl (Nat.le_of_ble_eq_true rfl) dX13_where_2 (fun H locs hP hD hS => ?_)
  refine lv_aload_n hx hb dX13_where_5 rfl (lv_at hl 0 rfl) ?_
  refine va_get (D := D) (ci := 13) (C := RX13) (T := TX13) (N := 39) (v := .int mo_where) hx hb hX13 (fun _ q => q) hown hK hP 0 rfl rfl 2 (by decide) (hts (.fieldLink RX13 9 "ElephantLineModel" "where" "I") (by decide +kernel)) (fun _ h9 => h9) rfl dX13_where_6 ?_
  cases h
  exact W.iret hx hb hr (fun t ht _ => ⟨⟨_, (), rfl, rfl, by rw [ht]; exact hP, hD⟩, hS.F ht⟩) hS.2.2 dX13_where_9
theorem hd_X13_tries : yX13_tries.cls = RX13 ∧ yX13_tries.cls ≠ "java/lang/invoke/MethodHandle" ∧ yX13_tries.cls ≠ "java/lang/invoke/VarHandle" ∧ (parseMethodDescriptor yX13_tries.desc).map (fun d => d.parameters.length) = some 0 := by decide +kernel
set_option maxHeartbeats 4000000 in
set_option maxRecDepth 100000 in
theorem c_X13_tries (l : Launch) (D : va_G) (cy : Nat → ClassId) (A : Nat → Prop) (X : va_W) (a_mo a_mo_v a_mo_x : Nat) (mo_thrown : Int32) (mo_trouble : Int32) (mo_where : Int32) (mo_war : Value) (mo_read : Value) (mo_tape : Value) (mo_taped : Int32) (mo_size : Int32) (mo_spot : Int32) (mo_sort : Int32) (mo_place : Int32) (mo_number : Int32) (mo_fault : Int32) (mo_wrongAt : Int32) (mo_laneTold : Int32) (mo_word : Int64) (mo_past : Value) (mo_kept : Value) (mo_acts : Int32) (mo_marks : Int32) (mo_put : Value) (mo_bestPut : Value) (mo_bestSum : Int64) (mo_row : Value) (mo_best : Value) (mo_left : Value) (mo_bestSize : Int32) (mo_bestLeft : Int32) (mo_counts : Value) (mo_sets : Int32) (mo_foeHarm : Int32) (mo_ownHarm : Int32) (mo_across : Int32) (mo_sumFoe : Int32) (mo_sumOwn : Int32) (mo_sumWon : Int32) (mo_sumAcross : Int32) (mo_v : Nat → Int32) (mo_x : Nat → Int32) (mo_x' : Nat → Int32) (h : f_X13_tries mo_v mo_x = some (mo_x')) : Met l yX13_tries wo_X13_tries ({ frames := 0, cells := 0, slots := 0, locals := 0 }) (wrPc D cy A [.ref a_mo] ([(a_mo, .inr (13, [.int mo_thrown, .int mo_trouble, .int mo_where, mo_war, mo_read, mo_tape, .int mo_taped, .int mo_size, .int mo_spot, .int mo_sort, .int mo_place, .int mo_number, .int mo_fault, .int mo_wrongAt, .int mo_laneTold, .long mo_word, .ref a_mo_v, .ref a_mo_x, mo_past, mo_kept, .int mo_acts, .int mo_marks, mo_put, mo_bestPut, .long mo_bestSum, mo_row, mo_best, mo_left, .int mo_bestSize, .int mo_bestLeft, mo_counts, .int mo_sets, .int mo_foeHarm, .int mo_ownHarm, .int mo_across, .int mo_sumFoe, .int mo_sumOwn, .int mo_sumWon, .int mo_sumAcross])), (a_mo_v, .inl (cy 1, 19, .inl mo_v)), (a_mo_x, .inl (cy 1, 19, .inl mo_x))] ++ X)) (va_Qv (fun (_ : Unit) => True) (wB D A ([(a_mo, .inr (13, [.int mo_thrown, .int mo_trouble, .int mo_where, mo_war, mo_read, mo_tape, .int mo_taped, .int mo_size, .int mo_spot, .int mo_sort, .int mo_place, .int mo_number, .int mo_fault, .int mo_wrongAt, .int mo_laneTold, .long mo_word, .ref a_mo_v, .ref a_mo_x, mo_past, mo_kept, .int mo_acts, .int mo_marks, mo_put, mo_bestPut, .long mo_bestSum, mo_row, mo_best, mo_left, .int mo_bestSize, .int mo_bestLeft, mo_counts, .int mo_sets, .int mo_foeHarm, .int mo_ownHarm, .int mo_across, .int mo_sumFoe, .int mo_sumOwn, .int mo_sumWon, .int mo_sumAcross])), (a_mo_v, .inl (cy 1, 19, .inl mo_v)), (a_mo_x, .inl (cy 1, 19, .inl mo_x'))] ++ X)) A) 0 0 A := by
  refine Met.ofW (cc := cX13_tries) (maxL := 2) (ret := none) (by decide) rfl ?_
  intro p e s m args below meth c s₁ B hml hv
  obtain ⟨rfl, hP, hKN, hD, hA⟩ := hv
  have hK := hKN.1
  have hx := B.exec
  have hb := B.bytes
  have hr := B.returns
  have hts := wt_X13_tries hKN.2.2 (([.ref a_mo] : List Value).toArray)
  have hown : s.vm.findClass RX13 = some m.cls := findClass_of_methodNamed B.named
  have hlocks := B.notSynchronized
  have hS : va_S A s.heap s.heap [] := va_S.rf
  have hX13 := wc_X13 hKN.2.2 (([.ref a_mo] : List Value).toArray)
  have hl := lv_entry ([.ref a_mo]) (n := 2) (Nat.le_of_ble_eq_true rfl)
  rw [lg_entry_eq]
  generalize (lg_sl ([.ref a_mo]) ++ List.replicate (2 - (lg_sl ([.ref a_mo])).length) Slot.unset).toArray = ls at hl ⊢
  have hl : lv_has ls 2 [(0, .ref a_mo)] := hl
  unfold f_X13_tries at h
  refine lv_iconst (v := 0) hx hb dX13_tries_0 (by decide) ?_
  refine lv_istore_n (lv' := [(1, .int 0), (0, .ref a_mo)]) hx hb dX13_tries_1 rfl hl (by decide) rfl (fun ls hl => ?_)
  have lp2 : ∀ (n2 : Nat) (x1_1 : Int32) (mo_x_2 : Nat → Int32), f_X13_tries_L2 mo_v n2 x1_1 mo_x_2 = some (mo_x') → ∀ (H : Heap) (locs : List Loc), va_P D vwCl ([(a_mo, .inr (13, [.int mo_thrown, .int mo_trouble, .int mo_where, mo_war, mo_read, mo_tape, .int mo_taped, .int mo_size, .int mo_spot, .int mo_sort, .int mo_place, .int mo_number, .int mo_fault, .int mo_wrongAt, .int mo_laneTold, .long mo_word, .ref a_mo_v, .ref a_mo_x, mo_past, mo_kept, .int mo_acts, .int mo_marks, mo_put, mo_bestPut, .long mo_bestSum, mo_row, mo_best, mo_left, .int mo_bestSize, .int mo_bestLeft, mo_counts, .int mo_sets, .int mo_foeHarm, .int mo_ownHarm, .int mo_across, .int mo_sumFoe, .int mo_sumOwn, .int mo_sumWon, .int mo_sumAcross])), (a_mo_v, .inl (cy 1, 19, .inl mo_v)), (a_mo_x, .inl (cy 1, 19, .inl mo_x_2))] ++ X) H → va_D A ([(a_mo, .inr (13, [.int mo_thrown, .int mo_trouble, .int mo_where, mo_war, mo_read, mo_tape, .int mo_taped, .int mo_size, .int mo_spot, .int mo_sort, .int mo_place, .int mo_number, .int mo_fault, .int mo_wrongAt, .int mo_laneTold, .long mo_word, .ref a_mo_v, .ref a_mo_x, mo_past, mo_kept, .int mo_acts, .int mo_marks, mo_put, mo_bestPut, .long mo_bestSum, mo_row, mo_best, mo_left, .int mo_bestSize, .int mo_bestLeft, mo_counts, .int mo_sets, .int mo_foeHarm, .int mo_ownHarm, .int mo_across, .int mo_sumFoe, .int mo_sumOwn, .int mo_sumWon, .int mo_sumAcross])), (a_mo_v, .inl (cy 1, 19, .inl mo_v)), (a_mo_x, .inl (cy 1, 19, .inl mo_x_2))] ++ X) → va_S A s.heap H locs → ∀ ls : Array Slot, lv_has ls 2 [(0, .ref a_mo), (1, .int x1_1)] → W p l e (headSpec wo_X13_tries ({ frames := 0, cells := 0, slots := 0, locals := 0 })).room s m (([.ref a_mo] : List Value).toArray) below meth c H locs 0 0 (MQ below (va_Qv (fun (_ : Unit) => True) (wB D A ([(a_mo, .inr (13, [.int mo_thrown, .int mo_trouble, .int mo_where, mo_war, mo_read, mo_tape, .int mo_taped, .int mo_size, .int mo_spot, .int mo_sort, .int mo_place, .int mo_number, .int mo_fault, .int mo_wrongAt, .int mo_laneTold, .long mo_word, .ref a_mo_v, .ref a_mo_x, mo_past, mo_kept, .int mo_acts, .int mo_marks, mo_put, mo_bestPut, .long mo_bestSum, mo_row, mo_best, mo_left, .int mo_bestSize, .int mo_bestLeft, mo_counts, .int mo_sets, .int mo_foeHarm, .int mo_ownHarm, .int mo_across, .int mo_sumFoe, .int mo_sumOwn, .int mo_sumWon, .int mo_sumAcross])), (a_mo_v, .inl (cy 1, 19, .inl mo_v)), (a_mo_x, .inl (cy 1, 19, .inl mo_x'))] ++ X)) A) (([.ref a_mo] : List Value).toArray) s 0 0 A) (F0 m 2 ls []) := by
    intro n2
    induction n2 with
    | zero => intro x1_1 mo_x_2 h; exact absurd (show (none : Option ((Nat → Int32))) = some _ from h) (by intro q; cases q)
    | succ n2 ih2 =>
      intro x1_1 mo_x_2 h H locs hP hD hS ls hl
      have h : f_X13_tries_b2 mo_v (f_X13_tries_L2 mo_v n2) x1_1 mo_x_2 = some (mo_x') := h
      unfold f_X13_tries_b2 at h
      refine lv_iload_n hx hb dX13_tries_2 rfl (lv_at hl 1 rfl) ?_
      refine lv_bipush (v := 19) hx hb dX13_tries_3 (by decide) ?_
      refine lv_icmp_ge (tgt := 26) hx hb dX13_tries_5 (by decide) (fun cd => ?_) (fun cd => ?_)
      · have h := ifT cd h
        cases h
        exact W.vret hx hb hr (fun t ht _ => ⟨⟨(), rfl, trivial, by rw [ht]; exact hP, hD⟩, hS.F ht⟩) hS.2.2 dX13_tries_26
      · have h := ifF cd h
        refine lv_aload_n hx hb dX13_tries_8 rfl (lv_at hl 0 rfl) ?_
        refine va_get (D := D) (ci := 13) (C := RX13) (T := TX13) (N := 39) (v := .ref a_mo_x) hx hb hX13 (fun _ q => q) hown hK hP 0 rfl rfl 17 (by decide) (hts (.fieldLink RX13 21 "ElephantLineModel" "x" "[I") (by decide +kernel)) (fun _ h9 => h9) rfl dX13_tries_9 ?_
        refine lv_iload_n hx hb dX13_tries_12 rfl (lv_at hl 1 rfl) ?_
        refine lv_aload_n hx hb dX13_tries_13 rfl (lv_at hl 0 rfl) ?_
        refine va_get (D := D) (ci := 13) (C := RX13) (T := TX13) (N := 39) (v := .ref a_mo_v) hx hb hX13 (fun _ q => q) hown hK hP 0 rfl rfl 16 (by decide) (hts (.fieldLink RX13 17 "ElephantLineModel" "v" "[I") (by decide +kernel)) (fun _ h9 => h9) rfl dX13_tries_14 ?_
        refine lv_iload_n hx hb dX13_tries_17 rfl (lv_at hl 1 rfl) ?_
        obtain ⟨i_3, h⟩ := gIn_some h
        refine va_iald hx hb hK hP 1 1 rfl rfl i_3 dX13_tries_18 ?_
        obtain ⟨i_4, h⟩ := gIn_some h
        refine va_iast hx hb hK hP hD hS 2 1 rfl rfl i_4 dX13_tries_19 (fun H locs hP hD hS => ?_)
        refine lv_iinc (v := x1_1 + 1) (lv' := [(1, .int (x1_1 + 1)), (0, .ref a_mo)]) hx hb dX13_tries_20 hl (k := 1) rfl (by first | rfl | decide) (by decide) rfl (fun ls hl => ?_)
        refine lv_goto (tgt := 2) hx hb dX13_tries_23 (by decide) ?_
        exact ih2 (x1_1 + 1) (upd mo_x_2 x1_1.toNatClampNeg (mo_v x1_1.toNatClampNeg)) h _ _ hP hD hS _ (lv_sub hl [1, 0] rfl)
  exact lp2 fuelN (0 : Int32) mo_x h _ _ hP hD hS _ (lv_sub hl [1, 0] rfl)
theorem hd_X13_isLane : yX13_isLane.cls = RX13 ∧ yX13_isLane.cls ≠ "java/lang/invoke/MethodHandle" ∧ yX13_isLane.cls ≠ "java/lang/invoke/VarHandle" ∧ (parseMethodDescriptor yX13_isLane.desc).map (fun d => d.parameters.length) = some 1 := by decide +kernel
set_option maxHeartbeats 4000000 in
set_option maxRecDepth 100000 in
theorem c_X13_isLane (l : Launch) (D : va_G) (cy : Nat → ClassId) (a_mo a_wa : Nat) (mo_thrown : Int32) (mo_trouble : Int32) (mo_where : Int32) (mo_read : Value) (mo_tape : Value) (mo_taped : Int32) (mo_size : Int32) (mo_spot : Int32) (mo_sort : Int32) (mo_place : Int32) (mo_number : Int32) (mo_fault : Int32) (mo_wrongAt : Int32) (mo_laneTold : Int32) (mo_word : Int64) (mo_v : Value) (mo_x : Value) (mo_past : Value) (mo_kept : Value) (mo_acts : Int32) (mo_marks : Int32) (mo_put : Value) (mo_bestPut : Value) (mo_bestSum : Int64) (mo_row : Value) (mo_best : Value) (mo_left : Value) (mo_bestSize : Int32) (mo_bestLeft : Int32) (mo_counts : Value) (mo_sets : Int32) (mo_foeHarm : Int32) (mo_ownHarm : Int32) (mo_across : Int32) (mo_sumFoe : Int32) (mo_sumOwn : Int32) (mo_sumWon : Int32) (mo_sumAcross : Int32) (wa_lanes : Int32) (wa_deep : Int32) (wa_told : Int32) (wa_beasts : Int32) (wa_cities : Int32) (wa_passes : Int32) (wa_turned : Int32) (wa_names : Int32) (wa_who : Value) (wa_strong : Value) (wa_kind : Value) (wa_lane : Value) (wa_mood : Value) (wa_price : Value) (wa_loses : Value) (wa_name : Value) (wa_nameSort : Value) (wa_numberOf : Value) (p1 : Int32) (res : Int32) (h : f_X13_isLane wa_lanes p1 = some (res)) : Met l yX13_isLane wo_X13_isLane ({ frames := 0, cells := 0, slots := 0, locals := 0 }) (roPc D cy [.ref a_mo, .int p1] [(a_mo, .inr (13, [.int mo_thrown, .int mo_trouble, .int mo_where, .ref a_wa, mo_read, mo_tape, .int mo_taped, .int mo_size, .int mo_spot, .int mo_sort, .int mo_place, .int mo_number, .int mo_fault, .int mo_wrongAt, .int mo_laneTold, .long mo_word, mo_v, mo_x, mo_past, mo_kept, .int mo_acts, .int mo_marks, mo_put, mo_bestPut, .long mo_bestSum, mo_row, mo_best, mo_left, .int mo_bestSize, .int mo_bestLeft, mo_counts, .int mo_sets, .int mo_foeHarm, .int mo_ownHarm, .int mo_across, .int mo_sumFoe, .int mo_sumOwn, .int mo_sumWon, .int mo_sumAcross])), (a_wa, .inr (12, [.int wa_lanes, .int wa_deep, .int wa_told, .int wa_beasts, .int wa_cities, .int wa_passes, .int wa_turned, .int wa_names, wa_who, wa_strong, wa_kind, wa_lane, wa_mood, wa_price, wa_loses, wa_name, wa_nameSort, wa_numberOf]))]) (vp_Si (fun r => r = res ∧ nbv r)) 0 0 (fun _ => False) := by
  refine Met.ofW (cc := cX13_isLane) (maxL := 2) (ret := (some .boolean)) (by decide) rfl ?_
  intro p e s m args below meth c s₁ B hml hv
  obtain ⟨rfl, hP, hKN⟩ := hv
  have hK := hKN.1
  have hx := B.exec
  have hb := B.bytes
  have hr := B.returns
  have hts := wt_X13_isLane hKN.2.2 (([.ref a_mo, .int p1] : List Value).toArray)
  have hown : s.vm.findClass RX13 = some m.cls := findClass_of_methodNamed B.named
  have hlocks := B.notSynchronized
  have hX12 := wc_X12 hKN.2.2 (([.ref a_mo, .int p1] : List Value).toArray)
  have hX13 := wc_X13 hKN.2.2 (([.ref a_mo, .int p1] : List Value).toArray)
  have hl := lv_entry ([.ref a_mo, .int p1]) (n := 2) (Nat.le_of_ble_eq_true rfl)
  rw [lg_entry_eq]
  generalize (lg_sl ([.ref a_mo, .int p1]) ++ List.replicate (2 - (lg_sl ([.ref a_mo, .int p1])).length) Slot.unset).toArray = ls at hl ⊢
  have hl : lv_has ls 2 [(0, .ref a_mo), (1, .int p1)] := hl
  unfold f_X13_isLane at h
  refine lv_aload_n hx hb dX13_isLane_0 rfl (lv_at hl 0 rfl) ?_
  refine va_get (D := D) (ci := 13) (C := RX13) (T := TX13) (N := 39) (v := .ref a_wa) hx hb hX13 (fun _ q => q) hown hK hP 0 rfl rfl 3 (by decide) (hts (.fieldLink RX13 301 "ElephantLineModel" "war" "LElephantLineModel$War;") (by decide +kernel)) (fun _ h9 => h9) rfl dX13_isLane_1 ?_
  refine lv_ifnull hx hb dX13_isLane_4 ?_
  refine lv_iload_n hx hb dX13_isLane_7 rfl (lv_at hl 1 rfl) ?_
  refine lv_if_lt (tgt := 26) hx hb dX13_isLane_8 (by decide) (fun cd => ?_) (fun cd => ?_)
  · have h := ifT cd h
    refine lv_iconst (v := 0) hx hb dX13_isLane_26 (by decide) ?_
    exact W.zret (ty := .boolean) (v := 0) hx hb hr (nbv.n nbv_0) (fun t ht _ => ⟨_, rfl, ⟨Option.some.inj h, nbv_0⟩, ht⟩) (fun _ q => by cases q) dX13_isLane_27
  · have h := ifF cd h
    refine lv_iload_n hx hb dX13_isLane_11 rfl (lv_at hl 1 rfl) ?_
    refine lv_aload_n hx hb dX13_isLane_12 rfl (lv_at hl 0 rfl) ?_
    refine va_get (D := D) (ci := 13) (C := RX13) (T := TX13) (N := 39) (v := .ref a_wa) hx hb hX13 (fun _ q => q) hown hK hP 0 rfl rfl 3 (by decide) (hts (.fieldLink RX13 301 "ElephantLineModel" "war" "LElephantLineModel$War;") (by decide +kernel)) (fun _ h9 => h9) rfl dX13_isLane_13 ?_
    refine va_getN (D := D) (ci := 12) (C := RX12) (T := TX12) (N := 18) (v := .int wa_lanes) hx hb hX12 (fun _ q => q) hown hK hP 1 rfl rfl 0 (by decide) (va_Nw.use rfl (hKN.2.1.1 ("ElephantLineModel", 160, "ElephantLineModel$War", "lanes", "I", "ElephantLineModel") (List.mem_of_getElem? (i := 67) rfl))) (fun _ h9 => h9) rfl dX13_isLane_16 ?_
    refine lv_icmp_ge (tgt := 26) hx hb dX13_isLane_19 (by decide) (fun cd => ?_) (fun cd => ?_)
    · have h := ifT cd h
      refine lv_iconst (v := 0) hx hb dX13_isLane_26 (by decide) ?_
      exact W.zret (ty := .boolean) (v := 0) hx hb hr (nbv.n nbv_0) (fun t ht _ => ⟨_, rfl, ⟨Option.some.inj h, nbv_0⟩, ht⟩) (fun _ q => by cases q) dX13_isLane_27
    · have h := ifF cd h
      refine lv_iconst (v := 1) hx hb dX13_isLane_22 (by decide) ?_
      refine lv_goto (tgt := 27) hx hb dX13_isLane_23 (by decide) ?_
      exact W.zret (ty := .boolean) (v := 1) hx hb hr (nbv.n nbv_1) (fun t ht _ => ⟨_, rfl, ⟨Option.some.inj h, nbv_1⟩, ht⟩) (fun _ q => by cases q) dX13_isLane_27
theorem hd_X13_isBeast : yX13_isBeast.cls = RX13 ∧ yX13_isBeast.cls ≠ "java/lang/invoke/MethodHandle" ∧ yX13_isBeast.cls ≠ "java/lang/invoke/VarHandle" ∧ (parseMethodDescriptor yX13_isBeast.desc).map (fun d => d.parameters.length) = some 1 := by decide +kernel
set_option maxHeartbeats 4000000 in
set_option maxRecDepth 100000 in
theorem c_X13_isBeast (l : Launch) (D : va_G) (cy : Nat → ClassId) (a_mo a_wa : Nat) (mo_thrown : Int32) (mo_trouble : Int32) (mo_where : Int32) (mo_read : Value) (mo_tape : Value) (mo_taped : Int32) (mo_size : Int32) (mo_spot : Int32) (mo_sort : Int32) (mo_place : Int32) (mo_number : Int32) (mo_fault : Int32) (mo_wrongAt : Int32) (mo_laneTold : Int32) (mo_word : Int64) (mo_v : Value) (mo_x : Value) (mo_past : Value) (mo_kept : Value) (mo_acts : Int32) (mo_marks : Int32) (mo_put : Value) (mo_bestPut : Value) (mo_bestSum : Int64) (mo_row : Value) (mo_best : Value) (mo_left : Value) (mo_bestSize : Int32) (mo_bestLeft : Int32) (mo_counts : Value) (mo_sets : Int32) (mo_foeHarm : Int32) (mo_ownHarm : Int32) (mo_across : Int32) (mo_sumFoe : Int32) (mo_sumOwn : Int32) (mo_sumWon : Int32) (mo_sumAcross : Int32) (wa_lanes : Int32) (wa_deep : Int32) (wa_told : Int32) (wa_beasts : Int32) (wa_cities : Int32) (wa_passes : Int32) (wa_turned : Int32) (wa_names : Int32) (wa_who : Value) (wa_strong : Value) (wa_kind : Value) (wa_lane : Value) (wa_mood : Value) (wa_price : Value) (wa_loses : Value) (wa_name : Value) (wa_nameSort : Value) (wa_numberOf : Value) (p1 : Int32) (res : Int32) (h : f_X13_isBeast wa_beasts p1 = some (res)) : Met l yX13_isBeast wo_X13_isBeast ({ frames := 0, cells := 0, slots := 0, locals := 0 }) (roPc D cy [.ref a_mo, .int p1] [(a_mo, .inr (13, [.int mo_thrown, .int mo_trouble, .int mo_where, .ref a_wa, mo_read, mo_tape, .int mo_taped, .int mo_size, .int mo_spot, .int mo_sort, .int mo_place, .int mo_number, .int mo_fault, .int mo_wrongAt, .int mo_laneTold, .long mo_word, mo_v, mo_x, mo_past, mo_kept, .int mo_acts, .int mo_marks, mo_put, mo_bestPut, .long mo_bestSum, mo_row, mo_best, mo_left, .int mo_bestSize, .int mo_bestLeft, mo_counts, .int mo_sets, .int mo_foeHarm, .int mo_ownHarm, .int mo_across, .int mo_sumFoe, .int mo_sumOwn, .int mo_sumWon, .int mo_sumAcross])), (a_wa, .inr (12, [.int wa_lanes, .int wa_deep, .int wa_told, .int wa_beasts, .int wa_cities, .int wa_passes, .int wa_turned, .int wa_names, wa_who, wa_strong, wa_kind, wa_lane, wa_mood, wa_price, wa_loses, wa_name, wa_nameSort, wa_numberOf]))]) (vp_Si (fun r => r = res ∧ nbv r)) 0 0 (fun _ => False) := by
  refine Met.ofW (cc := cX13_isBeast) (maxL := 2) (ret := (some .boolean)) (by decide) rfl ?_
  intro p e s m args below meth c s₁ B hml hv
  obtain ⟨rfl, hP, hKN⟩ := hv
  have hK := hKN.1
  have hx := B.exec
  have hb := B.bytes
  have hr := B.returns
  have hts := wt_X13_isBeast hKN.2.2 (([.ref a_mo, .int p1] : List Value).toArray)
  have hown : s.vm.findClass RX13 = some m.cls := findClass_of_methodNamed B.named
  have hlocks := B.notSynchronized
  have hX12 := wc_X12 hKN.2.2 (([.ref a_mo, .int p1] : List Value).toArray)
  have hX13 := wc_X13 hKN.2.2 (([.ref a_mo, .int p1] : List Value).toArray)
  have hl := lv_entry ([.ref a_mo, .int p1]) (n := 2) (Nat.le_of_ble_eq_true rfl)
  rw [lg_entry_eq]
  generalize (lg_sl ([.ref a_mo, .int p1]) ++ List.replicate (2 - (lg_sl ([.ref a_mo, .int p1])).length) Slot.unset).toArray = ls at hl ⊢
  have hl : lv_has ls 2 [(0, .ref a_mo), (1, .int p1)] := hl
  unfold f_X13_isBeast at h
  refine lv_aload_n hx hb dX13_isBeast_0 rfl (lv_at hl 0 rfl) ?_
  refine va_get (D := D) (ci := 13) (C := RX13) (T := TX13) (N := 39) (v := .ref a_wa) hx hb hX13 (fun _ q => q) hown hK hP 0 rfl rfl 3 (by decide) (hts (.fieldLink RX13 301 "ElephantLineModel" "war" "LElephantLineModel$War;") (by decide +kernel)) (fun _ h9 => h9) rfl dX13_isBeast_1 ?_
  refine lv_ifnull hx hb dX13_isBeast_4 ?_
  refine lv_iload_n hx hb dX13_isBeast_7 rfl (lv_at hl 1 rfl) ?_
  refine lv_if_lt (tgt := 26) hx hb dX13_isBeast_8 (by decide) (fun cd => ?_) (fun cd => ?_)
  · have h := ifT cd h
    refine lv_iconst (v := 0) hx hb dX13_isBeast_26 (by decide) ?_
    exact W.zret (ty := .boolean) (v := 0) hx hb hr (nbv.n nbv_0) (fun t ht _ => ⟨_, rfl, ⟨Option.some.inj h, nbv_0⟩, ht⟩) (fun _ q => by cases q) dX13_isBeast_27
  · have h := ifF cd h
    refine lv_iload_n hx hb dX13_isBeast_11 rfl (lv_at hl 1 rfl) ?_
    refine lv_aload_n hx hb dX13_isBeast_12 rfl (lv_at hl 0 rfl) ?_
    refine va_get (D := D) (ci := 13) (C := RX13) (T := TX13) (N := 39) (v := .ref a_wa) hx hb hX13 (fun _ q => q) hown hK hP 0 rfl rfl 3 (by decide) (hts (.fieldLink RX13 301 "ElephantLineModel" "war" "LElephantLineModel$War;") (by decide +kernel)) (fun _ h9 => h9) rfl dX13_isBeast_13 ?_
    refine va_getN (D := D) (ci := 12) (C := RX12) (T := TX12) (N := 18) (v := .int wa_beasts) hx hb hX12 (fun _ q => q) hown hK hP 1 rfl rfl 3 (by decide) (va_Nw.use rfl (hKN.2.1.1 ("ElephantLineModel", 195, "ElephantLineModel$War", "beasts", "I", "ElephantLineModel") (List.mem_of_getElem? (i := 70) rfl))) (fun _ h9 => h9) rfl dX13_isBeast_16 ?_
    refine lv_icmp_ge (tgt := 26) hx hb dX13_isBeast_19 (by decide) (fun cd => ?_) (fun cd => ?_)
    · have h := ifT cd h
      refine lv_iconst (v := 0) hx hb dX13_isBeast_26 (by decide) ?_
      exact W.zret (ty := .boolean) (v := 0) hx hb hr (nbv.n nbv_0) (fun t ht _ => ⟨_, rfl, ⟨Option.some.inj h, nbv_0⟩, ht⟩) (fun _ q => by cases q) dX13_isBeast_27
    · have h := ifF cd h
      refine lv_iconst (v := 1) hx hb dX13_isBeast_22 (by decide) ?_
      refine lv_goto (tgt := 27) hx hb dX13_isBeast_23 (by decide) ?_
      exact W.zret (ty := .boolean) (v := 1) hx hb hr (nbv.n nbv_1) (fun t ht _ => ⟨_, rfl, ⟨Option.some.inj h, nbv_1⟩, ht⟩) (fun _ q => by cases q) dX13_isBeast_27
theorem hd_X13_isCity : yX13_isCity.cls = RX13 ∧ yX13_isCity.cls ≠ "java/lang/invoke/MethodHandle" ∧ yX13_isCity.cls ≠ "java/lang/invoke/VarHandle" ∧ (parseMethodDescriptor yX13_isCity.desc).map (fun d => d.parameters.length) = some 1 := by decide +kernel
set_option maxHeartbeats 4000000 in
set_option maxRecDepth 100000 in
theorem c_X13_isCity (l : Launch) (D : va_G) (cy : Nat → ClassId) (a_mo a_wa : Nat) (mo_thrown : Int32) (mo_trouble : Int32) (mo_where : Int32) (mo_read : Value) (mo_tape : Value) (mo_taped : Int32) (mo_size : Int32) (mo_spot : Int32) (mo_sort : Int32) (mo_place : Int32) (mo_number : Int32) (mo_fault : Int32) (mo_wrongAt : Int32) (mo_laneTold : Int32) (mo_word : Int64) (mo_v : Value) (mo_x : Value) (mo_past : Value) (mo_kept : Value) (mo_acts : Int32) (mo_marks : Int32) (mo_put : Value) (mo_bestPut : Value) (mo_bestSum : Int64) (mo_row : Value) (mo_best : Value) (mo_left : Value) (mo_bestSize : Int32) (mo_bestLeft : Int32) (mo_counts : Value) (mo_sets : Int32) (mo_foeHarm : Int32) (mo_ownHarm : Int32) (mo_across : Int32) (mo_sumFoe : Int32) (mo_sumOwn : Int32) (mo_sumWon : Int32) (mo_sumAcross : Int32) (wa_lanes : Int32) (wa_deep : Int32) (wa_told : Int32) (wa_beasts : Int32) (wa_cities : Int32) (wa_passes : Int32) (wa_turned : Int32) (wa_names : Int32) (wa_who : Value) (wa_strong : Value) (wa_kind : Value) (wa_lane : Value) (wa_mood : Value) (wa_price : Value) (wa_loses : Value) (wa_name : Value) (wa_nameSort : Value) (wa_numberOf : Value) (p1 : Int32) (res : Int32) (h : f_X13_isCity wa_cities p1 = some (res)) : Met l yX13_isCity wo_X13_isCity ({ frames := 0, cells := 0, slots := 0, locals := 0 }) (roPc D cy [.ref a_mo, .int p1] [(a_mo, .inr (13, [.int mo_thrown, .int mo_trouble, .int mo_where, .ref a_wa, mo_read, mo_tape, .int mo_taped, .int mo_size, .int mo_spot, .int mo_sort, .int mo_place, .int mo_number, .int mo_fault, .int mo_wrongAt, .int mo_laneTold, .long mo_word, mo_v, mo_x, mo_past, mo_kept, .int mo_acts, .int mo_marks, mo_put, mo_bestPut, .long mo_bestSum, mo_row, mo_best, mo_left, .int mo_bestSize, .int mo_bestLeft, mo_counts, .int mo_sets, .int mo_foeHarm, .int mo_ownHarm, .int mo_across, .int mo_sumFoe, .int mo_sumOwn, .int mo_sumWon, .int mo_sumAcross])), (a_wa, .inr (12, [.int wa_lanes, .int wa_deep, .int wa_told, .int wa_beasts, .int wa_cities, .int wa_passes, .int wa_turned, .int wa_names, wa_who, wa_strong, wa_kind, wa_lane, wa_mood, wa_price, wa_loses, wa_name, wa_nameSort, wa_numberOf]))]) (vp_Si (fun r => r = res ∧ nbv r)) 0 0 (fun _ => False) := by
  refine Met.ofW (cc := cX13_isCity) (maxL := 2) (ret := (some .boolean)) (by decide) rfl ?_
  intro p e s m args below meth c s₁ B hml hv
  obtain ⟨rfl, hP, hKN⟩ := hv
  have hK := hKN.1
  have hx := B.exec
  have hb := B.bytes
  have hr := B.returns
  have hts := wt_X13_isCity hKN.2.2 (([.ref a_mo, .int p1] : List Value).toArray)
  have hown : s.vm.findClass RX13 = some m.cls := findClass_of_methodNamed B.named
  have hlocks := B.notSynchronized
  have hX12 := wc_X12 hKN.2.2 (([.ref a_mo, .int p1] : List Value).toArray)
  have hX13 := wc_X13 hKN.2.2 (([.ref a_mo, .int p1] : List Value).toArray)
  have hl := lv_entry ([.ref a_mo, .int p1]) (n := 2) (Nat.le_of_ble_eq_true rfl)
  rw [lg_entry_eq]
  generalize (lg_sl ([.ref a_mo, .int p1]) ++ List.replicate (2 - (lg_sl ([.ref a_mo, .int p1])).length) Slot.unset).toArray = ls at hl ⊢
  have hl : lv_has ls 2 [(0, .ref a_mo), (1, .int p1)] := hl
  unfold f_X13_isCity at h
  refine lv_aload_n hx hb dX13_isCity_0 rfl (lv_at hl 0 rfl) ?_
  refine va_get (D := D) (ci := 13) (C := RX13) (T := TX13) (N := 39) (v := .ref a_wa) hx hb hX13 (fun _ q => q) hown hK hP 0 rfl rfl 3 (by decide) (hts (.fieldLink RX13 301 "ElephantLineModel" "war" "LElephantLineModel$War;") (by decide +kernel)) (fun _ h9 => h9) rfl dX13_isCity_1 ?_
  refine lv_ifnull hx hb dX13_isCity_4 ?_
  refine lv_iload_n hx hb dX13_isCity_7 rfl (lv_at hl 1 rfl) ?_
  refine lv_if_lt (tgt := 26) hx hb dX13_isCity_8 (by decide) (fun cd => ?_) (fun cd => ?_)
  · have h := ifT cd h
    refine lv_iconst (v := 0) hx hb dX13_isCity_26 (by decide) ?_
    exact W.zret (ty := .boolean) (v := 0) hx hb hr (nbv.n nbv_0) (fun t ht _ => ⟨_, rfl, ⟨Option.some.inj h, nbv_0⟩, ht⟩) (fun _ q => by cases q) dX13_isCity_27
  · have h := ifF cd h
    refine lv_iload_n hx hb dX13_isCity_11 rfl (lv_at hl 1 rfl) ?_
    refine lv_aload_n hx hb dX13_isCity_12 rfl (lv_at hl 0 rfl) ?_
    refine va_get (D := D) (ci := 13) (C := RX13) (T := TX13) (N := 39) (v := .ref a_wa) hx hb hX13 (fun _ q => q) hown hK hP 0 rfl rfl 3 (by decide) (hts (.fieldLink RX13 301 "ElephantLineModel" "war" "LElephantLineModel$War;") (by decide +kernel)) (fun _ h9 => h9) rfl dX13_isCity_13 ?_
    refine va_getN (D := D) (ci := 12) (C := RX12) (T := TX12) (N := 18) (v := .int wa_cities) hx hb hX12 (fun _ q => q) hown hK hP 1 rfl rfl 4 (by decide) (va_Nw.use rfl (hKN.2.1.1 ("ElephantLineModel", 279, "ElephantLineModel$War", "cities", "I", "ElephantLineModel") (List.mem_of_getElem? (i := 71) rfl))) (fun _ h9 => h9) rfl dX13_isCity_16 ?_
    refine lv_icmp_ge (tgt := 26) hx hb dX13_isCity_19 (by decide) (fun cd => ?_) (fun cd => ?_)
    · have h := ifT cd h
      refine lv_iconst (v := 0) hx hb dX13_isCity_26 (by decide) ?_
      exact W.zret (ty := .boolean) (v := 0) hx hb hr (nbv.n nbv_0) (fun t ht _ => ⟨_, rfl, ⟨Option.some.inj h, nbv_0⟩, ht⟩) (fun _ q => by cases q) dX13_isCity_27
    · have h := ifF cd h
      refine lv_iconst (v := 1) hx hb dX13_isCity_22 (by decide) ?_
      refine lv_goto (tgt := 27) hx hb dX13_isCity_23 (by decide) ?_
      exact W.zret (ty := .boolean) (v := 1) hx hb hr (nbv.n nbv_1) (fun t ht _ => ⟨_, rfl, ⟨Option.some.inj h, nbv_1⟩, ht⟩) (fun _ q => by cases q) dX13_isCity_27
theorem hd_X13_isDead : yX13_isDead.cls = RX13 ∧ yX13_isDead.cls ≠ "java/lang/invoke/MethodHandle" ∧ yX13_isDead.cls ≠ "java/lang/invoke/VarHandle" ∧ (parseMethodDescriptor yX13_isDead.desc).map (fun d => d.parameters.length) = some 1 := by decide +kernel
set_option maxHeartbeats 4000000 in
set_option maxRecDepth 100000 in
theorem c_X13_isDead (l : Launch) (D : va_G) (cy : Nat → ClassId) (a_mo a_mo_v : Nat) (mo_thrown : Int32) (mo_trouble : Int32) (mo_where : Int32) (mo_war : Value) (mo_read : Value) (mo_tape : Value) (mo_taped : Int32) (mo_size : Int32) (mo_spot : Int32) (mo_sort : Int32) (mo_place : Int32) (mo_number : Int32) (mo_fault : Int32) (mo_wrongAt : Int32) (mo_laneTold : Int32) (mo_word : Int64) (mo_x : Value) (mo_past : Value) (mo_kept : Value) (mo_acts : Int32) (mo_marks : Int32) (mo_put : Value) (mo_bestPut : Value) (mo_bestSum : Int64) (mo_row : Value) (mo_best : Value) (mo_left : Value) (mo_bestSize : Int32) (mo_bestLeft : Int32) (mo_counts : Value) (mo_sets : Int32) (mo_foeHarm : Int32) (mo_ownHarm : Int32) (mo_across : Int32) (mo_sumFoe : Int32) (mo_sumOwn : Int32) (mo_sumWon : Int32) (mo_sumAcross : Int32) (mo_v : Nat → Int32) (p1 : Int32) (res : Int32) (h : f_X13_isDead mo_v p1 = some (res)) : Met l yX13_isDead wo_X13_isDead ({ frames := 1, cells := 0, slots := 0, locals := 21 }) (roPc D cy [.ref a_mo, .int p1] [(a_mo, .inr (13, [.int mo_thrown, .int mo_trouble, .int mo_where, mo_war, mo_read, mo_tape, .int mo_taped, .int mo_size, .int mo_spot, .int mo_sort, .int mo_place, .int mo_number, .int mo_fault, .int mo_wrongAt, .int mo_laneTold, .long mo_word, .ref a_mo_v, mo_x, mo_past, mo_kept, .int mo_acts, .int mo_marks, mo_put, mo_bestPut, .long mo_bestSum, mo_row, mo_best, mo_left, .int mo_bestSize, .int mo_bestLeft, mo_counts, .int mo_sets, .int mo_foeHarm, .int mo_ownHarm, .int mo_across, .int mo_sumFoe, .int mo_sumOwn, .int mo_sumWon, .int mo_sumAcross])), (a_mo_v, .inl (cy 1, 19, .inl mo_v))]) (vp_Si (fun r => r = res ∧ nbv r)) 0 0 (fun _ => False) := by
  refine Met.ofW (cc := cX13_isDead) (maxL := 2) (ret := (some .boolean)) (by decide) rfl ?_
  intro p e s m args below meth c s₁ B hml hv
  obtain ⟨rfl, hP, hKN⟩ := hv
  have hK := hKN.1
  have hx := B.exec
  have hb := B.bytes
  have hr := B.returns
  have hts := wt_X13_isDead hKN.2.2 (([.ref a_mo, .int p1] : List Value).toArray)
  have hown : s.vm.findClass RX13 = some m.cls := findClass_of_methodNamed B.named
  have hlocks := B.notSynchronized
  have hX13 := wc_X13 hKN.2.2 (([.ref a_mo, .int p1] : List Value).toArray)
  have hl := lv_entry ([.ref a_mo, .int p1]) (n := 2) (Nat.le_of_ble_eq_true rfl)
  rw [lg_entry_eq]
  generalize (lg_sl ([.ref a_mo, .int p1]) ++ List.replicate (2 - (lg_sl ([.ref a_mo, .int p1])).length) Slot.unset).toArray = ls at hl ⊢
  have hl : lv_has ls 2 [(0, .ref a_mo), (1, .int p1)] := hl
  unfold f_X13_isDead at h
  refine lv_aload_n hx hb dX13_isDead_0 rfl (lv_at hl 0 rfl) ?_
  refine va_get (D := D) (ci := 13) (C := RX13) (T := TX13) (N := 39) (v := .ref a_mo_v) hx hb hX13 (fun _ q => q) hown hK hP 0 rfl rfl 16 (by decide) (hts (.fieldLink RX13 17 "ElephantLineModel" "v" "[I") (by decide +kernel)) (fun _ h9 => h9) rfl dX13_isDead_1 ?_
  refine lv_bipush (v := 10) hx hb dX13_isDead_4 (by decide) ?_
  refine va_iald hx hb hK hP 1 1 rfl rfl (vpc (by decide)) dX13_isDead_6 ?_
  refine lv_iload_n hx hb dX13_isDead_7 rfl (lv_at hl 1 rfl) ?_
  obtain ⟨r_1, hc_2, h⟩ := bd1_some h
  refine kSb [.int (mo_v (10 : Int32).toNatClampNeg), .int p1] [] ⟨hx, hb, hml, hown, hts⟩ (c_X13_bit l D cy (mo_v (10 : Int32).toNatClampNeg) p1 r_1 hc_2) gX13_isDead_X13_bit rfl hd_X13_bit ⟨Nat.le_of_ble_eq_true rfl, Nat.le_of_ble_eq_true rfl⟩ rfl rfl hKN va_nil rfl hl.1 rfl (Nat.le_of_ble_eq_true rfl) dX13_isDead_8 ⟨Nat.le_of_ble_eq_true rfl, Nat.le_of_ble_eq_true rfl⟩ (fun nb_3 => ?_)
  exact W.zret (ty := .boolean) (v := r_1) hx hb hr (nbv.n nb_3) (fun t ht _ => ⟨_, rfl, ⟨Option.some.inj h, nb_3⟩, ht⟩) (fun _ q => by cases q) dX13_isDead_11
theorem hd_X13_forceOf : yX13_forceOf.cls = RX13 ∧ yX13_forceOf.cls ≠ "java/lang/invoke/MethodHandle" ∧ yX13_forceOf.cls ≠ "java/lang/invoke/VarHandle" ∧ (parseMethodDescriptor yX13_forceOf.desc).map (fun d => d.parameters.length) = some 1 := by decide +kernel
set_option maxHeartbeats 4000000 in
set_option maxRecDepth 100000 in
theorem c_X13_forceOf (l : Launch) (D : va_G) (cy : Nat → ClassId) (a_mo a_mo_v a_wa a_wa_kind : Nat) (mo_thrown : Int32) (mo_trouble : Int32) (mo_where : Int32) (mo_read : Value) (mo_tape : Value) (mo_taped : Int32) (mo_size : Int32) (mo_spot : Int32) (mo_sort : Int32) (mo_place : Int32) (mo_number : Int32) (mo_fault : Int32) (mo_wrongAt : Int32) (mo_laneTold : Int32) (mo_word : Int64) (mo_x : Value) (mo_past : Value) (mo_kept : Value) (mo_acts : Int32) (mo_marks : Int32) (mo_put : Value) (mo_bestPut : Value) (mo_bestSum : Int64) (mo_row : Value) (mo_best : Value) (mo_left : Value) (mo_bestSize : Int32) (mo_bestLeft : Int32) (mo_counts : Value) (mo_sets : Int32) (mo_foeHarm : Int32) (mo_ownHarm : Int32) (mo_across : Int32) (mo_sumFoe : Int32) (mo_sumOwn : Int32) (mo_sumWon : Int32) (mo_sumAcross : Int32) (mo_v : Nat → Int32) (wa_lanes : Int32) (wa_deep : Int32) (wa_told : Int32) (wa_beasts : Int32) (wa_cities : Int32) (wa_passes : Int32) (wa_turned : Int32) (wa_names : Int32) (wa_who : Value) (wa_strong : Value) (wa_lane : Value) (wa_mood : Value) (wa_price : Value) (wa_loses : Value) (wa_name : Value) (wa_nameSort : Value) (wa_numberOf : Value) (wa_kind : Nat → Int32) (p1 : Int32) (res : Int32) (h : f_X13_forceOf mo_v wa_kind p1 = some (res)) : Met l yX13_forceOf wo_X13_forceOf ({ frames := 2, cells := 0, slots := 0, locals := 42 }) (roPc D cy [.ref a_mo, .int p1] [(a_mo, .inr (13, [.int mo_thrown, .int mo_trouble, .int mo_where, .ref a_wa, mo_read, mo_tape, .int mo_taped, .int mo_size, .int mo_spot, .int mo_sort, .int mo_place, .int mo_number, .int mo_fault, .int mo_wrongAt, .int mo_laneTold, .long mo_word, .ref a_mo_v, mo_x, mo_past, mo_kept, .int mo_acts, .int mo_marks, mo_put, mo_bestPut, .long mo_bestSum, mo_row, mo_best, mo_left, .int mo_bestSize, .int mo_bestLeft, mo_counts, .int mo_sets, .int mo_foeHarm, .int mo_ownHarm, .int mo_across, .int mo_sumFoe, .int mo_sumOwn, .int mo_sumWon, .int mo_sumAcross])), (a_mo_v, .inl (cy 1, 19, .inl mo_v)), (a_wa, .inr (12, [.int wa_lanes, .int wa_deep, .int wa_told, .int wa_beasts, .int wa_cities, .int wa_passes, .int wa_turned, .int wa_names, wa_who, wa_strong, .ref a_wa_kind, wa_lane, wa_mood, wa_price, wa_loses, wa_name, wa_nameSort, wa_numberOf])), (a_wa_kind, .inl (cy 1, 5, .inl wa_kind))]) (vp_Si (fun r => r = res)) 0 0 (fun _ => False) := by
  refine Met.ofW (cc := cX13_forceOf) (maxL := 3) (ret := (some .int)) (by decide) rfl ?_
  intro p e s m args below meth c s₁ B hml hv
  obtain ⟨rfl, hP, hKN⟩ := hv
  have hK := hKN.1
  have hx := B.exec
  have hb := B.bytes
  have hr := B.returns
  have hts := wt_X13_forceOf hKN.2.2 (([.ref a_mo, .int p1] : List Value).toArray)
  have hown : s.vm.findClass RX13 = some m.cls := findClass_of_methodNamed B.named
  have hlocks := B.notSynchronized
  have hX12 := wc_X12 hKN.2.2 (([.ref a_mo, .int p1] : List Value).toArray)
  have hX13 := wc_X13 hKN.2.2 (([.ref a_mo, .int p1] : List Value).toArray)
  have hl := lv_entry ([.ref a_mo, .int p1]) (n := 3) (Nat.le_of_ble_eq_true rfl)
  rw [lg_entry_eq]
  generalize (lg_sl ([.ref a_mo, .int p1]) ++ List.replicate (3 - (lg_sl ([.ref a_mo, .int p1])).length) Slot.unset).toArray = ls at hl ⊢
  have hl : lv_has ls 3 [(0, .ref a_mo), (1, .int p1)] := hl
  unfold f_X13_forceOf at h
  refine lv_aload_n hx hb dX13_forceOf_0 rfl (lv_at hl 0 rfl) ?_
  refine lv_iload_n hx hb dX13_forceOf_1 rfl (lv_at hl 1 rfl) ?_
  obtain ⟨r_1, hc_2, h⟩ := bd1_some h
  refine kVb [.int p1] [] ⟨hx, hb, hml, hown, hts⟩ (c_X13_isDead l D cy a_mo a_mo_v mo_thrown mo_trouble mo_where (.ref a_wa) (mo_read) (mo_tape) mo_taped mo_size mo_spot mo_sort mo_place mo_number mo_fault mo_wrongAt mo_laneTold mo_word (mo_x) (mo_past) (mo_kept) mo_acts mo_marks (mo_put) (mo_bestPut) mo_bestSum (mo_row) (mo_best) (mo_left) mo_bestSize mo_bestLeft (mo_counts) mo_sets mo_foeHarm mo_ownHarm mo_across mo_sumFoe mo_sumOwn mo_sumWon mo_sumAcross mo_v p1 r_1 hc_2) gX13_forceOf_X13_isDead rfl hd_X13_isDead ⟨Nat.le_of_ble_eq_true rfl, Nat.le_of_ble_eq_true rfl⟩ rfl rfl hKN (hP.sub [0, 1] rfl) 13 0 rfl rfl rfl hl.1 rfl (Nat.le_of_ble_eq_true rfl) dX13_forceOf_2 ⟨Nat.le_of_ble_eq_true rfl, Nat.le_of_ble_eq_true rfl⟩ (fun nb_3 => ?_)
  refine lv_if_eq (tgt := 10) hx hb dX13_forceOf_5 (by decide) (fun cd => ?_) (fun cd => ?_)
  · have h := ifT cd h
    refine lv_aload_n hx hb dX13_forceOf_10 rfl (lv_at hl 0 rfl) ?_
    refine va_get (D := D) (ci := 13) (C := RX13) (T := TX13) (N := 39) (v := .ref a_wa) hx hb hX13 (fun _ q => q) hown hK hP 0 rfl rfl 3 (by decide) (hts (.fieldLink RX13 301 "ElephantLineModel" "war" "LElephantLineModel$War;") (by decide +kernel)) (fun _ h9 => h9) rfl dX13_forceOf_11 ?_
    refine va_getN (D := D) (ci := 12) (C := RX12) (T := TX12) (N := 18) (v := .ref a_wa_kind) hx hb hX12 (fun _ q => q) hown hK hP 2 rfl rfl 10 (by decide) (va_Nw.use rfl (hKN.2.1.1 ("ElephantLineModel", 270, "ElephantLineModel$War", "kind", "[I", "ElephantLineModel") (List.mem_of_getElem? (i := 77) rfl))) (fun _ h9 => h9) rfl dX13_forceOf_14 ?_
    refine lv_iload_n hx hb dX13_forceOf_17 rfl (lv_at hl 1 rfl) ?_
    obtain ⟨i_4, h⟩ := gIn_some h
    refine va_iald hx hb hK hP 3 1 rfl rfl i_4 dX13_forceOf_18 ?_
    refine lv_iconst (v := 1) hx hb dX13_forceOf_19 (by decide) ?_
    have jn65 : ∀ (t0_5 : Int32), f_X13_forceOf_B65 mo_v wa_kind p1 t0_5 = some (res) → ∀ ls : Array Slot, lv_has ls 3 [(0, .ref a_mo), (1, .int p1)] → W p l e (headSpec wo_X13_forceOf ({ frames := 2, cells := 0, slots := 0, locals := 42 })).room s m (([.ref a_mo, .int p1] : List Value).toArray) below meth c s.heap [] 0 0 (MQ below (vp_Si (fun r => r = res)) (([.ref a_mo, .int p1] : List Value).toArray) s 0 0 (fun _ => False)) (F0 m 65 ls [.int t0_5]) := by
      intro t0_5 h ls hl
      unfold f_X13_forceOf_B65 at h
      refine lv_aload_n hx hb dX13_forceOf_65 rfl (lv_at hl 0 rfl) ?_
      refine va_get (D := D) (ci := 13) (C := RX13) (T := TX13) (N := 39) (v := .ref a_mo_v) hx hb hX13 (fun _ q => q) hown hK hP 0 rfl rfl 16 (by decide) (hts (.fieldLink RX13 17 "ElephantLineModel" "v" "[I") (by decide +kernel)) (fun _ h9 => h9) rfl dX13_forceOf_66 ?_
      refine lv_iconst (v := 5) hx hb dX13_forceOf_69 (by decide) ?_
      refine lv_iload_n hx hb dX13_forceOf_70 rfl (lv_at hl 1 rfl) ?_
      refine lv_iadd hx hb dX13_forceOf_71 ?_
      obtain ⟨i_6, h⟩ := gIn_some h
      refine va_iald hx hb hK hP 1 1 rfl rfl i_6 dX13_forceOf_72 ?_
      refine lv_isub hx hb dX13_forceOf_73 ?_
      refine lv_istore_n (lv' := [(2, .int (t0_5 - (mo_v (5 + p1).toNatClampNeg))), (0, .ref a_mo), (1, .int p1)]) hx hb dX13_forceOf_74 rfl hl (by decide) rfl (fun ls hl => ?_)
      refine lv_iload_n hx hb dX13_forceOf_75 rfl (lv_at hl 0 rfl) ?_
      refine lv_if_le (tgt := 83) hx hb dX13_forceOf_76 (by decide) (fun cd => ?_) (fun cd => ?_)
      · have h := ifT cd h
        refine lv_iconst (v := 0) hx hb dX13_forceOf_83 (by decide) ?_
        exact W.iret (v := 0) hx hb hr (fun t ht _ => ⟨_, rfl, Option.some.inj h, ht⟩) (fun _ q => by cases q) dX13_forceOf_84
      · have h := ifF cd h
        refine lv_iload_n hx hb dX13_forceOf_79 rfl (lv_at hl 0 rfl) ?_
        refine lv_goto (tgt := 84) hx hb dX13_forceOf_80 (by decide) ?_
        exact W.iret (v := t0_5 - (mo_v (5 + p1).toNatClampNeg)) hx hb hr (fun t ht _ => ⟨_, rfl, Option.some.inj h, ht⟩) (fun _ q => by cases q) dX13_forceOf_84
    refine lv_icmp_ne (tgt := 27) hx hb dX13_forceOf_20 (by decide) (fun cd => ?_) (fun cd => ?_)
    · have h := ifF cd h
      refine lv_aload_n hx hb dX13_forceOf_27 rfl (lv_at hl 0 rfl) ?_
      refine va_get (D := D) (ci := 13) (C := RX13) (T := TX13) (N := 39) (v := .ref a_wa) hx hb hX13 (fun _ q => q) hown hK hP 0 rfl rfl 3 (by decide) (hts (.fieldLink RX13 301 "ElephantLineModel" "war" "LElephantLineModel$War;") (by decide +kernel)) (fun _ h9 => h9) rfl dX13_forceOf_28 ?_
      refine va_getN (D := D) (ci := 12) (C := RX12) (T := TX12) (N := 18) (v := .ref a_wa_kind) hx hb hX12 (fun _ q => q) hown hK hP 2 rfl rfl 10 (by decide) (va_Nw.use rfl (hKN.2.1.1 ("ElephantLineModel", 270, "ElephantLineModel$War", "kind", "[I", "ElephantLineModel") (List.mem_of_getElem? (i := 77) rfl))) (fun _ h9 => h9) rfl dX13_forceOf_31 ?_
      refine lv_iload_n hx hb dX13_forceOf_34 rfl (lv_at hl 1 rfl) ?_
      obtain ⟨i_7, h⟩ := gIn_some h
      refine va_iald hx hb hK hP 3 1 rfl rfl i_7 dX13_forceOf_35 ?_
      refine lv_iconst (v := 2) hx hb dX13_forceOf_36 (by decide) ?_
      refine lv_icmp_ne (tgt := 45) hx hb dX13_forceOf_37 (by decide) (fun cd => ?_) (fun cd => ?_)
      · have h := ifF cd h
        refine lv_aload_n hx hb dX13_forceOf_45 rfl (lv_at hl 0 rfl) ?_
        refine va_get (D := D) (ci := 13) (C := RX13) (T := TX13) (N := 39) (v := .ref a_wa) hx hb hX13 (fun _ q => q) hown hK hP 0 rfl rfl 3 (by decide) (hts (.fieldLink RX13 301 "ElephantLineModel" "war" "LElephantLineModel$War;") (by decide +kernel)) (fun _ h9 => h9) rfl dX13_forceOf_46 ?_
        refine va_getN (D := D) (ci := 12) (C := RX12) (T := TX12) (N := 18) (v := .ref a_wa_kind) hx hb hX12 (fun _ q => q) hown hK hP 2 rfl rfl 10 (by decide) (va_Nw.use rfl (hKN.2.1.1 ("ElephantLineModel", 270, "ElephantLineModel$War", "kind", "[I", "ElephantLineModel") (List.mem_of_getElem? (i := 77) rfl))) (fun _ h9 => h9) rfl dX13_forceOf_49 ?_
        refine lv_iload_n hx hb dX13_forceOf_52 rfl (lv_at hl 1 rfl) ?_
        obtain ⟨i_8, h⟩ := gIn_some h
        refine va_iald hx hb hK hP 3 1 rfl rfl i_8 dX13_forceOf_53 ?_
        refine lv_iconst (v := 3) hx hb dX13_forceOf_54 (by decide) ?_
        refine lv_icmp_ne (tgt := 63) hx hb dX13_forceOf_55 (by decide) (fun cd => ?_) (fun cd => ?_)
        · have h := ifF cd h
          refine lv_bipush (v := 20) hx hb dX13_forceOf_63 (by decide) ?_
          exact jn65 (20 : Int32) h _ (lv_sub hl [0, 1] rfl)
        · have h := ifT cd h
          refine lv_bipush (v := 25) hx hb dX13_forceOf_58 (by decide) ?_
          refine lv_goto (tgt := 65) hx hb dX13_forceOf_60 (by decide) ?_
          exact jn65 (25 : Int32) h _ (lv_sub hl [0, 1] rfl)
      · have h := ifT cd h
        refine lv_bipush (v := 30) hx hb dX13_forceOf_40 (by decide) ?_
        refine lv_goto (tgt := 65) hx hb dX13_forceOf_42 (by decide) ?_
        exact jn65 (30 : Int32) h _ (lv_sub hl [0, 1] rfl)
    · have h := ifT cd h
      refine lv_iconst (v := 5) hx hb dX13_forceOf_23 (by decide) ?_
      refine lv_goto (tgt := 65) hx hb dX13_forceOf_24 (by decide) ?_
      exact jn65 (5 : Int32) h _ (lv_sub hl [0, 1] rfl)
  · have h := ifF cd h
    refine lv_iconst (v := 0) hx hb dX13_forceOf_8 (by decide) ?_
    exact W.iret (v := 0) hx hb hr (fun t ht _ => ⟨_, rfl, Option.some.inj h, ht⟩) (fun _ q => by cases q) dX13_forceOf_9
theorem hd_X13_holdBy : yX13_holdBy.cls = RX13 ∧ yX13_holdBy.cls ≠ "java/lang/invoke/MethodHandle" ∧ yX13_holdBy.cls ≠ "java/lang/invoke/VarHandle" ∧ (parseMethodDescriptor yX13_holdBy.desc).map (fun d => d.parameters.length) = some 3 := by decide +kernel
set_option maxHeartbeats 4000000 in
set_option maxRecDepth 100000 in
theorem c_X13_holdBy (l : Launch) (D : va_G) (cy : Nat → ClassId) (a_mo a_wa a_wa_kind : Nat) (mo_thrown : Int32) (mo_trouble : Int32) (mo_where : Int32) (mo_read : Value) (mo_tape : Value) (mo_taped : Int32) (mo_size : Int32) (mo_spot : Int32) (mo_sort : Int32) (mo_place : Int32) (mo_number : Int32) (mo_fault : Int32) (mo_wrongAt : Int32) (mo_laneTold : Int32) (mo_word : Int64) (mo_v : Value) (mo_x : Value) (mo_past : Value) (mo_kept : Value) (mo_acts : Int32) (mo_marks : Int32) (mo_put : Value) (mo_bestPut : Value) (mo_bestSum : Int64) (mo_row : Value) (mo_best : Value) (mo_left : Value) (mo_bestSize : Int32) (mo_bestLeft : Int32) (mo_counts : Value) (mo_sets : Int32) (mo_foeHarm : Int32) (mo_ownHarm : Int32) (mo_across : Int32) (mo_sumFoe : Int32) (mo_sumOwn : Int32) (mo_sumWon : Int32) (mo_sumAcross : Int32) (wa_lanes : Int32) (wa_deep : Int32) (wa_told : Int32) (wa_beasts : Int32) (wa_cities : Int32) (wa_passes : Int32) (wa_turned : Int32) (wa_names : Int32) (wa_who : Value) (wa_strong : Value) (wa_lane : Value) (wa_mood : Value) (wa_price : Value) (wa_loses : Value) (wa_name : Value) (wa_nameSort : Value) (wa_numberOf : Value) (wa_kind : Nat → Int32) (p1 : Int32) (p2 : Int32) (p3 : Int32) (res : Int32) (h : f_X13_holdBy wa_kind p1 p2 p3 = some (res)) : Met l yX13_holdBy wo_X13_holdBy ({ frames := 0, cells := 0, slots := 0, locals := 0 }) (roPc D cy [.ref a_mo, .int p1, .int p2, .int p3] [(a_mo, .inr (13, [.int mo_thrown, .int mo_trouble, .int mo_where, .ref a_wa, mo_read, mo_tape, .int mo_taped, .int mo_size, .int mo_spot, .int mo_sort, .int mo_place, .int mo_number, .int mo_fault, .int mo_wrongAt, .int mo_laneTold, .long mo_word, mo_v, mo_x, mo_past, mo_kept, .int mo_acts, .int mo_marks, mo_put, mo_bestPut, .long mo_bestSum, mo_row, mo_best, mo_left, .int mo_bestSize, .int mo_bestLeft, mo_counts, .int mo_sets, .int mo_foeHarm, .int mo_ownHarm, .int mo_across, .int mo_sumFoe, .int mo_sumOwn, .int mo_sumWon, .int mo_sumAcross])), (a_wa, .inr (12, [.int wa_lanes, .int wa_deep, .int wa_told, .int wa_beasts, .int wa_cities, .int wa_passes, .int wa_turned, .int wa_names, wa_who, wa_strong, .ref a_wa_kind, wa_lane, wa_mood, wa_price, wa_loses, wa_name, wa_nameSort, wa_numberOf])), (a_wa_kind, .inl (cy 1, 5, .inl wa_kind))]) (vp_Si (fun r => r = res)) 0 0 (fun _ => False) := by
  refine Met.ofW (cc := cX13_holdBy) (maxL := 4) (ret := (some .int)) (by decide) rfl ?_
  intro p e s m args below meth c s₁ B hml hv
  obtain ⟨rfl, hP, hKN⟩ := hv
  have hK := hKN.1
  have hx := B.exec
  have hb := B.bytes
  have hr := B.returns
  have hts := wt_X13_holdBy hKN.2.2 (([.ref a_mo, .int p1, .int p2, .int p3] : List Value).toArray)
  have hown : s.vm.findClass RX13 = some m.cls := findClass_of_methodNamed B.named
  have hlocks := B.notSynchronized
  have hX12 := wc_X12 hKN.2.2 (([.ref a_mo, .int p1, .int p2, .int p3] : List Value).toArray)
  have hX13 := wc_X13 hKN.2.2 (([.ref a_mo, .int p1, .int p2, .int p3] : List Value).toArray)
  have hl := lv_entry ([.ref a_mo, .int p1, .int p2, .int p3]) (n := 4) (Nat.le_of_ble_eq_true rfl)
  rw [lg_entry_eq]
  generalize (lg_sl ([.ref a_mo, .int p1, .int p2, .int p3]) ++ List.replicate (4 - (lg_sl ([.ref a_mo, .int p1, .int p2, .int p3])).length) Slot.unset).toArray = ls at hl ⊢
  have hl : lv_has ls 4 [(0, .ref a_mo), (1, .int p1), (2, .int p2), (3, .int p3)] := hl
  unfold f_X13_holdBy at h
  refine lv_aload_n hx hb dX13_holdBy_0 rfl (lv_at hl 0 rfl) ?_
  refine va_get (D := D) (ci := 13) (C := RX13) (T := TX13) (N := 39) (v := .ref a_wa) hx hb hX13 (fun _ q => q) hown hK hP 0 rfl rfl 3 (by decide) (hts (.fieldLink RX13 301 "ElephantLineModel" "war" "LElephantLineModel$War;") (by decide +kernel)) (fun _ h9 => h9) rfl dX13_holdBy_1 ?_
  refine va_getN (D := D) (ci := 12) (C := RX12) (T := TX12) (N := 18) (v := .ref a_wa_kind) hx hb hX12 (fun _ q => q) hown hK hP 1 rfl rfl 10 (by decide) (va_Nw.use rfl (hKN.2.1.1 ("ElephantLineModel", 270, "ElephantLineModel$War", "kind", "[I", "ElephantLineModel") (List.mem_of_getElem? (i := 77) rfl))) (fun _ h9 => h9) rfl dX13_holdBy_4 ?_
  refine lv_iload_n hx hb dX13_holdBy_7 rfl (lv_at hl 1 rfl) ?_
  obtain ⟨i_1, h⟩ := gIn_some h
  refine va_iald hx hb hK hP 2 1 rfl rfl i_1 dX13_holdBy_8 ?_
  by_cases sw_2 : (wa_kind p1.toNatClampNeg) = 1
  · have h := ifT sw_2 h
    refine lv_tableIn (tgt := 36) hx hb dX13_holdBy_9 (by rw [sw_2]; decide) (by rw [sw_2]; decide) (by rw [sw_2]; rfl) (by decide) ?_
    refine lv_iload_n hx hb dX13_holdBy_36 rfl (lv_at hl 2 rfl) ?_
    refine lv_bipush (v := 20) hx hb dX13_holdBy_37 (by decide) ?_
    refine lv_icmp_le (tgt := 49) hx hb dX13_holdBy_39 (by decide) (fun cd => ?_) (fun cd => ?_)
    · have h := ifT cd h
      refine lv_iconst (v := 0) hx hb dX13_holdBy_49 (by decide) ?_
      exact W.iret (v := 0) hx hb hr (fun t ht _ => ⟨_, rfl, Option.some.inj h, ht⟩) (fun _ q => by cases q) dX13_holdBy_50
    · have h := ifF cd h
      refine lv_iload_n hx hb dX13_holdBy_42 rfl (lv_at hl 2 rfl) ?_
      refine lv_bipush (v := 20) hx hb dX13_holdBy_43 (by decide) ?_
      refine lv_isub hx hb dX13_holdBy_45 ?_
      refine lv_goto (tgt := 50) hx hb dX13_holdBy_46 (by decide) ?_
      exact W.iret (v := p2 - 20) hx hb hr (fun t ht _ => ⟨_, rfl, Option.some.inj h, ht⟩) (fun _ q => by cases q) dX13_holdBy_50
  · have h := ifF sw_2 h
    by_cases sw_3 : (wa_kind p1.toNatClampNeg) = 2
    · have h := ifT sw_3 h
      refine lv_tableIn (tgt := 51) hx hb dX13_holdBy_9 (by rw [sw_3]; decide) (by rw [sw_3]; decide) (by rw [sw_3]; rfl) (by decide) ?_
      refine lv_iload_n hx hb dX13_holdBy_51 rfl (lv_at hl 2 rfl) ?_
      refine lv_bipush (v := 80) hx hb dX13_holdBy_52 (by decide) ?_
      refine lv_icmp_ge (tgt := 64) hx hb dX13_holdBy_54 (by decide) (fun cd => ?_) (fun cd => ?_)
      · have h := ifT cd h
        refine lv_bipush (v := 100) hx hb dX13_holdBy_64 (by decide) ?_
        exact W.iret (v := 100) hx hb hr (fun t ht _ => ⟨_, rfl, Option.some.inj h, ht⟩) (fun _ q => by cases q) dX13_holdBy_66
      · have h := ifF cd h
        refine lv_iload_n hx hb dX13_holdBy_57 rfl (lv_at hl 2 rfl) ?_
        refine lv_bipush (v := 20) hx hb dX13_holdBy_58 (by decide) ?_
        refine lv_iadd hx hb dX13_holdBy_60 ?_
        refine lv_goto (tgt := 66) hx hb dX13_holdBy_61 (by decide) ?_
        exact W.iret (v := p2 + 20) hx hb hr (fun t ht _ => ⟨_, rfl, Option.some.inj h, ht⟩) (fun _ q => by cases q) dX13_holdBy_66
    · have h := ifF sw_3 h
      by_cases sw_4 : (wa_kind p1.toNatClampNeg) = 3
      · have h := ifT sw_4 h
        refine lv_tableIn (tgt := 67) hx hb dX13_holdBy_9 (by rw [sw_4]; decide) (by rw [sw_4]; decide) (by rw [sw_4]; rfl) (by decide) ?_
        refine lv_iload_n hx hb dX13_holdBy_67 rfl (lv_at hl 3 rfl) ?_
        refine lv_if_eq (tgt := 77) hx hb dX13_holdBy_68 (by decide) (fun cd => ?_) (fun cd => ?_)
        · have h := ifT cd h
          refine lv_iload_n hx hb dX13_holdBy_77 rfl (lv_at hl 2 rfl) ?_
          exact W.iret (v := p2) hx hb hr (fun t ht _ => ⟨_, rfl, Option.some.inj h, ht⟩) (fun _ q => by cases q) dX13_holdBy_78
        · have h := ifF cd h
          refine lv_iload_n hx hb dX13_holdBy_71 rfl (lv_at hl 2 rfl) ?_
          refine lv_iconst (v := 2) hx hb dX13_holdBy_72 (by decide) ?_
          refine lv_idiv hx hb dX13_holdBy_73 (by decide) ?_
          refine lv_goto (tgt := 78) hx hb dX13_holdBy_74 (by decide) ?_
          exact W.iret (v := p2 / 2) hx hb hr (fun t ht _ => ⟨_, rfl, Option.some.inj h, ht⟩) (fun _ q => by cases q) dX13_holdBy_78
      · have h := ifF sw_4 h
        refine lv_tableOut (tgt := 79) hx hb dX13_holdBy_9 (by have q0 := sw_ne sw_2; have q1 := sw_ne sw_3; have q2 := sw_ne sw_4; rw [show (1 : Int32).toInt = 1 from rfl] at q0; rw [show (2 : Int32).toInt = 2 from rfl] at q1; rw [show (3 : Int32).toInt = 3 from rfl] at q2; omega) (by decide) ?_
        refine lv_iload_n hx hb dX13_holdBy_79 rfl (lv_at hl 2 rfl) ?_
        exact W.iret (v := p2) hx hb hr (fun t ht _ => ⟨_, rfl, Option.some.inj h, ht⟩) (fun _ q => by cases q) dX13_holdBy_80
