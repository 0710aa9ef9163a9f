theorem hd_X13_march : yX13_march.cls = RX13 ∧ yX13_march.cls ≠ "java/lang/invoke/MethodHandle" ∧ yX13_march.cls ≠ "java/lang/invoke/VarHandle" ∧ (parseMethodDescriptor yX13_march.desc).map (fun d => d.parameters.length) = some 3 := by decide +kernel
set_option maxHeartbeats 4000000 in
set_option maxRecDepth 100000 in
theorem c_X13_march (l : Launch) (D : va_G) (cy : Nat → ClassId) (A : Nat → Prop) (X : va_W) (a_mo a_mo_row a_mo_best a_mo_left a_wa a_wa_loses : Nat) (mo_thrown : Int32) (mo_trouble : Int32) (mo_where : Int32) (mo_read : Value) (mo_tape : Value) (mo_taped : Int32) (mo_size : Int32) (mo_spot : Int32) (mo_sort : Int32) (mo_place : Int32) (mo_number : Int32) (mo_fault : Int32) (mo_wrongAt : Int32) (mo_laneTold : Int32) (mo_word : Int64) (mo_v : Value) (mo_x : Value) (mo_past : Value) (mo_kept : Value) (mo_acts : Int32) (mo_marks : Int32) (mo_put : Value) (mo_bestPut : Value) (mo_bestSum : Int64) (mo_bestSize : Int32) (mo_bestLeft : Int32) (mo_counts : Value) (mo_sets : Int32) (mo_foeHarm : Int32) (mo_ownHarm : Int32) (mo_across : Int32) (mo_sumFoe : Int32) (mo_sumOwn : Int32) (mo_sumWon : Int32) (mo_sumAcross : Int32) (mo_row : Nat → Int32) (mo_best : Nat → Int32) (mo_left : Nat → Int32) (wa_lanes : Int32) (wa_deep : Int32) (wa_told : Int32) (wa_beasts : Int32) (wa_cities : Int32) (wa_passes : Int32) (wa_turned : Int32) (wa_names : Int32) (wa_who : Value) (wa_strong : Value) (wa_kind : Value) (wa_lane : Value) (wa_mood : Value) (wa_price : Value) (wa_name : Value) (wa_nameSort : Value) (wa_numberOf : Value) (wa_loses : Nat → Int32) (p1 : Int32) (p2 : Int32) (p3 : Int32) (res : Int32) (mo_thrown' : Int32) (mo_trouble' : Int32) (mo_where' : Int32) (mo_bestSize' : Int32) (mo_bestLeft' : Int32) (mo_row' : Nat → Int32) (mo_best' : Nat → Int32) (mo_left' : Nat → Int32) (h : f_X13_march mo_thrown mo_trouble mo_where mo_bestSize mo_bestLeft mo_row mo_best mo_left wa_cities wa_loses p1 p2 p3 = some (res, mo_thrown', mo_trouble', mo_where', mo_bestSize', mo_bestLeft', mo_row', mo_best', mo_left')) : Met l yX13_march wo_X13_march ({ frames := 2, cells := 0, slots := 0, locals := 47 }) (wrPc D cy A [.ref a_mo, .int p1, .int p2, .int p3] ([(a_mo, .inr (13, [.int mo_thrown, .int mo_trouble, .int mo_where, .ref a_wa, mo_read, mo_tape, .int mo_taped, .int mo_size, .int mo_spot, .int mo_sort, .int mo_place, .int mo_number, .int mo_fault, .int mo_wrongAt, .int mo_laneTold, .long mo_word, mo_v, mo_x, mo_past, mo_kept, .int mo_acts, .int mo_marks, mo_put, mo_bestPut, .long mo_bestSum, .ref a_mo_row, .ref a_mo_best, .ref a_mo_left, .int mo_bestSize, .int mo_bestLeft, mo_counts, .int mo_sets, .int mo_foeHarm, .int mo_ownHarm, .int mo_across, .int mo_sumFoe, .int mo_sumOwn, .int mo_sumWon, .int mo_sumAcross])), (a_mo_row, .inl (cy 1, 6, .inl mo_row)), (a_mo_best, .inl (cy 1, 6, .inl mo_best)), (a_mo_left, .inl (cy 1, 6, .inl mo_left)), (a_wa, .inr (12, [.int wa_lanes, .int wa_deep, .int wa_told, .int wa_beasts, .int wa_cities, .int wa_passes, .int wa_turned, .int wa_names, wa_who, wa_strong, wa_kind, wa_lane, wa_mood, wa_price, .ref a_wa_loses, wa_name, wa_nameSort, wa_numberOf])), (a_wa_loses, .inl (cy 1, 36, .inl wa_loses))] ++ X)) (va_Qi (fun (r : Int32) (_ : Unit) => r = res) (wB D A ([(a_mo, .inr (13, [.int mo_thrown', .int mo_trouble', .int mo_where', .ref a_wa, mo_read, mo_tape, .int mo_taped, .int mo_size, .int mo_spot, .int mo_sort, .int mo_place, .int mo_number, .int mo_fault, .int mo_wrongAt, .int mo_laneTold, .long mo_word, mo_v, mo_x, mo_past, mo_kept, .int mo_acts, .int mo_marks, mo_put, mo_bestPut, .long mo_bestSum, .ref a_mo_row, .ref a_mo_best, .ref a_mo_left, .int mo_bestSize', .int mo_bestLeft', mo_counts, .int mo_sets, .int mo_foeHarm, .int mo_ownHarm, .int mo_across, .int mo_sumFoe, .int mo_sumOwn, .int mo_sumWon, .int mo_sumAcross])), (a_mo_row, .inl (cy 1, 6, .inl mo_row')), (a_mo_best, .inl (cy 1, 6, .inl mo_best')), (a_mo_left, .inl (cy 1, 6, .inl mo_left')), (a_wa, .inr (12, [.int wa_lanes, .int wa_deep, .int wa_told, .int wa_beasts, .int wa_cities, .int wa_passes, .int wa_turned, .int wa_names, wa_who, wa_strong, wa_kind, wa_lane, wa_mood, wa_price, .ref a_wa_loses, wa_name, wa_nameSort, wa_numberOf])), (a_wa_loses, .inl (cy 1, 36, .inl wa_loses))] ++ X)) A) 0 0 A := by
  refine Met.ofW (cc := cX13_march) (maxL := 5) (ret := (some .int)) (by decide) rfl ?_
  intro p e s m args below meth c s₁ B hml hv
  obtain ⟨rfl, hP, hKN, hD, hA⟩ := hv
  have hK := hKN.1
  have hx := B.exec
  have hb := B.bytes
  have hr := B.returns
  have hts := wt_X13_march hKN.2.2 (([.ref a_mo, .int p1, .int p2, .int p3] : List Value).toArray)
  have hown : s.vm.findClass RX13 = some m.cls := findClass_of_methodNamed B.named
  have hlocks := B.notSynchronized
  have hS : va_S A s.heap s.heap [] := va_S.rf
  have hX13 := wc_X13 hKN.2.2 (([.ref a_mo, .int p1, .int p2, .int p3] : List Value).toArray)
  have hl := lv_entry ([.ref a_mo, .int p1, .int p2, .int p3]) (n := 5) (Nat.le_of_ble_eq_true rfl)
  rw [lg_entry_eq]
  generalize (lg_sl ([.ref a_mo, .int p1, .int p2, .int p3]) ++ List.replicate (5 - (lg_sl ([.ref a_mo, .int p1, .int p2, .int p3])).length) Slot.unset).toArray = ls at hl ⊢
  have hl : lv_has ls 5 [(0, .ref a_mo), (1, .int p1), (2, .int p2), (3, .int p3)] := hl
  unfold f_X13_march at h
  refine lv_aload_n hx hb dX13_march_0 rfl (lv_at hl 0 rfl) ?_
  refine lv_iconst (v := 0) hx hb dX13_march_1 (by decide) ?_
  refine va_put (D := D) (ci := 13) (C := RX13) (T := TX13) (N := 39) (v := .int 0) (ty := .int) hx hb hX13 (fun _ q => q) tyX13 tyX13_ok nmX13 hown hK hP hD hS 0 rfl rfl 0 (by decide) (hts (.fieldLink RX13 48 "ElephantLineModel" "thrown" "I") (by decide +kernel)) (fun _ h9 => h9) rfl (tyX13_ok 0 (by decide)) rfl rfl (Nat.le_of_ble_eq_true rfl) dX13_march_2 (fun H locs hP hD hS => ?_)
  refine lv_aload_n hx hb dX13_march_5 rfl (lv_at hl 0 rfl) ?_
  refine lv_iload_n hx hb dX13_march_6 rfl (lv_at hl 1 rfl) ?_
  refine lv_iload_n hx hb dX13_march_7 rfl (lv_at hl 2 rfl) ?_
  refine lv_iload_n hx hb dX13_march_8 rfl (lv_at hl 3 rfl) ?_
  have hP : va_P D vwCl ([(a_mo, .inr (13, [.int 0, .int mo_trouble, .int mo_where, .ref a_wa, mo_read, mo_tape, .int mo_taped, .int mo_size, .int mo_spot, .int mo_sort, .int mo_place, .int mo_number, .int mo_fault, .int mo_wrongAt, .int mo_laneTold, .long mo_word, mo_v, mo_x, mo_past, mo_kept, .int mo_acts, .int mo_marks, mo_put, mo_bestPut, .long mo_bestSum, .ref a_mo_row, .ref a_mo_best, .ref a_mo_left, .int mo_bestSize, .int mo_bestLeft, mo_counts, .int mo_sets, .int mo_foeHarm, .int mo_ownHarm, .int mo_across, .int mo_sumFoe, .int mo_sumOwn, .int mo_sumWon, .int mo_sumAcross])), (a_mo_row, .inl (cy 1, 6, .inl mo_row)), (a_mo_best, .inl (cy 1, 6, .inl mo_best)), (a_mo_left, .inl (cy 1, 6, .inl mo_left)), (a_wa, .inr (12, [.int wa_lanes, .int wa_deep, .int wa_told, .int wa_beasts, .int wa_cities, .int wa_passes, .int wa_turned, .int wa_names, wa_who, wa_strong, wa_kind, wa_lane, wa_mood, wa_price, .ref a_wa_loses, wa_name, wa_nameSort, wa_numberOf])), (a_wa_loses, .inl (cy 1, 36, .inl wa_loses))] ++ X) H := hP
  have hD : va_D A ([(a_mo, .inr (13, [.int 0, .int mo_trouble, .int mo_where, .ref a_wa, mo_read, mo_tape, .int mo_taped, .int mo_size, .int mo_spot, .int mo_sort, .int mo_place, .int mo_number, .int mo_fault, .int mo_wrongAt, .int mo_laneTold, .long mo_word, mo_v, mo_x, mo_past, mo_kept, .int mo_acts, .int mo_marks, mo_put, mo_bestPut, .long mo_bestSum, .ref a_mo_row, .ref a_mo_best, .ref a_mo_left, .int mo_bestSize, .int mo_bestLeft, mo_counts, .int mo_sets, .int mo_foeHarm, .int mo_ownHarm, .int mo_across, .int mo_sumFoe, .int mo_sumOwn, .int mo_sumWon, .int mo_sumAcross])), (a_mo_row, .inl (cy 1, 6, .inl mo_row)), (a_mo_best, .inl (cy 1, 6, .inl mo_best)), (a_mo_left, .inl (cy 1, 6, .inl mo_left)), (a_wa, .inr (12, [.int wa_lanes, .int wa_deep, .int wa_told, .int wa_beasts, .int wa_cities, .int wa_passes, .int wa_turned, .int wa_names, wa_who, wa_strong, wa_kind, wa_lane, wa_mood, wa_price, .ref a_wa_loses, wa_name, wa_nameSort, wa_numberOf])), (a_wa_loses, .inl (cy 1, 36, .inl wa_loses))] ++ X) := hD
  obtain ⟨r_1, hc_2, h⟩ := bd1_some h
  refine kVi [.int p1, .int p2, .int p3] [] ⟨hx, hb, hml, hown, hts⟩ (c_X13_refusesMarch l D cy a_mo a_wa 0 mo_trouble mo_where (mo_read) (mo_tape) mo_taped mo_size mo_spot mo_sort mo_place mo_number mo_fault mo_wrongAt mo_laneTold mo_word (mo_v) (mo_x) (mo_past) (mo_kept) mo_acts mo_marks (mo_put) (mo_bestPut) mo_bestSum (.ref a_mo_row) (.ref a_mo_best) (.ref a_mo_left) mo_bestSize mo_bestLeft (mo_counts) mo_sets mo_foeHarm mo_ownHarm mo_across mo_sumFoe mo_sumOwn mo_sumWon mo_sumAcross wa_lanes wa_deep wa_told wa_beasts wa_cities wa_passes wa_turned wa_names (wa_who) (wa_strong) (wa_kind) (wa_lane) (wa_mood) (wa_price) (.ref a_wa_loses) (wa_name) (wa_nameSort) (wa_numberOf) p1 p2 p3 r_1 hc_2) gX13_march_X13_refusesMarch rfl hd_X13_refusesMarch ⟨Nat.le_of_ble_eq_true rfl, Nat.le_of_ble_eq_true rfl⟩ rfl rfl hKN (pXc hP [0, 4] rfl) 13 0 rfl rfl rfl hl.1 rfl (Nat.le_of_ble_eq_true rfl) dX13_march_9 ⟨Nat.le_of_ble_eq_true rfl, Nat.le_of_ble_eq_true rfl⟩ ?_
  refine lv_istore (lv' := [(4, .int r_1), (0, .ref a_mo), (1, .int p1), (2, .int p2), (3, .int p3)]) hx hb dX13_march_12 hl (by decide) rfl (fun ls hl => ?_)
  refine lv_iload hx hb dX13_march_14 (lv_at hl 0 rfl) ?_
  refine lv_if_le (tgt := 26) hx hb dX13_march_16 (by decide) (fun cd => ?_) (fun cd => ?_)
  · have h := ifT cd h
    refine lv_aload_n hx hb dX13_march_26 rfl (lv_at hl 1 rfl) ?_
    refine lv_iload_n hx hb dX13_march_27 rfl (lv_at hl 2 rfl) ?_
    refine lv_iload_n hx hb dX13_march_28 rfl (lv_at hl 3 rfl) ?_
    refine lv_iload_n hx hb dX13_march_29 rfl (lv_at hl 4 rfl) ?_
    obtain ⟨mo_bestSize_3, mo_bestLeft_4, mo_row_5, mo_best_6, mo_left_7, hc_8, h⟩ := bd5_some h
    refine wVv [.int p1, .int p2, .int p3] [] ⟨hx, hb, hml, hown, hts⟩ (c_X13_marches l D cy A X a_mo a_mo_row a_mo_best a_mo_left a_wa a_wa_loses 0 mo_trouble mo_where (mo_read) (mo_tape) mo_taped mo_size mo_spot mo_sort mo_place mo_number mo_fault mo_wrongAt mo_laneTold mo_word (mo_v) (mo_x) (mo_past) (mo_kept) mo_acts mo_marks (mo_put) (mo_bestPut) mo_bestSum mo_bestSize mo_bestLeft (mo_counts) mo_sets mo_foeHarm mo_ownHarm mo_across mo_sumFoe mo_sumOwn mo_sumWon mo_sumAcross mo_row mo_best mo_left wa_lanes wa_deep wa_told wa_beasts wa_cities wa_passes wa_turned wa_names (wa_who) (wa_strong) (wa_kind) (wa_lane) (wa_mood) (wa_price) (wa_name) (wa_nameSort) (wa_numberOf) wa_loses p1 p2 p3 mo_bestSize_3 mo_bestLeft_4 mo_row_5 mo_best_6 mo_left_7 hc_8) gX13_march_X13_marches rfl hd_X13_marches ⟨Nat.le_of_ble_eq_true rfl, Nat.le_of_ble_eq_true rfl⟩ rfl rfl hKN hP hD hS hA 13 0 rfl rfl rfl hl.1 rfl (Nat.le_of_ble_eq_true rfl) dX13_march_30 ⟨Nat.le_of_ble_eq_true rfl, Nat.le_of_ble_eq_true rfl⟩ (fun H locs hP hD hS => ?_)
    refine lv_aload_n hx hb dX13_march_33 rfl (lv_at hl 1 rfl) ?_
    refine lv_aload_n hx hb dX13_march_34 rfl (lv_at hl 1 rfl) ?_
    refine va_get (D := D) (ci := 13) (C := RX13) (T := TX13) (N := 39) (v := .int mo_bestLeft_4) hx hb hX13 (fun _ q => q) hown hK hP 0 rfl rfl 29 (by decide) (hts (.fieldLink RX13 411 "ElephantLineModel" "bestLeft" "I") (by decide +kernel)) (fun _ h9 => h9) rfl dX13_march_35 ?_
    obtain ⟨r_9, mo_trouble_10, mo_where_11, hc_12, h⟩ := bd3_some h
    refine wVi [.int mo_bestLeft_4] [] ⟨hx, hb, hml, hown, hts⟩ (c_X13_good l D cy A ([(a_mo_row, .inl (cy 1, 6, .inl mo_row_5)), (a_mo_best, .inl (cy 1, 6, .inl mo_best_6)), (a_mo_left, .inl (cy 1, 6, .inl mo_left_7)), (a_wa, .inr (12, [.int wa_lanes, .int wa_deep, .int wa_told, .int wa_beasts, .int wa_cities, .int wa_passes, .int wa_turned, .int wa_names, wa_who, wa_strong, wa_kind, wa_lane, wa_mood, wa_price, .ref a_wa_loses, wa_name, wa_nameSort, wa_numberOf])), (a_wa_loses, .inl (cy 1, 36, .inl wa_loses))] ++ X) a_mo 0 mo_trouble mo_where (.ref a_wa) (mo_read) (mo_tape) mo_taped mo_size mo_spot mo_sort mo_place mo_number mo_fault mo_wrongAt mo_laneTold mo_word (mo_v) (mo_x) (mo_past) (mo_kept) mo_acts mo_marks (mo_put) (mo_bestPut) mo_bestSum (.ref a_mo_row) (.ref a_mo_best) (.ref a_mo_left) mo_bestSize_3 mo_bestLeft_4 (mo_counts) mo_sets mo_foeHarm mo_ownHarm mo_across mo_sumFoe mo_sumOwn mo_sumWon mo_sumAcross mo_bestLeft_4 r_9 mo_trouble_10 mo_where_11 hc_12) gX13_march_X13_good rfl hd_X13_good ⟨Nat.le_of_ble_eq_true rfl, Nat.le_of_ble_eq_true rfl⟩ rfl rfl hKN (pX3 hP [0, 1, 2, 3, 4, 5] rfl) (dX3 hD [0, 1, 2, 3, 4, 5] rfl rfl) hS hA 13 0 rfl rfl rfl hl.1 rfl (Nat.le_of_ble_eq_true rfl) dX13_march_38 ⟨Nat.le_of_ble_eq_true rfl, Nat.le_of_ble_eq_true rfl⟩ (fun H locs hP hD hS => ?_)
    have hP := pX4 (L1 := [(a_mo, .inr (13, [.int 0, .int mo_trouble_10, .int mo_where_11, .ref a_wa, mo_read, mo_tape, .int mo_taped, .int mo_size, .int mo_spot, .int mo_sort, .int mo_place, .int mo_number, .int mo_fault, .int mo_wrongAt, .int mo_laneTold, .long mo_word, mo_v, mo_x, mo_past, mo_kept, .int mo_acts, .int mo_marks, mo_put, mo_bestPut, .long mo_bestSum, .ref a_mo_row, .ref a_mo_best, .ref a_mo_left, .int mo_bestSize_3, .int mo_bestLeft_4, mo_counts, .int mo_sets, .int mo_foeHarm, .int mo_ownHarm, .int mo_across, .int mo_sumFoe, .int mo_sumOwn, .int mo_sumWon, .int mo_sumAcross])), (a_mo_row, .inl (cy 1, 6, .inl mo_row_5)), (a_mo_best, .inl (cy 1, 6, .inl mo_best_6)), (a_mo_left, .inl (cy 1, 6, .inl mo_left_7)), (a_wa, .inr (12, [.int wa_lanes, .int wa_deep, .int wa_told, .int wa_beasts, .int wa_cities, .int wa_passes, .int wa_turned, .int wa_names, wa_who, wa_strong, wa_kind, wa_lane, wa_mood, wa_price, .ref a_wa_loses, wa_name, wa_nameSort, wa_numberOf])), (a_wa_loses, .inl (cy 1, 36, .inl wa_loses))]) hP [0, 1, 2, 3, 4, 5] rfl
    have hD := dX4 (L1 := [(a_mo, .inr (13, [.int 0, .int mo_trouble_10, .int mo_where_11, .ref a_wa, mo_read, mo_tape, .int mo_taped, .int mo_size, .int mo_spot, .int mo_sort, .int mo_place, .int mo_number, .int mo_fault, .int mo_wrongAt, .int mo_laneTold, .long mo_word, mo_v, mo_x, mo_past, mo_kept, .int mo_acts, .int mo_marks, mo_put, mo_bestPut, .long mo_bestSum, .ref a_mo_row, .ref a_mo_best, .ref a_mo_left, .int mo_bestSize_3, .int mo_bestLeft_4, mo_counts, .int mo_sets, .int mo_foeHarm, .int mo_ownHarm, .int mo_across, .int mo_sumFoe, .int mo_sumOwn, .int mo_sumWon, .int mo_sumAcross])), (a_mo_row, .inl (cy 1, 6, .inl mo_row_5)), (a_mo_best, .inl (cy 1, 6, .inl mo_best_6)), (a_mo_left, .inl (cy 1, 6, .inl mo_left_7)), (a_wa, .inr (12, [.int wa_lanes, .int wa_deep, .int wa_told, .int wa_beasts, .int wa_cities, .int wa_passes, .int wa_turned, .int wa_names, wa_who, wa_strong, wa_kind, wa_lane, wa_mood, wa_price, .ref a_wa_loses, wa_name, wa_nameSort, wa_numberOf])), (a_wa_loses, .inl (cy 1, 36, .inl wa_loses))]) hD [0, 1, 2, 3, 4, 5] rfl rfl
    have h0 := Option.some.inj h
    clear h
    obtain ⟨e1, h1⟩ := pjP h0
    clear h0
    subst e1
    obtain ⟨e2, h2⟩ := pjP h1
    clear h1
    subst e2
    obtain ⟨e3, h3⟩ := pjP h2
    clear h2
    subst e3
    obtain ⟨e4, h4⟩ := pjP h3
    clear h3
    subst e4
    obtain ⟨e5, h5⟩ := pjP h4
    clear h4
    subst e5
    obtain ⟨e6, h6⟩ := pjP h5
    clear h5
    subst e6
    obtain ⟨e7, h7⟩ := pjP h6
    clear h6
    subst e7
    obtain ⟨e8, h8⟩ := pjP h7
    clear h7
    subst e8
    subst h8
    exact W.iret hx hb hr (fun t ht _ => ⟨⟨_, (), rfl, rfl, by rw [ht]; exact hP, hD⟩, hS.F ht⟩) hS.2.2 dX13_march_41
  · have h := ifF cd h
    refine lv_aload_n hx hb dX13_march_19 rfl (lv_at hl 1 rfl) ?_
    refine lv_iload hx hb dX13_march_20 (lv_at hl 0 rfl) ?_
    obtain ⟨r_13, mo_trouble_14, mo_where_15, hc_16, h⟩ := bd3_some h
    refine wVi [.int r_1] [] ⟨hx, hb, hml, hown, hts⟩ (c_X13_refused l D cy A ([(a_mo_row, .inl (cy 1, 6, .inl mo_row)), (a_mo_best, .inl (cy 1, 6, .inl mo_best)), (a_mo_left, .inl (cy 1, 6, .inl mo_left)), (a_wa, .inr (12, [.int wa_lanes, .int wa_deep, .int wa_told, .int wa_beasts, .int wa_cities, .int wa_passes, .int wa_turned, .int wa_names, wa_who, wa_strong, wa_kind, wa_lane, wa_mood, wa_price, .ref a_wa_loses, wa_name, wa_nameSort, wa_numberOf])), (a_wa_loses, .inl (cy 1, 36, .inl wa_loses))] ++ X) a_mo 0 mo_trouble mo_where (.ref a_wa) (mo_read) (mo_tape) mo_taped mo_size mo_spot mo_sort mo_place mo_number mo_fault mo_wrongAt mo_laneTold mo_word (mo_v) (mo_x) (mo_past) (mo_kept) mo_acts mo_marks (mo_put) (mo_bestPut) mo_bestSum (.ref a_mo_row) (.ref a_mo_best) (.ref a_mo_left) mo_bestSize mo_bestLeft (mo_counts) mo_sets mo_foeHarm mo_ownHarm mo_across mo_sumFoe mo_sumOwn mo_sumWon mo_sumAcross r_1 r_13 mo_trouble_14 mo_where_15 hc_16) gX13_march_X13_refused rfl hd_X13_refused ⟨Nat.le_of_ble_eq_true rfl, Nat.le_of_ble_eq_true rfl⟩ rfl rfl hKN (pX3 hP [0, 1, 2, 3, 4, 5] rfl) (dX3 hD [0, 1, 2, 3, 4, 5] rfl rfl) hS hA 13 0 rfl rfl rfl hl.1 rfl (Nat.le_of_ble_eq_true rfl) dX13_march_22 ⟨Nat.le_of_ble_eq_true rfl, Nat.le_of_ble_eq_true rfl⟩ (fun H locs hP hD hS => ?_)
    have hP := pX4 (L1 := [(a_mo, .inr (13, [.int 0, .int mo_trouble_14, .int mo_where_15, .ref a_wa, mo_read, mo_tape, .int mo_taped, .int mo_size, .int mo_spot, .int mo_sort, .int mo_place, .int mo_number, .int mo_fault, .int mo_wrongAt, .int mo_laneTold, .long mo_word, mo_v, mo_x, mo_past, mo_kept, .int mo_acts, .int mo_marks, mo_put, mo_bestPut, .long mo_bestSum, .ref a_mo_row, .ref a_mo_best, .ref a_mo_left, .int mo_bestSize, .int mo_bestLeft, mo_counts, .int mo_sets, .int mo_foeHarm, .int mo_ownHarm, .int mo_across, .int mo_sumFoe, .int mo_sumOwn, .int mo_sumWon, .int mo_sumAcross])), (a_mo_row, .inl (cy 1, 6, .inl mo_row)), (a_mo_best, .inl (cy 1, 6, .inl mo_best)), (a_mo_left, .inl (cy 1, 6, .inl mo_left)), (a_wa, .inr (12, [.int wa_lanes, .int wa_deep, .int wa_told, .int wa_beasts, .int wa_cities, .int wa_passes, .int wa_turned, .int wa_names, wa_who, wa_strong, wa_kind, wa_lane, wa_mood, wa_price, .ref a_wa_loses, wa_name, wa_nameSort, wa_numberOf])), (a_wa_loses, .inl (cy 1, 36, .inl wa_loses))]) hP [0, 1, 2, 3, 4, 5] rfl
    have hD := dX4 (L1 := [(a_mo, .inr (13, [.int 0, .int mo_trouble_14, .int mo_where_15, .ref a_wa, mo_read, mo_tape, .int mo_taped, .int mo_size, .int mo_spot, .int mo_sort, .int mo_place, .int mo_number, .int mo_fault, .int mo_wrongAt, .int mo_laneTold, .long mo_word, mo_v, mo_x, mo_past, mo_kept, .int mo_acts, .int mo_marks, mo_put, mo_bestPut, .long mo_bestSum, .ref a_mo_row, .ref a_mo_best, .ref a_mo_left, .int mo_bestSize, .int mo_bestLeft, mo_counts, .int mo_sets, .int mo_foeHarm, .int mo_ownHarm, .int mo_across, .int mo_sumFoe, .int mo_sumOwn, .int mo_sumWon, .int mo_sumAcross])), (a_mo_row, .inl (cy 1, 6, .inl mo_row)), (a_mo_best, .inl (cy 1, 6, .inl mo_best)), (a_mo_left, .inl (cy 1, 6, .inl mo_left)), (a_wa, .inr (12, [.int wa_lanes, .int wa_deep, .int wa_told, .int wa_beasts, .int wa_cities, .int wa_passes, .int wa_turned, .int wa_names, wa_who, wa_strong, wa_kind, wa_lane, wa_mood, wa_price, .ref a_wa_loses, wa_name, wa_nameSort, wa_numberOf])), (a_wa_loses, .inl (cy 1, 36, .inl wa_loses))]) hD [0, 1, 2, 3, 4, 5] rfl rfl
    have h0 := Option.some.inj h
    clear h
    obtain ⟨e1, h1⟩ := pjP h0
    clear h0
    subst e1
    obtain ⟨e2, h2⟩ := pjP h1
    clear h1
    subst e2
    obtain ⟨e3, h3⟩ := pjP h2
    clear h2
    subst e3
    obtain ⟨e4, h4⟩ := pjP h3
    clear h3
    subst e4
    obtain ⟨e5, h5⟩ := pjP h4
    clear h4
    subst e5
    obtain ⟨e6, h6⟩ := pjP h5
    clear h5
    subst e6
    obtain ⟨e7, h7⟩ := pjP h6
    clear h6
    subst e7
    obtain ⟨e8, h8⟩ := pjP h7
    clear h7
    subst e8
    subst h8
    exact W.iret hx hb hr (fun t ht _ => ⟨⟨_, (), rfl, rfl, by rw [ht]; exact hP, hD⟩, hS.F ht⟩) hS.2.2 dX13_march_25
theorem hd_X13_marchAt : yX13_marchAt.cls = RX13 ∧ yX13_marchAt.cls ≠ "java/lang/invoke/MethodHandle" ∧ yX13_marchAt.cls ≠ "java/lang/invoke/VarHandle" ∧ (parseMethodDescriptor yX13_marchAt.desc).map (fun d => d.parameters.length) = some 4 := by decide +kernel
set_option maxHeartbeats 4000000 in
set_option maxRecDepth 100000 in
theorem c_X13_marchAt (l : Launch) (D : va_G) (cy : Nat → ClassId) (A : Nat → Prop) (X : va_W) (a_mo a_mo_row a_mo_best a_mo_left a_wa a_wa_loses : Nat) (mo_thrown : Int32) (mo_trouble : Int32) (mo_where : Int32) (mo_read : Value) (mo_tape : Value) (mo_taped : Int32) (mo_size : Int32) (mo_spot : Int32) (mo_sort : Int32) (mo_place : Int32) (mo_number : Int32) (mo_fault : Int32) (mo_wrongAt : Int32) (mo_laneTold : Int32) (mo_word : Int64) (mo_v : Value) (mo_x : Value) (mo_past : Value) (mo_kept : Value) (mo_acts : Int32) (mo_marks : Int32) (mo_put : Value) (mo_bestPut : Value) (mo_bestSum : Int64) (mo_bestSize : Int32) (mo_bestLeft : Int32) (mo_counts : Value) (mo_sets : Int32) (mo_foeHarm : Int32) (mo_ownHarm : Int32) (mo_across : Int32) (mo_sumFoe : Int32) (mo_sumOwn : Int32) (mo_sumWon : Int32) (mo_sumAcross : Int32) (mo_row : Nat → Int32) (mo_best : Nat → Int32) (mo_left : Nat → Int32) (wa_lanes : Int32) (wa_deep : Int32) (wa_told : Int32) (wa_beasts : Int32) (wa_cities : Int32) (wa_passes : Int32) (wa_turned : Int32) (wa_names : Int32) (wa_who : Value) (wa_strong : Value) (wa_kind : Value) (wa_lane : Value) (wa_mood : Value) (wa_price : Value) (wa_name : Value) (wa_nameSort : Value) (wa_numberOf : Value) (wa_loses : Nat → Int32) (p1 : Int32) (p2 : Int32) (p3 : Int32) (p4 : Int32) (res : Int32) (mo_thrown' : Int32) (mo_trouble' : Int32) (mo_where' : Int32) (mo_bestSize' : Int32) (mo_bestLeft' : Int32) (mo_row' : Nat → Int32) (mo_best' : Nat → Int32) (mo_left' : Nat → Int32) (h : f_X13_marchAt mo_thrown mo_trouble mo_where mo_bestSize mo_bestLeft mo_row mo_best mo_left wa_cities wa_loses p1 p2 p3 p4 = some (res, mo_thrown', mo_trouble', mo_where', mo_bestSize', mo_bestLeft', mo_row', mo_best', mo_left')) : Met l yX13_marchAt wo_X13_marchAt ({ frames := 2, cells := 0, slots := 0, locals := 47 }) (wrPc D cy A [.ref a_mo, .int p1, .int p2, .int p3, .int p4] ([(a_mo, .inr (13, [.int mo_thrown, .int mo_trouble, .int mo_where, .ref a_wa, mo_read, mo_tape, .int mo_taped, .int mo_size, .int mo_spot, .int mo_sort, .int mo_place, .int mo_number, .int mo_fault, .int mo_wrongAt, .int mo_laneTold, .long mo_word, mo_v, mo_x, mo_past, mo_kept, .int mo_acts, .int mo_marks, mo_put, mo_bestPut, .long mo_bestSum, .ref a_mo_row, .ref a_mo_best, .ref a_mo_left, .int mo_bestSize, .int mo_bestLeft, mo_counts, .int mo_sets, .int mo_foeHarm, .int mo_ownHarm, .int mo_across, .int mo_sumFoe, .int mo_sumOwn, .int mo_sumWon, .int mo_sumAcross])), (a_mo_row, .inl (cy 1, 6, .inl mo_row)), (a_mo_best, .inl (cy 1, 6, .inl mo_best)), (a_mo_left, .inl (cy 1, 6, .inl mo_left)), (a_wa, .inr (12, [.int wa_lanes, .int wa_deep, .int wa_told, .int wa_beasts, .int wa_cities, .int wa_passes, .int wa_turned, .int wa_names, wa_who, wa_strong, wa_kind, wa_lane, wa_mood, wa_price, .ref a_wa_loses, wa_name, wa_nameSort, wa_numberOf])), (a_wa_loses, .inl (cy 1, 36, .inl wa_loses))] ++ X)) (va_Qi (fun (r : Int32) (_ : Unit) => r = res) (wB D A ([(a_mo, .inr (13, [.int mo_thrown', .int mo_trouble', .int mo_where', .ref a_wa, mo_read, mo_tape, .int mo_taped, .int mo_size, .int mo_spot, .int mo_sort, .int mo_place, .int mo_number, .int mo_fault, .int mo_wrongAt, .int mo_laneTold, .long mo_word, mo_v, mo_x, mo_past, mo_kept, .int mo_acts, .int mo_marks, mo_put, mo_bestPut, .long mo_bestSum, .ref a_mo_row, .ref a_mo_best, .ref a_mo_left, .int mo_bestSize', .int mo_bestLeft', mo_counts, .int mo_sets, .int mo_foeHarm, .int mo_ownHarm, .int mo_across, .int mo_sumFoe, .int mo_sumOwn, .int mo_sumWon, .int mo_sumAcross])), (a_mo_row, .inl (cy 1, 6, .inl mo_row')), (a_mo_best, .inl (cy 1, 6, .inl mo_best')), (a_mo_left, .inl (cy 1, 6, .inl mo_left')), (a_wa, .inr (12, [.int wa_lanes, .int wa_deep, .int wa_told, .int wa_beasts, .int wa_cities, .int wa_passes, .int wa_turned, .int wa_names, wa_who, wa_strong, wa_kind, wa_lane, wa_mood, wa_price, .ref a_wa_loses, wa_name, wa_nameSort, wa_numberOf])), (a_wa_loses, .inl (cy 1, 36, .inl wa_loses))] ++ X)) A) 0 0 A := by
  refine Met.ofW (cc := cX13_marchAt) (maxL := 6) (ret := (some .int)) (by decide) rfl ?_
  intro p e s m args below meth c s₁ B hml hv
  obtain ⟨rfl, hP, hKN, hD, hA⟩ := hv
  have hK := hKN.1
  have hx := B.exec
  have hb := B.bytes
  have hr := B.returns
  have hts := wt_X13_marchAt hKN.2.2 (([.ref a_mo, .int p1, .int p2, .int p3, .int p4] : List Value).toArray)
  have hown : s.vm.findClass RX13 = some m.cls := findClass_of_methodNamed B.named
  have hlocks := B.notSynchronized
  have hS : va_S A s.heap s.heap [] := va_S.rf
  have hX13 := wc_X13 hKN.2.2 (([.ref a_mo, .int p1, .int p2, .int p3, .int p4] : List Value).toArray)
  have hl := lv_entry ([.ref a_mo, .int p1, .int p2, .int p3, .int p4]) (n := 6) (Nat.le_of_ble_eq_true rfl)
  rw [lg_entry_eq]
  generalize (lg_sl ([.ref a_mo, .int p1, .int p2, .int p3, .int p4]) ++ List.replicate (6 - (lg_sl ([.ref a_mo, .int p1, .int p2, .int p3, .int p4])).length) Slot.unset).toArray = ls at hl ⊢
  have hl : lv_has ls 6 [(0, .ref a_mo), (1, .int p1), (2, .int p2), (3, .int p3), (4, .int p4)] := hl
  unfold f_X13_marchAt at h
  refine lv_aload_n hx hb dX13_marchAt_0 rfl (lv_at hl 0 rfl) ?_
  refine lv_iconst (v := 0) hx hb dX13_marchAt_1 (by decide) ?_
  refine va_put (D := D) (ci := 13) (C := RX13) (T := TX13) (N := 39) (v := .int 0) (ty := .int) hx hb hX13 (fun _ q => q) tyX13 tyX13_ok nmX13 hown hK hP hD hS 0 rfl rfl 0 (by decide) (hts (.fieldLink RX13 48 "ElephantLineModel" "thrown" "I") (by decide +kernel)) (fun _ h9 => h9) rfl (tyX13_ok 0 (by decide)) rfl rfl (Nat.le_of_ble_eq_true rfl) dX13_marchAt_2 (fun H locs hP hD hS => ?_)
  refine lv_aload_n hx hb dX13_marchAt_5 rfl (lv_at hl 0 rfl) ?_
  refine lv_iload_n hx hb dX13_marchAt_6 rfl (lv_at hl 1 rfl) ?_
  refine lv_iload_n hx hb dX13_marchAt_7 rfl (lv_at hl 2 rfl) ?_
  refine lv_iload_n hx hb dX13_marchAt_8 rfl (lv_at hl 3 rfl) ?_
  have hP : va_P D vwCl ([(a_mo, .inr (13, [.int 0, .int mo_trouble, .int mo_where, .ref a_wa, mo_read, mo_tape, .int mo_taped, .int mo_size, .int mo_spot, .int mo_sort, .int mo_place, .int mo_number, .int mo_fault, .int mo_wrongAt, .int mo_laneTold, .long mo_word, mo_v, mo_x, mo_past, mo_kept, .int mo_acts, .int mo_marks, mo_put, mo_bestPut, .long mo_bestSum, .ref a_mo_row, .ref a_mo_best, .ref a_mo_left, .int mo_bestSize, .int mo_bestLeft, mo_counts, .int mo_sets, .int mo_foeHarm, .int mo_ownHarm, .int mo_across, .int mo_sumFoe, .int mo_sumOwn, .int mo_sumWon, .int mo_sumAcross])), (a_mo_row, .inl (cy 1, 6, .inl mo_row)), (a_mo_best, .inl (cy 1, 6, .inl mo_best)), (a_mo_left, .inl (cy 1, 6, .inl mo_left)), (a_wa, .inr (12, [.int wa_lanes, .int wa_deep, .int wa_told, .int wa_beasts, .int wa_cities, .int wa_passes, .int wa_turned, .int wa_names, wa_who, wa_strong, wa_kind, wa_lane, wa_mood, wa_price, .ref a_wa_loses, wa_name, wa_nameSort, wa_numberOf])), (a_wa_loses, .inl (cy 1, 36, .inl wa_loses))] ++ X) H := hP
  have hD : va_D A ([(a_mo, .inr (13, [.int 0, .int mo_trouble, .int mo_where, .ref a_wa, mo_read, mo_tape, .int mo_taped, .int mo_size, .int mo_spot, .int mo_sort, .int mo_place, .int mo_number, .int mo_fault, .int mo_wrongAt, .int mo_laneTold, .long mo_word, mo_v, mo_x, mo_past, mo_kept, .int mo_acts, .int mo_marks, mo_put, mo_bestPut, .long mo_bestSum, .ref a_mo_row, .ref a_mo_best, .ref a_mo_left, .int mo_bestSize, .int mo_bestLeft, mo_counts, .int mo_sets, .int mo_foeHarm, .int mo_ownHarm, .int mo_across, .int mo_sumFoe, .int mo_sumOwn, .int mo_sumWon, .int mo_sumAcross])), (a_mo_row, .inl (cy 1, 6, .inl mo_row)), (a_mo_best, .inl (cy 1, 6, .inl mo_best)), (a_mo_left, .inl (cy 1, 6, .inl mo_left)), (a_wa, .inr (12, [.int wa_lanes, .int wa_deep, .int wa_told, .int wa_beasts, .int wa_cities, .int wa_passes, .int wa_turned, .int wa_names, wa_who, wa_strong, wa_kind, wa_lane, wa_mood, wa_price, .ref a_wa_loses, wa_name, wa_nameSort, wa_numberOf])), (a_wa_loses, .inl (cy 1, 36, .inl wa_loses))] ++ X) := hD
  obtain ⟨r_1, hc_2, h⟩ := bd1_some h
  refine kVi [.int p1, .int p2, .int p3] [] ⟨hx, hb, hml, hown, hts⟩ (c_X13_refusesMarch l D cy a_mo a_wa 0 mo_trouble mo_where (mo_read) (mo_tape) mo_taped mo_size mo_spot mo_sort mo_place mo_number mo_fault mo_wrongAt mo_laneTold mo_word (mo_v) (mo_x) (mo_past) (mo_kept) mo_acts mo_marks (mo_put) (mo_bestPut) mo_bestSum (.ref a_mo_row) (.ref a_mo_best) (.ref a_mo_left) mo_bestSize mo_bestLeft (mo_counts) mo_sets mo_foeHarm mo_ownHarm mo_across mo_sumFoe mo_sumOwn mo_sumWon mo_sumAcross wa_lanes wa_deep wa_told wa_beasts wa_cities wa_passes wa_turned wa_names (wa_who) (wa_strong) (wa_kind) (wa_lane) (wa_mood) (wa_price) (.ref a_wa_loses) (wa_name) (wa_nameSort) (wa_numberOf) p1 p2 p3 r_1 hc_2) gX13_marchAt_X13_refusesMarch rfl hd_X13_refusesMarch ⟨Nat.le_of_ble_eq_true rfl, Nat.le_of_ble_eq_true rfl⟩ rfl rfl hKN (pXc hP [0, 4] rfl) 13 0 rfl rfl rfl hl.1 rfl (Nat.le_of_ble_eq_true rfl) dX13_marchAt_9 ⟨Nat.le_of_ble_eq_true rfl, Nat.le_of_ble_eq_true rfl⟩ ?_
  refine lv_istore (lv' := [(5, .int r_1), (0, .ref a_mo), (1, .int p1), (2, .int p2), (3, .int p3), (4, .int p4)]) hx hb dX13_marchAt_12 hl (by decide) rfl (fun ls hl => ?_)
  refine lv_iload hx hb dX13_marchAt_14 (lv_at hl 0 rfl) ?_
  refine lv_if_le (tgt := 26) hx hb dX13_marchAt_16 (by decide) (fun cd => ?_) (fun cd => ?_)
  · have h := ifT cd h
    refine lv_aload_n hx hb dX13_marchAt_26 rfl (lv_at hl 1 rfl) ?_
    refine lv_iload_n hx hb dX13_marchAt_27 rfl (lv_at hl 2 rfl) ?_
    refine lv_iload_n hx hb dX13_marchAt_28 rfl (lv_at hl 3 rfl) ?_
    refine lv_iload_n hx hb dX13_marchAt_29 rfl (lv_at hl 4 rfl) ?_
    obtain ⟨mo_bestSize_3, mo_bestLeft_4, mo_row_5, mo_best_6, mo_left_7, hc_8, h⟩ := bd5_some h
    refine wVv [.int p1, .int p2, .int p3] [] ⟨hx, hb, hml, hown, hts⟩ (c_X13_marches l D cy A X a_mo a_mo_row a_mo_best a_mo_left a_wa a_wa_loses 0 mo_trouble mo_where (mo_read) (mo_tape) mo_taped mo_size mo_spot mo_sort mo_place mo_number mo_fault mo_wrongAt mo_laneTold mo_word (mo_v) (mo_x) (mo_past) (mo_kept) mo_acts mo_marks (mo_put) (mo_bestPut) mo_bestSum mo_bestSize mo_bestLeft (mo_counts) mo_sets mo_foeHarm mo_ownHarm mo_across mo_sumFoe mo_sumOwn mo_sumWon mo_sumAcross mo_row mo_best mo_left wa_lanes wa_deep wa_told wa_beasts wa_cities wa_passes wa_turned wa_names (wa_who) (wa_strong) (wa_kind) (wa_lane) (wa_mood) (wa_price) (wa_name) (wa_nameSort) (wa_numberOf) wa_loses p1 p2 p3 mo_bestSize_3 mo_bestLeft_4 mo_row_5 mo_best_6 mo_left_7 hc_8) gX13_marchAt_X13_marches rfl hd_X13_marches ⟨Nat.le_of_ble_eq_true rfl, Nat.le_of_ble_eq_true rfl⟩ rfl rfl hKN hP hD hS hA 13 0 rfl rfl rfl hl.1 rfl (Nat.le_of_ble_eq_true rfl) dX13_marchAt_30 ⟨Nat.le_of_ble_eq_true rfl, Nat.le_of_ble_eq_true rfl⟩ (fun H locs hP hD hS => ?_)
    refine lv_iload hx hb dX13_marchAt_33 (lv_at hl 5 rfl) ?_
    have jn61 : f_X13_marchAt_B61 wa_cities wa_loses 0 mo_trouble mo_where mo_bestSize_3 mo_bestLeft_4 mo_row_5 mo_best_6 mo_left_7 = some (res, mo_thrown', mo_trouble', mo_where', mo_bestSize', mo_bestLeft', mo_row', mo_best', mo_left') → ∀ (H : Heap) (locs : List Loc), va_P D vwCl ([(a_mo, .inr (13, [.int 0, .int mo_trouble, .int mo_where, .ref a_wa, mo_read, mo_tape, .int mo_taped, .int mo_size, .int mo_spot, .int mo_sort, .int mo_place, .int mo_number, .int mo_fault, .int mo_wrongAt, .int mo_laneTold, .long mo_word, mo_v, mo_x, mo_past, mo_kept, .int mo_acts, .int mo_marks, mo_put, mo_bestPut, .long mo_bestSum, .ref a_mo_row, .ref a_mo_best, .ref a_mo_left, .int mo_bestSize_3, .int mo_bestLeft_4, mo_counts, .int mo_sets, .int mo_foeHarm, .int mo_ownHarm, .int mo_across, .int mo_sumFoe, .int mo_sumOwn, .int mo_sumWon, .int mo_sumAcross])), (a_mo_row, .inl (cy 1, 6, .inl mo_row_5)), (a_mo_best, .inl (cy 1, 6, .inl mo_best_6)), (a_mo_left, .inl (cy 1, 6, .inl mo_left_7)), (a_wa, .inr (12, [.int wa_lanes, .int wa_deep, .int wa_told, .int wa_beasts, .int wa_cities, .int wa_passes, .int wa_turned, .int wa_names, wa_who, wa_strong, wa_kind, wa_lane, wa_mood, wa_price, .ref a_wa_loses, wa_name, wa_nameSort, wa_numberOf])), (a_wa_loses, .inl (cy 1, 36, .inl wa_loses))] ++ X) H → va_D A ([(a_mo, .inr (13, [.int 0, .int mo_trouble, .int mo_where, .ref a_wa, mo_read, mo_tape, .int mo_taped, .int mo_size, .int mo_spot, .int mo_sort, .int mo_place, .int mo_number, .int mo_fault, .int mo_wrongAt, .int mo_laneTold, .long mo_word, mo_v, mo_x, mo_past, mo_kept, .int mo_acts, .int mo_marks, mo_put, mo_bestPut, .long mo_bestSum, .ref a_mo_row, .ref a_mo_best, .ref a_mo_left, .int mo_bestSize_3, .int mo_bestLeft_4, mo_counts, .int mo_sets, .int mo_foeHarm, .int mo_ownHarm, .int mo_across, .int mo_sumFoe, .int mo_sumOwn, .int mo_sumWon, .int mo_sumAcross])), (a_mo_row, .inl (cy 1, 6, .inl mo_row_5)), (a_mo_best, .inl (cy 1, 6, .inl mo_best_6)), (a_mo_left, .inl (cy 1, 6, .inl mo_left_7)), (a_wa, .inr (12, [.int wa_lanes, .int wa_deep, .int wa_told, .int wa_beasts, .int wa_cities, .int wa_passes, .int wa_turned, .int wa_names, wa_who, wa_strong, wa_kind, wa_lane, wa_mood, wa_price, .ref a_wa_loses, wa_name, wa_nameSort, wa_numberOf])), (a_wa_loses, .inl (cy 1, 36, .inl wa_loses))] ++ X) → va_S A s.heap H locs → ∀ ls : Array Slot, lv_has ls 6 [(0, .ref a_mo)] → W p l e (headSpec wo_X13_marchAt ({ frames := 2, cells := 0, slots := 0, locals := 47 })).room s m (([.ref a_mo, .int p1, .int p2, .int p3, .int p4] : List Value).toArray) below meth c H locs 0 0 (MQ below (va_Qi (fun (r : Int32) (_ : Unit) => r = res) (wB D A ([(a_mo, .inr (13, [.int mo_thrown', .int mo_trouble', .int mo_where', .ref a_wa, mo_read, mo_tape, .int mo_taped, .int mo_size, .int mo_spot, .int mo_sort, .int mo_place, .int mo_number, .int mo_fault, .int mo_wrongAt, .int mo_laneTold, .long mo_word, mo_v, mo_x, mo_past, mo_kept, .int mo_acts, .int mo_marks, mo_put, mo_bestPut, .long mo_bestSum, .ref a_mo_row, .ref a_mo_best, .ref a_mo_left, .int mo_bestSize', .int mo_bestLeft', mo_counts, .int mo_sets, .int mo_foeHarm, .int mo_ownHarm, .int mo_across, .int mo_sumFoe, .int mo_sumOwn, .int mo_sumWon, .int mo_sumAcross])), (a_mo_row, .inl (cy 1, 6, .inl mo_row')), (a_mo_best, .inl (cy 1, 6, .inl mo_best')), (a_mo_left, .inl (cy 1, 6, .inl mo_left')), (a_wa, .inr (12, [.int wa_lanes, .int wa_deep, .int wa_told, .int wa_beasts, .int wa_cities, .int wa_passes, .int wa_turned, .int wa_names, wa_who, wa_strong, wa_kind, wa_lane, wa_mood, wa_price, .ref a_wa_loses, wa_name, wa_nameSort, wa_numberOf])), (a_wa_loses, .inl (cy 1, 36, .inl wa_loses))] ++ X)) A) (([.ref a_mo, .int p1, .int p2, .int p3, .int p4] : List Value).toArray) s 0 0 A) (F0 m 61 ls []) := by
      intro h H locs hP hD hS ls hl
      unfold f_X13_marchAt_B61 at h
      refine lv_aload_n hx hb dX13_marchAt_61 rfl (lv_at hl 0 rfl) ?_
      refine lv_iconst (v := 1) hx hb dX13_marchAt_62 (by decide) ?_
      obtain ⟨r_9, mo_trouble_10, mo_where_11, hc_12, h⟩ := bd3_some h
      refine wVi [.int 1] [] ⟨hx, hb, hml, hown, hts⟩ (c_X13_refused l D cy A ([(a_mo_row, .inl (cy 1, 6, .inl mo_row_5)), (a_mo_best, .inl (cy 1, 6, .inl mo_best_6)), (a_mo_left, .inl (cy 1, 6, .inl mo_left_7)), (a_wa, .inr (12, [.int wa_lanes, .int wa_deep, .int wa_told, .int wa_beasts, .int wa_cities, .int wa_passes, .int wa_turned, .int wa_names, wa_who, wa_strong, wa_kind, wa_lane, wa_mood, wa_price, .ref a_wa_loses, wa_name, wa_nameSort, wa_numberOf])), (a_wa_loses, .inl (cy 1, 36, .inl wa_loses))] ++ X) a_mo 0 mo_trouble mo_where (.ref a_wa) (mo_read) (mo_tape) mo_taped mo_size mo_spot mo_sort mo_place mo_number mo_fault mo_wrongAt mo_laneTold mo_word (mo_v) (mo_x) (mo_past) (mo_kept) mo_acts mo_marks (mo_put) (mo_bestPut) mo_bestSum (.ref a_mo_row) (.ref a_mo_best) (.ref a_mo_left) mo_bestSize_3 mo_bestLeft_4 (mo_counts) mo_sets mo_foeHarm mo_ownHarm mo_across mo_sumFoe mo_sumOwn mo_sumWon mo_sumAcross (1 : Int32) r_9 mo_trouble_10 mo_where_11 hc_12) gX13_marchAt_X13_refused rfl hd_X13_refused ⟨Nat.le_of_ble_eq_true rfl, Nat.le_of_ble_eq_true rfl⟩ rfl rfl hKN (pX3 hP [0, 1, 2, 3, 4, 5] rfl) (dX3 hD [0, 1, 2, 3, 4, 5] rfl rfl) hS hA 13 0 rfl rfl rfl hl.1 rfl (Nat.le_of_ble_eq_true rfl) dX13_marchAt_63 ⟨Nat.le_of_ble_eq_true rfl, Nat.le_of_ble_eq_true rfl⟩ (fun H locs hP hD hS => ?_)
      have hP := pX4 (L1 := [(a_mo, .inr (13, [.int 0, .int mo_trouble_10, .int mo_where_11, .ref a_wa, mo_read, mo_tape, .int mo_taped, .int mo_size, .int mo_spot, .int mo_sort, .int mo_place, .int mo_number, .int mo_fault, .int mo_wrongAt, .int mo_laneTold, .long mo_word, mo_v, mo_x, mo_past, mo_kept, .int mo_acts, .int mo_marks, mo_put, mo_bestPut, .long mo_bestSum, .ref a_mo_row, .ref a_mo_best, .ref a_mo_left, .int mo_bestSize_3, .int mo_bestLeft_4, mo_counts, .int mo_sets, .int mo_foeHarm, .int mo_ownHarm, .int mo_across, .int mo_sumFoe, .int mo_sumOwn, .int mo_sumWon, .int mo_sumAcross])), (a_mo_row, .inl (cy 1, 6, .inl mo_row_5)), (a_mo_best, .inl (cy 1, 6, .inl mo_best_6)), (a_mo_left, .inl (cy 1, 6, .inl mo_left_7)), (a_wa, .inr (12, [.int wa_lanes, .int wa_deep, .int wa_told, .int wa_beasts, .int wa_cities, .int wa_passes, .int wa_turned, .int wa_names, wa_who, wa_strong, wa_kind, wa_lane, wa_mood, wa_price, .ref a_wa_loses, wa_name, wa_nameSort, wa_numberOf])), (a_wa_loses, .inl (cy 1, 36, .inl wa_loses))]) hP [0, 1, 2, 3, 4, 5] rfl
      have hD := dX4 (L1 := [(a_mo, .inr (13, [.int 0, .int mo_trouble_10, .int mo_where_11, .ref a_wa, mo_read, mo_tape, .int mo_taped, .int mo_size, .int mo_spot, .int mo_sort, .int mo_place, .int mo_number, .int mo_fault, .int mo_wrongAt, .int mo_laneTold, .long mo_word, mo_v, mo_x, mo_past, mo_kept, .int mo_acts, .int mo_marks, mo_put, mo_bestPut, .long mo_bestSum, .ref a_mo_row, .ref a_mo_best, .ref a_mo_left, .int mo_bestSize_3, .int mo_bestLeft_4, mo_counts, .int mo_sets, .int mo_foeHarm, .int mo_ownHarm, .int mo_across, .int mo_sumFoe, .int mo_sumOwn, .int mo_sumWon, .int mo_sumAcross])), (a_mo_row, .inl (cy 1, 6, .inl mo_row_5)), (a_mo_best, .inl (cy 1, 6, .inl mo_best_6)), (a_mo_left, .inl (cy 1, 6, .inl mo_left_7)), (a_wa, .inr (12, [.int wa_lanes, .int wa_deep, .int wa_told, .int wa_beasts, .int wa_cities, .int wa_passes, .int wa_turned, .int wa_names, wa_who, wa_strong, wa_kind, wa_lane, wa_mood, wa_price, .ref a_wa_loses, wa_name, wa_nameSort, wa_numberOf])), (a_wa_loses, .inl (cy 1, 36, .inl wa_loses))]) hD [0, 1, 2, 3, 4, 5] rfl rfl
      have h0 := Option.some.inj h
      clear h
      obtain ⟨e1, h1⟩ := pjP h0
      clear h0
      subst e1
      obtain ⟨e2, h2⟩ := pjP h1
      clear h1
      subst e2
      obtain ⟨e3, h3⟩ := pjP h2
      clear h2
      subst e3
      obtain ⟨e4, h4⟩ := pjP h3
      clear h3
      subst e4
      obtain ⟨e5, h5⟩ := pjP h4
      clear h4
      subst e5
      obtain ⟨e6, h6⟩ := pjP h5
      clear h5
      subst e6
      obtain ⟨e7, h7⟩ := pjP h6
      clear h6
      subst e7
      obtain ⟨e8, h8⟩ := pjP h7
      clear h7
      subst e8
      subst h8
      exact W.iret hx hb hr (fun t ht _ => ⟨⟨_, (), rfl, rfl, by rw [ht]; exact hP, hD⟩, hS.F ht⟩) hS.2.2 dX13_marchAt_66
    refine lv_if_lt (tgt := 61) hx hb dX13_marchAt_35 (by decide) (fun cd => ?_) (fun cd => ?_)
    · have h := ifT cd h
      exact jn61 h _ _ hP hD hS _ (lv_sub hl [1] rfl)
    · have h := ifF cd h
      refine lv_iload hx hb dX13_marchAt_38 (lv_at hl 5 rfl) ?_
      refine lv_aload_n hx hb dX13_marchAt_40 rfl (lv_at hl 1 rfl) ?_
      refine va_get (D := D) (ci := 13) (C := RX13) (T := TX13) (N := 39) (v := .int mo_bestSize_3) hx hb hX13 (fun _ q => q) hown hK hP 0 rfl rfl 28 (by decide) (hts (.fieldLink RX13 408 "ElephantLineModel" "bestSize" "I") (by decide +kernel)) (fun _ h9 => h9) rfl dX13_marchAt_41 ?_
      refine lv_icmp_ge (tgt := 61) hx hb dX13_marchAt_44 (by decide) (fun cd => ?_) (fun cd => ?_)
      · have h := ifT cd h
        exact jn61 h _ _ hP hD hS _ (lv_sub hl [1] rfl)
      · have h := ifF cd h
        refine lv_aload_n hx hb dX13_marchAt_47 rfl (lv_at hl 1 rfl) ?_
        refine lv_aload_n hx hb dX13_marchAt_48 rfl (lv_at hl 1 rfl) ?_
        refine va_get (D := D) (ci := 13) (C := RX13) (T := TX13) (N := 39) (v := .ref a_mo_best) hx hb hX13 (fun _ q => q) hown hK hP 0 rfl rfl 26 (by decide) (hts (.fieldLink RX13 39 "ElephantLineModel" "best" "[I") (by decide +kernel)) (fun _ h9 => h9) rfl dX13_marchAt_49 ?_
        refine lv_iload hx hb dX13_marchAt_52 (lv_at hl 5 rfl) ?_
        obtain ⟨i_13, h⟩ := gIn_some h
        refine va_iald hx hb hK hP 2 1 rfl rfl i_13 dX13_marchAt_54 ?_
        obtain ⟨r_14, mo_trouble_15, mo_where_16, hc_17, h⟩ := bd3_some h
        refine wVi [.int (mo_best_6 p4.toNatClampNeg)] [] ⟨hx, hb, hml, hown, hts⟩ (c_X13_good l D cy A ([(a_mo_row, .inl (cy 1, 6, .inl mo_row_5)), (a_mo_best, .inl (cy 1, 6, .inl mo_best_6)), (a_mo_left, .inl (cy 1, 6, .inl mo_left_7)), (a_wa, .inr (12, [.int wa_lanes, .int wa_deep, .int wa_told, .int wa_beasts, .int wa_cities, .int wa_passes, .int wa_turned, .int wa_names, wa_who, wa_strong, wa_kind, wa_lane, wa_mood, wa_price, .ref a_wa_loses, wa_name, wa_nameSort, wa_numberOf])), (a_wa_loses, .inl (cy 1, 36, .inl wa_loses))] ++ X) a_mo 0 mo_trouble mo_where (.ref a_wa) (mo_read) (mo_tape) mo_taped mo_size mo_spot mo_sort mo_place mo_number mo_fault mo_wrongAt mo_laneTold mo_word (mo_v) (mo_x) (mo_past) (mo_kept) mo_acts mo_marks (mo_put) (mo_bestPut) mo_bestSum (.ref a_mo_row) (.ref a_mo_best) (.ref a_mo_left) mo_bestSize_3 mo_bestLeft_4 (mo_counts) mo_sets mo_foeHarm mo_ownHarm mo_across mo_sumFoe mo_sumOwn mo_sumWon mo_sumAcross (mo_best_6 p4.toNatClampNeg) r_14 mo_trouble_15 mo_where_16 hc_17) gX13_marchAt_X13_good rfl hd_X13_good ⟨Nat.le_of_ble_eq_true rfl, Nat.le_of_ble_eq_true rfl⟩ rfl rfl hKN (pX3 hP [0, 1, 2, 3, 4, 5] rfl) (dX3 hD [0, 1, 2, 3, 4, 5] rfl rfl) hS hA 13 0 rfl rfl rfl hl.1 rfl (Nat.le_of_ble_eq_true rfl) dX13_marchAt_55 ⟨Nat.le_of_ble_eq_true rfl, Nat.le_of_ble_eq_true rfl⟩ (fun H locs hP hD hS => ?_)
        have hP := pX4 (L1 := [(a_mo, .inr (13, [.int 0, .int mo_trouble_15, .int mo_where_16, .ref a_wa, mo_read, mo_tape, .int mo_taped, .int mo_size, .int mo_spot, .int mo_sort, .int mo_place, .int mo_number, .int mo_fault, .int mo_wrongAt, .int mo_laneTold, .long mo_word, mo_v, mo_x, mo_past, mo_kept, .int mo_acts, .int mo_marks, mo_put, mo_bestPut, .long mo_bestSum, .ref a_mo_row, .ref a_mo_best, .ref a_mo_left, .int mo_bestSize_3, .int mo_bestLeft_4, mo_counts, .int mo_sets, .int mo_foeHarm, .int mo_ownHarm, .int mo_across, .int mo_sumFoe, .int mo_sumOwn, .int mo_sumWon, .int mo_sumAcross])), (a_mo_row, .inl (cy 1, 6, .inl mo_row_5)), (a_mo_best, .inl (cy 1, 6, .inl mo_best_6)), (a_mo_left, .inl (cy 1, 6, .inl mo_left_7)), (a_wa, .inr (12, [.int wa_lanes, .int wa_deep, .int wa_told, .int wa_beasts, .int wa_cities, .int wa_passes, .int wa_turned, .int wa_names, wa_who, wa_strong, wa_kind, wa_lane, wa_mood, wa_price, .ref a_wa_loses, wa_name, wa_nameSort, wa_numberOf])), (a_wa_loses, .inl (cy 1, 36, .inl wa_loses))]) hP [0, 1, 2, 3, 4, 5] rfl
        have hD := dX4 (L1 := [(a_mo, .inr (13, [.int 0, .int mo_trouble_15, .int mo_where_16, .ref a_wa, mo_read, mo_tape, .int mo_taped, .int mo_size, .int mo_spot, .int mo_sort, .int mo_place, .int mo_number, .int mo_fault, .int mo_wrongAt, .int mo_laneTold, .long mo_word, mo_v, mo_x, mo_past, mo_kept, .int mo_acts, .int mo_marks, mo_put, mo_bestPut, .long mo_bestSum, .ref a_mo_row, .ref a_mo_best, .ref a_mo_left, .int mo_bestSize_3, .int mo_bestLeft_4, mo_counts, .int mo_sets, .int mo_foeHarm, .int mo_ownHarm, .int mo_across, .int mo_sumFoe, .int mo_sumOwn, .int mo_sumWon, .int mo_sumAcross])), (a_mo_row, .inl (cy 1, 6, .inl mo_row_5)), (a_mo_best, .inl (cy 1, 6, .inl mo_best_6)), (a_mo_left, .inl (cy 1, 6, .inl mo_left_7)), (a_wa, .inr (12, [.int wa_lanes, .int wa_deep, .int wa_told, .int wa_beasts, .int wa_cities, .int wa_passes, .int wa_turned, .int wa_names, wa_who, wa_strong, wa_kind, wa_lane, wa_mood, wa_price, .ref a_wa_loses, wa_name, wa_nameSort, wa_numberOf])), (a_wa_loses, .inl (cy 1, 36, .inl wa_loses))]) hD [0, 1, 2, 3, 4, 5] rfl rfl
        refine lv_goto (tgt := 66) hx hb dX13_marchAt_58 (by decide) ?_
        have h0 := Option.some.inj h
        clear h
        obtain ⟨e1, h1⟩ := pjP h0
        clear h0
        subst e1
        obtain ⟨e2, h2⟩ := pjP h1
        clear h1
        subst e2
        obtain ⟨e3, h3⟩ := pjP h2
        clear h2
        subst e3
        obtain ⟨e4, h4⟩ := pjP h3
        clear h3
        subst e4
        obtain ⟨e5, h5⟩ := pjP h4
        clear h4
        subst e5
        obtain ⟨e6, h6⟩ := pjP h5
        clear h5
        subst e6
        obtain ⟨e7, h7⟩ := pjP h6
        clear h6
        subst e7
        obtain ⟨e8, h8⟩ := pjP h7
        clear h7
        subst e8
        subst h8
        exact W.iret hx hb hr (fun t ht _ => ⟨⟨_, (), rfl, rfl, by rw [ht]; exact hP, hD⟩, hS.F ht⟩) hS.2.2 dX13_marchAt_66
  · have h := ifF cd h
    refine lv_aload_n hx hb dX13_marchAt_19 rfl (lv_at hl 1 rfl) ?_
    refine lv_iload hx hb dX13_marchAt_20 (lv_at hl 0 rfl) ?_
    obtain ⟨r_18, mo_trouble_19, mo_where_20, hc_21, h⟩ := bd3_some h
    refine wVi [.int r_1] [] ⟨hx, hb, hml, hown, hts⟩ (c_X13_refused l D cy A ([(a_mo_row, .inl (cy 1, 6, .inl mo_row)), (a_mo_best, .inl (cy 1, 6, .inl mo_best)), (a_mo_left, .inl (cy 1, 6, .inl mo_left)), (a_wa, .inr (12, [.int wa_lanes, .int wa_deep, .int wa_told, .int wa_beasts, .int wa_cities, .int wa_passes, .int wa_turned, .int wa_names, wa_who, wa_strong, wa_kind, wa_lane, wa_mood, wa_price, .ref a_wa_loses, wa_name, wa_nameSort, wa_numberOf])), (a_wa_loses, .inl (cy 1, 36, .inl wa_loses))] ++ X) a_mo 0 mo_trouble mo_where (.ref a_wa) (mo_read) (mo_tape) mo_taped mo_size mo_spot mo_sort mo_place mo_number mo_fault mo_wrongAt mo_laneTold mo_word (mo_v) (mo_x) (mo_past) (mo_kept) mo_acts mo_marks (mo_put) (mo_bestPut) mo_bestSum (.ref a_mo_row) (.ref a_mo_best) (.ref a_mo_left) mo_bestSize mo_bestLeft (mo_counts) mo_sets mo_foeHarm mo_ownHarm mo_across mo_sumFoe mo_sumOwn mo_sumWon mo_sumAcross r_1 r_18 mo_trouble_19 mo_where_20 hc_21) gX13_marchAt_X13_refused rfl hd_X13_refused ⟨Nat.le_of_ble_eq_true rfl, Nat.le_of_ble_eq_true rfl⟩ rfl rfl hKN (pX3 hP [0, 1, 2, 3, 4, 5] rfl) (dX3 hD [0, 1, 2, 3, 4, 5] rfl rfl) hS hA 13 0 rfl rfl rfl hl.1 rfl (Nat.le_of_ble_eq_true rfl) dX13_marchAt_22 ⟨Nat.le_of_ble_eq_true rfl, Nat.le_of_ble_eq_true rfl⟩ (fun H locs hP hD hS => ?_)
    have hP := pX4 (L1 := [(a_mo, .inr (13, [.int 0, .int mo_trouble_19, .int mo_where_20, .ref a_wa, mo_read, mo_tape, .int mo_taped, .int mo_size, .int mo_spot, .int mo_sort, .int mo_place, .int mo_number, .int mo_fault, .int mo_wrongAt, .int mo_laneTold, .long mo_word, mo_v, mo_x, mo_past, mo_kept, .int mo_acts, .int mo_marks, mo_put, mo_bestPut, .long mo_bestSum, .ref a_mo_row, .ref a_mo_best, .ref a_mo_left, .int mo_bestSize, .int mo_bestLeft, mo_counts, .int mo_sets, .int mo_foeHarm, .int mo_ownHarm, .int mo_across, .int mo_sumFoe, .int mo_sumOwn, .int mo_sumWon, .int mo_sumAcross])), (a_mo_row, .inl (cy 1, 6, .inl mo_row)), (a_mo_best, .inl (cy 1, 6, .inl mo_best)), (a_mo_left, .inl (cy 1, 6, .inl mo_left)), (a_wa, .inr (12, [.int wa_lanes, .int wa_deep, .int wa_told, .int wa_beasts, .int wa_cities, .int wa_passes, .int wa_turned, .int wa_names, wa_who, wa_strong, wa_kind, wa_lane, wa_mood, wa_price, .ref a_wa_loses, wa_name, wa_nameSort, wa_numberOf])), (a_wa_loses, .inl (cy 1, 36, .inl wa_loses))]) hP [0, 1, 2, 3, 4, 5] rfl
    have hD := dX4 (L1 := [(a_mo, .inr (13, [.int 0, .int mo_trouble_19, .int mo_where_20, .ref a_wa, mo_read, mo_tape, .int mo_taped, .int mo_size, .int mo_spot, .int mo_sort, .int mo_place, .int mo_number, .int mo_fault, .int mo_wrongAt, .int mo_laneTold, .long mo_word, mo_v, mo_x, mo_past, mo_kept, .int mo_acts, .int mo_marks, mo_put, mo_bestPut, .long mo_bestSum, .ref a_mo_row, .ref a_mo_best, .ref a_mo_left, .int mo_bestSize, .int mo_bestLeft, mo_counts, .int mo_sets, .int mo_foeHarm, .int mo_ownHarm, .int mo_across, .int mo_sumFoe, .int mo_sumOwn, .int mo_sumWon, .int mo_sumAcross])), (a_mo_row, .inl (cy 1, 6, .inl mo_row)), (a_mo_best, .inl (cy 1, 6, .inl mo_best)), (a_mo_left, .inl (cy 1, 6, .inl mo_left)), (a_wa, .inr (12, [.int wa_lanes, .int wa_deep, .int wa_told, .int wa_beasts, .int wa_cities, .int wa_passes, .int wa_turned, .int wa_names, wa_who, wa_strong, wa_kind, wa_lane, wa_mood, wa_price, .ref a_wa_loses, wa_name, wa_nameSort, wa_numberOf])), (a_wa_loses, .inl (cy 1, 36, .inl wa_loses))]) hD [0, 1, 2, 3, 4, 5] rfl rfl
    have h0 := Option.some.inj h
    clear h
    obtain ⟨e1, h1⟩ := pjP h0
    clear h0
    subst e1
    obtain ⟨e2, h2⟩ := pjP h1
    clear h1
    subst e2
    obtain ⟨e3, h3⟩ := pjP h2
    clear h2
    subst e3
    obtain ⟨e4, h4⟩ := pjP h3
    clear h3
    subst e4
    obtain ⟨e5, h5⟩ := pjP h4
    clear h4
    subst e5
    obtain ⟨e6, h6⟩ := pjP h5
    clear h5
    subst e6
    obtain ⟨e7, h7⟩ := pjP h6
    clear h6
    subst e7
    obtain ⟨e8, h8⟩ := pjP h7
    clear h7
    subst e8
    subst h8
    exact W.iret hx hb hr (fun t ht _ => ⟨⟨_, (), rfl, rfl, by rw [ht]; exact hP, hD⟩, hS.F ht⟩) hS.2.2 dX13_marchAt_25
theorem hd_X13_worstPass : yX13_worstPass.cls = RX13 ∧ yX13_worstPass.cls ≠ "java/lang/invoke/MethodHandle" ∧ yX13_worstPass.cls ≠ "java/lang/invoke/VarHandle" ∧ (parseMethodDescriptor yX13_worstPass.desc).map (fun d => d.parameters.length) = some 3 := by decide +kernel
set_option maxHeartbeats 4000000 in
set_option maxRecDepth 100000 in
theorem c_X13_worstPass (l : Launch) (D : va_G) (cy : Nat → ClassId) (A : Nat → Prop) (X : va_W) (a_mo a_mo_row a_mo_best a_mo_left a_wa a_wa_loses : Nat) (mo_thrown : Int32) (mo_trouble : Int32) (mo_where : Int32) (mo_read : Value) (mo_tape : Value) (mo_taped : Int32) (mo_size : Int32) (mo_spot : Int32) (mo_sort : Int32) (mo_place : Int32) (mo_number : Int32) (mo_fault : Int32) (mo_wrongAt : Int32) (mo_laneTold : Int32) (mo_word : Int64) (mo_v : Value) (mo_x : Value) (mo_past : Value) (mo_kept : Value) (mo_acts : Int32) (mo_marks : Int32) (mo_put : Value) (mo_bestPut : Value) (mo_bestSum : Int64) (mo_bestSize : Int32) (mo_bestLeft : Int32) (mo_counts : Value) (mo_sets : Int32) (mo_foeHarm : Int32) (mo_ownHarm : Int32) (mo_across : Int32) (mo_sumFoe : Int32) (mo_sumOwn : Int32) (mo_sumWon : Int32) (mo_sumAcross : Int32) (mo_row : Nat → Int32) (mo_best : Nat → Int32) (mo_left : Nat → Int32) (wa_lanes : Int32) (wa_deep : Int32) (wa_told : Int32) (wa_beasts : Int32) (wa_cities : Int32) (wa_passes : Int32) (wa_turned : Int32) (wa_names : Int32) (wa_who : Value) (wa_strong : Value) (wa_kind : Value) (wa_lane : Value) (wa_mood : Value) (wa_price : Value) (wa_name : Value) (wa_nameSort : Value) (wa_numberOf : Value) (wa_loses : Nat → Int32) (p1 : Int32) (p2 : Int32) (p3 : Int32) (res : Int32) (mo_thrown' : Int32) (mo_trouble' : Int32) (mo_where' : Int32) (mo_bestSize' : Int32) (mo_bestLeft' : Int32) (mo_row' : Nat → Int32) (mo_best' : Nat → Int32) (mo_left' : Nat → Int32) (h : f_X13_worstPass mo_thrown mo_trouble mo_where mo_bestSize mo_bestLeft mo_row mo_best mo_left wa_cities wa_loses p1 p2 p3 = some (res, mo_thrown', mo_trouble', mo_where', mo_bestSize', mo_bestLeft', mo_row', mo_best', mo_left')) : Met l yX13_worstPass wo_X13_worstPass ({ frames := 2, cells := 0, slots := 0, locals := 47 }) (wrPc D cy A [.ref a_mo, .int p1, .int p2, .int p3] ([(a_mo, .inr (13, [.int mo_thrown, .int mo_trouble, .int mo_where, .ref a_wa, mo_read, mo_tape, .int mo_taped, .int mo_size, .int mo_spot, .int mo_sort, .int mo_place, .int mo_number, .int mo_fault, .int mo_wrongAt, .int mo_laneTold, .long mo_word, mo_v, mo_x, mo_past, mo_kept, .int mo_acts, .int mo_marks, mo_put, mo_bestPut, .long mo_bestSum, .ref a_mo_row, .ref a_mo_best, .ref a_mo_left, .int mo_bestSize, .int mo_bestLeft, mo_counts, .int mo_sets, .int mo_foeHarm, .int mo_ownHarm, .int mo_across, .int mo_sumFoe, .int mo_sumOwn, .int mo_sumWon, .int mo_sumAcross])), (a_mo_row, .inl (cy 1, 6, .inl mo_row)), (a_mo_best, .inl (cy 1, 6, .inl mo_best)), (a_mo_left, .inl (cy 1, 6, .inl mo_left)), (a_wa, .inr (12, [.int wa_lanes, .int wa_deep, .int wa_told, .int wa_beasts, .int wa_cities, .int wa_passes, .int wa_turned, .int wa_names, wa_who, wa_strong, wa_kind, wa_lane, wa_mood, wa_price, .ref a_wa_loses, wa_name, wa_nameSort, wa_numberOf])), (a_wa_loses, .inl (cy 1, 36, .inl wa_loses))] ++ X)) (va_Qi (fun (r : Int32) (_ : Unit) => r = res) (wB D A ([(a_mo, .inr (13, [.int mo_thrown', .int mo_trouble', .int mo_where', .ref a_wa, mo_read, mo_tape, .int mo_taped, .int mo_size, .int mo_spot, .int mo_sort, .int mo_place, .int mo_number, .int mo_fault, .int mo_wrongAt, .int mo_laneTold, .long mo_word, mo_v, mo_x, mo_past, mo_kept, .int mo_acts, .int mo_marks, mo_put, mo_bestPut, .long mo_bestSum, .ref a_mo_row, .ref a_mo_best, .ref a_mo_left, .int mo_bestSize', .int mo_bestLeft', mo_counts, .int mo_sets, .int mo_foeHarm, .int mo_ownHarm, .int mo_across, .int mo_sumFoe, .int mo_sumOwn, .int mo_sumWon, .int mo_sumAcross])), (a_mo_row, .inl (cy 1, 6, .inl mo_row')), (a_mo_best, .inl (cy 1, 6, .inl mo_best')), (a_mo_left, .inl (cy 1, 6, .inl mo_left')), (a_wa, .inr (12, [.int wa_lanes, .int wa_deep, .int wa_told, .int wa_beasts, .int wa_cities, .int wa_passes, .int wa_turned, .int wa_names, wa_who, wa_strong, wa_kind, wa_lane, wa_mood, wa_price, .ref a_wa_loses, wa_name, wa_nameSort, wa_numberOf])), (a_wa_loses, .inl (cy 1, 36, .inl wa_loses))] ++ X)) A) 0 0 A := by
  refine Met.ofW (cc := cX13_worstPass) (maxL := 10) (ret := (some .int)) (by decide) rfl ?_
  intro p e s m args below meth c s₁ B hml hv
  obtain ⟨rfl, hP, hKN, hD, hA⟩ := hv
  have hK := hKN.1
  have hx := B.exec
  have hb := B.bytes
  have hr := B.returns
  have hts := wt_X13_worstPass hKN.2.2 (([.ref a_mo, .int p1, .int p2, .int p3] : List Value).toArray)
  have hown : s.vm.findClass RX13 = some m.cls := findClass_of_methodNamed B.named
  have hlocks := B.notSynchronized
  have hS : va_S A s.heap s.heap [] := va_S.rf
  have hX12 := wc_X12 hKN.2.2 (([.ref a_mo, .int p1, .int p2, .int p3] : List Value).toArray)
  have hX13 := wc_X13 hKN.2.2 (([.ref a_mo, .int p1, .int p2, .int p3] : List Value).toArray)
  have hl := lv_entry ([.ref a_mo, .int p1, .int p2, .int p3]) (n := 10) (Nat.le_of_ble_eq_true rfl)
  rw [lg_entry_eq]
  generalize (lg_sl ([.ref a_mo, .int p1, .int p2, .int p3]) ++ List.replicate (10 - (lg_sl ([.ref a_mo, .int p1, .int p2, .int p3])).length) Slot.unset).toArray = ls at hl ⊢
  have hl : lv_has ls 10 [(0, .ref a_mo), (1, .int p1), (2, .int p2), (3, .int p3)] := hl
  unfold f_X13_worstPass at h
  refine lv_aload_n hx hb dX13_worstPass_0 rfl (lv_at hl 0 rfl) ?_
  refine lv_iconst (v := 0) hx hb dX13_worstPass_1 (by decide) ?_
  refine va_put (D := D) (ci := 13) (C := RX13) (T := TX13) (N := 39) (v := .int 0) (ty := .int) hx hb hX13 (fun _ q => q) tyX13 tyX13_ok nmX13 hown hK hP hD hS 0 rfl rfl 0 (by decide) (hts (.fieldLink RX13 48 "ElephantLineModel" "thrown" "I") (by decide +kernel)) (fun _ h9 => h9) rfl (tyX13_ok 0 (by decide)) rfl rfl (Nat.le_of_ble_eq_true rfl) dX13_worstPass_2 (fun H locs hP hD hS => ?_)
  refine lv_aload_n hx hb dX13_worstPass_5 rfl (lv_at hl 0 rfl) ?_
  refine lv_iload_n hx hb dX13_worstPass_6 rfl (lv_at hl 1 rfl) ?_
  refine lv_iload_n hx hb dX13_worstPass_7 rfl (lv_at hl 2 rfl) ?_
  refine lv_iload_n hx hb dX13_worstPass_8 rfl (lv_at hl 3 rfl) ?_
  have hP : va_P D vwCl ([(a_mo, .inr (13, [.int 0, .int mo_trouble, .int mo_where, .ref a_wa, mo_read, mo_tape, .int mo_taped, .int mo_size, .int mo_spot, .int mo_sort, .int mo_place, .int mo_number, .int mo_fault, .int mo_wrongAt, .int mo_laneTold, .long mo_word, mo_v, mo_x, mo_past, mo_kept, .int mo_acts, .int mo_marks, mo_put, mo_bestPut, .long mo_bestSum, .ref a_mo_row, .ref a_mo_best, .ref a_mo_left, .int mo_bestSize, .int mo_bestLeft, mo_counts, .int mo_sets, .int mo_foeHarm, .int mo_ownHarm, .int mo_across, .int mo_sumFoe, .int mo_sumOwn, .int mo_sumWon, .int mo_sumAcross])), (a_mo_row, .inl (cy 1, 6, .inl mo_row)), (a_mo_best, .inl (cy 1, 6, .inl mo_best)), (a_mo_left, .inl (cy 1, 6, .inl mo_left)), (a_wa, .inr (12, [.int wa_lanes, .int wa_deep, .int wa_told, .int wa_beasts, .int wa_cities, .int wa_passes, .int wa_turned, .int wa_names, wa_who, wa_strong, wa_kind, wa_lane, wa_mood, wa_price, .ref a_wa_loses, wa_name, wa_nameSort, wa_numberOf])), (a_wa_loses, .inl (cy 1, 36, .inl wa_loses))] ++ X) H := hP
  have hD : va_D A ([(a_mo, .inr (13, [.int 0, .int mo_trouble, .int mo_where, .ref a_wa, mo_read, mo_tape, .int mo_taped, .int mo_size, .int mo_spot, .int mo_sort, .int mo_place, .int mo_number, .int mo_fault, .int mo_wrongAt, .int mo_laneTold, .long mo_word, mo_v, mo_x, mo_past, mo_kept, .int mo_acts, .int mo_marks, mo_put, mo_bestPut, .long mo_bestSum, .ref a_mo_row, .ref a_mo_best, .ref a_mo_left, .int mo_bestSize, .int mo_bestLeft, mo_counts, .int mo_sets, .int mo_foeHarm, .int mo_ownHarm, .int mo_across, .int mo_sumFoe, .int mo_sumOwn, .int mo_sumWon, .int mo_sumAcross])), (a_mo_row, .inl (cy 1, 6, .inl mo_row)), (a_mo_best, .inl (cy 1, 6, .inl mo_best)), (a_mo_left, .inl (cy 1, 6, .inl mo_left)), (a_wa, .inr (12, [.int wa_lanes, .int wa_deep, .int wa_told, .int wa_beasts, .int wa_cities, .int wa_passes, .int wa_turned, .int wa_names, wa_who, wa_strong, wa_kind, wa_lane, wa_mood, wa_price, .ref a_wa_loses, wa_name, wa_nameSort, wa_numberOf])), (a_wa_loses, .inl (cy 1, 36, .inl wa_loses))] ++ X) := hD
  obtain ⟨r_1, hc_2, h⟩ := bd1_some h
  refine kVi [.int p1, .int p2, .int p3] [] ⟨hx, hb, hml, hown, hts⟩ (c_X13_refusesMarch l D cy a_mo a_wa 0 mo_trouble mo_where (mo_read) (mo_tape) mo_taped mo_size mo_spot mo_sort mo_place mo_number mo_fault mo_wrongAt mo_laneTold mo_word (mo_v) (mo_x) (mo_past) (mo_kept) mo_acts mo_marks (mo_put) (mo_bestPut) mo_bestSum (.ref a_mo_row) (.ref a_mo_best) (.ref a_mo_left) mo_bestSize mo_bestLeft (mo_counts) mo_sets mo_foeHarm mo_ownHarm mo_across mo_sumFoe mo_sumOwn mo_sumWon mo_sumAcross wa_lanes wa_deep wa_told wa_beasts wa_cities wa_passes wa_turned wa_names (wa_who) (wa_strong) (wa_kind) (wa_lane) (wa_mood) (wa_price) (.ref a_wa_loses) (wa_name) (wa_nameSort) (wa_numberOf) p1 p2 p3 r_1 hc_2) gX13_worstPass_X13_refusesMarch rfl hd_X13_refusesMarch ⟨Nat.le_of_ble_eq_true rfl, Nat.le_of_ble_eq_true rfl⟩ rfl rfl hKN (pXc hP [0, 4] rfl) 13 0 rfl rfl rfl hl.1 rfl (Nat.le_of_ble_eq_true rfl) dX13_worstPass_9 ⟨Nat.le_of_ble_eq_true rfl, Nat.le_of_ble_eq_true rfl⟩ ?_
  refine lv_istore (lv' := [(4, .int r_1), (0, .ref a_mo), (1, .int p1), (2, .int p2), (3, .int p3)]) hx hb dX13_worstPass_12 hl (by decide) rfl (fun ls hl => ?_)
  refine lv_iload hx hb dX13_worstPass_14 (lv_at hl 0 rfl) ?_
  refine lv_if_le (tgt := 26) hx hb dX13_worstPass_16 (by decide) (fun cd => ?_) (fun cd => ?_)
  · have h := ifT cd h
    refine lv_aload_n hx hb dX13_worstPass_26 rfl (lv_at hl 1 rfl) ?_
    refine lv_iload_n hx hb dX13_worstPass_27 rfl (lv_at hl 2 rfl) ?_
    refine lv_iload_n hx hb dX13_worstPass_28 rfl (lv_at hl 3 rfl) ?_
    refine lv_iload_n hx hb dX13_worstPass_29 rfl (lv_at hl 4 rfl) ?_
    obtain ⟨mo_bestSize_3, mo_bestLeft_4, mo_row_5, mo_best_6, mo_left_7, hc_8, h⟩ := bd5_some h
    refine wVv [.int p1, .int p2, .int p3] [] ⟨hx, hb, hml, hown, hts⟩ (c_X13_marches l D cy A X a_mo a_mo_row a_mo_best a_mo_left a_wa a_wa_loses 0 mo_trouble mo_where (mo_read) (mo_tape) mo_taped mo_size mo_spot mo_sort mo_place mo_number mo_fault mo_wrongAt mo_laneTold mo_word (mo_v) (mo_x) (mo_past) (mo_kept) mo_acts mo_marks (mo_put) (mo_bestPut) mo_bestSum mo_bestSize mo_bestLeft (mo_counts) mo_sets mo_foeHarm mo_ownHarm mo_across mo_sumFoe mo_sumOwn mo_sumWon mo_sumAcross mo_row mo_best mo_left wa_lanes wa_deep wa_told wa_beasts wa_cities wa_passes wa_turned wa_names (wa_who) (wa_strong) (wa_kind) (wa_lane) (wa_mood) (wa_price) (wa_name) (wa_nameSort) (wa_numberOf) wa_loses p1 p2 p3 mo_bestSize_3 mo_bestLeft_4 mo_row_5 mo_best_6 mo_left_7 hc_8) gX13_worstPass_X13_marches rfl hd_X13_marches ⟨Nat.le_of_ble_eq_true rfl, Nat.le_of_ble_eq_true rfl⟩ rfl rfl hKN hP hD hS hA 13 0 rfl rfl rfl hl.1 rfl (Nat.le_of_ble_eq_true rfl) dX13_worstPass_30 ⟨Nat.le_of_ble_eq_true rfl, Nat.le_of_ble_eq_true rfl⟩ (fun H locs hP hD hS => ?_)
    refine lv_bipush (v := (-2)) hx hb dX13_worstPass_33 (by decide) ?_
    refine lv_istore (lv' := [(5, .int (-2)), (4, .int r_1), (0, .ref a_mo), (1, .int p1), (2, .int p2), (3, .int p3)]) hx hb dX13_worstPass_35 hl (by decide) rfl (fun ls hl => ?_)
    refine lv_iconst (v := 0) hx hb dX13_worstPass_37 (by decide) ?_
    refine lv_istore (lv' := [(6, .int 0), (5, .int (-2)), (4, .int r_1), (0, .ref a_mo), (1, .int p1), (2, .int p2), (3, .int p3)]) hx hb dX13_worstPass_38 hl (by decide) rfl (fun ls hl => ?_)
    refine lv_iload_n hx hb dX13_worstPass_40 rfl (lv_at hl 6 rfl) ?_
    refine lv_istore (lv' := [(7, .int p3), (6, .int 0), (5, .int (-2)), (4, .int r_1), (0, .ref a_mo), (1, .int p1), (2, .int p2), (3, .int p3)]) hx hb dX13_worstPass_41 hl (by decide) rfl (fun ls hl => ?_)
    refine lv_iconst (v := 1) hx hb dX13_worstPass_43 (by decide) ?_
    refine lv_istore (lv' := [(8, .int 1), (7, .int p3), (6, .int 0), (5, .int (-2)), (4, .int r_1), (0, .ref a_mo), (1, .int p1), (2, .int p2), (3, .int p3)]) hx hb dX13_worstPass_44 hl (by decide) rfl (fun ls hl => ?_)
    have jn139 : ∀ (x5_9 : Int32), f_X13_worstPass_B139 wa_cities wa_loses x5_9 0 mo_trouble mo_where mo_bestSize_3 mo_bestLeft_4 mo_row_5 mo_best_6 mo_left_7 = some (res, mo_thrown', mo_trouble', mo_where', mo_bestSize', mo_bestLeft', mo_row', mo_best', mo_left') → ∀ (H : Heap) (locs : List Loc), va_P D vwCl ([(a_mo, .inr (13, [.int 0, .int mo_trouble, .int mo_where, .ref a_wa, mo_read, mo_tape, .int mo_taped, .int mo_size, .int mo_spot, .int mo_sort, .int mo_place, .int mo_number, .int mo_fault, .int mo_wrongAt, .int mo_laneTold, .long mo_word, mo_v, mo_x, mo_past, mo_kept, .int mo_acts, .int mo_marks, mo_put, mo_bestPut, .long mo_bestSum, .ref a_mo_row, .ref a_mo_best, .ref a_mo_left, .int mo_bestSize_3, .int mo_bestLeft_4, mo_counts, .int mo_sets, .int mo_foeHarm, .int mo_ownHarm, .int mo_across, .int mo_sumFoe, .int mo_sumOwn, .int mo_sumWon, .int mo_sumAcross])), (a_mo_row, .inl (cy 1, 6, .inl mo_row_5)), (a_mo_best, .inl (cy 1, 6, .inl mo_best_6)), (a_mo_left, .inl (cy 1, 6, .inl mo_left_7)), (a_wa, .inr (12, [.int wa_lanes, .int wa_deep, .int wa_told, .int wa_beasts, .int wa_cities, .int wa_passes, .int wa_turned, .int wa_names, wa_who, wa_strong, wa_kind, wa_lane, wa_mood, wa_price, .ref a_wa_loses, wa_name, wa_nameSort, wa_numberOf])), (a_wa_loses, .inl (cy 1, 36, .inl wa_loses))] ++ X) H → va_D A ([(a_mo, .inr (13, [.int 0, .int mo_trouble, .int mo_where, .ref a_wa, mo_read, mo_tape, .int mo_taped, .int mo_size, .int mo_spot, .int mo_sort, .int mo_place, .int mo_number, .int mo_fault, .int mo_wrongAt, .int mo_laneTold, .long mo_word, mo_v, mo_x, mo_past, mo_kept, .int mo_acts, .int mo_marks, mo_put, mo_bestPut, .long mo_bestSum, .ref a_mo_row, .ref a_mo_best, .ref a_mo_left, .int mo_bestSize_3, .int mo_bestLeft_4, mo_counts, .int mo_sets, .int mo_foeHarm, .int mo_ownHarm, .int mo_across, .int mo_sumFoe, .int mo_sumOwn, .int mo_sumWon, .int mo_sumAcross])), (a_mo_row, .inl (cy 1, 6, .inl mo_row_5)), (a_mo_best, .inl (cy 1, 6, .inl mo_best_6)), (a_mo_left, .inl (cy 1, 6, .inl mo_left_7)), (a_wa, .inr (12, [.int wa_lanes, .int wa_deep, .int wa_told, .int wa_beasts, .int wa_cities, .int wa_passes, .int wa_turned, .int wa_names, wa_who, wa_strong, wa_kind, wa_lane, wa_mood, wa_price, .ref a_wa_loses, wa_name, wa_nameSort, wa_numberOf])), (a_wa_loses, .inl (cy 1, 36, .inl wa_loses))] ++ X) → va_S A s.heap H locs → ∀ ls : Array Slot, lv_has ls 10 [(0, .ref a_mo), (5, .int x5_9)] → W p l e (headSpec wo_X13_worstPass ({ frames := 2, cells := 0, slots := 0, locals := 47 })).room s m (([.ref a_mo, .int p1, .int p2, .int p3] : List Value).toArray) below meth c H locs 0 0 (MQ below (va_Qi (fun (r : Int32) (_ : Unit) => r = res) (wB D A ([(a_mo, .inr (13, [.int mo_thrown', .int mo_trouble', .int mo_where', .ref a_wa, mo_read, mo_tape, .int mo_taped, .int mo_size, .int mo_spot, .int mo_sort, .int mo_place, .int mo_number, .int mo_fault, .int mo_wrongAt, .int mo_laneTold, .long mo_word, mo_v, mo_x, mo_past, mo_kept, .int mo_acts, .int mo_marks, mo_put, mo_bestPut, .long mo_bestSum, .ref a_mo_row, .ref a_mo_best, .ref a_mo_left, .int mo_bestSize', .int mo_bestLeft', mo_counts, .int mo_sets, .int mo_foeHarm, .int mo_ownHarm, .int mo_across, .int mo_sumFoe, .int mo_sumOwn, .int mo_sumWon, .int mo_sumAcross])), (a_mo_row, .inl (cy 1, 6, .inl mo_row')), (a_mo_best, .inl (cy 1, 6, .inl mo_best')), (a_mo_left, .inl (cy 1, 6, .inl mo_left')), (a_wa, .inr (12, [.int wa_lanes, .int wa_deep, .int wa_told, .int wa_beasts, .int wa_cities, .int wa_passes, .int wa_turned, .int wa_names, wa_who, wa_strong, wa_kind, wa_lane, wa_mood, wa_price, .ref a_wa_loses, wa_name, wa_nameSort, wa_numberOf])), (a_wa_loses, .inl (cy 1, 36, .inl wa_loses))] ++ X)) A) (([.ref a_mo, .int p1, .int p2, .int p3] : List Value).toArray) s 0 0 A) (F0 m 139 ls []) := by
      intro x5_9 h H locs hP hD hS ls hl
      unfold f_X13_worstPass_B139 at h
      refine lv_aload_n hx hb dX13_worstPass_139 rfl (lv_at hl 0 rfl) ?_
      refine lv_iload hx hb dX13_worstPass_140 (lv_at hl 1 rfl) ?_
      obtain ⟨r_10, mo_trouble_11, mo_where_12, hc_13, h⟩ := bd3_some h
      refine wVi [.int x5_9] [] ⟨hx, hb, hml, hown, hts⟩ (c_X13_good l D cy A ([(a_mo_row, .inl (cy 1, 6, .inl mo_row_5)), (a_mo_best, .inl (cy 1, 6, .inl mo_best_6)), (a_mo_left, .inl (cy 1, 6, .inl mo_left_7)), (a_wa, .inr (12, [.int wa_lanes, .int wa_deep, .int wa_told, .int wa_beasts, .int wa_cities, .int wa_passes, .int wa_turned, .int wa_names, wa_who, wa_strong, wa_kind, wa_lane, wa_mood, wa_price, .ref a_wa_loses, wa_name, wa_nameSort, wa_numberOf])), (a_wa_loses, .inl (cy 1, 36, .inl wa_loses))] ++ X) a_mo 0 mo_trouble mo_where (.ref a_wa) (mo_read) (mo_tape) mo_taped mo_size mo_spot mo_sort mo_place mo_number mo_fault mo_wrongAt mo_laneTold mo_word (mo_v) (mo_x) (mo_past) (mo_kept) mo_acts mo_marks (mo_put) (mo_bestPut) mo_bestSum (.ref a_mo_row) (.ref a_mo_best) (.ref a_mo_left) mo_bestSize_3 mo_bestLeft_4 (mo_counts) mo_sets mo_foeHarm mo_ownHarm mo_across mo_sumFoe mo_sumOwn mo_sumWon mo_sumAcross x5_9 r_10 mo_trouble_11 mo_where_12 hc_13) gX13_worstPass_X13_good rfl hd_X13_good ⟨Nat.le_of_ble_eq_true rfl, Nat.le_of_ble_eq_true rfl⟩ rfl rfl hKN (pX3 hP [0, 1, 2, 3, 4, 5] rfl) (dX3 hD [0, 1, 2, 3, 4, 5] rfl rfl) hS hA 13 0 rfl rfl rfl hl.1 rfl (Nat.le_of_ble_eq_true rfl) dX13_worstPass_142 ⟨Nat.le_of_ble_eq_true rfl, Nat.le_of_ble_eq_true rfl⟩ (fun H locs hP hD hS => ?_)
      have hP := pX4 (L1 := [(a_mo, .inr (13, [.int 0, .int mo_trouble_11, .int mo_where_12, .ref a_wa, mo_read, mo_tape, .int mo_taped, .int mo_size, .int mo_spot, .int mo_sort, .int mo_place, .int mo_number, .int mo_fault, .int mo_wrongAt, .int mo_laneTold, .long mo_word, mo_v, mo_x, mo_past, mo_kept, .int mo_acts, .int mo_marks, mo_put, mo_bestPut, .long mo_bestSum, .ref a_mo_row, .ref a_mo_best, .ref a_mo_left, .int mo_bestSize_3, .int mo_bestLeft_4, mo_counts, .int mo_sets, .int mo_foeHarm, .int mo_ownHarm, .int mo_across, .int mo_sumFoe, .int mo_sumOwn, .int mo_sumWon, .int mo_sumAcross])), (a_mo_row, .inl (cy 1, 6, .inl mo_row_5)), (a_mo_best, .inl (cy 1, 6, .inl mo_best_6)), (a_mo_left, .inl (cy 1, 6, .inl mo_left_7)), (a_wa, .inr (12, [.int wa_lanes, .int wa_deep, .int wa_told, .int wa_beasts, .int wa_cities, .int wa_passes, .int wa_turned, .int wa_names, wa_who, wa_strong, wa_kind, wa_lane, wa_mood, wa_price, .ref a_wa_loses, wa_name, wa_nameSort, wa_numberOf])), (a_wa_loses, .inl (cy 1, 36, .inl wa_loses))]) hP [0, 1, 2, 3, 4, 5] rfl
      have hD := dX4 (L1 := [(a_mo, .inr (13, [.int 0, .int mo_trouble_11, .int mo_where_12, .ref a_wa, mo_read, mo_tape, .int mo_taped, .int mo_size, .int mo_spot, .int mo_sort, .int mo_place, .int mo_number, .int mo_fault, .int mo_wrongAt, .int mo_laneTold, .long mo_word, mo_v, mo_x, mo_past, mo_kept, .int mo_acts, .int mo_marks, mo_put, mo_bestPut, .long mo_bestSum, .ref a_mo_row, .ref a_mo_best, .ref a_mo_left, .int mo_bestSize_3, .int mo_bestLeft_4, mo_counts, .int mo_sets, .int mo_foeHarm, .int mo_ownHarm, .int mo_across, .int mo_sumFoe, .int mo_sumOwn, .int mo_sumWon, .int mo_sumAcross])), (a_mo_row, .inl (cy 1, 6, .inl mo_row_5)), (a_mo_best, .inl (cy 1, 6, .inl mo_best_6)), (a_mo_left, .inl (cy 1, 6, .inl mo_left_7)), (a_wa, .inr (12, [.int wa_lanes, .int wa_deep, .int wa_told, .int wa_beasts, .int wa_cities, .int wa_passes, .int wa_turned, .int wa_names, wa_who, wa_strong, wa_kind, wa_lane, wa_mood, wa_price, .ref a_wa_loses, wa_name, wa_nameSort, wa_numberOf])), (a_wa_loses, .inl (cy 1, 36, .inl wa_loses))]) hD [0, 1, 2, 3, 4, 5] rfl rfl
      have h0 := Option.some.inj h
      clear h
      obtain ⟨e1, h1⟩ := pjP h0
      clear h0
      subst e1
      obtain ⟨e2, h2⟩ := pjP h1
      clear h1
      subst e2
      obtain ⟨e3, h3⟩ := pjP h2
      clear h2
      subst e3
      obtain ⟨e4, h4⟩ := pjP h3
      clear h3
      subst e4
      obtain ⟨e5, h5⟩ := pjP h4
      clear h4
      subst e5
      obtain ⟨e6, h6⟩ := pjP h5
      clear h5
      subst e6
      obtain ⟨e7, h7⟩ := pjP h6
      clear h6
      subst e7
      obtain ⟨e8, h8⟩ := pjP h7
      clear h7
      subst e8
      subst h8
      exact W.iret hx hb hr (fun t ht _ => ⟨⟨_, (), rfl, rfl, by rw [ht]; exact hP, hD⟩, hS.F ht⟩) hS.2.2 dX13_worstPass_145
    have lp46 : ∀ (n46 : Nat) (x5_14 : Int32) (x6_15 : Int32) (x7_16 : Int32) (x8_17 : Int32), f_X13_worstPass_L46 wa_cities wa_loses 0 mo_trouble mo_where mo_bestSize_3 mo_bestLeft_4 mo_row_5 mo_best_6 mo_left_7 n46 x5_14 x6_15 x7_16 x8_17 = some (res, mo_thrown', mo_trouble', mo_where', mo_bestSize', mo_bestLeft', mo_row', mo_best', mo_left') → ∀ (H : Heap) (locs : List Loc), va_P D vwCl ([(a_mo, .inr (13, [.int 0, .int mo_trouble, .int mo_where, .ref a_wa, mo_read, mo_tape, .int mo_taped, .int mo_size, .int mo_spot, .int mo_sort, .int mo_place, .int mo_number, .int mo_fault, .int mo_wrongAt, .int mo_laneTold, .long mo_word, mo_v, mo_x, mo_past, mo_kept, .int mo_acts, .int mo_marks, mo_put, mo_bestPut, .long mo_bestSum, .ref a_mo_row, .ref a_mo_best, .ref a_mo_left, .int mo_bestSize_3, .int mo_bestLeft_4, mo_counts, .int mo_sets, .int mo_foeHarm, .int mo_ownHarm, .int mo_across, .int mo_sumFoe, .int mo_sumOwn, .int mo_sumWon, .int mo_sumAcross])), (a_mo_row, .inl (cy 1, 6, .inl mo_row_5)), (a_mo_best, .inl (cy 1, 6, .inl mo_best_6)), (a_mo_left, .inl (cy 1, 6, .inl mo_left_7)), (a_wa, .inr (12, [.int wa_lanes, .int wa_deep, .int wa_told, .int wa_beasts, .int wa_cities, .int wa_passes, .int wa_turned, .int wa_names, wa_who, wa_strong, wa_kind, wa_lane, wa_mood, wa_price, .ref a_wa_loses, wa_name, wa_nameSort, wa_numberOf])), (a_wa_loses, .inl (cy 1, 36, .inl wa_loses))] ++ X) H → va_D A ([(a_mo, .inr (13, [.int 0, .int mo_trouble, .int mo_where, .ref a_wa, mo_read, mo_tape, .int mo_taped, .int mo_size, .int mo_spot, .int mo_sort, .int mo_place, .int mo_number, .int mo_fault, .int mo_wrongAt, .int mo_laneTold, .long mo_word, mo_v, mo_x, mo_past, mo_kept, .int mo_acts, .int mo_marks, mo_put, mo_bestPut, .long mo_bestSum, .ref a_mo_row, .ref a_mo_best, .ref a_mo_left, .int mo_bestSize_3, .int mo_bestLeft_4, mo_counts, .int mo_sets, .int mo_foeHarm, .int mo_ownHarm, .int mo_across, .int mo_sumFoe, .int mo_sumOwn, .int mo_sumWon, .int mo_sumAcross])), (a_mo_row, .inl (cy 1, 6, .inl mo_row_5)), (a_mo_best, .inl (cy 1, 6, .inl mo_best_6)), (a_mo_left, .inl (cy 1, 6, .inl mo_left_7)), (a_wa, .inr (12, [.int wa_lanes, .int wa_deep, .int wa_told, .int wa_beasts, .int wa_cities, .int wa_passes, .int wa_turned, .int wa_names, wa_who, wa_strong, wa_kind, wa_lane, wa_mood, wa_price, .ref a_wa_loses, wa_name, wa_nameSort, wa_numberOf])), (a_wa_loses, .inl (cy 1, 36, .inl wa_loses))] ++ X) → va_S A s.heap H locs → ∀ ls : Array Slot, lv_has ls 10 [(0, .ref a_mo), (5, .int x5_14), (6, .int x6_15), (7, .int x7_16), (8, .int x8_17)] → W p l e (headSpec wo_X13_worstPass ({ frames := 2, cells := 0, slots := 0, locals := 47 })).room s m (([.ref a_mo, .int p1, .int p2, .int p3] : List Value).toArray) below meth c H locs 0 0 (MQ below (va_Qi (fun (r : Int32) (_ : Unit) => r = res) (wB D A ([(a_mo, .inr (13, [.int mo_thrown', .int mo_trouble', .int mo_where', .ref a_wa, mo_read, mo_tape, .int mo_taped, .int mo_size, .int mo_spot, .int mo_sort, .int mo_place, .int mo_number, .int mo_fault, .int mo_wrongAt, .int mo_laneTold, .long mo_word, mo_v, mo_x, mo_past, mo_kept, .int mo_acts, .int mo_marks, mo_put, mo_bestPut, .long mo_bestSum, .ref a_mo_row, .ref a_mo_best, .ref a_mo_left, .int mo_bestSize', .int mo_bestLeft', mo_counts, .int mo_sets, .int mo_foeHarm, .int mo_ownHarm, .int mo_across, .int mo_sumFoe, .int mo_sumOwn, .int mo_sumWon, .int mo_sumAcross])), (a_mo_row, .inl (cy 1, 6, .inl mo_row')), (a_mo_best, .inl (cy 1, 6, .inl mo_best')), (a_mo_left, .inl (cy 1, 6, .inl mo_left')), (a_wa, .inr (12, [.int wa_lanes, .int wa_deep, .int wa_told, .int wa_beasts, .int wa_cities, .int wa_passes, .int wa_turned, .int wa_names, wa_who, wa_strong, wa_kind, wa_lane, wa_mood, wa_price, .ref a_wa_loses, wa_name, wa_nameSort, wa_numberOf])), (a_wa_loses, .inl (cy 1, 36, .inl wa_loses))] ++ X)) A) (([.ref a_mo, .int p1, .int p2, .int p3] : List Value).toArray) s 0 0 A) (F0 m 46 ls []) := by
      intro n46
      induction n46 with
      | zero => intro x5_14 x6_15 x7_16 x8_17 h; exact absurd (show (none : Option (Int32 × Int32 × Int32 × Int32 × Int32 × Int32 × (Nat → Int32) × (Nat → Int32) × (Nat → Int32))) = some _ from h) (by intro q; cases q)
      | succ n46 ih46 =>
        intro x5_14 x6_15 x7_16 x8_17 h H locs hP hD hS ls hl
        have h : f_X13_worstPass_b46 wa_cities wa_loses 0 mo_trouble mo_where mo_bestSize_3 mo_bestLeft_4 mo_row_5 mo_best_6 mo_left_7 (f_X13_worstPass_L46 wa_cities wa_loses 0 mo_trouble mo_where mo_bestSize_3 mo_bestLeft_4 mo_row_5 mo_best_6 mo_left_7 n46) x5_14 x6_15 x7_16 x8_17 = some (res, mo_thrown', mo_trouble', mo_where', mo_bestSize', mo_bestLeft', mo_row', mo_best', mo_left') := h
        unfold f_X13_worstPass_b46 at h
        refine lv_iload hx hb dX13_worstPass_46 (lv_at hl 4 rfl) ?_
        refine lv_aload_n hx hb dX13_worstPass_48 rfl (lv_at hl 0 rfl) ?_
        refine va_get (D := D) (ci := 13) (C := RX13) (T := TX13) (N := 39) (v := .int mo_bestSize_3) hx hb hX13 (fun _ q => q) hown hK hP 0 rfl rfl 28 (by decide) (hts (.fieldLink RX13 408 "ElephantLineModel" "bestSize" "I") (by decide +kernel)) (fun _ h9 => h9) rfl dX13_worstPass_49 ?_
        refine lv_icmp_ge (tgt := 139) hx hb dX13_worstPass_52 (by decide) (fun cd => ?_) (fun cd => ?_)
        · have h := ifT cd h
          exact jn139 x5_14 h _ _ hP hD hS _ (lv_sub hl [0, 1] rfl)
        · have h := ifF cd h
          refine lv_iload hx hb dX13_worstPass_55 (lv_at hl 3 rfl) ?_
          refine lv_aload_n hx hb dX13_worstPass_57 rfl (lv_at hl 0 rfl) ?_
          refine va_get (D := D) (ci := 13) (C := RX13) (T := TX13) (N := 39) (v := .ref a_wa) hx hb hX13 (fun _ q => q) hown hK hP 0 rfl rfl 3 (by decide) (hts (.fieldLink RX13 301 "ElephantLineModel" "war" "LElephantLineModel$War;") (by decide +kernel)) (fun _ h9 => h9) rfl dX13_worstPass_58 ?_
          refine va_getN (D := D) (ci := 12) (C := RX12) (T := TX12) (N := 18) (v := .ref a_wa_loses) hx hb hX12 (fun _ q => q) hown hK hP 4 rfl rfl 14 (by decide) (va_Nw.use rfl (hKN.2.1.1 ("ElephantLineModel", 282, "ElephantLineModel$War", "loses", "[I", "ElephantLineModel") (List.mem_of_getElem? (i := 81) rfl))) (fun _ h9 => h9) rfl dX13_worstPass_61 ?_
          refine lv_bipush (v := 6) hx hb dX13_worstPass_64 (by decide) ?_
          refine lv_aload_n hx hb dX13_worstPass_66 rfl (lv_at hl 0 rfl) ?_
          refine va_get (D := D) (ci := 13) (C := RX13) (T := TX13) (N := 39) (v := .ref a_mo_best) hx hb hX13 (fun _ q => q) hown hK hP 0 rfl rfl 26 (by decide) (hts (.fieldLink RX13 39 "ElephantLineModel" "best" "[I") (by decide +kernel)) (fun _ h9 => h9) rfl dX13_worstPass_67 ?_
          refine lv_iload hx hb dX13_worstPass_70 (lv_at hl 4 rfl) ?_
          refine lv_iconst (v := 1) hx hb dX13_worstPass_72 (by decide) ?_
          refine lv_isub hx hb dX13_worstPass_73 ?_
          obtain ⟨i_18, h⟩ := gIn_some h
          refine va_iald hx hb hK hP 2 1 rfl rfl i_18 dX13_worstPass_74 ?_
          refine lv_imul hx hb dX13_worstPass_75 ?_
          refine lv_aload_n hx hb dX13_worstPass_76 rfl (lv_at hl 0 rfl) ?_
          refine va_get (D := D) (ci := 13) (C := RX13) (T := TX13) (N := 39) (v := .ref a_mo_best) hx hb hX13 (fun _ q => q) hown hK hP 0 rfl rfl 26 (by decide) (hts (.fieldLink RX13 39 "ElephantLineModel" "best" "[I") (by decide +kernel)) (fun _ h9 => h9) rfl dX13_worstPass_77 ?_
          refine lv_iload hx hb dX13_worstPass_80 (lv_at hl 4 rfl) ?_
          obtain ⟨i_19, h⟩ := gIn_some h
          refine va_iald hx hb hK hP 2 1 rfl rfl i_19 dX13_worstPass_82 ?_
          refine lv_iadd hx hb dX13_worstPass_83 ?_
          obtain ⟨i_20, h⟩ := gIn_some h
          refine va_iald hx hb hK hP 5 1 rfl rfl i_20 dX13_worstPass_84 ?_
          obtain ⟨r_21, hc_22, h⟩ := bd1_some h
          refine kSi [.int x7_16, .int (wa_loses ((6 * (mo_best_6 (x8_17 - 1).toNatClampNeg)) + (mo_best_6 x8_17.toNatClampNeg)).toNatClampNeg)] [] ⟨hx, hb, hml, hown, hts⟩ (c_X13_over l D cy x7_16 (wa_loses ((6 * (mo_best_6 (x8_17 - 1).toNatClampNeg)) + (mo_best_6 x8_17.toNatClampNeg)).toNatClampNeg) r_21 hc_22) gX13_worstPass_X13_over rfl hd_X13_over ⟨Nat.le_of_ble_eq_true rfl, Nat.le_of_ble_eq_true rfl⟩ rfl rfl hKN va_nil rfl hl.1 rfl (Nat.le_of_ble_eq_true rfl) dX13_worstPass_85 ⟨Nat.le_of_ble_eq_true rfl, Nat.le_of_ble_eq_true rfl⟩ ?_
          refine lv_istore (lv' := [(9, .int r_21), (0, .ref a_mo), (5, .int x5_14), (6, .int x6_15), (7, .int x7_16), (8, .int x8_17)]) hx hb dX13_worstPass_88 hl (by decide) rfl (fun ls hl => ?_)
          refine lv_iload hx hb dX13_worstPass_90 (lv_at hl 4 rfl) ?_
          refine lv_iload hx hb dX13_worstPass_92 (lv_at hl 0 rfl) ?_
          refine lv_isub hx hb dX13_worstPass_94 ?_
          refine lv_iload hx hb dX13_worstPass_95 (lv_at hl 3 rfl) ?_
          have jn129 : ∀ (x5_23 : Int32) (x6_24 : Int32), f_X13_worstPass_B129 (f_X13_worstPass_L46 wa_cities wa_loses 0 mo_trouble mo_where mo_bestSize_3 mo_bestLeft_4 mo_row_5 mo_best_6 mo_left_7 n46) wa_cities wa_loses x5_23 x6_24 x8_17 r_21 0 mo_trouble mo_where mo_bestSize_3 mo_bestLeft_4 mo_row_5 mo_best_6 mo_left_7 = some (res, mo_thrown', mo_trouble', mo_where', mo_bestSize', mo_bestLeft', mo_row', mo_best', mo_left') → ∀ (H : Heap) (locs : List Loc), va_P D vwCl ([(a_mo, .inr (13, [.int 0, .int mo_trouble, .int mo_where, .ref a_wa, mo_read, mo_tape, .int mo_taped, .int mo_size, .int mo_spot, .int mo_sort, .int mo_place, .int mo_number, .int mo_fault, .int mo_wrongAt, .int mo_laneTold, .long mo_word, mo_v, mo_x, mo_past, mo_kept, .int mo_acts, .int mo_marks, mo_put, mo_bestPut, .long mo_bestSum, .ref a_mo_row, .ref a_mo_best, .ref a_mo_left, .int mo_bestSize_3, .int mo_bestLeft_4, mo_counts, .int mo_sets, .int mo_foeHarm, .int mo_ownHarm, .int mo_across, .int mo_sumFoe, .int mo_sumOwn, .int mo_sumWon, .int mo_sumAcross])), (a_mo_row, .inl (cy 1, 6, .inl mo_row_5)), (a_mo_best, .inl (cy 1, 6, .inl mo_best_6)), (a_mo_left, .inl (cy 1, 6, .inl mo_left_7)), (a_wa, .inr (12, [.int wa_lanes, .int wa_deep, .int wa_told, .int wa_beasts, .int wa_cities, .int wa_passes, .int wa_turned, .int wa_names, wa_who, wa_strong, wa_kind, wa_lane, wa_mood, wa_price, .ref a_wa_loses, wa_name, wa_nameSort, wa_numberOf])), (a_wa_loses, .inl (cy 1, 36, .inl wa_loses))] ++ X) H → va_D A ([(a_mo, .inr (13, [.int 0, .int mo_trouble, .int mo_where, .ref a_wa, mo_read, mo_tape, .int mo_taped, .int mo_size, .int mo_spot, .int mo_sort, .int mo_place, .int mo_number, .int mo_fault, .int mo_wrongAt, .int mo_laneTold, .long mo_word, mo_v, mo_x, mo_past, mo_kept, .int mo_acts, .int mo_marks, mo_put, mo_bestPut, .long mo_bestSum, .ref a_mo_row, .ref a_mo_best, .ref a_mo_left, .int mo_bestSize_3, .int mo_bestLeft_4, mo_counts, .int mo_sets, .int mo_foeHarm, .int mo_ownHarm, .int mo_across, .int mo_sumFoe, .int mo_sumOwn, .int mo_sumWon, .int mo_sumAcross])), (a_mo_row, .inl (cy 1, 6, .inl mo_row_5)), (a_mo_best, .inl (cy 1, 6, .inl mo_best_6)), (a_mo_left, .inl (cy 1, 6, .inl mo_left_7)), (a_wa, .inr (12, [.int wa_lanes, .int wa_deep, .int wa_told, .int wa_beasts, .int wa_cities, .int wa_passes, .int wa_turned, .int wa_names, wa_who, wa_strong, wa_kind, wa_lane, wa_mood, wa_price, .ref a_wa_loses, wa_name, wa_nameSort, wa_numberOf])), (a_wa_loses, .inl (cy 1, 36, .inl wa_loses))] ++ X) → va_S A s.heap H locs → ∀ ls : Array Slot, lv_has ls 10 [(0, .ref a_mo), (5, .int x5_23), (6, .int x6_24), (8, .int x8_17), (9, .int r_21)] → W p l e (headSpec wo_X13_worstPass ({ frames := 2, cells := 0, slots := 0, locals := 47 })).room s m (([.ref a_mo, .int p1, .int p2, .int p3] : List Value).toArray) below meth c H locs 0 0 (MQ below (va_Qi (fun (r : Int32) (_ : Unit) => r = res) (wB D A ([(a_mo, .inr (13, [.int mo_thrown', .int mo_trouble', .int mo_where', .ref a_wa, mo_read, mo_tape, .int mo_taped, .int mo_size, .int mo_spot, .int mo_sort, .int mo_place, .int mo_number, .int mo_fault, .int mo_wrongAt, .int mo_laneTold, .long mo_word, mo_v, mo_x, mo_past, mo_kept, .int mo_acts, .int mo_marks, mo_put, mo_bestPut, .long mo_bestSum, .ref a_mo_row, .ref a_mo_best, .ref a_mo_left, .int mo_bestSize', .int mo_bestLeft', mo_counts, .int mo_sets, .int mo_foeHarm, .int mo_ownHarm, .int mo_across, .int mo_sumFoe, .int mo_sumOwn, .int mo_sumWon, .int mo_sumAcross])), (a_mo_row, .inl (cy 1, 6, .inl mo_row')), (a_mo_best, .inl (cy 1, 6, .inl mo_best')), (a_mo_left, .inl (cy 1, 6, .inl mo_left')), (a_wa, .inr (12, [.int wa_lanes, .int wa_deep, .int wa_told, .int wa_beasts, .int wa_cities, .int wa_passes, .int wa_turned, .int wa_names, wa_who, wa_strong, wa_kind, wa_lane, wa_mood, wa_price, .ref a_wa_loses, wa_name, wa_nameSort, wa_numberOf])), (a_wa_loses, .inl (cy 1, 36, .inl wa_loses))] ++ X)) A) (([.ref a_mo, .int p1, .int p2, .int p3] : List Value).toArray) s 0 0 A) (F0 m 129 ls []) := by
            intro x5_23 x6_24 h H locs hP hD hS ls hl
            unfold f_X13_worstPass_B129 at h
            refine lv_iload hx hb dX13_worstPass_129 (lv_at hl 4 rfl) ?_
            refine lv_istore (lv' := [(7, .int r_21), (0, .ref a_mo), (5, .int x5_23), (6, .int x6_24), (8, .int x8_17), (9, .int r_21)]) hx hb dX13_worstPass_131 hl (by decide) rfl (fun ls hl => ?_)
            refine lv_iinc (v := x8_17 + 1) (lv' := [(8, .int (x8_17 + 1)), (7, .int r_21), (0, .ref a_mo), (5, .int x5_23), (6, .int x6_24), (9, .int r_21)]) hx hb dX13_worstPass_133 hl (k := 4) rfl (by first | rfl | decide) (by decide) rfl (fun ls hl => ?_)
            refine lv_goto (tgt := 46) hx hb dX13_worstPass_136 (by decide) ?_
            exact ih46 x5_23 x6_24 r_21 (x8_17 + 1) h _ _ hP hD hS _ (lv_sub hl [2, 3, 4, 1, 0] rfl)
          refine lv_icmp_le (tgt := 129) hx hb dX13_worstPass_97 (by decide) (fun cd => ?_) (fun cd => ?_)
          · have h := ifT cd h
            exact jn129 x5_14 x6_15 h _ _ hP hD hS _ (lv_sub hl [1, 2, 3, 5, 0] rfl)
          · have h := ifF cd h
            refine lv_iload hx hb dX13_worstPass_100 (lv_at hl 4 rfl) ?_
            refine lv_iload hx hb dX13_worstPass_102 (lv_at hl 0 rfl) ?_
            refine lv_isub hx hb dX13_worstPass_104 ?_
            refine lv_istore (lv' := [(6, .int (x7_16 - r_21)), (9, .int r_21), (0, .ref a_mo), (5, .int x5_14), (7, .int x7_16), (8, .int x8_17)]) hx hb dX13_worstPass_105 hl (by decide) rfl (fun ls hl => ?_)
            refine lv_bipush (v := 10) hx hb dX13_worstPass_107 (by decide) ?_
            refine lv_aload_n hx hb dX13_worstPass_109 rfl (lv_at hl 2 rfl) ?_
            refine va_get (D := D) (ci := 13) (C := RX13) (T := TX13) (N := 39) (v := .ref a_mo_best) hx hb hX13 (fun _ q => q) hown hK hP 0 rfl rfl 26 (by decide) (hts (.fieldLink RX13 39 "ElephantLineModel" "best" "[I") (by decide +kernel)) (fun _ h9 => h9) rfl dX13_worstPass_110 ?_
            refine lv_iload hx hb dX13_worstPass_113 (lv_at hl 5 rfl) ?_
            refine lv_iconst (v := 1) hx hb dX13_worstPass_115 (by decide) ?_
            refine lv_isub hx hb dX13_worstPass_116 ?_
            obtain ⟨i_25, h⟩ := gIn_some h
            refine va_iald hx hb hK hP 2 1 rfl rfl i_25 dX13_worstPass_117 ?_
            refine lv_imul hx hb dX13_worstPass_118 ?_
            refine lv_aload_n hx hb dX13_worstPass_119 rfl (lv_at hl 2 rfl) ?_
            refine va_get (D := D) (ci := 13) (C := RX13) (T := TX13) (N := 39) (v := .ref a_mo_best) hx hb hX13 (fun _ q => q) hown hK hP 0 rfl rfl 26 (by decide) (hts (.fieldLink RX13 39 "ElephantLineModel" "best" "[I") (by decide +kernel)) (fun _ h9 => h9) rfl dX13_worstPass_120 ?_
            refine lv_iload hx hb dX13_worstPass_123 (lv_at hl 5 rfl) ?_
            obtain ⟨i_26, h⟩ := gIn_some h
            refine va_iald hx hb hK hP 2 1 rfl rfl i_26 dX13_worstPass_125 ?_
            refine lv_iadd hx hb dX13_worstPass_126 ?_
            refine lv_istore (lv' := [(5, .int ((10 * (mo_best_6 (x8_17 - 1).toNatClampNeg)) + (mo_best_6 x8_17.toNatClampNeg))), (6, .int (x7_16 - r_21)), (9, .int r_21), (0, .ref a_mo), (7, .int x7_16), (8, .int x8_17)]) hx hb dX13_worstPass_127 hl (by decide) rfl (fun ls hl => ?_)
            exact jn129 ((10 * (mo_best_6 (x8_17 - 1).toNatClampNeg)) + (mo_best_6 x8_17.toNatClampNeg)) (x7_16 - r_21) h _ _ hP hD hS _ (lv_sub hl [3, 0, 1, 5, 2] rfl)
    exact lp46 fuelN ((-2) : Int32) (0 : Int32) p3 (1 : Int32) h _ _ hP hD hS _ (lv_sub hl [5, 3, 2, 1, 0] rfl)
  · have h := ifF cd h
    refine lv_aload_n hx hb dX13_worstPass_19 rfl (lv_at hl 1 rfl) ?_
    refine lv_iload hx hb dX13_worstPass_20 (lv_at hl 0 rfl) ?_
    obtain ⟨r_27, mo_trouble_28, mo_where_29, hc_30, h⟩ := bd3_some h
    refine wVi [.int r_1] [] ⟨hx, hb, hml, hown, hts⟩ (c_X13_refused l D cy A ([(a_mo_row, .inl (cy 1, 6, .inl mo_row)), (a_mo_best, .inl (cy 1, 6, .inl mo_best)), (a_mo_left, .inl (cy 1, 6, .inl mo_left)), (a_wa, .inr (12, [.int wa_lanes, .int wa_deep, .int wa_told, .int wa_beasts, .int wa_cities, .int wa_passes, .int wa_turned, .int wa_names, wa_who, wa_strong, wa_kind, wa_lane, wa_mood, wa_price, .ref a_wa_loses, wa_name, wa_nameSort, wa_numberOf])), (a_wa_loses, .inl (cy 1, 36, .inl wa_loses))] ++ X) a_mo 0 mo_trouble mo_where (.ref a_wa) (mo_read) (mo_tape) mo_taped mo_size mo_spot mo_sort mo_place mo_number mo_fault mo_wrongAt mo_laneTold mo_word (mo_v) (mo_x) (mo_past) (mo_kept) mo_acts mo_marks (mo_put) (mo_bestPut) mo_bestSum (.ref a_mo_row) (.ref a_mo_best) (.ref a_mo_left) mo_bestSize mo_bestLeft (mo_counts) mo_sets mo_foeHarm mo_ownHarm mo_across mo_sumFoe mo_sumOwn mo_sumWon mo_sumAcross r_1 r_27 mo_trouble_28 mo_where_29 hc_30) gX13_worstPass_X13_refused rfl hd_X13_refused ⟨Nat.le_of_ble_eq_true rfl, Nat.le_of_ble_eq_true rfl⟩ rfl rfl hKN (pX3 hP [0, 1, 2, 3, 4, 5] rfl) (dX3 hD [0, 1, 2, 3, 4, 5] rfl rfl) hS hA 13 0 rfl rfl rfl hl.1 rfl (Nat.le_of_ble_eq_true rfl) dX13_worstPass_22 ⟨Nat.le_of_ble_eq_true rfl, Nat.le_of_ble_eq_true rfl⟩ (fun H locs hP hD hS => ?_)
    have hP := pX4 (L1 := [(a_mo, .inr (13, [.int 0, .int mo_trouble_28, .int mo_where_29, .ref a_wa, mo_read, mo_tape, .int mo_taped, .int mo_size, .int mo_spot, .int mo_sort, .int mo_place, .int mo_number, .int mo_fault, .int mo_wrongAt, .int mo_laneTold, .long mo_word, mo_v, mo_x, mo_past, mo_kept, .int mo_acts, .int mo_marks, mo_put, mo_bestPut, .long mo_bestSum, .ref a_mo_row, .ref a_mo_best, .ref a_mo_left, .int mo_bestSize, .int mo_bestLeft, mo_counts, .int mo_sets, .int mo_foeHarm, .int mo_ownHarm, .int mo_across, .int mo_sumFoe, .int mo_sumOwn, .int mo_sumWon, .int mo_sumAcross])), (a_mo_row, .inl (cy 1, 6, .inl mo_row)), (a_mo_best, .inl (cy 1, 6, .inl mo_best)), (a_mo_left, .inl (cy 1, 6, .inl mo_left)), (a_wa, .inr (12, [.int wa_lanes, .int wa_deep, .int wa_told, .int wa_beasts, .int wa_cities, .int wa_passes, .int wa_turned, .int wa_names, wa_who, wa_strong, wa_kind, wa_lane, wa_mood, wa_price, .ref a_wa_loses, wa_name, wa_nameSort, wa_numberOf])), (a_wa_loses, .inl (cy 1, 36, .inl wa_loses))]) hP [0, 1, 2, 3, 4, 5] rfl
    have hD := dX4 (L1 := [(a_mo, .inr (13, [.int 0, .int mo_trouble_28, .int mo_where_29, .ref a_wa, mo_read, mo_tape, .int mo_taped, .int mo_size, .int mo_spot, .int mo_sort, .int mo_place, .int mo_number, .int mo_fault, .int mo_wrongAt, .int mo_laneTold, .long mo_word, mo_v, mo_x, mo_past, mo_kept, .int mo_acts, .int mo_marks, mo_put, mo_bestPut, .long mo_bestSum, .ref a_mo_row, .ref a_mo_best, .ref a_mo_left, .int mo_bestSize, .int mo_bestLeft, mo_counts, .int mo_sets, .int mo_foeHarm, .int mo_ownHarm, .int mo_across, .int mo_sumFoe, .int mo_sumOwn, .int mo_sumWon, .int mo_sumAcross])), (a_mo_row, .inl (cy 1, 6, .inl mo_row)), (a_mo_best, .inl (cy 1, 6, .inl mo_best)), (a_mo_left, .inl (cy 1, 6, .inl mo_left)), (a_wa, .inr (12, [.int wa_lanes, .int wa_deep, .int wa_told, .int wa_beasts, .int wa_cities, .int wa_passes, .int wa_turned, .int wa_names, wa_who, wa_strong, wa_kind, wa_lane, wa_mood, wa_price, .ref a_wa_loses, wa_name, wa_nameSort, wa_numberOf])), (a_wa_loses, .inl (cy 1, 36, .inl wa_loses))]) hD [0, 1, 2, 3, 4, 5] rfl rfl
    have h0 := Option.some.inj h
    clear h
    obtain ⟨e1, h1⟩ := pjP h0
    clear h0
    subst e1
    obtain ⟨e2, h2⟩ := pjP h1
    clear h1
    subst e2
    obtain ⟨e3, h3⟩ := pjP h2
    clear h2
    subst e3
    obtain ⟨e4, h4⟩ := pjP h3
    clear h3
    subst e4
    obtain ⟨e5, h5⟩ := pjP h4
    clear h4
    subst e5
    obtain ⟨e6, h6⟩ := pjP h5
    clear h5
    subst e6
    obtain ⟨e7, h7⟩ := pjP h6
    clear h6
    subst e7
    obtain ⟨e8, h8⟩ := pjP h7
    clear h7
    subst e8
    subst h8
    exact W.iret hx hb hr (fun t ht _ => ⟨⟨_, (), rfl, rfl, by rw [ht]; exact hP, hD⟩, hS.F ht⟩) hS.2.2 dX13_worstPass_25
theorem hd_X13_setOut : yX13_setOut.cls = RX13 ∧ yX13_setOut.cls ≠ "java/lang/invoke/MethodHandle" ∧ yX13_setOut.cls ≠ "java/lang/invoke/VarHandle" ∧ (parseMethodDescriptor yX13_setOut.desc).map (fun d => d.parameters.length) = some 3 := by decide +kernel
set_option maxHeartbeats 4000000 in
set_option maxRecDepth 100000 in
theorem c_X13_setOut (l : Launch) (D : va_G) (cy : Nat → ClassId) (A : Nat → Prop) (X : va_W) (a_mo a_mo_row a_mo_best a_mo_left a_wa a_wa_loses : Nat) (mo_thrown : Int32) (mo_trouble : Int32) (mo_where : Int32) (mo_read : Value) (mo_tape : Value) (mo_taped : Int32) (mo_size : Int32) (mo_spot : Int32) (mo_sort : Int32) (mo_place : Int32) (mo_number : Int32) (mo_fault : Int32) (mo_wrongAt : Int32) (mo_laneTold : Int32) (mo_word : Int64) (mo_v : Value) (mo_x : Value) (mo_past : Value) (mo_kept : Value) (mo_acts : Int32) (mo_marks : Int32) (mo_put : Value) (mo_bestPut : Value) (mo_bestSum : Int64) (mo_bestSize : Int32) (mo_bestLeft : Int32) (mo_counts : Value) (mo_sets : Int32) (mo_foeHarm : Int32) (mo_ownHarm : Int32) (mo_across : Int32) (mo_sumFoe : Int32) (mo_sumOwn : Int32) (mo_sumWon : Int32) (mo_sumAcross : Int32) (mo_row : Nat → Int32) (mo_best : Nat → Int32) (mo_left : Nat → Int32) (wa_lanes : Int32) (wa_deep : Int32) (wa_told : Int32) (wa_beasts : Int32) (wa_cities : Int32) (wa_passes : Int32) (wa_turned : Int32) (wa_names : Int32) (wa_who : Value) (wa_strong : Value) (wa_kind : Value) (wa_lane : Value) (wa_mood : Value) (wa_price : Value) (wa_name : Value) (wa_nameSort : Value) (wa_numberOf : Value) (wa_loses : Nat → Int32) (p1 : Int32) (p2 : Int32) (p3 : Int32) (res : Int32) (mo_thrown' : Int32) (mo_trouble' : Int32) (mo_where' : Int32) (mo_bestSize' : Int32) (mo_bestLeft' : Int32) (mo_row' : Nat → Int32) (mo_best' : Nat → Int32) (mo_left' : Nat → Int32) (h : f_X13_setOut mo_thrown mo_trouble mo_where mo_bestSize mo_bestLeft mo_row mo_best mo_left wa_cities wa_loses p1 p2 p3 = some (res, mo_thrown', mo_trouble', mo_where', mo_bestSize', mo_bestLeft', mo_row', mo_best', mo_left')) : Met l yX13_setOut wo_X13_setOut ({ frames := 2, cells := 0, slots := 0, locals := 47 }) (wrPc D cy A [.ref a_mo, .int p1, .int p2, .int p3] ([(a_mo, .inr (13, [.int mo_thrown, .int mo_trouble, .int mo_where, .ref a_wa, mo_read, mo_tape, .int mo_taped, .int mo_size, .int mo_spot, .int mo_sort, .int mo_place, .int mo_number, .int mo_fault, .int mo_wrongAt, .int mo_laneTold, .long mo_word, mo_v, mo_x, mo_past, mo_kept, .int mo_acts, .int mo_marks, mo_put, mo_bestPut, .long mo_bestSum, .ref a_mo_row, .ref a_mo_best, .ref a_mo_left, .int mo_bestSize, .int mo_bestLeft, mo_counts, .int mo_sets, .int mo_foeHarm, .int mo_ownHarm, .int mo_across, .int mo_sumFoe, .int mo_sumOwn, .int mo_sumWon, .int mo_sumAcross])), (a_mo_row, .inl (cy 1, 6, .inl mo_row)), (a_mo_best, .inl (cy 1, 6, .inl mo_best)), (a_mo_left, .inl (cy 1, 6, .inl mo_left)), (a_wa, .inr (12, [.int wa_lanes, .int wa_deep, .int wa_told, .int wa_beasts, .int wa_cities, .int wa_passes, .int wa_turned, .int wa_names, wa_who, wa_strong, wa_kind, wa_lane, wa_mood, wa_price, .ref a_wa_loses, wa_name, wa_nameSort, wa_numberOf])), (a_wa_loses, .inl (cy 1, 36, .inl wa_loses))] ++ X)) (va_Qi (fun (r : Int32) (_ : Unit) => r = res) (wB D A ([(a_mo, .inr (13, [.int mo_thrown', .int mo_trouble', .int mo_where', .ref a_wa, mo_read, mo_tape, .int mo_taped, .int mo_size, .int mo_spot, .int mo_sort, .int mo_place, .int mo_number, .int mo_fault, .int mo_wrongAt, .int mo_laneTold, .long mo_word, mo_v, mo_x, mo_past, mo_kept, .int mo_acts, .int mo_marks, mo_put, mo_bestPut, .long mo_bestSum, .ref a_mo_row, .ref a_mo_best, .ref a_mo_left, .int mo_bestSize', .int mo_bestLeft', mo_counts, .int mo_sets, .int mo_foeHarm, .int mo_ownHarm, .int mo_across, .int mo_sumFoe, .int mo_sumOwn, .int mo_sumWon, .int mo_sumAcross])), (a_mo_row, .inl (cy 1, 6, .inl mo_row')), (a_mo_best, .inl (cy 1, 6, .inl mo_best')), (a_mo_left, .inl (cy 1, 6, .inl mo_left')), (a_wa, .inr (12, [.int wa_lanes, .int wa_deep, .int wa_told, .int wa_beasts, .int wa_cities, .int wa_passes, .int wa_turned, .int wa_names, wa_who, wa_strong, wa_kind, wa_lane, wa_mood, wa_price, .ref a_wa_loses, wa_name, wa_nameSort, wa_numberOf])), (a_wa_loses, .inl (cy 1, 36, .inl wa_loses))] ++ X)) A) 0 0 A := by
  refine Met.ofW (cc := cX13_setOut) (maxL := 6) (ret := (some .int)) (by decide) rfl ?_
  intro p e s m args below meth c s₁ B hml hv
  obtain ⟨rfl, hP, hKN, hD, hA⟩ := hv
  have hK := hKN.1
  have hx := B.exec
  have hb := B.bytes
  have hr := B.returns
  have hts := wt_X13_setOut hKN.2.2 (([.ref a_mo, .int p1, .int p2, .int p3] : List Value).toArray)
  have hown : s.vm.findClass RX13 = some m.cls := findClass_of_methodNamed B.named
  have hlocks := B.notSynchronized
  have hS : va_S A s.heap s.heap [] := va_S.rf
  have hX13 := wc_X13 hKN.2.2 (([.ref a_mo, .int p1, .int p2, .int p3] : List Value).toArray)
  have hl := lv_entry ([.ref a_mo, .int p1, .int p2, .int p3]) (n := 6) (Nat.le_of_ble_eq_true rfl)
  rw [lg_entry_eq]
  generalize (lg_sl ([.ref a_mo, .int p1, .int p2, .int p3]) ++ List.replicate (6 - (lg_sl ([.ref a_mo, .int p1, .int p2, .int p3])).length) Slot.unset).toArray = ls at hl ⊢
  have hl : lv_has ls 6 [(0, .ref a_mo), (1, .int p1), (2, .int p2), (3, .int p3)] := hl
  unfold f_X13_setOut at h
  refine lv_aload_n hx hb dX13_setOut_0 rfl (lv_at hl 0 rfl) ?_
  refine lv_iconst (v := 0) hx hb dX13_setOut_1 (by decide) ?_
  refine va_put (D := D) (ci := 13) (C := RX13) (T := TX13) (N := 39) (v := .int 0) (ty := .int) hx hb hX13 (fun _ q => q) tyX13 tyX13_ok nmX13 hown hK hP hD hS 0 rfl rfl 0 (by decide) (hts (.fieldLink RX13 48 "ElephantLineModel" "thrown" "I") (by decide +kernel)) (fun _ h9 => h9) rfl (tyX13_ok 0 (by decide)) rfl rfl (Nat.le_of_ble_eq_true rfl) dX13_setOut_2 (fun H locs hP hD hS => ?_)
  refine lv_aload_n hx hb dX13_setOut_5 rfl (lv_at hl 0 rfl) ?_
  refine lv_iload_n hx hb dX13_setOut_6 rfl (lv_at hl 1 rfl) ?_
  refine lv_iload_n hx hb dX13_setOut_7 rfl (lv_at hl 2 rfl) ?_
  refine lv_iload_n hx hb dX13_setOut_8 rfl (lv_at hl 3 rfl) ?_
  have hP : va_P D vwCl ([(a_mo, .inr (13, [.int 0, .int mo_trouble, .int mo_where, .ref a_wa, mo_read, mo_tape, .int mo_taped, .int mo_size, .int mo_spot, .int mo_sort, .int mo_place, .int mo_number, .int mo_fault, .int mo_wrongAt, .int mo_laneTold, .long mo_word, mo_v, mo_x, mo_past, mo_kept, .int mo_acts, .int mo_marks, mo_put, mo_bestPut, .long mo_bestSum, .ref a_mo_row, .ref a_mo_best, .ref a_mo_left, .int mo_bestSize, .int mo_bestLeft, mo_counts, .int mo_sets, .int mo_foeHarm, .int mo_ownHarm, .int mo_across, .int mo_sumFoe, .int mo_sumOwn, .int mo_sumWon, .int mo_sumAcross])), (a_mo_row, .inl (cy 1, 6, .inl mo_row)), (a_mo_best, .inl (cy 1, 6, .inl mo_best)), (a_mo_left, .inl (cy 1, 6, .inl mo_left)), (a_wa, .inr (12, [.int wa_lanes, .int wa_deep, .int wa_told, .int wa_beasts, .int wa_cities, .int wa_passes, .int wa_turned, .int wa_names, wa_who, wa_strong, wa_kind, wa_lane, wa_mood, wa_price, .ref a_wa_loses, wa_name, wa_nameSort, wa_numberOf])), (a_wa_loses, .inl (cy 1, 36, .inl wa_loses))] ++ X) H := hP
  have hD : va_D A ([(a_mo, .inr (13, [.int 0, .int mo_trouble, .int mo_where, .ref a_wa, mo_read, mo_tape, .int mo_taped, .int mo_size, .int mo_spot, .int mo_sort, .int mo_place, .int mo_number, .int mo_fault, .int mo_wrongAt, .int mo_laneTold, .long mo_word, mo_v, mo_x, mo_past, mo_kept, .int mo_acts, .int mo_marks, mo_put, mo_bestPut, .long mo_bestSum, .ref a_mo_row, .ref a_mo_best, .ref a_mo_left, .int mo_bestSize, .int mo_bestLeft, mo_counts, .int mo_sets, .int mo_foeHarm, .int mo_ownHarm, .int mo_across, .int mo_sumFoe, .int mo_sumOwn, .int mo_sumWon, .int mo_sumAcross])), (a_mo_row, .inl (cy 1, 6, .inl mo_row)), (a_mo_best, .inl (cy 1, 6, .inl mo_best)), (a_mo_left, .inl (cy 1, 6, .inl mo_left)), (a_wa, .inr (12, [.int wa_lanes, .int wa_deep, .int wa_told, .int wa_beasts, .int wa_cities, .int wa_passes, .int wa_turned, .int wa_names, wa_who, wa_strong, wa_kind, wa_lane, wa_mood, wa_price, .ref a_wa_loses, wa_name, wa_nameSort, wa_numberOf])), (a_wa_loses, .inl (cy 1, 36, .inl wa_loses))] ++ X) := hD
  obtain ⟨r_1, hc_2, h⟩ := bd1_some h
  refine kVi [.int p1, .int p2, .int p3] [] ⟨hx, hb, hml, hown, hts⟩ (c_X13_refusesMarch l D cy a_mo a_wa 0 mo_trouble mo_where (mo_read) (mo_tape) mo_taped mo_size mo_spot mo_sort mo_place mo_number mo_fault mo_wrongAt mo_laneTold mo_word (mo_v) (mo_x) (mo_past) (mo_kept) mo_acts mo_marks (mo_put) (mo_bestPut) mo_bestSum (.ref a_mo_row) (.ref a_mo_best) (.ref a_mo_left) mo_bestSize mo_bestLeft (mo_counts) mo_sets mo_foeHarm mo_ownHarm mo_across mo_sumFoe mo_sumOwn mo_sumWon mo_sumAcross wa_lanes wa_deep wa_told wa_beasts wa_cities wa_passes wa_turned wa_names (wa_who) (wa_strong) (wa_kind) (wa_lane) (wa_mood) (wa_price) (.ref a_wa_loses) (wa_name) (wa_nameSort) (wa_numberOf) p1 p2 p3 r_1 hc_2) gX13_setOut_X13_refusesMarch rfl hd_X13_refusesMarch ⟨Nat.le_of_ble_eq_true rfl, Nat.le_of_ble_eq_true rfl⟩ rfl rfl hKN (pXc hP [0, 4] rfl) 13 0 rfl rfl rfl hl.1 rfl (Nat.le_of_ble_eq_true rfl) dX13_setOut_9 ⟨Nat.le_of_ble_eq_true rfl, Nat.le_of_ble_eq_true rfl⟩ ?_
  refine lv_istore (lv' := [(4, .int r_1), (0, .ref a_mo), (1, .int p1), (2, .int p2), (3, .int p3)]) hx hb dX13_setOut_12 hl (by decide) rfl (fun ls hl => ?_)
  refine lv_iload hx hb dX13_setOut_14 (lv_at hl 0 rfl) ?_
  refine lv_if_le (tgt := 26) hx hb dX13_setOut_16 (by decide) (fun cd => ?_) (fun cd => ?_)
  · have h := ifT cd h
    refine lv_iconst (v := 0) hx hb dX13_setOut_26 (by decide) ?_
    refine lv_istore (lv' := [(5, .int 0), (4, .int r_1), (0, .ref a_mo), (1, .int p1), (2, .int p2), (3, .int p3)]) hx hb dX13_setOut_27 hl (by decide) rfl (fun ls hl => ?_)
    have jn73 : ∀ (mo_bestSize_3 : Int32) (mo_bestLeft_4 : Int32) (mo_row_5 : Nat → Int32) (mo_best_6 : Nat → Int32) (mo_left_7 : Nat → Int32), f_X13_setOut_B73 wa_cities wa_loses 0 mo_trouble mo_where mo_bestSize_3 mo_bestLeft_4 mo_row_5 mo_best_6 mo_left_7 = some (res, mo_thrown', mo_trouble', mo_where', mo_bestSize', mo_bestLeft', mo_row', mo_best', mo_left') → ∀ (H : Heap) (locs : List Loc), va_P D vwCl ([(a_mo, .inr (13, [.int 0, .int mo_trouble, .int mo_where, .ref a_wa, mo_read, mo_tape, .int mo_taped, .int mo_size, .int mo_spot, .int mo_sort, .int mo_place, .int mo_number, .int mo_fault, .int mo_wrongAt, .int mo_laneTold, .long mo_word, mo_v, mo_x, mo_past, mo_kept, .int mo_acts, .int mo_marks, mo_put, mo_bestPut, .long mo_bestSum, .ref a_mo_row, .ref a_mo_best, .ref a_mo_left, .int mo_bestSize_3, .int mo_bestLeft_4, mo_counts, .int mo_sets, .int mo_foeHarm, .int mo_ownHarm, .int mo_across, .int mo_sumFoe, .int mo_sumOwn, .int mo_sumWon, .int mo_sumAcross])), (a_mo_row, .inl (cy 1, 6, .inl mo_row_5)), (a_mo_best, .inl (cy 1, 6, .inl mo_best_6)), (a_mo_left, .inl (cy 1, 6, .inl mo_left_7)), (a_wa, .inr (12, [.int wa_lanes, .int wa_deep, .int wa_told, .int wa_beasts, .int wa_cities, .int wa_passes, .int wa_turned, .int wa_names, wa_who, wa_strong, wa_kind, wa_lane, wa_mood, wa_price, .ref a_wa_loses, wa_name, wa_nameSort, wa_numberOf])), (a_wa_loses, .inl (cy 1, 36, .inl wa_loses))] ++ X) H → va_D A ([(a_mo, .inr (13, [.int 0, .int mo_trouble, .int mo_where, .ref a_wa, mo_read, mo_tape, .int mo_taped, .int mo_size, .int mo_spot, .int mo_sort, .int mo_place, .int mo_number, .int mo_fault, .int mo_wrongAt, .int mo_laneTold, .long mo_word, mo_v, mo_x, mo_past, mo_kept, .int mo_acts, .int mo_marks, mo_put, mo_bestPut, .long mo_bestSum, .ref a_mo_row, .ref a_mo_best, .ref a_mo_left, .int mo_bestSize_3, .int mo_bestLeft_4, mo_counts, .int mo_sets, .int mo_foeHarm, .int mo_ownHarm, .int mo_across, .int mo_sumFoe, .int mo_sumOwn, .int mo_sumWon, .int mo_sumAcross])), (a_mo_row, .inl (cy 1, 6, .inl mo_row_5)), (a_mo_best, .inl (cy 1, 6, .inl mo_best_6)), (a_mo_left, .inl (cy 1, 6, .inl mo_left_7)), (a_wa, .inr (12, [.int wa_lanes, .int wa_deep, .int wa_told, .int wa_beasts, .int wa_cities, .int wa_passes, .int wa_turned, .int wa_names, wa_who, wa_strong, wa_kind, wa_lane, wa_mood, wa_price, .ref a_wa_loses, wa_name, wa_nameSort, wa_numberOf])), (a_wa_loses, .inl (cy 1, 36, .inl wa_loses))] ++ X) → va_S A s.heap H locs → ∀ ls : Array Slot, lv_has ls 6 [(0, .ref a_mo)] → W p l e (headSpec wo_X13_setOut ({ frames := 2, cells := 0, slots := 0, locals := 47 })).room s m (([.ref a_mo, .int p1, .int p2, .int p3] : List Value).toArray) below meth c H locs 0 0 (MQ below (va_Qi (fun (r : Int32) (_ : Unit) => r = res) (wB D A ([(a_mo, .inr (13, [.int mo_thrown', .int mo_trouble', .int mo_where', .ref a_wa, mo_read, mo_tape, .int mo_taped, .int mo_size, .int mo_spot, .int mo_sort, .int mo_place, .int mo_number, .int mo_fault, .int mo_wrongAt, .int mo_laneTold, .long mo_word, mo_v, mo_x, mo_past, mo_kept, .int mo_acts, .int mo_marks, mo_put, mo_bestPut, .long mo_bestSum, .ref a_mo_row, .ref a_mo_best, .ref a_mo_left, .int mo_bestSize', .int mo_bestLeft', mo_counts, .int mo_sets, .int mo_foeHarm, .int mo_ownHarm, .int mo_across, .int mo_sumFoe, .int mo_sumOwn, .int mo_sumWon, .int mo_sumAcross])), (a_mo_row, .inl (cy 1, 6, .inl mo_row')), (a_mo_best, .inl (cy 1, 6, .inl mo_best')), (a_mo_left, .inl (cy 1, 6, .inl mo_left')), (a_wa, .inr (12, [.int wa_lanes, .int wa_deep, .int wa_told, .int wa_beasts, .int wa_cities, .int wa_passes, .int wa_turned, .int wa_names, wa_who, wa_strong, wa_kind, wa_lane, wa_mood, wa_price, .ref a_wa_loses, wa_name, wa_nameSort, wa_numberOf])), (a_wa_loses, .inl (cy 1, 36, .inl wa_loses))] ++ X)) A) (([.ref a_mo, .int p1, .int p2, .int p3] : List Value).toArray) s 0 0 A) (F0 m 73 ls []) := by
      intro mo_bestSize_3 mo_bestLeft_4 mo_row_5 mo_best_6 mo_left_7 h H locs hP hD hS ls hl
      unfold f_X13_setOut_B73 at h
      refine lv_aload_n hx hb dX13_setOut_73 rfl (lv_at hl 0 rfl) ?_
      refine lv_bipush (v := (-2)) hx hb dX13_setOut_74 (by decide) ?_
      obtain ⟨r_8, mo_trouble_9, mo_where_10, hc_11, h⟩ := bd3_some h
      refine wVi [.int (-2)] [] ⟨hx, hb, hml, hown, hts⟩ (c_X13_good l D cy A ([(a_mo_row, .inl (cy 1, 6, .inl mo_row_5)), (a_mo_best, .inl (cy 1, 6, .inl mo_best_6)), (a_mo_left, .inl (cy 1, 6, .inl mo_left_7)), (a_wa, .inr (12, [.int wa_lanes, .int wa_deep, .int wa_told, .int wa_beasts, .int wa_cities, .int wa_passes, .int wa_turned, .int wa_names, wa_who, wa_strong, wa_kind, wa_lane, wa_mood, wa_price, .ref a_wa_loses, wa_name, wa_nameSort, wa_numberOf])), (a_wa_loses, .inl (cy 1, 36, .inl wa_loses))] ++ X) a_mo 0 mo_trouble mo_where (.ref a_wa) (mo_read) (mo_tape) mo_taped mo_size mo_spot mo_sort mo_place mo_number mo_fault mo_wrongAt mo_laneTold mo_word (mo_v) (mo_x) (mo_past) (mo_kept) mo_acts mo_marks (mo_put) (mo_bestPut) mo_bestSum (.ref a_mo_row) (.ref a_mo_best) (.ref a_mo_left) mo_bestSize_3 mo_bestLeft_4 (mo_counts) mo_sets mo_foeHarm mo_ownHarm mo_across mo_sumFoe mo_sumOwn mo_sumWon mo_sumAcross ((-2) : Int32) r_8 mo_trouble_9 mo_where_10 hc_11) gX13_setOut_X13_good rfl hd_X13_good ⟨Nat.le_of_ble_eq_true rfl, Nat.le_of_ble_eq_true rfl⟩ rfl rfl hKN (pX3 hP [0, 1, 2, 3, 4, 5] rfl) (dX3 hD [0, 1, 2, 3, 4, 5] rfl rfl) hS hA 13 0 rfl rfl rfl hl.1 rfl (Nat.le_of_ble_eq_true rfl) dX13_setOut_76 ⟨Nat.le_of_ble_eq_true rfl, Nat.le_of_ble_eq_true rfl⟩ (fun H locs hP hD hS => ?_)
      have hP := pX4 (L1 := [(a_mo, .inr (13, [.int 0, .int mo_trouble_9, .int mo_where_10, .ref a_wa, mo_read, mo_tape, .int mo_taped, .int mo_size, .int mo_spot, .int mo_sort, .int mo_place, .int mo_number, .int mo_fault, .int mo_wrongAt, .int mo_laneTold, .long mo_word, mo_v, mo_x, mo_past, mo_kept, .int mo_acts, .int mo_marks, mo_put, mo_bestPut, .long mo_bestSum, .ref a_mo_row, .ref a_mo_best, .ref a_mo_left, .int mo_bestSize_3, .int mo_bestLeft_4, mo_counts, .int mo_sets, .int mo_foeHarm, .int mo_ownHarm, .int mo_across, .int mo_sumFoe, .int mo_sumOwn, .int mo_sumWon, .int mo_sumAcross])), (a_mo_row, .inl (cy 1, 6, .inl mo_row_5)), (a_mo_best, .inl (cy 1, 6, .inl mo_best_6)), (a_mo_left, .inl (cy 1, 6, .inl mo_left_7)), (a_wa, .inr (12, [.int wa_lanes, .int wa_deep, .int wa_told, .int wa_beasts, .int wa_cities, .int wa_passes, .int wa_turned, .int wa_names, wa_who, wa_strong, wa_kind, wa_lane, wa_mood, wa_price, .ref a_wa_loses, wa_name, wa_nameSort, wa_numberOf])), (a_wa_loses, .inl (cy 1, 36, .inl wa_loses))]) hP [0, 1, 2, 3, 4, 5] rfl
      have hD := dX4 (L1 := [(a_mo, .inr (13, [.int 0, .int mo_trouble_9, .int mo_where_10, .ref a_wa, mo_read, mo_tape, .int mo_taped, .int mo_size, .int mo_spot, .int mo_sort, .int mo_place, .int mo_number, .int mo_fault, .int mo_wrongAt, .int mo_laneTold, .long mo_word, mo_v, mo_x, mo_past, mo_kept, .int mo_acts, .int mo_marks, mo_put, mo_bestPut, .long mo_bestSum, .ref a_mo_row, .ref a_mo_best, .ref a_mo_left, .int mo_bestSize_3, .int mo_bestLeft_4, mo_counts, .int mo_sets, .int mo_foeHarm, .int mo_ownHarm, .int mo_across, .int mo_sumFoe, .int mo_sumOwn, .int mo_sumWon, .int mo_sumAcross])), (a_mo_row, .inl (cy 1, 6, .inl mo_row_5)), (a_mo_best, .inl (cy 1, 6, .inl mo_best_6)), (a_mo_left, .inl (cy 1, 6, .inl mo_left_7)), (a_wa, .inr (12, [.int wa_lanes, .int wa_deep, .int wa_told, .int wa_beasts, .int wa_cities, .int wa_passes, .int wa_turned, .int wa_names, wa_who, wa_strong, wa_kind, wa_lane, wa_mood, wa_price, .ref a_wa_loses, wa_name, wa_nameSort, wa_numberOf])), (a_wa_loses, .inl (cy 1, 36, .inl wa_loses))]) hD [0, 1, 2, 3, 4, 5] rfl rfl
      have h0 := Option.some.inj h
      clear h
      obtain ⟨e1, h1⟩ := pjP h0
      clear h0
      subst e1
      obtain ⟨e2, h2⟩ := pjP h1
      clear h1
      subst e2
      obtain ⟨e3, h3⟩ := pjP h2
      clear h2
      subst e3
      obtain ⟨e4, h4⟩ := pjP h3
      clear h3
      subst e4
      obtain ⟨e5, h5⟩ := pjP h4
      clear h4
      subst e5
      obtain ⟨e6, h6⟩ := pjP h5
      clear h5
      subst e6
      obtain ⟨e7, h7⟩ := pjP h6
      clear h6
      subst e7
      obtain ⟨e8, h8⟩ := pjP h7
      clear h7
      subst e8
      subst h8
      exact W.iret hx hb hr (fun t ht _ => ⟨⟨_, (), rfl, rfl, by rw [ht]; exact hP, hD⟩, hS.F ht⟩) hS.2.2 dX13_setOut_79
    have lp29 : ∀ (n29 : Nat) (x5_12 : Int32) (mo_bestSize_13 : Int32) (mo_bestLeft_14 : Int32) (mo_row_15 : Nat → Int32) (mo_best_16 : Nat → Int32) (mo_left_17 : Nat → Int32), f_X13_setOut_L29 wa_cities wa_loses p1 p2 p3 0 mo_trouble mo_where n29 x5_12 mo_bestSize_13 mo_bestLeft_14 mo_row_15 mo_best_16 mo_left_17 = some (res, mo_thrown', mo_trouble', mo_where', mo_bestSize', mo_bestLeft', mo_row', mo_best', mo_left') → ∀ (H : Heap) (locs : List Loc), va_P D vwCl ([(a_mo, .inr (13, [.int 0, .int mo_trouble, .int mo_where, .ref a_wa, mo_read, mo_tape, .int mo_taped, .int mo_size, .int mo_spot, .int mo_sort, .int mo_place, .int mo_number, .int mo_fault, .int mo_wrongAt, .int mo_laneTold, .long mo_word, mo_v, mo_x, mo_past, mo_kept, .int mo_acts, .int mo_marks, mo_put, mo_bestPut, .long mo_bestSum, .ref a_mo_row, .ref a_mo_best, .ref a_mo_left, .int mo_bestSize_13, .int mo_bestLeft_14, mo_counts, .int mo_sets, .int mo_foeHarm, .int mo_ownHarm, .int mo_across, .int mo_sumFoe, .int mo_sumOwn, .int mo_sumWon, .int mo_sumAcross])), (a_mo_row, .inl (cy 1, 6, .inl mo_row_15)), (a_mo_best, .inl (cy 1, 6, .inl mo_best_16)), (a_mo_left, .inl (cy 1, 6, .inl mo_left_17)), (a_wa, .inr (12, [.int wa_lanes, .int wa_deep, .int wa_told, .int wa_beasts, .int wa_cities, .int wa_passes, .int wa_turned, .int wa_names, wa_who, wa_strong, wa_kind, wa_lane, wa_mood, wa_price, .ref a_wa_loses, wa_name, wa_nameSort, wa_numberOf])), (a_wa_loses, .inl (cy 1, 36, .inl wa_loses))] ++ X) H → va_D A ([(a_mo, .inr (13, [.int 0, .int mo_trouble, .int mo_where, .ref a_wa, mo_read, mo_tape, .int mo_taped, .int mo_size, .int mo_spot, .int mo_sort, .int mo_place, .int mo_number, .int mo_fault, .int mo_wrongAt, .int mo_laneTold, .long mo_word, mo_v, mo_x, mo_past, mo_kept, .int mo_acts, .int mo_marks, mo_put, mo_bestPut, .long mo_bestSum, .ref a_mo_row, .ref a_mo_best, .ref a_mo_left, .int mo_bestSize_13, .int mo_bestLeft_14, mo_counts, .int mo_sets, .int mo_foeHarm, .int mo_ownHarm, .int mo_across, .int mo_sumFoe, .int mo_sumOwn, .int mo_sumWon, .int mo_sumAcross])), (a_mo_row, .inl (cy 1, 6, .inl mo_row_15)), (a_mo_best, .inl (cy 1, 6, .inl mo_best_16)), (a_mo_left, .inl (cy 1, 6, .inl mo_left_17)), (a_wa, .inr (12, [.int wa_lanes, .int wa_deep, .int wa_told, .int wa_beasts, .int wa_cities, .int wa_passes, .int wa_turned, .int wa_names, wa_who, wa_strong, wa_kind, wa_lane, wa_mood, wa_price, .ref a_wa_loses, wa_name, wa_nameSort, wa_numberOf])), (a_wa_loses, .inl (cy 1, 36, .inl wa_loses))] ++ X) → va_S A s.heap H locs → ∀ ls : Array Slot, lv_has ls 6 [(0, .ref a_mo), (1, .int p1), (2, .int p2), (3, .int p3), (5, .int x5_12)] → W p l e (headSpec wo_X13_setOut ({ frames := 2, cells := 0, slots := 0, locals := 47 })).room s m (([.ref a_mo, .int p1, .int p2, .int p3] : List Value).toArray) below meth c H locs 0 0 (MQ below (va_Qi (fun (r : Int32) (_ : Unit) => r = res) (wB D A ([(a_mo, .inr (13, [.int mo_thrown', .int mo_trouble', .int mo_where', .ref a_wa, mo_read, mo_tape, .int mo_taped, .int mo_size, .int mo_spot, .int mo_sort, .int mo_place, .int mo_number, .int mo_fault, .int mo_wrongAt, .int mo_laneTold, .long mo_word, mo_v, mo_x, mo_past, mo_kept, .int mo_acts, .int mo_marks, mo_put, mo_bestPut, .long mo_bestSum, .ref a_mo_row, .ref a_mo_best, .ref a_mo_left, .int mo_bestSize', .int mo_bestLeft', mo_counts, .int mo_sets, .int mo_foeHarm, .int mo_ownHarm, .int mo_across, .int mo_sumFoe, .int mo_sumOwn, .int mo_sumWon, .int mo_sumAcross])), (a_mo_row, .inl (cy 1, 6, .inl mo_row')), (a_mo_best, .inl (cy 1, 6, .inl mo_best')), (a_mo_left, .inl (cy 1, 6, .inl mo_left')), (a_wa, .inr (12, [.int wa_lanes, .int wa_deep, .int wa_told, .int wa_beasts, .int wa_cities, .int wa_passes, .int wa_turned, .int wa_names, wa_who, wa_strong, wa_kind, wa_lane, wa_mood, wa_price, .ref a_wa_loses, wa_name, wa_nameSort, wa_numberOf])), (a_wa_loses, .inl (cy 1, 36, .inl wa_loses))] ++ X)) A) (([.ref a_mo, .int p1, .int p2, .int p3] : List Value).toArray) s 0 0 A) (F0 m 29 ls []) := by
      intro n29
      induction n29 with
      | zero => intro x5_12 mo_bestSize_13 mo_bestLeft_14 mo_row_15 mo_best_16 mo_left_17 h; exact absurd (show (none : Option (Int32 × Int32 × Int32 × Int32 × Int32 × Int32 × (Nat → Int32) × (Nat → Int32) × (Nat → Int32))) = some _ from h) (by intro q; cases q)
      | succ n29 ih29 =>
        intro x5_12 mo_bestSize_13 mo_bestLeft_14 mo_row_15 mo_best_16 mo_left_17 h H locs hP hD hS ls hl
        have h : f_X13_setOut_b29 wa_cities wa_loses p1 p2 p3 0 mo_trouble mo_where (f_X13_setOut_L29 wa_cities wa_loses p1 p2 p3 0 mo_trouble mo_where n29) x5_12 mo_bestSize_13 mo_bestLeft_14 mo_row_15 mo_best_16 mo_left_17 = some (res, mo_thrown', mo_trouble', mo_where', mo_bestSize', mo_bestLeft', mo_row', mo_best', mo_left') := h
        unfold f_X13_setOut_b29 at h
        refine lv_iload hx hb dX13_setOut_29 (lv_at hl 4 rfl) ?_
        refine lv_sipush (v := 999) hx hb dX13_setOut_31 (by decide) ?_
        refine lv_icmp_gt (tgt := 73) hx hb dX13_setOut_34 (by decide) (fun cd => ?_) (fun cd => ?_)
        · have h := ifT cd h
          exact jn73 mo_bestSize_13 mo_bestLeft_14 mo_row_15 mo_best_16 mo_left_17 h _ _ hP hD hS _ (lv_sub hl [0] rfl)
        · have h := ifF cd h
          refine lv_aload_n hx hb dX13_setOut_37 rfl (lv_at hl 0 rfl) ?_
          refine lv_iload_n hx hb dX13_setOut_38 rfl (lv_at hl 1 rfl) ?_
          refine lv_iload_n hx hb dX13_setOut_39 rfl (lv_at hl 2 rfl) ?_
          refine lv_iload hx hb dX13_setOut_40 (lv_at hl 4 rfl) ?_
          obtain ⟨mo_bestSize_18, mo_bestLeft_19, mo_row_20, mo_best_21, mo_left_22, hc_23, h⟩ := bd5_some h
          refine wVv [.int p1, .int p2, .int x5_12] [] ⟨hx, hb, hml, hown, hts⟩ (c_X13_marches l D cy A X a_mo a_mo_row a_mo_best a_mo_left a_wa a_wa_loses 0 mo_trouble mo_where (mo_read) (mo_tape) mo_taped mo_size mo_spot mo_sort mo_place mo_number mo_fault mo_wrongAt mo_laneTold mo_word (mo_v) (mo_x) (mo_past) (mo_kept) mo_acts mo_marks (mo_put) (mo_bestPut) mo_bestSum mo_bestSize_13 mo_bestLeft_14 (mo_counts) mo_sets mo_foeHarm mo_ownHarm mo_across mo_sumFoe mo_sumOwn mo_sumWon mo_sumAcross mo_row_15 mo_best_16 mo_left_17 wa_lanes wa_deep wa_told wa_beasts wa_cities wa_passes wa_turned wa_names (wa_who) (wa_strong) (wa_kind) (wa_lane) (wa_mood) (wa_price) (wa_name) (wa_nameSort) (wa_numberOf) wa_loses p1 p2 x5_12 mo_bestSize_18 mo_bestLeft_19 mo_row_20 mo_best_21 mo_left_22 hc_23) gX13_setOut_X13_marches rfl hd_X13_marches ⟨Nat.le_of_ble_eq_true rfl, Nat.le_of_ble_eq_true rfl⟩ rfl rfl hKN hP hD hS hA 13 0 rfl rfl rfl hl.1 rfl (Nat.le_of_ble_eq_true rfl) dX13_setOut_42 ⟨Nat.le_of_ble_eq_true rfl, Nat.le_of_ble_eq_true rfl⟩ (fun H locs hP hD hS => ?_)
          refine lv_aload_n hx hb dX13_setOut_45 rfl (lv_at hl 0 rfl) ?_
          refine va_get (D := D) (ci := 13) (C := RX13) (T := TX13) (N := 39) (v := .int mo_bestSize_18) hx hb hX13 (fun _ q => q) hown hK hP 0 rfl rfl 28 (by decide) (hts (.fieldLink RX13 408 "ElephantLineModel" "bestSize" "I") (by decide +kernel)) (fun _ h9 => h9) rfl dX13_setOut_46 ?_
          have jn67 : f_X13_setOut_B67 (f_X13_setOut_L29 wa_cities wa_loses p1 p2 p3 0 mo_trouble mo_where n29) wa_cities wa_loses p1 p2 p3 x5_12 0 mo_trouble mo_where mo_bestSize_18 mo_bestLeft_19 mo_row_20 mo_best_21 mo_left_22 = some (res, mo_thrown', mo_trouble', mo_where', mo_bestSize', mo_bestLeft', mo_row', mo_best', mo_left') → ∀ (H : Heap) (locs : List Loc), va_P D vwCl ([(a_mo, .inr (13, [.int 0, .int mo_trouble, .int mo_where, .ref a_wa, mo_read, mo_tape, .int mo_taped, .int mo_size, .int mo_spot, .int mo_sort, .int mo_place, .int mo_number, .int mo_fault, .int mo_wrongAt, .int mo_laneTold, .long mo_word, mo_v, mo_x, mo_past, mo_kept, .int mo_acts, .int mo_marks, mo_put, mo_bestPut, .long mo_bestSum, .ref a_mo_row, .ref a_mo_best, .ref a_mo_left, .int mo_bestSize_18, .int mo_bestLeft_19, mo_counts, .int mo_sets, .int mo_foeHarm, .int mo_ownHarm, .int mo_across, .int mo_sumFoe, .int mo_sumOwn, .int mo_sumWon, .int mo_sumAcross])), (a_mo_row, .inl (cy 1, 6, .inl mo_row_20)), (a_mo_best, .inl (cy 1, 6, .inl mo_best_21)), (a_mo_left, .inl (cy 1, 6, .inl mo_left_22)), (a_wa, .inr (12, [.int wa_lanes, .int wa_deep, .int wa_told, .int wa_beasts, .int wa_cities, .int wa_passes, .int wa_turned, .int wa_names, wa_who, wa_strong, wa_kind, wa_lane, wa_mood, wa_price, .ref a_wa_loses, wa_name, wa_nameSort, wa_numberOf])), (a_wa_loses, .inl (cy 1, 36, .inl wa_loses))] ++ X) H → va_D A ([(a_mo, .inr (13, [.int 0, .int mo_trouble, .int mo_where, .ref a_wa, mo_read, mo_tape, .int mo_taped, .int mo_size, .int mo_spot, .int mo_sort, .int mo_place, .int mo_number, .int mo_fault, .int mo_wrongAt, .int mo_laneTold, .long mo_word, mo_v, mo_x, mo_past, mo_kept, .int mo_acts, .int mo_marks, mo_put, mo_bestPut, .long mo_bestSum, .ref a_mo_row, .ref a_mo_best, .ref a_mo_left, .int mo_bestSize_18, .int mo_bestLeft_19, mo_counts, .int mo_sets, .int mo_foeHarm, .int mo_ownHarm, .int mo_across, .int mo_sumFoe, .int mo_sumOwn, .int mo_sumWon, .int mo_sumAcross])), (a_mo_row, .inl (cy 1, 6, .inl mo_row_20)), (a_mo_best, .inl (cy 1, 6, .inl mo_best_21)), (a_mo_left, .inl (cy 1, 6, .inl mo_left_22)), (a_wa, .inr (12, [.int wa_lanes, .int wa_deep, .int wa_told, .int wa_beasts, .int wa_cities, .int wa_passes, .int wa_turned, .int wa_names, wa_who, wa_strong, wa_kind, wa_lane, wa_mood, wa_price, .ref a_wa_loses, wa_name, wa_nameSort, wa_numberOf])), (a_wa_loses, .inl (cy 1, 36, .inl wa_loses))] ++ X) → va_S A s.heap H locs → ∀ ls : Array Slot, lv_has ls 6 [(0, .ref a_mo), (1, .int p1), (2, .int p2), (3, .int p3), (5, .int x5_12)] → W p l e (headSpec wo_X13_setOut ({ frames := 2, cells := 0, slots := 0, locals := 47 })).room s m (([.ref a_mo, .int p1, .int p2, .int p3] : List Value).toArray) below meth c H locs 0 0 (MQ below (va_Qi (fun (r : Int32) (_ : Unit) => r = res) (wB D A ([(a_mo, .inr (13, [.int mo_thrown', .int mo_trouble', .int mo_where', .ref a_wa, mo_read, mo_tape, .int mo_taped, .int mo_size, .int mo_spot, .int mo_sort, .int mo_place, .int mo_number, .int mo_fault, .int mo_wrongAt, .int mo_laneTold, .long mo_word, mo_v, mo_x, mo_past, mo_kept, .int mo_acts, .int mo_marks, mo_put, mo_bestPut, .long mo_bestSum, .ref a_mo_row, .ref a_mo_best, .ref a_mo_left, .int mo_bestSize', .int mo_bestLeft', mo_counts, .int mo_sets, .int mo_foeHarm, .int mo_ownHarm, .int mo_across, .int mo_sumFoe, .int mo_sumOwn, .int mo_sumWon, .int mo_sumAcross])), (a_mo_row, .inl (cy 1, 6, .inl mo_row')), (a_mo_best, .inl (cy 1, 6, .inl mo_best')), (a_mo_left, .inl (cy 1, 6, .inl mo_left')), (a_wa, .inr (12, [.int wa_lanes, .int wa_deep, .int wa_told, .int wa_beasts, .int wa_cities, .int wa_passes, .int wa_turned, .int wa_names, wa_who, wa_strong, wa_kind, wa_lane, wa_mood, wa_price, .ref a_wa_loses, wa_name, wa_nameSort, wa_numberOf])), (a_wa_loses, .inl (cy 1, 36, .inl wa_loses))] ++ X)) A) (([.ref a_mo, .int p1, .int p2, .int p3] : List Value).toArray) s 0 0 A) (F0 m 67 ls []) := by
            intro h H locs hP hD hS ls hl
            unfold f_X13_setOut_B67 at h
            refine lv_iinc (v := x5_12 + 1) (lv' := [(5, .int (x5_12 + 1)), (0, .ref a_mo), (1, .int p1), (2, .int p2), (3, .int p3)]) hx hb dX13_setOut_67 hl (k := 4) rfl (by first | rfl | decide) (by decide) rfl (fun ls hl => ?_)
            refine lv_goto (tgt := 29) hx hb dX13_setOut_70 (by decide) ?_
            exact ih29 (x5_12 + 1) mo_bestSize_18 mo_bestLeft_19 mo_row_20 mo_best_21 mo_left_22 h _ _ hP hD hS _ (lv_sub hl [1, 2, 3, 4, 0] rfl)
          refine lv_if_le (tgt := 67) hx hb dX13_setOut_49 (by decide) (fun cd => ?_) (fun cd => ?_)
          · have h := ifT cd h
            exact jn67 h _ _ hP hD hS _ (lv_sub hl [0, 1, 2, 3, 4] rfl)
          · have h := ifF cd h
            refine lv_aload_n hx hb dX13_setOut_52 rfl (lv_at hl 0 rfl) ?_
            refine va_get (D := D) (ci := 13) (C := RX13) (T := TX13) (N := 39) (v := .int mo_bestLeft_19) hx hb hX13 (fun _ q => q) hown hK hP 0 rfl rfl 29 (by decide) (hts (.fieldLink RX13 411 "ElephantLineModel" "bestLeft" "I") (by decide +kernel)) (fun _ h9 => h9) rfl dX13_setOut_53 ?_
            refine lv_iload_n hx hb dX13_setOut_56 rfl (lv_at hl 3 rfl) ?_
            refine lv_icmp_lt (tgt := 67) hx hb dX13_setOut_57 (by decide) (fun cd => ?_) (fun cd => ?_)
            · have h := ifT cd h
              exact jn67 h _ _ hP hD hS _ (lv_sub hl [0, 1, 2, 3, 4] rfl)
            · have h := ifF cd h
              refine lv_aload_n hx hb dX13_setOut_60 rfl (lv_at hl 0 rfl) ?_
              refine lv_iload hx hb dX13_setOut_61 (lv_at hl 4 rfl) ?_
              obtain ⟨r_24, mo_trouble_25, mo_where_26, hc_27, h⟩ := bd3_some h
              refine wVi [.int x5_12] [] ⟨hx, hb, hml, hown, hts⟩ (c_X13_good l D cy A ([(a_mo_row, .inl (cy 1, 6, .inl mo_row_20)), (a_mo_best, .inl (cy 1, 6, .inl mo_best_21)), (a_mo_left, .inl (cy 1, 6, .inl mo_left_22)), (a_wa, .inr (12, [.int wa_lanes, .int wa_deep, .int wa_told, .int wa_beasts, .int wa_cities, .int wa_passes, .int wa_turned, .int wa_names, wa_who, wa_strong, wa_kind, wa_lane, wa_mood, wa_price, .ref a_wa_loses, wa_name, wa_nameSort, wa_numberOf])), (a_wa_loses, .inl (cy 1, 36, .inl wa_loses))] ++ X) a_mo 0 mo_trouble mo_where (.ref a_wa) (mo_read) (mo_tape) mo_taped mo_size mo_spot mo_sort mo_place mo_number mo_fault mo_wrongAt mo_laneTold mo_word (mo_v) (mo_x) (mo_past) (mo_kept) mo_acts mo_marks (mo_put) (mo_bestPut) mo_bestSum (.ref a_mo_row) (.ref a_mo_best) (.ref a_mo_left) mo_bestSize_18 mo_bestLeft_19 (mo_counts) mo_sets mo_foeHarm mo_ownHarm mo_across mo_sumFoe mo_sumOwn mo_sumWon mo_sumAcross x5_12 r_24 mo_trouble_25 mo_where_26 hc_27) gX13_setOut_X13_good rfl hd_X13_good ⟨Nat.le_of_ble_eq_true rfl, Nat.le_of_ble_eq_true rfl⟩ rfl rfl hKN (pX3 hP [0, 1, 2, 3, 4, 5] rfl) (dX3 hD [0, 1, 2, 3, 4, 5] rfl rfl) hS hA 13 0 rfl rfl rfl hl.1 rfl (Nat.le_of_ble_eq_true rfl) dX13_setOut_63 ⟨Nat.le_of_ble_eq_true rfl, Nat.le_of_ble_eq_true rfl⟩ (fun H locs hP hD hS => ?_)
              have hP := pX4 (L1 := [(a_mo, .inr (13, [.int 0, .int mo_trouble_25, .int mo_where_26, .ref a_wa, mo_read, mo_tape, .int mo_taped, .int mo_size, .int mo_spot, .int mo_sort, .int mo_place, .int mo_number, .int mo_fault, .int mo_wrongAt, .int mo_laneTold, .long mo_word, mo_v, mo_x, mo_past, mo_kept, .int mo_acts, .int mo_marks, mo_put, mo_bestPut, .long mo_bestSum, .ref a_mo_row, .ref a_mo_best, .ref a_mo_left, .int mo_bestSize_18, .int mo_bestLeft_19, mo_counts, .int mo_sets, .int mo_foeHarm, .int mo_ownHarm, .int mo_across, .int mo_sumFoe, .int mo_sumOwn, .int mo_sumWon, .int mo_sumAcross])), (a_mo_row, .inl (cy 1, 6, .inl mo_row_20)), (a_mo_best, .inl (cy 1, 6, .inl mo_best_21)), (a_mo_left, .inl (cy 1, 6, .inl mo_left_22)), (a_wa, .inr (12, [.int wa_lanes, .int wa_deep, .int wa_told, .int wa_beasts, .int wa_cities, .int wa_passes, .int wa_turned, .int wa_names, wa_who, wa_strong, wa_kind, wa_lane, wa_mood, wa_price, .ref a_wa_loses, wa_name, wa_nameSort, wa_numberOf])), (a_wa_loses, .inl (cy 1, 36, .inl wa_loses))]) hP [0, 1, 2, 3, 4, 5] rfl
              have hD := dX4 (L1 := [(a_mo, .inr (13, [.int 0, .int mo_trouble_25, .int mo_where_26, .ref a_wa, mo_read, mo_tape, .int mo_taped, .int mo_size, .int mo_spot, .int mo_sort, .int mo_place, .int mo_number, .int mo_fault, .int mo_wrongAt, .int mo_laneTold, .long mo_word, mo_v, mo_x, mo_past, mo_kept, .int mo_acts, .int mo_marks, mo_put, mo_bestPut, .long mo_bestSum, .ref a_mo_row, .ref a_mo_best, .ref a_mo_left, .int mo_bestSize_18, .int mo_bestLeft_19, mo_counts, .int mo_sets, .int mo_foeHarm, .int mo_ownHarm, .int mo_across, .int mo_sumFoe, .int mo_sumOwn, .int mo_sumWon, .int mo_sumAcross])), (a_mo_row, .inl (cy 1, 6, .inl mo_row_20)), (a_mo_best, .inl (cy 1, 6, .inl mo_best_21)), (a_mo_left, .inl (cy 1, 6, .inl mo_left_22)), (a_wa, .inr (12, [.int wa_lanes, .int wa_deep, .int wa_told, .int wa_beasts, .int wa_cities, .int wa_passes, .int wa_turned, .int wa_names, wa_who, wa_strong, wa_kind, wa_lane, wa_mood, wa_price, .ref a_wa_loses, wa_name, wa_nameSort, wa_numberOf])), (a_wa_loses, .inl (cy 1, 36, .inl wa_loses))]) hD [0, 1, 2, 3, 4, 5] rfl rfl
              have h0 := Option.some.inj h
              clear h
              obtain ⟨e1, h1⟩ := pjP h0
              clear h0
              subst e1
              obtain ⟨e2, h2⟩ := pjP h1
              clear h1
              subst e2
              obtain ⟨e3, h3⟩ := pjP h2
              clear h2
              subst e3
              obtain ⟨e4, h4⟩ := pjP h3
              clear h3
              subst e4
              obtain ⟨e5, h5⟩ := pjP h4
              clear h4
              subst e5
              obtain ⟨e6, h6⟩ := pjP h5
              clear h5
              subst e6
              obtain ⟨e7, h7⟩ := pjP h6
              clear h6
              subst e7
              obtain ⟨e8, h8⟩ := pjP h7
              clear h7
              subst e8
              subst h8
              exact W.iret hx hb hr (fun t ht _ => ⟨⟨_, (), rfl, rfl, by rw [ht]; exact hP, hD⟩, hS.F ht⟩) hS.2.2 dX13_setOut_66
    exact lp29 fuelN (0 : Int32) mo_bestSize mo_bestLeft mo_row mo_best mo_left h _ _ hP hD hS _ (lv_sub hl [2, 3, 4, 5, 0] rfl)
  · have h := ifF cd h
    refine lv_aload_n hx hb dX13_setOut_19 rfl (lv_at hl 1 rfl) ?_
    refine lv_iload hx hb dX13_setOut_20 (lv_at hl 0 rfl) ?_
    obtain ⟨r_28, mo_trouble_29, mo_where_30, hc_31, h⟩ := bd3_some h
    refine wVi [.int r_1] [] ⟨hx, hb, hml, hown, hts⟩ (c_X13_refused l D cy A ([(a_mo_row, .inl (cy 1, 6, .inl mo_row)), (a_mo_best, .inl (cy 1, 6, .inl mo_best)), (a_mo_left, .inl (cy 1, 6, .inl mo_left)), (a_wa, .inr (12, [.int wa_lanes, .int wa_deep, .int wa_told, .int wa_beasts, .int wa_cities, .int wa_passes, .int wa_turned, .int wa_names, wa_who, wa_strong, wa_kind, wa_lane, wa_mood, wa_price, .ref a_wa_loses, wa_name, wa_nameSort, wa_numberOf])), (a_wa_loses, .inl (cy 1, 36, .inl wa_loses))] ++ X) a_mo 0 mo_trouble mo_where (.ref a_wa) (mo_read) (mo_tape) mo_taped mo_size mo_spot mo_sort mo_place mo_number mo_fault mo_wrongAt mo_laneTold mo_word (mo_v) (mo_x) (mo_past) (mo_kept) mo_acts mo_marks (mo_put) (mo_bestPut) mo_bestSum (.ref a_mo_row) (.ref a_mo_best) (.ref a_mo_left) mo_bestSize mo_bestLeft (mo_counts) mo_sets mo_foeHarm mo_ownHarm mo_across mo_sumFoe mo_sumOwn mo_sumWon mo_sumAcross r_1 r_28 mo_trouble_29 mo_where_30 hc_31) gX13_setOut_X13_refused rfl hd_X13_refused ⟨Nat.le_of_ble_eq_true rfl, Nat.le_of_ble_eq_true rfl⟩ rfl rfl hKN (pX3 hP [0, 1, 2, 3, 4, 5] rfl) (dX3 hD [0, 1, 2, 3, 4, 5] rfl rfl) hS hA 13 0 rfl rfl rfl hl.1 rfl (Nat.le_of_ble_eq_true rfl) dX13_setOut_22 ⟨Nat.le_of_ble_eq_true rfl, Nat.le_of_ble_eq_true rfl⟩ (fun H locs hP hD hS => ?_)
    have hP := pX4 (L1 := [(a_mo, .inr (13, [.int 0, .int mo_trouble_29, .int mo_where_30, .ref a_wa, mo_read, mo_tape, .int mo_taped, .int mo_size, .int mo_spot, .int mo_sort, .int mo_place, .int mo_number, .int mo_fault, .int mo_wrongAt, .int mo_laneTold, .long mo_word, mo_v, mo_x, mo_past, mo_kept, .int mo_acts, .int mo_marks, mo_put, mo_bestPut, .long mo_bestSum, .ref a_mo_row, .ref a_mo_best, .ref a_mo_left, .int mo_bestSize, .int mo_bestLeft, mo_counts, .int mo_sets, .int mo_foeHarm, .int mo_ownHarm, .int mo_across, .int mo_sumFoe, .int mo_sumOwn, .int mo_sumWon, .int mo_sumAcross])), (a_mo_row, .inl (cy 1, 6, .inl mo_row)), (a_mo_best, .inl (cy 1, 6, .inl mo_best)), (a_mo_left, .inl (cy 1, 6, .inl mo_left)), (a_wa, .inr (12, [.int wa_lanes, .int wa_deep, .int wa_told, .int wa_beasts, .int wa_cities, .int wa_passes, .int wa_turned, .int wa_names, wa_who, wa_strong, wa_kind, wa_lane, wa_mood, wa_price, .ref a_wa_loses, wa_name, wa_nameSort, wa_numberOf])), (a_wa_loses, .inl (cy 1, 36, .inl wa_loses))]) hP [0, 1, 2, 3, 4, 5] rfl
    have hD := dX4 (L1 := [(a_mo, .inr (13, [.int 0, .int mo_trouble_29, .int mo_where_30, .ref a_wa, mo_read, mo_tape, .int mo_taped, .int mo_size, .int mo_spot, .int mo_sort, .int mo_place, .int mo_number, .int mo_fault, .int mo_wrongAt, .int mo_laneTold, .long mo_word, mo_v, mo_x, mo_past, mo_kept, .int mo_acts, .int mo_marks, mo_put, mo_bestPut, .long mo_bestSum, .ref a_mo_row, .ref a_mo_best, .ref a_mo_left, .int mo_bestSize, .int mo_bestLeft, mo_counts, .int mo_sets, .int mo_foeHarm, .int mo_ownHarm, .int mo_across, .int mo_sumFoe, .int mo_sumOwn, .int mo_sumWon, .int mo_sumAcross])), (a_mo_row, .inl (cy 1, 6, .inl mo_row)), (a_mo_best, .inl (cy 1, 6, .inl mo_best)), (a_mo_left, .inl (cy 1, 6, .inl mo_left)), (a_wa, .inr (12, [.int wa_lanes, .int wa_deep, .int wa_told, .int wa_beasts, .int wa_cities, .int wa_passes, .int wa_turned, .int wa_names, wa_who, wa_strong, wa_kind, wa_lane, wa_mood, wa_price, .ref a_wa_loses, wa_name, wa_nameSort, wa_numberOf])), (a_wa_loses, .inl (cy 1, 36, .inl wa_loses))]) hD [0, 1, 2, 3, 4, 5] rfl rfl
    have h0 := Option.some.inj h
    clear h
    obtain ⟨e1, h1⟩ := pjP h0
    clear h0
    subst e1
    obtain ⟨e2, h2⟩ := pjP h1
    clear h1
    subst e2
    obtain ⟨e3, h3⟩ := pjP h2
    clear h2
    subst e3
    obtain ⟨e4, h4⟩ := pjP h3
    clear h3
    subst e4
    obtain ⟨e5, h5⟩ := pjP h4
    clear h4
    subst e5
    obtain ⟨e6, h6⟩ := pjP h5
    clear h5
    subst e6
    obtain ⟨e7, h7⟩ := pjP h6
    clear h6
    subst e7
    obtain ⟨e8, h8⟩ := pjP h7
    clear h7
    subst e8
    subst h8
    exact W.iret hx hb hr (fun t ht _ => ⟨⟨_, (), rfl, rfl, by rw [ht]; exact hP, hD⟩, hS.F ht⟩) hS.2.2 dX13_setOut_25
theorem hd_X13_turnedOf : yX13_turnedOf.cls = RX13 ∧ yX13_turnedOf.cls ≠ "java/lang/invoke/MethodHandle" ∧ yX13_turnedOf.cls ≠ "java/lang/invoke/VarHandle" ∧ (parseMethodDescriptor yX13_turnedOf.desc).map (fun d => d.parameters.length) = some 1 := by decide +kernel
set_option maxHeartbeats 4000000 in
set_option maxRecDepth 100000 in
theorem c_X13_turnedOf (l : Launch) (D : va_G) (cy : Nat → ClassId) (a_mo a_mo_v a_wa a_wa_kind a_wa_mood : Nat) (mo_thrown : Int32) (mo_trouble : Int32) (mo_where : Int32) (mo_read : Value) (mo_tape : Value) (mo_taped : Int32) (mo_size : Int32) (mo_spot : Int32) (mo_sort : Int32) (mo_place : Int32) (mo_number : Int32) (mo_fault : Int32) (mo_wrongAt : Int32) (mo_laneTold : Int32) (mo_word : Int64) (mo_x : Value) (mo_past : Value) (mo_kept : Value) (mo_acts : Int32) (mo_marks : Int32) (mo_put : Value) (mo_bestPut : Value) (mo_bestSum : Int64) (mo_row : Value) (mo_best : Value) (mo_left : Value) (mo_bestSize : Int32) (mo_bestLeft : Int32) (mo_counts : Value) (mo_sets : Int32) (mo_foeHarm : Int32) (mo_ownHarm : Int32) (mo_across : Int32) (mo_sumFoe : Int32) (mo_sumOwn : Int32) (mo_sumWon : Int32) (mo_sumAcross : Int32) (mo_v : Nat → Int32) (wa_lanes : Int32) (wa_deep : Int32) (wa_told : Int32) (wa_beasts : Int32) (wa_cities : Int32) (wa_passes : Int32) (wa_turned : Int32) (wa_names : Int32) (wa_who : Value) (wa_strong : Value) (wa_lane : Value) (wa_price : Value) (wa_loses : Value) (wa_name : Value) (wa_nameSort : Value) (wa_numberOf : Value) (wa_kind : Nat → Int32) (wa_mood : Nat → Int32) (p1 : Int32) (res : Int32) (h : f_X13_turnedOf mo_v wa_beasts wa_kind wa_mood p1 = some (res)) : Met l yX13_turnedOf wo_X13_turnedOf ({ frames := 2, cells := 0, slots := 0, locals := 44 }) (roPc D cy [.ref a_mo, .int p1] [(a_mo, .inr (13, [.int mo_thrown, .int mo_trouble, .int mo_where, .ref a_wa, mo_read, mo_tape, .int mo_taped, .int mo_size, .int mo_spot, .int mo_sort, .int mo_place, .int mo_number, .int mo_fault, .int mo_wrongAt, .int mo_laneTold, .long mo_word, .ref a_mo_v, mo_x, mo_past, mo_kept, .int mo_acts, .int mo_marks, mo_put, mo_bestPut, .long mo_bestSum, mo_row, mo_best, mo_left, .int mo_bestSize, .int mo_bestLeft, mo_counts, .int mo_sets, .int mo_foeHarm, .int mo_ownHarm, .int mo_across, .int mo_sumFoe, .int mo_sumOwn, .int mo_sumWon, .int mo_sumAcross])), (a_mo_v, .inl (cy 1, 19, .inl mo_v)), (a_wa, .inr (12, [.int wa_lanes, .int wa_deep, .int wa_told, .int wa_beasts, .int wa_cities, .int wa_passes, .int wa_turned, .int wa_names, wa_who, wa_strong, .ref a_wa_kind, wa_lane, .ref a_wa_mood, wa_price, wa_loses, wa_name, wa_nameSort, wa_numberOf])), (a_wa_kind, .inl (cy 1, 5, .inl wa_kind)), (a_wa_mood, .inl (cy 1, 5, .inl wa_mood))]) (vp_Si (fun r => r = res)) 0 0 (fun _ => False) := by
  refine Met.ofW (cc := cX13_turnedOf) (maxL := 5) (ret := (some .int)) (by decide) rfl ?_
  intro p e s m args below meth c s₁ B hml hv
  obtain ⟨rfl, hP, hKN⟩ := hv
  have hK := hKN.1
  have hx := B.exec
  have hb := B.bytes
  have hr := B.returns
  have hts := wt_X13_turnedOf hKN.2.2 (([.ref a_mo, .int p1] : List Value).toArray)
  have hown : s.vm.findClass RX13 = some m.cls := findClass_of_methodNamed B.named
  have hlocks := B.notSynchronized
  have hX12 := wc_X12 hKN.2.2 (([.ref a_mo, .int p1] : List Value).toArray)
  have hX13 := wc_X13 hKN.2.2 (([.ref a_mo, .int p1] : List Value).toArray)
  have hl := lv_entry ([.ref a_mo, .int p1]) (n := 5) (Nat.le_of_ble_eq_true rfl)
  rw [lg_entry_eq]
  generalize (lg_sl ([.ref a_mo, .int p1]) ++ List.replicate (5 - (lg_sl ([.ref a_mo, .int p1])).length) Slot.unset).toArray = ls at hl ⊢
  have hl : lv_has ls 5 [(0, .ref a_mo), (1, .int p1)] := hl
  unfold f_X13_turnedOf at h
  refine lv_iconst (v := 0) hx hb dX13_turnedOf_0 (by decide) ?_
  refine lv_istore_n (lv' := [(2, .int 0), (0, .ref a_mo), (1, .int p1)]) hx hb dX13_turnedOf_1 rfl hl (by decide) rfl (fun ls hl => ?_)
  refine lv_iconst (v := 0) hx hb dX13_turnedOf_2 (by decide) ?_
  refine lv_istore_n (lv' := [(3, .int 0), (2, .int 0), (0, .ref a_mo), (1, .int p1)]) hx hb dX13_turnedOf_3 rfl hl (by decide) rfl (fun ls hl => ?_)
  have lp4 : ∀ (n4 : Nat) (x2_1 : Int32) (x3_2 : Int32), f_X13_turnedOf_L4 mo_v wa_beasts wa_kind wa_mood p1 n4 x2_1 x3_2 = some (res) → ∀ ls : Array Slot, lv_has ls 5 [(0, .ref a_mo), (1, .int p1), (2, .int x2_1), (3, .int x3_2)] → W p l e (headSpec wo_X13_turnedOf ({ frames := 2, cells := 0, slots := 0, locals := 44 })).room s m (([.ref a_mo, .int p1] : List Value).toArray) below meth c s.heap [] 0 0 (MQ below (vp_Si (fun r => r = res)) (([.ref a_mo, .int p1] : List Value).toArray) s 0 0 (fun _ => False)) (F0 m 4 ls []) := by
    intro n4
    induction n4 with
    | zero => intro x2_1 x3_2 h; exact absurd (show (none : Option (Int32)) = some _ from h) (by intro q; cases q)
    | succ n4 ih4 =>
      intro x2_1 x3_2 h ls hl
      have h : f_X13_turnedOf_b4 mo_v wa_beasts wa_kind wa_mood p1 (f_X13_turnedOf_L4 mo_v wa_beasts wa_kind wa_mood p1 n4) x2_1 x3_2 = some (res) := h
      unfold f_X13_turnedOf_b4 at h
      refine lv_iload_n hx hb dX13_turnedOf_4 rfl (lv_at hl 3 rfl) ?_
      refine lv_aload_n hx hb dX13_turnedOf_5 rfl (lv_at hl 0 rfl) ?_
      refine va_get (D := D) (ci := 13) (C := RX13) (T := TX13) (N := 39) (v := .ref a_wa) hx hb hX13 (fun _ q => q) hown hK hP 0 rfl rfl 3 (by decide) (hts (.fieldLink RX13 301 "ElephantLineModel" "war" "LElephantLineModel$War;") (by decide +kernel)) (fun _ h9 => h9) rfl dX13_turnedOf_6 ?_
      refine va_getN (D := D) (ci := 12) (C := RX12) (T := TX12) (N := 18) (v := .int wa_beasts) hx hb hX12 (fun _ q => q) hown hK hP 2 rfl rfl 3 (by decide) (va_Nw.use rfl (hKN.2.1.1 ("ElephantLineModel", 195, "ElephantLineModel$War", "beasts", "I", "ElephantLineModel") (List.mem_of_getElem? (i := 70) rfl))) (fun _ h9 => h9) rfl dX13_turnedOf_9 ?_
      refine lv_icmp_ge (tgt := 84) hx hb dX13_turnedOf_12 (by decide) (fun cd => ?_) (fun cd => ?_)
      · have h := ifT cd h
        refine lv_iload_n hx hb dX13_turnedOf_84 rfl (lv_at hl 2 rfl) ?_
        exact W.iret (v := x2_1) hx hb hr (fun t ht _ => ⟨_, rfl, Option.some.inj h, ht⟩) (fun _ q => by cases q) dX13_turnedOf_85
      · have h := ifF cd h
        refine lv_aload_n hx hb dX13_turnedOf_15 rfl (lv_at hl 0 rfl) ?_
        refine va_get (D := D) (ci := 13) (C := RX13) (T := TX13) (N := 39) (v := .ref a_mo_v) hx hb hX13 (fun _ q => q) hown hK hP 0 rfl rfl 16 (by decide) (hts (.fieldLink RX13 17 "ElephantLineModel" "v" "[I") (by decide +kernel)) (fun _ h9 => h9) rfl dX13_turnedOf_16 ?_
        refine lv_iconst (v := 0) hx hb dX13_turnedOf_19 (by decide) ?_
        refine lv_iload_n hx hb dX13_turnedOf_20 rfl (lv_at hl 3 rfl) ?_
        refine lv_iadd hx hb dX13_turnedOf_21 ?_
        obtain ⟨i_3, h⟩ := gIn_some h
        refine va_iald hx hb hK hP 1 1 rfl rfl i_3 dX13_turnedOf_22 ?_
        refine lv_aload_n hx hb dX13_turnedOf_23 rfl (lv_at hl 0 rfl) ?_
        refine va_get (D := D) (ci := 13) (C := RX13) (T := TX13) (N := 39) (v := .ref a_mo_v) hx hb hX13 (fun _ q => q) hown hK hP 0 rfl rfl 16 (by decide) (hts (.fieldLink RX13 17 "ElephantLineModel" "v" "[I") (by decide +kernel)) (fun _ h9 => h9) rfl dX13_turnedOf_24 ?_
        refine lv_iconst (v := 0) hx hb dX13_turnedOf_27 (by decide) ?_
        refine lv_iload_n hx hb dX13_turnedOf_28 rfl (lv_at hl 1 rfl) ?_
        refine lv_iadd hx hb dX13_turnedOf_29 ?_
        obtain ⟨i_4, h⟩ := gIn_some h
        refine va_iald hx hb hK hP 1 1 rfl rfl i_4 dX13_turnedOf_30 ?_
        refine lv_isub hx hb dX13_turnedOf_31 ?_
        refine lv_istore (lv' := [(4, .int ((mo_v (0 + x3_2).toNatClampNeg) - (mo_v (0 + p1).toNatClampNeg))), (0, .ref a_mo), (1, .int p1), (2, .int x2_1), (3, .int x3_2)]) hx hb dX13_turnedOf_32 hl (by decide) rfl (fun ls hl => ?_)
        refine lv_aload_n hx hb dX13_turnedOf_34 rfl (lv_at hl 1 rfl) ?_
        refine lv_iload_n hx hb dX13_turnedOf_35 rfl (lv_at hl 2 rfl) ?_
        obtain ⟨r_5, hc_6, h⟩ := bd1_some h
        refine kVb [.int p1] [] ⟨hx, hb, hml, hown, hts⟩ (c_X13_isDead l D cy a_mo a_mo_v mo_thrown mo_trouble mo_where (.ref a_wa) (mo_read) (mo_tape) mo_taped mo_size mo_spot mo_sort mo_place mo_number mo_fault mo_wrongAt mo_laneTold mo_word (mo_x) (mo_past) (mo_kept) mo_acts mo_marks (mo_put) (mo_bestPut) mo_bestSum (mo_row) (mo_best) (mo_left) mo_bestSize mo_bestLeft (mo_counts) mo_sets mo_foeHarm mo_ownHarm mo_across mo_sumFoe mo_sumOwn mo_sumWon mo_sumAcross mo_v p1 r_5 hc_6) gX13_turnedOf_X13_isDead rfl hd_X13_isDead ⟨Nat.le_of_ble_eq_true rfl, Nat.le_of_ble_eq_true rfl⟩ rfl rfl hKN (hP.sub [0, 1] rfl) 13 0 rfl rfl rfl hl.1 rfl (Nat.le_of_ble_eq_true rfl) dX13_turnedOf_36 ⟨Nat.le_of_ble_eq_true rfl, Nat.le_of_ble_eq_true rfl⟩ (fun nb_7 => ?_)
        have jn78 : ∀ (x2_8 : Int32), f_X13_turnedOf_B78 (f_X13_turnedOf_L4 mo_v wa_beasts wa_kind wa_mood p1 n4) mo_v wa_beasts wa_kind wa_mood p1 x2_8 x3_2 = some (res) → ∀ ls : Array Slot, lv_has ls 5 [(0, .ref a_mo), (1, .int p1), (2, .int x2_8), (3, .int x3_2)] → W p l e (headSpec wo_X13_turnedOf ({ frames := 2, cells := 0, slots := 0, locals := 44 })).room s m (([.ref a_mo, .int p1] : List Value).toArray) below meth c s.heap [] 0 0 (MQ below (vp_Si (fun r => r = res)) (([.ref a_mo, .int p1] : List Value).toArray) s 0 0 (fun _ => False)) (F0 m 78 ls []) := by
          intro x2_8 h ls hl
          unfold f_X13_turnedOf_B78 at h
          refine lv_iinc (v := x3_2 + 1) (lv' := [(3, .int (x3_2 + 1)), (0, .ref a_mo), (1, .int p1), (2, .int x2_8)]) hx hb dX13_turnedOf_78 hl (k := 3) rfl (by first | rfl | decide) (by decide) rfl (fun ls hl => ?_)
          refine lv_goto (tgt := 4) hx hb dX13_turnedOf_81 (by decide) ?_
          exact ih4 x2_8 (x3_2 + 1) h _ (lv_sub hl [1, 2, 3, 0] rfl)
        refine lv_if_ne (tgt := 78) hx hb dX13_turnedOf_39 (by decide) (fun cd => ?_) (fun cd => ?_)
        · have h := ifF cd h
          exact jn78 x2_1 h _ (lv_sub hl [1, 2, 3, 4] rfl)
        · have h := ifT cd h
          refine lv_aload_n hx hb dX13_turnedOf_42 rfl (lv_at hl 1 rfl) ?_
          refine lv_iload_n hx hb dX13_turnedOf_43 rfl (lv_at hl 4 rfl) ?_
          obtain ⟨r_9, hc_10, h⟩ := bd1_some h
          refine kVb [.int x3_2] [] ⟨hx, hb, hml, hown, hts⟩ (c_X13_isDead l D cy a_mo a_mo_v mo_thrown mo_trouble mo_where (.ref a_wa) (mo_read) (mo_tape) mo_taped mo_size mo_spot mo_sort mo_place mo_number mo_fault mo_wrongAt mo_laneTold mo_word (mo_x) (mo_past) (mo_kept) mo_acts mo_marks (mo_put) (mo_bestPut) mo_bestSum (mo_row) (mo_best) (mo_left) mo_bestSize mo_bestLeft (mo_counts) mo_sets mo_foeHarm mo_ownHarm mo_across mo_sumFoe mo_sumOwn mo_sumWon mo_sumAcross mo_v x3_2 r_9 hc_10) gX13_turnedOf_X13_isDead rfl hd_X13_isDead ⟨Nat.le_of_ble_eq_true rfl, Nat.le_of_ble_eq_true rfl⟩ rfl rfl hKN (hP.sub [0, 1] rfl) 13 0 rfl rfl rfl hl.1 rfl (Nat.le_of_ble_eq_true rfl) dX13_turnedOf_44 ⟨Nat.le_of_ble_eq_true rfl, Nat.le_of_ble_eq_true rfl⟩ (fun nb_11 => ?_)
          refine lv_if_ne (tgt := 78) hx hb dX13_turnedOf_47 (by decide) (fun cd => ?_) (fun cd => ?_)
          · have h := ifF cd h
            exact jn78 x2_1 h _ (lv_sub hl [1, 2, 3, 4] rfl)
          · have h := ifT cd h
            refine lv_iload hx hb dX13_turnedOf_50 (lv_at hl 0 rfl) ?_
            refine lv_iconst (v := (-1)) hx hb dX13_turnedOf_52 (by decide) ?_
            refine lv_icmp_lt (tgt := 78) hx hb dX13_turnedOf_53 (by decide) (fun cd => ?_) (fun cd => ?_)
            · have h := ifT cd h
              exact jn78 x2_1 h _ (lv_sub hl [1, 2, 3, 4] rfl)
            · have h := ifF cd h
              refine lv_iload hx hb dX13_turnedOf_56 (lv_at hl 0 rfl) ?_
              refine lv_iconst (v := 1) hx hb dX13_turnedOf_58 (by decide) ?_
              refine lv_icmp_gt (tgt := 78) hx hb dX13_turnedOf_59 (by decide) (fun cd => ?_) (fun cd => ?_)
              · have h := ifT cd h
                exact jn78 x2_1 h _ (lv_sub hl [1, 2, 3, 4] rfl)
              · have h := ifF cd h
                refine lv_aload_n hx hb dX13_turnedOf_62 rfl (lv_at hl 1 rfl) ?_
                refine lv_iload_n hx hb dX13_turnedOf_63 rfl (lv_at hl 4 rfl) ?_
                obtain ⟨r_12, hc_13, h⟩ := bd1_some h
                refine kVi [.int x3_2] [] ⟨hx, hb, hml, hown, hts⟩ (c_X13_holdOf l D cy a_mo a_mo_v a_wa a_wa_kind a_wa_mood mo_thrown mo_trouble mo_where (mo_read) (mo_tape) mo_taped mo_size mo_spot mo_sort mo_place mo_number mo_fault mo_wrongAt mo_laneTold mo_word (mo_x) (mo_past) (mo_kept) mo_acts mo_marks (mo_put) (mo_bestPut) mo_bestSum (mo_row) (mo_best) (mo_left) mo_bestSize mo_bestLeft (mo_counts) mo_sets mo_foeHarm mo_ownHarm mo_across mo_sumFoe mo_sumOwn mo_sumWon mo_sumAcross mo_v wa_lanes wa_deep wa_told wa_beasts wa_cities wa_passes wa_turned wa_names (wa_who) (wa_strong) (wa_lane) (wa_price) (wa_loses) (wa_name) (wa_nameSort) (wa_numberOf) wa_kind wa_mood x3_2 r_12 hc_13) gX13_turnedOf_X13_holdOf rfl hd_X13_holdOf ⟨Nat.le_of_ble_eq_true rfl, Nat.le_of_ble_eq_true rfl⟩ rfl rfl hKN (hP.sub [0, 1, 2, 3, 4] rfl) 13 0 rfl rfl rfl hl.1 rfl (Nat.le_of_ble_eq_true rfl) dX13_turnedOf_64 ⟨Nat.le_of_ble_eq_true rfl, Nat.le_of_ble_eq_true rfl⟩ ?_
                refine lv_bipush (v := 50) hx hb dX13_turnedOf_67 (by decide) ?_
                refine lv_icmp_ge (tgt := 78) hx hb dX13_turnedOf_69 (by decide) (fun cd => ?_) (fun cd => ?_)
                · have h := ifT cd h
                  exact jn78 x2_1 h _ (lv_sub hl [1, 2, 3, 4] rfl)
                · have h := ifF cd h
                  refine lv_iload_n hx hb dX13_turnedOf_72 rfl (lv_at hl 3 rfl) ?_
                  refine lv_iconst (v := 1) hx hb dX13_turnedOf_73 (by decide) ?_
                  refine lv_iload_n hx hb dX13_turnedOf_74 rfl (lv_at hl 4 rfl) ?_
                  refine lv_ishl hx hb dX13_turnedOf_75 ?_
                  refine lv_ior hx hb dX13_turnedOf_76 ?_
                  refine lv_istore_n (lv' := [(2, .int (x2_1 ||| ((1 : Int32) <<< (x3_2 &&& 31)))), (4, .int ((mo_v (0 + x3_2).toNatClampNeg) - (mo_v (0 + p1).toNatClampNeg))), (0, .ref a_mo), (1, .int p1), (3, .int x3_2)]) hx hb dX13_turnedOf_77 rfl hl (by decide) rfl (fun ls hl => ?_)
                  exact jn78 (x2_1 ||| ((1 : Int32) <<< (x3_2 &&& 31))) h _ (lv_sub hl [2, 3, 0, 4] rfl)
  exact lp4 fuelN (0 : Int32) (0 : Int32) h _ (lv_sub hl [2, 3, 1, 0] rfl)
