theorem hd_X13_hammer : yX13_hammer.cls = RX13 ∧ yX13_hammer.cls ≠ "java/lang/invoke/MethodHandle" ∧ yX13_hammer.cls ≠ "java/lang/invoke/VarHandle" ∧ (parseMethodDescriptor yX13_hammer.desc).map (fun d => d.parameters.length) = some 1 := by decide +kernel
set_option maxHeartbeats 4000000 in
set_option maxRecDepth 100000 in
theorem c_X13_hammer (l : Launch) (D : va_G) (cy : Nat → ClassId) (A : Nat → Prop) (X : va_W) (a_mo a_mo_v a_mo_past a_wa : Nat) (mo_thrown : Int32) (mo_trouble : Int32) (mo_where : Int32) (mo_read : Value) (mo_tape : Value) (mo_taped : Int32) (mo_size : Int32) (mo_spot : Int32) (mo_sort : Int32) (mo_place : Int32) (mo_number : Int32) (mo_fault : Int32) (mo_wrongAt : Int32) (mo_laneTold : Int32) (mo_word : Int64) (mo_x : Value) (mo_kept : Value) (mo_acts : Int32) (mo_marks : Int32) (mo_put : Value) (mo_bestPut : Value) (mo_bestSum : Int64) (mo_row : Value) (mo_best : Value) (mo_left : Value) (mo_bestSize : Int32) (mo_bestLeft : Int32) (mo_counts : Value) (mo_sets : Int32) (mo_foeHarm : Int32) (mo_ownHarm : Int32) (mo_across : Int32) (mo_sumFoe : Int32) (mo_sumOwn : Int32) (mo_sumWon : Int32) (mo_sumAcross : Int32) (mo_v : Nat → Int32) (mo_past : Nat → Int32) (wa_lanes : Int32) (wa_deep : Int32) (wa_told : Int32) (wa_beasts : Int32) (wa_cities : Int32) (wa_passes : Int32) (wa_turned : Int32) (wa_names : Int32) (wa_who : Value) (wa_strong : Value) (wa_kind : Value) (wa_lane : Value) (wa_mood : Value) (wa_price : Value) (wa_loses : Value) (wa_name : Value) (wa_nameSort : Value) (wa_numberOf : Value) (p1 : Int32) (res : Int32) (mo_thrown' : Int32) (mo_trouble' : Int32) (mo_where' : Int32) (mo_acts' : Int32) (mo_v' : Nat → Int32) (mo_past' : Nat → Int32) (h : f_X13_hammer mo_thrown mo_trouble mo_where mo_acts mo_v mo_past wa_beasts p1 = some (res, mo_thrown', mo_trouble', mo_where', mo_acts', mo_v', mo_past')) : Met l yX13_hammer wo_X13_hammer ({ frames := 2, cells := 0, slots := 0, locals := 42 }) (wrPc D cy A [.ref a_mo, .int p1] ([(a_mo, .inr (13, [.int mo_thrown, .int mo_trouble, .int mo_where, .ref a_wa, mo_read, mo_tape, .int mo_taped, .int mo_size, .int mo_spot, .int mo_sort, .int mo_place, .int mo_number, .int mo_fault, .int mo_wrongAt, .int mo_laneTold, .long mo_word, .ref a_mo_v, mo_x, .ref a_mo_past, mo_kept, .int mo_acts, .int mo_marks, mo_put, mo_bestPut, .long mo_bestSum, mo_row, mo_best, mo_left, .int mo_bestSize, .int mo_bestLeft, mo_counts, .int mo_sets, .int mo_foeHarm, .int mo_ownHarm, .int mo_across, .int mo_sumFoe, .int mo_sumOwn, .int mo_sumWon, .int mo_sumAcross])), (a_mo_v, .inl (cy 1, 19, .inl mo_v)), (a_mo_past, .inl (cy 1, 304, .inl mo_past)), (a_wa, .inr (12, [.int wa_lanes, .int wa_deep, .int wa_told, .int wa_beasts, .int wa_cities, .int wa_passes, .int wa_turned, .int wa_names, wa_who, wa_strong, wa_kind, wa_lane, wa_mood, wa_price, wa_loses, wa_name, wa_nameSort, wa_numberOf]))] ++ X)) (va_Qi (fun (r : Int32) (_ : Unit) => r = res ∧ nbv r) (wB D A ([(a_mo, .inr (13, [.int mo_thrown', .int mo_trouble', .int mo_where', .ref a_wa, mo_read, mo_tape, .int mo_taped, .int mo_size, .int mo_spot, .int mo_sort, .int mo_place, .int mo_number, .int mo_fault, .int mo_wrongAt, .int mo_laneTold, .long mo_word, .ref a_mo_v, mo_x, .ref a_mo_past, mo_kept, .int mo_acts', .int mo_marks, mo_put, mo_bestPut, .long mo_bestSum, mo_row, mo_best, mo_left, .int mo_bestSize, .int mo_bestLeft, mo_counts, .int mo_sets, .int mo_foeHarm, .int mo_ownHarm, .int mo_across, .int mo_sumFoe, .int mo_sumOwn, .int mo_sumWon, .int mo_sumAcross])), (a_mo_v, .inl (cy 1, 19, .inl mo_v')), (a_mo_past, .inl (cy 1, 304, .inl mo_past')), (a_wa, .inr (12, [.int wa_lanes, .int wa_deep, .int wa_told, .int wa_beasts, .int wa_cities, .int wa_passes, .int wa_turned, .int wa_names, wa_who, wa_strong, wa_kind, wa_lane, wa_mood, wa_price, wa_loses, wa_name, wa_nameSort, wa_numberOf]))] ++ X)) A) 0 0 A := by
  refine Met.ofW (cc := cX13_hammer) (maxL := 2) (ret := (some .boolean)) (by decide) rfl ?_
  intro p e s m args below meth c s₁ B hml hv
  obtain ⟨rfl, hP, hKN, hD, hA⟩ := hv
  have hK := hKN.1
  have hx := B.exec
  have hb := B.bytes
  have hr := B.returns
  have hts := wt_X13_hammer hKN.2.2 (([.ref a_mo, .int p1] : List Value).toArray)
  have hown : s.vm.findClass RX13 = some m.cls := findClass_of_methodNamed B.named
  have hlocks := B.notSynchronized
  have hS : va_S A s.heap s.heap [] := va_S.rf
  have hX13 := wc_X13 hKN.2.2 (([.ref a_mo, .int p1] : List Value).toArray)
  have hl := lv_entry ([.ref a_mo, .int p1]) (n := 2) (Nat.le_of_ble_eq_true rfl)
  rw [lg_entry_eq]
  generalize (lg_sl ([.ref a_mo, .int p1]) ++ List.replicate (2 - (lg_sl ([.ref a_mo, .int p1])).length) Slot.unset).toArray = ls at hl ⊢
  have hl : lv_has ls 2 [(0, .ref a_mo), (1, .int p1)] := hl
  unfold f_X13_hammer at h
  refine lv_aload_n hx hb dX13_hammer_0 rfl (lv_at hl 0 rfl) ?_
  refine lv_iconst (v := 0) hx hb dX13_hammer_1 (by decide) ?_
  refine va_put (D := D) (ci := 13) (C := RX13) (T := TX13) (N := 39) (v := .int 0) (ty := .int) hx hb hX13 (fun _ q => q) tyX13 tyX13_ok nmX13 hown hK hP hD hS 0 rfl rfl 0 (by decide) (hts (.fieldLink RX13 48 "ElephantLineModel" "thrown" "I") (by decide +kernel)) (fun _ h9 => h9) rfl (tyX13_ok 0 (by decide)) rfl rfl (Nat.le_of_ble_eq_true rfl) dX13_hammer_2 (fun H locs hP hD hS => ?_)
  refine lv_aload_n hx hb dX13_hammer_5 rfl (lv_at hl 0 rfl) ?_
  refine lv_iload_n hx hb dX13_hammer_6 rfl (lv_at hl 1 rfl) ?_
  have hP : va_P D vwCl ([(a_mo, .inr (13, [.int 0, .int mo_trouble, .int mo_where, .ref a_wa, mo_read, mo_tape, .int mo_taped, .int mo_size, .int mo_spot, .int mo_sort, .int mo_place, .int mo_number, .int mo_fault, .int mo_wrongAt, .int mo_laneTold, .long mo_word, .ref a_mo_v, mo_x, .ref a_mo_past, mo_kept, .int mo_acts, .int mo_marks, mo_put, mo_bestPut, .long mo_bestSum, mo_row, mo_best, mo_left, .int mo_bestSize, .int mo_bestLeft, mo_counts, .int mo_sets, .int mo_foeHarm, .int mo_ownHarm, .int mo_across, .int mo_sumFoe, .int mo_sumOwn, .int mo_sumWon, .int mo_sumAcross])), (a_mo_v, .inl (cy 1, 19, .inl mo_v)), (a_mo_past, .inl (cy 1, 304, .inl mo_past)), (a_wa, .inr (12, [.int wa_lanes, .int wa_deep, .int wa_told, .int wa_beasts, .int wa_cities, .int wa_passes, .int wa_turned, .int wa_names, wa_who, wa_strong, wa_kind, wa_lane, wa_mood, wa_price, wa_loses, wa_name, wa_nameSort, wa_numberOf]))] ++ X) H := hP
  have hD : va_D A ([(a_mo, .inr (13, [.int 0, .int mo_trouble, .int mo_where, .ref a_wa, mo_read, mo_tape, .int mo_taped, .int mo_size, .int mo_spot, .int mo_sort, .int mo_place, .int mo_number, .int mo_fault, .int mo_wrongAt, .int mo_laneTold, .long mo_word, .ref a_mo_v, mo_x, .ref a_mo_past, mo_kept, .int mo_acts, .int mo_marks, mo_put, mo_bestPut, .long mo_bestSum, mo_row, mo_best, mo_left, .int mo_bestSize, .int mo_bestLeft, mo_counts, .int mo_sets, .int mo_foeHarm, .int mo_ownHarm, .int mo_across, .int mo_sumFoe, .int mo_sumOwn, .int mo_sumWon, .int mo_sumAcross])), (a_mo_v, .inl (cy 1, 19, .inl mo_v)), (a_mo_past, .inl (cy 1, 304, .inl mo_past)), (a_wa, .inr (12, [.int wa_lanes, .int wa_deep, .int wa_told, .int wa_beasts, .int wa_cities, .int wa_passes, .int wa_turned, .int wa_names, wa_who, wa_strong, wa_kind, wa_lane, wa_mood, wa_price, wa_loses, wa_name, wa_nameSort, wa_numberOf]))] ++ X) := hD
  obtain ⟨r_1, hc_2, h⟩ := bd1_some h
  refine kVb [.int p1] [] ⟨hx, hb, hml, hown, hts⟩ (c_X13_isBeast l D cy a_mo a_wa 0 mo_trouble mo_where (mo_read) (mo_tape) mo_taped mo_size mo_spot mo_sort mo_place mo_number mo_fault mo_wrongAt mo_laneTold mo_word (.ref a_mo_v) (mo_x) (.ref a_mo_past) (mo_kept) mo_acts mo_marks (mo_put) (mo_bestPut) mo_bestSum (mo_row) (mo_best) (mo_left) mo_bestSize mo_bestLeft (mo_counts) mo_sets mo_foeHarm mo_ownHarm mo_across mo_sumFoe mo_sumOwn mo_sumWon mo_sumAcross wa_lanes wa_deep wa_told wa_beasts wa_cities wa_passes wa_turned wa_names (wa_who) (wa_strong) (wa_kind) (wa_lane) (wa_mood) (wa_price) (wa_loses) (wa_name) (wa_nameSort) (wa_numberOf) p1 r_1 hc_2) gX13_hammer_X13_isBeast rfl hd_X13_isBeast ⟨Nat.le_of_ble_eq_true rfl, Nat.le_of_ble_eq_true rfl⟩ rfl rfl hKN (pXc hP [0, 3] rfl) 13 0 rfl rfl rfl hl.1 rfl (Nat.le_of_ble_eq_true rfl) dX13_hammer_7 ⟨Nat.le_of_ble_eq_true rfl, Nat.le_of_ble_eq_true rfl⟩ (fun nb_3 => ?_)
  refine lv_if_ne (tgt := 19) hx hb dX13_hammer_10 (by decide) (fun cd => ?_) (fun cd => ?_)
  · have h := ifF cd h
    refine lv_aload_n hx hb dX13_hammer_19 rfl (lv_at hl 0 rfl) ?_
    refine lv_iload_n hx hb dX13_hammer_20 rfl (lv_at hl 1 rfl) ?_
    obtain ⟨r_4, hc_5, h⟩ := bd1_some h
    refine kVb [.int p1] [] ⟨hx, hb, hml, hown, hts⟩ (c_X13_isDead l D cy a_mo a_mo_v 0 mo_trouble mo_where (.ref a_wa) (mo_read) (mo_tape) mo_taped mo_size mo_spot mo_sort mo_place mo_number mo_fault mo_wrongAt mo_laneTold mo_word (mo_x) (.ref a_mo_past) (mo_kept) mo_acts mo_marks (mo_put) (mo_bestPut) mo_bestSum (mo_row) (mo_best) (mo_left) mo_bestSize mo_bestLeft (mo_counts) mo_sets mo_foeHarm mo_ownHarm mo_across mo_sumFoe mo_sumOwn mo_sumWon mo_sumAcross mo_v p1 r_4 hc_5) gX13_hammer_X13_isDead rfl hd_X13_isDead ⟨Nat.le_of_ble_eq_true rfl, Nat.le_of_ble_eq_true rfl⟩ rfl rfl hKN (pXc hP [0, 1] rfl) 13 0 rfl rfl rfl hl.1 rfl (Nat.le_of_ble_eq_true rfl) dX13_hammer_21 ⟨Nat.le_of_ble_eq_true rfl, Nat.le_of_ble_eq_true rfl⟩ (fun nb_6 => ?_)
    refine lv_if_eq (tgt := 33) hx hb dX13_hammer_24 (by decide) (fun cd => ?_) (fun cd => ?_)
    · have h := ifT cd h
      refine lv_aload_n hx hb dX13_hammer_33 rfl (lv_at hl 0 rfl) ?_
      obtain ⟨mo_acts_7, mo_past_8, hc_9, h⟩ := bd2_some h
      refine wVv [] [] ⟨hx, hb, hml, hown, hts⟩ (c_X13_remembers l D cy A ([(a_wa, .inr (12, [.int wa_lanes, .int wa_deep, .int wa_told, .int wa_beasts, .int wa_cities, .int wa_passes, .int wa_turned, .int wa_names, wa_who, wa_strong, wa_kind, wa_lane, wa_mood, wa_price, wa_loses, wa_name, wa_nameSort, wa_numberOf]))] ++ X) a_mo a_mo_v a_mo_past 0 mo_trouble mo_where (.ref a_wa) (mo_read) (mo_tape) mo_taped mo_size mo_spot mo_sort mo_place mo_number mo_fault mo_wrongAt mo_laneTold mo_word (mo_x) (mo_kept) mo_acts mo_marks (mo_put) (mo_bestPut) mo_bestSum (mo_row) (mo_best) (mo_left) mo_bestSize mo_bestLeft (mo_counts) mo_sets mo_foeHarm mo_ownHarm mo_across mo_sumFoe mo_sumOwn mo_sumWon mo_sumAcross mo_v mo_past mo_acts_7 mo_past_8 hc_9) gX13_hammer_X13_remembers rfl hd_X13_remembers ⟨Nat.le_of_ble_eq_true rfl, Nat.le_of_ble_eq_true rfl⟩ rfl rfl hKN (pX3 hP [0, 1, 2, 3] rfl) (dX3 hD [0, 1, 2, 3] rfl rfl) hS hA 13 0 rfl rfl rfl hl.1 rfl (Nat.le_of_ble_eq_true rfl) dX13_hammer_34 ⟨Nat.le_of_ble_eq_true rfl, Nat.le_of_ble_eq_true rfl⟩ (fun H locs hP hD hS => ?_)
      have hP := pX4 (L1 := [(a_mo, .inr (13, [.int 0, .int mo_trouble, .int mo_where, .ref a_wa, mo_read, mo_tape, .int mo_taped, .int mo_size, .int mo_spot, .int mo_sort, .int mo_place, .int mo_number, .int mo_fault, .int mo_wrongAt, .int mo_laneTold, .long mo_word, .ref a_mo_v, mo_x, .ref a_mo_past, mo_kept, .int mo_acts_7, .int mo_marks, mo_put, mo_bestPut, .long mo_bestSum, mo_row, mo_best, mo_left, .int mo_bestSize, .int mo_bestLeft, mo_counts, .int mo_sets, .int mo_foeHarm, .int mo_ownHarm, .int mo_across, .int mo_sumFoe, .int mo_sumOwn, .int mo_sumWon, .int mo_sumAcross])), (a_mo_v, .inl (cy 1, 19, .inl mo_v)), (a_mo_past, .inl (cy 1, 304, .inl mo_past_8)), (a_wa, .inr (12, [.int wa_lanes, .int wa_deep, .int wa_told, .int wa_beasts, .int wa_cities, .int wa_passes, .int wa_turned, .int wa_names, wa_who, wa_strong, wa_kind, wa_lane, wa_mood, wa_price, wa_loses, wa_name, wa_nameSort, wa_numberOf]))]) hP [0, 1, 2, 3] rfl
      have hD := dX4 (L1 := [(a_mo, .inr (13, [.int 0, .int mo_trouble, .int mo_where, .ref a_wa, mo_read, mo_tape, .int mo_taped, .int mo_size, .int mo_spot, .int mo_sort, .int mo_place, .int mo_number, .int mo_fault, .int mo_wrongAt, .int mo_laneTold, .long mo_word, .ref a_mo_v, mo_x, .ref a_mo_past, mo_kept, .int mo_acts_7, .int mo_marks, mo_put, mo_bestPut, .long mo_bestSum, mo_row, mo_best, mo_left, .int mo_bestSize, .int mo_bestLeft, mo_counts, .int mo_sets, .int mo_foeHarm, .int mo_ownHarm, .int mo_across, .int mo_sumFoe, .int mo_sumOwn, .int mo_sumWon, .int mo_sumAcross])), (a_mo_v, .inl (cy 1, 19, .inl mo_v)), (a_mo_past, .inl (cy 1, 304, .inl mo_past_8)), (a_wa, .inr (12, [.int wa_lanes, .int wa_deep, .int wa_told, .int wa_beasts, .int wa_cities, .int wa_passes, .int wa_turned, .int wa_names, wa_who, wa_strong, wa_kind, wa_lane, wa_mood, wa_price, wa_loses, wa_name, wa_nameSort, wa_numberOf]))]) hD [0, 1, 2, 3] rfl rfl
      refine lv_aload_n hx hb dX13_hammer_37 rfl (lv_at hl 0 rfl) ?_
      refine va_get (D := D) (ci := 13) (C := RX13) (T := TX13) (N := 39) (v := .ref a_mo_v) hx hb hX13 (fun _ q => q) hown hK hP 0 rfl rfl 16 (by decide) (hts (.fieldLink RX13 17 "ElephantLineModel" "v" "[I") (by decide +kernel)) (fun _ h9 => h9) rfl dX13_hammer_38 ?_
      refine lv_bipush (v := 10) hx hb dX13_hammer_41 (by decide) ?_
      refine lv_dup2_11 hx hb dX13_hammer_43 rfl rfl ?_
      refine va_iald hx hb hK hP 1 1 rfl rfl (vpc (by decide)) dX13_hammer_44 ?_
      refine lv_iconst (v := 1) hx hb dX13_hammer_45 (by decide) ?_
      refine lv_iload_n hx hb dX13_hammer_46 rfl (lv_at hl 1 rfl) ?_
      refine lv_ishl hx hb dX13_hammer_47 ?_
      refine lv_ior hx hb dX13_hammer_48 ?_
      refine va_iast hx hb hK hP hD hS 1 1 rfl rfl (vpc (by decide)) dX13_hammer_49 (fun H locs hP hD hS => ?_)
      refine lv_aload_n hx hb dX13_hammer_50 rfl (lv_at hl 0 rfl) ?_
      have hP : va_P D vwCl ([(a_mo, .inr (13, [.int 0, .int mo_trouble, .int mo_where, .ref a_wa, mo_read, mo_tape, .int mo_taped, .int mo_size, .int mo_spot, .int mo_sort, .int mo_place, .int mo_number, .int mo_fault, .int mo_wrongAt, .int mo_laneTold, .long mo_word, .ref a_mo_v, mo_x, .ref a_mo_past, mo_kept, .int mo_acts_7, .int mo_marks, mo_put, mo_bestPut, .long mo_bestSum, mo_row, mo_best, mo_left, .int mo_bestSize, .int mo_bestLeft, mo_counts, .int mo_sets, .int mo_foeHarm, .int mo_ownHarm, .int mo_across, .int mo_sumFoe, .int mo_sumOwn, .int mo_sumWon, .int mo_sumAcross])), (a_mo_v, .inl (cy 1, 19, .inl (upd mo_v ((10 : Int32).toNatClampNeg) ((mo_v (10 : Int32).toNatClampNeg) ||| ((1 : Int32) <<< (p1 &&& 31)))))), (a_mo_past, .inl (cy 1, 304, .inl mo_past_8)), (a_wa, .inr (12, [.int wa_lanes, .int wa_deep, .int wa_told, .int wa_beasts, .int wa_cities, .int wa_passes, .int wa_turned, .int wa_names, wa_who, wa_strong, wa_kind, wa_lane, wa_mood, wa_price, wa_loses, wa_name, wa_nameSort, wa_numberOf]))] ++ X) H := hP
      have hD : va_D A ([(a_mo, .inr (13, [.int 0, .int mo_trouble, .int mo_where, .ref a_wa, mo_read, mo_tape, .int mo_taped, .int mo_size, .int mo_spot, .int mo_sort, .int mo_place, .int mo_number, .int mo_fault, .int mo_wrongAt, .int mo_laneTold, .long mo_word, .ref a_mo_v, mo_x, .ref a_mo_past, mo_kept, .int mo_acts_7, .int mo_marks, mo_put, mo_bestPut, .long mo_bestSum, mo_row, mo_best, mo_left, .int mo_bestSize, .int mo_bestLeft, mo_counts, .int mo_sets, .int mo_foeHarm, .int mo_ownHarm, .int mo_across, .int mo_sumFoe, .int mo_sumOwn, .int mo_sumWon, .int mo_sumAcross])), (a_mo_v, .inl (cy 1, 19, .inl (upd mo_v ((10 : Int32).toNatClampNeg) ((mo_v (10 : Int32).toNatClampNeg) ||| ((1 : Int32) <<< (p1 &&& 31)))))), (a_mo_past, .inl (cy 1, 304, .inl mo_past_8)), (a_wa, .inr (12, [.int wa_lanes, .int wa_deep, .int wa_told, .int wa_beasts, .int wa_cities, .int wa_passes, .int wa_turned, .int wa_names, wa_who, wa_strong, wa_kind, wa_lane, wa_mood, wa_price, wa_loses, wa_name, wa_nameSort, wa_numberOf]))] ++ X) := hD
      obtain ⟨r_10, mo_trouble_11, mo_where_12, hc_13, h⟩ := bd3_some h
      refine wVb [] [] ⟨hx, hb, hml, hown, hts⟩ (c_X13_granted l D cy A ([(a_mo_v, .inl (cy 1, 19, .inl (upd mo_v ((10 : Int32).toNatClampNeg) ((mo_v (10 : Int32).toNatClampNeg) ||| ((1 : Int32) <<< (p1 &&& 31)))))), (a_mo_past, .inl (cy 1, 304, .inl mo_past_8)), (a_wa, .inr (12, [.int wa_lanes, .int wa_deep, .int wa_told, .int wa_beasts, .int wa_cities, .int wa_passes, .int wa_turned, .int wa_names, wa_who, wa_strong, wa_kind, wa_lane, wa_mood, wa_price, wa_loses, wa_name, wa_nameSort, wa_numberOf]))] ++ X) a_mo 0 mo_trouble mo_where (.ref a_wa) (mo_read) (mo_tape) mo_taped mo_size mo_spot mo_sort mo_place mo_number mo_fault mo_wrongAt mo_laneTold mo_word (.ref a_mo_v) (mo_x) (.ref a_mo_past) (mo_kept) mo_acts_7 mo_marks (mo_put) (mo_bestPut) mo_bestSum (mo_row) (mo_best) (mo_left) mo_bestSize mo_bestLeft (mo_counts) mo_sets mo_foeHarm mo_ownHarm mo_across mo_sumFoe mo_sumOwn mo_sumWon mo_sumAcross r_10 mo_trouble_11 mo_where_12 hc_13) gX13_hammer_X13_granted rfl hd_X13_granted ⟨Nat.le_of_ble_eq_true rfl, Nat.le_of_ble_eq_true rfl⟩ rfl rfl hKN (pX3 hP [0, 1, 2, 3] rfl) (dX3 hD [0, 1, 2, 3] rfl rfl) hS hA 13 0 rfl rfl rfl hl.1 rfl (Nat.le_of_ble_eq_true rfl) dX13_hammer_51 ⟨Nat.le_of_ble_eq_true rfl, Nat.le_of_ble_eq_true rfl⟩ (fun nb_14 H locs hP hD hS => ?_)
      have hP := pX4 (L1 := [(a_mo, .inr (13, [.int 0, .int mo_trouble_11, .int mo_where_12, .ref a_wa, mo_read, mo_tape, .int mo_taped, .int mo_size, .int mo_spot, .int mo_sort, .int mo_place, .int mo_number, .int mo_fault, .int mo_wrongAt, .int mo_laneTold, .long mo_word, .ref a_mo_v, mo_x, .ref a_mo_past, mo_kept, .int mo_acts_7, .int mo_marks, mo_put, mo_bestPut, .long mo_bestSum, mo_row, mo_best, mo_left, .int mo_bestSize, .int mo_bestLeft, mo_counts, .int mo_sets, .int mo_foeHarm, .int mo_ownHarm, .int mo_across, .int mo_sumFoe, .int mo_sumOwn, .int mo_sumWon, .int mo_sumAcross])), (a_mo_v, .inl (cy 1, 19, .inl (upd mo_v ((10 : Int32).toNatClampNeg) ((mo_v (10 : Int32).toNatClampNeg) ||| ((1 : Int32) <<< (p1 &&& 31)))))), (a_mo_past, .inl (cy 1, 304, .inl mo_past_8)), (a_wa, .inr (12, [.int wa_lanes, .int wa_deep, .int wa_told, .int wa_beasts, .int wa_cities, .int wa_passes, .int wa_turned, .int wa_names, wa_who, wa_strong, wa_kind, wa_lane, wa_mood, wa_price, wa_loses, wa_name, wa_nameSort, wa_numberOf]))]) hP [0, 1, 2, 3] rfl
      have hD := dX4 (L1 := [(a_mo, .inr (13, [.int 0, .int mo_trouble_11, .int mo_where_12, .ref a_wa, mo_read, mo_tape, .int mo_taped, .int mo_size, .int mo_spot, .int mo_sort, .int mo_place, .int mo_number, .int mo_fault, .int mo_wrongAt, .int mo_laneTold, .long mo_word, .ref a_mo_v, mo_x, .ref a_mo_past, mo_kept, .int mo_acts_7, .int mo_marks, mo_put, mo_bestPut, .long mo_bestSum, mo_row, mo_best, mo_left, .int mo_bestSize, .int mo_bestLeft, mo_counts, .int mo_sets, .int mo_foeHarm, .int mo_ownHarm, .int mo_across, .int mo_sumFoe, .int mo_sumOwn, .int mo_sumWon, .int mo_sumAcross])), (a_mo_v, .inl (cy 1, 19, .inl (upd mo_v ((10 : Int32).toNatClampNeg) ((mo_v (10 : Int32).toNatClampNeg) ||| ((1 : Int32) <<< (p1 &&& 31)))))), (a_mo_past, .inl (cy 1, 304, .inl mo_past_8)), (a_wa, .inr (12, [.int wa_lanes, .int wa_deep, .int wa_told, .int wa_beasts, .int wa_cities, .int wa_passes, .int wa_turned, .int wa_names, wa_who, wa_strong, wa_kind, wa_lane, wa_mood, wa_price, wa_loses, wa_name, wa_nameSort, wa_numberOf]))]) hD [0, 1, 2, 3] rfl rfl
      have h0 := Option.some.inj h
      clear h
      obtain ⟨e1, h1⟩ := pjP h0
      clear h0
      subst e1
      obtain ⟨e2, h2⟩ := pjP h1
      clear h1
      subst e2
      obtain ⟨e3, h3⟩ := pjP h2
      clear h2
      subst e3
      obtain ⟨e4, h4⟩ := pjP h3
      clear h3
      subst e4
      obtain ⟨e5, h5⟩ := pjP h4
      clear h4
      subst e5
      obtain ⟨e6, h6⟩ := pjP h5
      clear h5
      subst e6
      subst h6
      exact W.zret (ty := .boolean) hx hb hr (nbv.n nb_14) (fun t ht _ => ⟨⟨_, (), rfl, ⟨rfl, nb_14⟩, by rw [ht]; exact hP, hD⟩, hS.F ht⟩) hS.2.2 dX13_hammer_54
    · have h := ifF cd h
      refine lv_aload_n hx hb dX13_hammer_27 rfl (lv_at hl 0 rfl) ?_
      refine lv_iconst (v := 5) hx hb dX13_hammer_28 (by decide) ?_
      obtain ⟨r_15, mo_trouble_16, mo_where_17, hc_18, h⟩ := bd3_some h
      refine wVb [.int 5] [] ⟨hx, hb, hml, hown, hts⟩ (c_X13_denied l D cy A ([(a_mo_v, .inl (cy 1, 19, .inl mo_v)), (a_mo_past, .inl (cy 1, 304, .inl mo_past)), (a_wa, .inr (12, [.int wa_lanes, .int wa_deep, .int wa_told, .int wa_beasts, .int wa_cities, .int wa_passes, .int wa_turned, .int wa_names, wa_who, wa_strong, wa_kind, wa_lane, wa_mood, wa_price, wa_loses, wa_name, wa_nameSort, wa_numberOf]))] ++ X) a_mo 0 mo_trouble mo_where (.ref a_wa) (mo_read) (mo_tape) mo_taped mo_size mo_spot mo_sort mo_place mo_number mo_fault mo_wrongAt mo_laneTold mo_word (.ref a_mo_v) (mo_x) (.ref a_mo_past) (mo_kept) mo_acts mo_marks (mo_put) (mo_bestPut) mo_bestSum (mo_row) (mo_best) (mo_left) mo_bestSize mo_bestLeft (mo_counts) mo_sets mo_foeHarm mo_ownHarm mo_across mo_sumFoe mo_sumOwn mo_sumWon mo_sumAcross (5 : Int32) r_15 mo_trouble_16 mo_where_17 hc_18) gX13_hammer_X13_denied rfl hd_X13_denied ⟨Nat.le_of_ble_eq_true rfl, Nat.le_of_ble_eq_true rfl⟩ rfl rfl hKN (pX3 hP [0, 1, 2, 3] rfl) (dX3 hD [0, 1, 2, 3] rfl rfl) hS hA 13 0 rfl rfl rfl hl.1 rfl (Nat.le_of_ble_eq_true rfl) dX13_hammer_29 ⟨Nat.le_of_ble_eq_true rfl, Nat.le_of_ble_eq_true rfl⟩ (fun nb_19 H locs hP hD hS => ?_)
      have hP := pX4 (L1 := [(a_mo, .inr (13, [.int 0, .int mo_trouble_16, .int mo_where_17, .ref a_wa, mo_read, mo_tape, .int mo_taped, .int mo_size, .int mo_spot, .int mo_sort, .int mo_place, .int mo_number, .int mo_fault, .int mo_wrongAt, .int mo_laneTold, .long mo_word, .ref a_mo_v, mo_x, .ref a_mo_past, mo_kept, .int mo_acts, .int mo_marks, mo_put, mo_bestPut, .long mo_bestSum, mo_row, mo_best, mo_left, .int mo_bestSize, .int mo_bestLeft, mo_counts, .int mo_sets, .int mo_foeHarm, .int mo_ownHarm, .int mo_across, .int mo_sumFoe, .int mo_sumOwn, .int mo_sumWon, .int mo_sumAcross])), (a_mo_v, .inl (cy 1, 19, .inl mo_v)), (a_mo_past, .inl (cy 1, 304, .inl mo_past)), (a_wa, .inr (12, [.int wa_lanes, .int wa_deep, .int wa_told, .int wa_beasts, .int wa_cities, .int wa_passes, .int wa_turned, .int wa_names, wa_who, wa_strong, wa_kind, wa_lane, wa_mood, wa_price, wa_loses, wa_name, wa_nameSort, wa_numberOf]))]) hP [0, 1, 2, 3] rfl
      have hD := dX4 (L1 := [(a_mo, .inr (13, [.int 0, .int mo_trouble_16, .int mo_where_17, .ref a_wa, mo_read, mo_tape, .int mo_taped, .int mo_size, .int mo_spot, .int mo_sort, .int mo_place, .int mo_number, .int mo_fault, .int mo_wrongAt, .int mo_laneTold, .long mo_word, .ref a_mo_v, mo_x, .ref a_mo_past, mo_kept, .int mo_acts, .int mo_marks, mo_put, mo_bestPut, .long mo_bestSum, mo_row, mo_best, mo_left, .int mo_bestSize, .int mo_bestLeft, mo_counts, .int mo_sets, .int mo_foeHarm, .int mo_ownHarm, .int mo_across, .int mo_sumFoe, .int mo_sumOwn, .int mo_sumWon, .int mo_sumAcross])), (a_mo_v, .inl (cy 1, 19, .inl mo_v)), (a_mo_past, .inl (cy 1, 304, .inl mo_past)), (a_wa, .inr (12, [.int wa_lanes, .int wa_deep, .int wa_told, .int wa_beasts, .int wa_cities, .int wa_passes, .int wa_turned, .int wa_names, wa_who, wa_strong, wa_kind, wa_lane, wa_mood, wa_price, wa_loses, wa_name, wa_nameSort, wa_numberOf]))]) hD [0, 1, 2, 3] rfl rfl
      have h0 := Option.some.inj h
      clear h
      obtain ⟨e1, h1⟩ := pjP h0
      clear h0
      subst e1
      obtain ⟨e2, h2⟩ := pjP h1
      clear h1
      subst e2
      obtain ⟨e3, h3⟩ := pjP h2
      clear h2
      subst e3
      obtain ⟨e4, h4⟩ := pjP h3
      clear h3
      subst e4
      obtain ⟨e5, h5⟩ := pjP h4
      clear h4
      subst e5
      obtain ⟨e6, h6⟩ := pjP h5
      clear h5
      subst e6
      subst h6
      exact W.zret (ty := .boolean) hx hb hr (nbv.n nb_19) (fun t ht _ => ⟨⟨_, (), rfl, ⟨rfl, nb_19⟩, by rw [ht]; exact hP, hD⟩, hS.F ht⟩) hS.2.2 dX13_hammer_32
  · have h := ifT cd h
    refine lv_aload_n hx hb dX13_hammer_13 rfl (lv_at hl 0 rfl) ?_
    refine lv_iconst (v := 1) hx hb dX13_hammer_14 (by decide) ?_
    obtain ⟨r_20, mo_trouble_21, mo_where_22, hc_23, h⟩ := bd3_some h
    refine wVb [.int 1] [] ⟨hx, hb, hml, hown, hts⟩ (c_X13_denied l D cy A ([(a_mo_v, .inl (cy 1, 19, .inl mo_v)), (a_mo_past, .inl (cy 1, 304, .inl mo_past)), (a_wa, .inr (12, [.int wa_lanes, .int wa_deep, .int wa_told, .int wa_beasts, .int wa_cities, .int wa_passes, .int wa_turned, .int wa_names, wa_who, wa_strong, wa_kind, wa_lane, wa_mood, wa_price, wa_loses, wa_name, wa_nameSort, wa_numberOf]))] ++ X) a_mo 0 mo_trouble mo_where (.ref a_wa) (mo_read) (mo_tape) mo_taped mo_size mo_spot mo_sort mo_place mo_number mo_fault mo_wrongAt mo_laneTold mo_word (.ref a_mo_v) (mo_x) (.ref a_mo_past) (mo_kept) mo_acts mo_marks (mo_put) (mo_bestPut) mo_bestSum (mo_row) (mo_best) (mo_left) mo_bestSize mo_bestLeft (mo_counts) mo_sets mo_foeHarm mo_ownHarm mo_across mo_sumFoe mo_sumOwn mo_sumWon mo_sumAcross (1 : Int32) r_20 mo_trouble_21 mo_where_22 hc_23) gX13_hammer_X13_denied rfl hd_X13_denied ⟨Nat.le_of_ble_eq_true rfl, Nat.le_of_ble_eq_true rfl⟩ rfl rfl hKN (pX3 hP [0, 1, 2, 3] rfl) (dX3 hD [0, 1, 2, 3] rfl rfl) hS hA 13 0 rfl rfl rfl hl.1 rfl (Nat.le_of_ble_eq_true rfl) dX13_hammer_15 ⟨Nat.le_of_ble_eq_true rfl, Nat.le_of_ble_eq_true rfl⟩ (fun nb_24 H locs hP hD hS => ?_)
    have hP := pX4 (L1 := [(a_mo, .inr (13, [.int 0, .int mo_trouble_21, .int mo_where_22, .ref a_wa, mo_read, mo_tape, .int mo_taped, .int mo_size, .int mo_spot, .int mo_sort, .int mo_place, .int mo_number, .int mo_fault, .int mo_wrongAt, .int mo_laneTold, .long mo_word, .ref a_mo_v, mo_x, .ref a_mo_past, mo_kept, .int mo_acts, .int mo_marks, mo_put, mo_bestPut, .long mo_bestSum, mo_row, mo_best, mo_left, .int mo_bestSize, .int mo_bestLeft, mo_counts, .int mo_sets, .int mo_foeHarm, .int mo_ownHarm, .int mo_across, .int mo_sumFoe, .int mo_sumOwn, .int mo_sumWon, .int mo_sumAcross])), (a_mo_v, .inl (cy 1, 19, .inl mo_v)), (a_mo_past, .inl (cy 1, 304, .inl mo_past)), (a_wa, .inr (12, [.int wa_lanes, .int wa_deep, .int wa_told, .int wa_beasts, .int wa_cities, .int wa_passes, .int wa_turned, .int wa_names, wa_who, wa_strong, wa_kind, wa_lane, wa_mood, wa_price, wa_loses, wa_name, wa_nameSort, wa_numberOf]))]) hP [0, 1, 2, 3] rfl
    have hD := dX4 (L1 := [(a_mo, .inr (13, [.int 0, .int mo_trouble_21, .int mo_where_22, .ref a_wa, mo_read, mo_tape, .int mo_taped, .int mo_size, .int mo_spot, .int mo_sort, .int mo_place, .int mo_number, .int mo_fault, .int mo_wrongAt, .int mo_laneTold, .long mo_word, .ref a_mo_v, mo_x, .ref a_mo_past, mo_kept, .int mo_acts, .int mo_marks, mo_put, mo_bestPut, .long mo_bestSum, mo_row, mo_best, mo_left, .int mo_bestSize, .int mo_bestLeft, mo_counts, .int mo_sets, .int mo_foeHarm, .int mo_ownHarm, .int mo_across, .int mo_sumFoe, .int mo_sumOwn, .int mo_sumWon, .int mo_sumAcross])), (a_mo_v, .inl (cy 1, 19, .inl mo_v)), (a_mo_past, .inl (cy 1, 304, .inl mo_past)), (a_wa, .inr (12, [.int wa_lanes, .int wa_deep, .int wa_told, .int wa_beasts, .int wa_cities, .int wa_passes, .int wa_turned, .int wa_names, wa_who, wa_strong, wa_kind, wa_lane, wa_mood, wa_price, wa_loses, wa_name, wa_nameSort, wa_numberOf]))]) hD [0, 1, 2, 3] rfl rfl
    have h0 := Option.some.inj h
    clear h
    obtain ⟨e1, h1⟩ := pjP h0
    clear h0
    subst e1
    obtain ⟨e2, h2⟩ := pjP h1
    clear h1
    subst e2
    obtain ⟨e3, h3⟩ := pjP h2
    clear h2
    subst e3
    obtain ⟨e4, h4⟩ := pjP h3
    clear h3
    subst e4
    obtain ⟨e5, h5⟩ := pjP h4
    clear h4
    subst e5
    obtain ⟨e6, h6⟩ := pjP h5
    clear h5
    subst e6
    subst h6
    exact W.zret (ty := .boolean) hx hb hr (nbv.n nb_24) (fun t ht _ => ⟨⟨_, (), rfl, ⟨rfl, nb_24⟩, by rw [ht]; exact hP, hD⟩, hS.F ht⟩) hS.2.2 dX13_hammer_18
theorem hd_X13_teach : yX13_teach.cls = RX13 ∧ yX13_teach.cls ≠ "java/lang/invoke/MethodHandle" ∧ yX13_teach.cls ≠ "java/lang/invoke/VarHandle" ∧ (parseMethodDescriptor yX13_teach.desc).map (fun d => d.parameters.length) = some 2 := by decide +kernel
set_option maxHeartbeats 4000000 in
set_option maxRecDepth 100000 in
theorem c_X13_teach (l : Launch) (D : va_G) (cy : Nat → ClassId) (A : Nat → Prop) (X : va_W) (a_mo a_mo_v a_mo_past a_wa a_wa_who : Nat) (mo_thrown : Int32) (mo_trouble : Int32) (mo_where : Int32) (mo_read : Value) (mo_tape : Value) (mo_taped : Int32) (mo_size : Int32) (mo_spot : Int32) (mo_sort : Int32) (mo_place : Int32) (mo_number : Int32) (mo_fault : Int32) (mo_wrongAt : Int32) (mo_laneTold : Int32) (mo_word : Int64) (mo_x : Value) (mo_kept : Value) (mo_acts : Int32) (mo_marks : Int32) (mo_put : Value) (mo_bestPut : Value) (mo_bestSum : Int64) (mo_row : Value) (mo_best : Value) (mo_left : Value) (mo_bestSize : Int32) (mo_bestLeft : Int32) (mo_counts : Value) (mo_sets : Int32) (mo_foeHarm : Int32) (mo_ownHarm : Int32) (mo_across : Int32) (mo_sumFoe : Int32) (mo_sumOwn : Int32) (mo_sumWon : Int32) (mo_sumAcross : Int32) (mo_v : Nat → Int32) (mo_past : Nat → Int32) (wa_lanes : Int32) (wa_deep : Int32) (wa_told : Int32) (wa_beasts : Int32) (wa_cities : Int32) (wa_passes : Int32) (wa_turned : Int32) (wa_names : Int32) (wa_strong : Value) (wa_kind : Value) (wa_lane : Value) (wa_mood : Value) (wa_price : Value) (wa_loses : Value) (wa_name : Value) (wa_nameSort : Value) (wa_numberOf : Value) (wa_who : Nat → Int32) (p1 : Int32) (p2 : Int32) (res : Int32) (mo_thrown' : Int32) (mo_trouble' : Int32) (mo_where' : Int32) (mo_acts' : Int32) (mo_v' : Nat → Int32) (mo_past' : Nat → Int32) (h : f_X13_teach mo_thrown mo_trouble mo_where mo_acts mo_v mo_past wa_lanes wa_who p1 p2 = some (res, mo_thrown', mo_trouble', mo_where', mo_acts', mo_v', mo_past')) : Met l yX13_teach wo_X13_teach ({ frames := 1, cells := 0, slots := 0, locals := 22 }) (wrPc D cy A [.ref a_mo, .int p1, .int p2] ([(a_mo, .inr (13, [.int mo_thrown, .int mo_trouble, .int mo_where, .ref a_wa, mo_read, mo_tape, .int mo_taped, .int mo_size, .int mo_spot, .int mo_sort, .int mo_place, .int mo_number, .int mo_fault, .int mo_wrongAt, .int mo_laneTold, .long mo_word, .ref a_mo_v, mo_x, .ref a_mo_past, mo_kept, .int mo_acts, .int mo_marks, mo_put, mo_bestPut, .long mo_bestSum, mo_row, mo_best, mo_left, .int mo_bestSize, .int mo_bestLeft, mo_counts, .int mo_sets, .int mo_foeHarm, .int mo_ownHarm, .int mo_across, .int mo_sumFoe, .int mo_sumOwn, .int mo_sumWon, .int mo_sumAcross])), (a_mo_v, .inl (cy 1, 19, .inl mo_v)), (a_mo_past, .inl (cy 1, 304, .inl mo_past)), (a_wa, .inr (12, [.int wa_lanes, .int wa_deep, .int wa_told, .int wa_beasts, .int wa_cities, .int wa_passes, .int wa_turned, .int wa_names, .ref a_wa_who, wa_strong, wa_kind, wa_lane, wa_mood, wa_price, wa_loses, wa_name, wa_nameSort, wa_numberOf])), (a_wa_who, .inl (cy 1, 6, .inl wa_who))] ++ X)) (va_Qi (fun (r : Int32) (_ : Unit) => r = res) (wB D A ([(a_mo, .inr (13, [.int mo_thrown', .int mo_trouble', .int mo_where', .ref a_wa, mo_read, mo_tape, .int mo_taped, .int mo_size, .int mo_spot, .int mo_sort, .int mo_place, .int mo_number, .int mo_fault, .int mo_wrongAt, .int mo_laneTold, .long mo_word, .ref a_mo_v, mo_x, .ref a_mo_past, mo_kept, .int mo_acts', .int mo_marks, mo_put, mo_bestPut, .long mo_bestSum, mo_row, mo_best, mo_left, .int mo_bestSize, .int mo_bestLeft, mo_counts, .int mo_sets, .int mo_foeHarm, .int mo_ownHarm, .int mo_across, .int mo_sumFoe, .int mo_sumOwn, .int mo_sumWon, .int mo_sumAcross])), (a_mo_v, .inl (cy 1, 19, .inl mo_v')), (a_mo_past, .inl (cy 1, 304, .inl mo_past')), (a_wa, .inr (12, [.int wa_lanes, .int wa_deep, .int wa_told, .int wa_beasts, .int wa_cities, .int wa_passes, .int wa_turned, .int wa_names, .ref a_wa_who, wa_strong, wa_kind, wa_lane, wa_mood, wa_price, wa_loses, wa_name, wa_nameSort, wa_numberOf])), (a_wa_who, .inl (cy 1, 6, .inl wa_who))] ++ X)) A) 0 0 A := by
  refine Met.ofW (cc := cX13_teach) (maxL := 3) (ret := (some .int)) (by decide) rfl ?_
  intro p e s m args below meth c s₁ B hml hv
  obtain ⟨rfl, hP, hKN, hD, hA⟩ := hv
  have hK := hKN.1
  have hx := B.exec
  have hb := B.bytes
  have hr := B.returns
  have hts := wt_X13_teach hKN.2.2 (([.ref a_mo, .int p1, .int p2] : List Value).toArray)
  have hown : s.vm.findClass RX13 = some m.cls := findClass_of_methodNamed B.named
  have hlocks := B.notSynchronized
  have hS : va_S A s.heap s.heap [] := va_S.rf
  have hX12 := wc_X12 hKN.2.2 (([.ref a_mo, .int p1, .int p2] : List Value).toArray)
  have hX13 := wc_X13 hKN.2.2 (([.ref a_mo, .int p1, .int p2] : List Value).toArray)
  have hl := lv_entry ([.ref a_mo, .int p1, .int p2]) (n := 3) (Nat.le_of_ble_eq_true rfl)
  rw [lg_entry_eq]
  generalize (lg_sl ([.ref a_mo, .int p1, .int p2]) ++ List.replicate (3 - (lg_sl ([.ref a_mo, .int p1, .int p2])).length) Slot.unset).toArray = ls at hl ⊢
  have hl : lv_has ls 3 [(0, .ref a_mo), (1, .int p1), (2, .int p2)] := hl
  unfold f_X13_teach at h
  refine lv_aload_n hx hb dX13_teach_0 rfl (lv_at hl 0 rfl) ?_
  refine lv_iconst (v := 0) hx hb dX13_teach_1 (by decide) ?_
  refine va_put (D := D) (ci := 13) (C := RX13) (T := TX13) (N := 39) (v := .int 0) (ty := .int) hx hb hX13 (fun _ q => q) tyX13 tyX13_ok nmX13 hown hK hP hD hS 0 rfl rfl 0 (by decide) (hts (.fieldLink RX13 48 "ElephantLineModel" "thrown" "I") (by decide +kernel)) (fun _ h9 => h9) rfl (tyX13_ok 0 (by decide)) rfl rfl (Nat.le_of_ble_eq_true rfl) dX13_teach_2 (fun H locs hP hD hS => ?_)
  refine lv_aload_n hx hb dX13_teach_5 rfl (lv_at hl 0 rfl) ?_
  refine lv_iload_n hx hb dX13_teach_6 rfl (lv_at hl 1 rfl) ?_
  have hP : va_P D vwCl ([(a_mo, .inr (13, [.int 0, .int mo_trouble, .int mo_where, .ref a_wa, mo_read, mo_tape, .int mo_taped, .int mo_size, .int mo_spot, .int mo_sort, .int mo_place, .int mo_number, .int mo_fault, .int mo_wrongAt, .int mo_laneTold, .long mo_word, .ref a_mo_v, mo_x, .ref a_mo_past, mo_kept, .int mo_acts, .int mo_marks, mo_put, mo_bestPut, .long mo_bestSum, mo_row, mo_best, mo_left, .int mo_bestSize, .int mo_bestLeft, mo_counts, .int mo_sets, .int mo_foeHarm, .int mo_ownHarm, .int mo_across, .int mo_sumFoe, .int mo_sumOwn, .int mo_sumWon, .int mo_sumAcross])), (a_mo_v, .inl (cy 1, 19, .inl mo_v)), (a_mo_past, .inl (cy 1, 304, .inl mo_past)), (a_wa, .inr (12, [.int wa_lanes, .int wa_deep, .int wa_told, .int wa_beasts, .int wa_cities, .int wa_passes, .int wa_turned, .int wa_names, .ref a_wa_who, wa_strong, wa_kind, wa_lane, wa_mood, wa_price, wa_loses, wa_name, wa_nameSort, wa_numberOf])), (a_wa_who, .inl (cy 1, 6, .inl wa_who))] ++ X) H := hP
  have hD : va_D A ([(a_mo, .inr (13, [.int 0, .int mo_trouble, .int mo_where, .ref a_wa, mo_read, mo_tape, .int mo_taped, .int mo_size, .int mo_spot, .int mo_sort, .int mo_place, .int mo_number, .int mo_fault, .int mo_wrongAt, .int mo_laneTold, .long mo_word, .ref a_mo_v, mo_x, .ref a_mo_past, mo_kept, .int mo_acts, .int mo_marks, mo_put, mo_bestPut, .long mo_bestSum, mo_row, mo_best, mo_left, .int mo_bestSize, .int mo_bestLeft, mo_counts, .int mo_sets, .int mo_foeHarm, .int mo_ownHarm, .int mo_across, .int mo_sumFoe, .int mo_sumOwn, .int mo_sumWon, .int mo_sumAcross])), (a_mo_v, .inl (cy 1, 19, .inl mo_v)), (a_mo_past, .inl (cy 1, 304, .inl mo_past)), (a_wa, .inr (12, [.int wa_lanes, .int wa_deep, .int wa_told, .int wa_beasts, .int wa_cities, .int wa_passes, .int wa_turned, .int wa_names, .ref a_wa_who, wa_strong, wa_kind, wa_lane, wa_mood, wa_price, wa_loses, wa_name, wa_nameSort, wa_numberOf])), (a_wa_who, .inl (cy 1, 6, .inl wa_who))] ++ X) := hD
  obtain ⟨r_1, hc_2, h⟩ := bd1_some h
  refine kVb [.int p1] [] ⟨hx, hb, hml, hown, hts⟩ (c_X13_isLane l D cy a_mo a_wa 0 mo_trouble mo_where (mo_read) (mo_tape) mo_taped mo_size mo_spot mo_sort mo_place mo_number mo_fault mo_wrongAt mo_laneTold mo_word (.ref a_mo_v) (mo_x) (.ref a_mo_past) (mo_kept) mo_acts mo_marks (mo_put) (mo_bestPut) mo_bestSum (mo_row) (mo_best) (mo_left) mo_bestSize mo_bestLeft (mo_counts) mo_sets mo_foeHarm mo_ownHarm mo_across mo_sumFoe mo_sumOwn mo_sumWon mo_sumAcross wa_lanes wa_deep wa_told wa_beasts wa_cities wa_passes wa_turned wa_names (.ref a_wa_who) (wa_strong) (wa_kind) (wa_lane) (wa_mood) (wa_price) (wa_loses) (wa_name) (wa_nameSort) (wa_numberOf) p1 r_1 hc_2) gX13_teach_X13_isLane rfl hd_X13_isLane ⟨Nat.le_of_ble_eq_true rfl, Nat.le_of_ble_eq_true rfl⟩ rfl rfl hKN (pXc hP [0, 3] rfl) 13 0 rfl rfl rfl hl.1 rfl (Nat.le_of_ble_eq_true rfl) dX13_teach_7 ⟨Nat.le_of_ble_eq_true rfl, Nat.le_of_ble_eq_true rfl⟩ (fun nb_3 => ?_)
  refine lv_if_ne (tgt := 19) hx hb dX13_teach_10 (by decide) (fun cd => ?_) (fun cd => ?_)
  · have h := ifF cd h
    refine lv_iload_n hx hb dX13_teach_19 rfl (lv_at hl 2 rfl) ?_
    refine lv_iconst (v := 1) hx hb dX13_teach_20 (by decide) ?_
    refine lv_bipush (v := 30) hx hb dX13_teach_21 (by decide) ?_
    obtain ⟨r_4, hc_5, h⟩ := bd1_some h
    refine kSb [.int p2, .int 1, .int 30] [] ⟨hx, hb, hml, hown, hts⟩ (c_X13_in l D cy p2 (1 : Int32) (30 : Int32) r_4 hc_5) gX13_teach_X13_in rfl hd_X13_in ⟨Nat.le_of_ble_eq_true rfl, Nat.le_of_ble_eq_true rfl⟩ rfl rfl hKN va_nil rfl hl.1 rfl (Nat.le_of_ble_eq_true rfl) dX13_teach_23 ⟨Nat.le_of_ble_eq_true rfl, Nat.le_of_ble_eq_true rfl⟩ (fun nb_6 => ?_)
    refine lv_if_ne (tgt := 35) hx hb dX13_teach_26 (by decide) (fun cd => ?_) (fun cd => ?_)
    · have h := ifF cd h
      refine lv_aload_n hx hb dX13_teach_35 rfl (lv_at hl 0 rfl) ?_
      refine va_get (D := D) (ci := 13) (C := RX13) (T := TX13) (N := 39) (v := .ref a_wa) hx hb hX13 (fun _ q => q) hown hK hP 0 rfl rfl 3 (by decide) (hts (.fieldLink RX13 301 "ElephantLineModel" "war" "LElephantLineModel$War;") (by decide +kernel)) (fun _ h9 => h9) rfl dX13_teach_36 ?_
      refine va_getN (D := D) (ci := 12) (C := RX12) (T := TX12) (N := 18) (v := .ref a_wa_who) hx hb hX12 (fun _ q => q) hown hK hP 3 rfl rfl 8 (by decide) (va_Nw.use rfl (hKN.2.1.1 ("ElephantLineModel", 241, "ElephantLineModel$War", "who", "[I", "ElephantLineModel") (List.mem_of_getElem? (i := 75) rfl))) (fun _ h9 => h9) rfl dX13_teach_39 ?_
      refine lv_iload_n hx hb dX13_teach_42 rfl (lv_at hl 1 rfl) ?_
      obtain ⟨i_7, h⟩ := gIn_some h
      refine va_iald hx hb hK hP 4 1 rfl rfl i_7 dX13_teach_43 ?_
      refine lv_iconst (v := 3) hx hb dX13_teach_44 (by decide) ?_
      refine lv_icmp_eq (tgt := 54) hx hb dX13_teach_45 (by decide) (fun cd => ?_) (fun cd => ?_)
      · have h := ifT cd h
        refine lv_aload_n hx hb dX13_teach_54 rfl (lv_at hl 0 rfl) ?_
        obtain ⟨mo_acts_8, mo_past_9, hc_10, h⟩ := bd2_some h
        refine wVv [] [] ⟨hx, hb, hml, hown, hts⟩ (c_X13_remembers l D cy A ([(a_wa, .inr (12, [.int wa_lanes, .int wa_deep, .int wa_told, .int wa_beasts, .int wa_cities, .int wa_passes, .int wa_turned, .int wa_names, .ref a_wa_who, wa_strong, wa_kind, wa_lane, wa_mood, wa_price, wa_loses, wa_name, wa_nameSort, wa_numberOf])), (a_wa_who, .inl (cy 1, 6, .inl wa_who))] ++ X) a_mo a_mo_v a_mo_past 0 mo_trouble mo_where (.ref a_wa) (mo_read) (mo_tape) mo_taped mo_size mo_spot mo_sort mo_place mo_number mo_fault mo_wrongAt mo_laneTold mo_word (mo_x) (mo_kept) mo_acts mo_marks (mo_put) (mo_bestPut) mo_bestSum (mo_row) (mo_best) (mo_left) mo_bestSize mo_bestLeft (mo_counts) mo_sets mo_foeHarm mo_ownHarm mo_across mo_sumFoe mo_sumOwn mo_sumWon mo_sumAcross mo_v mo_past mo_acts_8 mo_past_9 hc_10) gX13_teach_X13_remembers rfl hd_X13_remembers ⟨Nat.le_of_ble_eq_true rfl, Nat.le_of_ble_eq_true rfl⟩ rfl rfl hKN (pX3 hP [0, 1, 2, 3, 4] rfl) (dX3 hD [0, 1, 2, 3, 4] rfl rfl) hS hA 13 0 rfl rfl rfl hl.1 rfl (Nat.le_of_ble_eq_true rfl) dX13_teach_55 ⟨Nat.le_of_ble_eq_true rfl, Nat.le_of_ble_eq_true rfl⟩ (fun H locs hP hD hS => ?_)
        have hP := pX4 (L1 := [(a_mo, .inr (13, [.int 0, .int mo_trouble, .int mo_where, .ref a_wa, mo_read, mo_tape, .int mo_taped, .int mo_size, .int mo_spot, .int mo_sort, .int mo_place, .int mo_number, .int mo_fault, .int mo_wrongAt, .int mo_laneTold, .long mo_word, .ref a_mo_v, mo_x, .ref a_mo_past, mo_kept, .int mo_acts_8, .int mo_marks, mo_put, mo_bestPut, .long mo_bestSum, mo_row, mo_best, mo_left, .int mo_bestSize, .int mo_bestLeft, mo_counts, .int mo_sets, .int mo_foeHarm, .int mo_ownHarm, .int mo_across, .int mo_sumFoe, .int mo_sumOwn, .int mo_sumWon, .int mo_sumAcross])), (a_mo_v, .inl (cy 1, 19, .inl mo_v)), (a_mo_past, .inl (cy 1, 304, .inl mo_past_9)), (a_wa, .inr (12, [.int wa_lanes, .int wa_deep, .int wa_told, .int wa_beasts, .int wa_cities, .int wa_passes, .int wa_turned, .int wa_names, .ref a_wa_who, wa_strong, wa_kind, wa_lane, wa_mood, wa_price, wa_loses, wa_name, wa_nameSort, wa_numberOf])), (a_wa_who, .inl (cy 1, 6, .inl wa_who))]) hP [0, 1, 2, 3, 4] rfl
        have hD := dX4 (L1 := [(a_mo, .inr (13, [.int 0, .int mo_trouble, .int mo_where, .ref a_wa, mo_read, mo_tape, .int mo_taped, .int mo_size, .int mo_spot, .int mo_sort, .int mo_place, .int mo_number, .int mo_fault, .int mo_wrongAt, .int mo_laneTold, .long mo_word, .ref a_mo_v, mo_x, .ref a_mo_past, mo_kept, .int mo_acts_8, .int mo_marks, mo_put, mo_bestPut, .long mo_bestSum, mo_row, mo_best, mo_left, .int mo_bestSize, .int mo_bestLeft, mo_counts, .int mo_sets, .int mo_foeHarm, .int mo_ownHarm, .int mo_across, .int mo_sumFoe, .int mo_sumOwn, .int mo_sumWon, .int mo_sumAcross])), (a_mo_v, .inl (cy 1, 19, .inl mo_v)), (a_mo_past, .inl (cy 1, 304, .inl mo_past_9)), (a_wa, .inr (12, [.int wa_lanes, .int wa_deep, .int wa_told, .int wa_beasts, .int wa_cities, .int wa_passes, .int wa_turned, .int wa_names, .ref a_wa_who, wa_strong, wa_kind, wa_lane, wa_mood, wa_price, wa_loses, wa_name, wa_nameSort, wa_numberOf])), (a_wa_who, .inl (cy 1, 6, .inl wa_who))]) hD [0, 1, 2, 3, 4] rfl rfl
        refine lv_aload_n hx hb dX13_teach_58 rfl (lv_at hl 0 rfl) ?_
        refine va_get (D := D) (ci := 13) (C := RX13) (T := TX13) (N := 39) (v := .ref a_mo_v) hx hb hX13 (fun _ q => q) hown hK hP 0 rfl rfl 16 (by decide) (hts (.fieldLink RX13 17 "ElephantLineModel" "v" "[I") (by decide +kernel)) (fun _ h9 => h9) rfl dX13_teach_59 ?_
        refine lv_bipush (v := 11) hx hb dX13_teach_62 (by decide) ?_
        refine lv_iload_n hx hb dX13_teach_64 rfl (lv_at hl 1 rfl) ?_
        refine lv_iadd hx hb dX13_teach_65 ?_
        refine lv_aload_n hx hb dX13_teach_66 rfl (lv_at hl 0 rfl) ?_
        refine va_get (D := D) (ci := 13) (C := RX13) (T := TX13) (N := 39) (v := .ref a_mo_v) hx hb hX13 (fun _ q => q) hown hK hP 0 rfl rfl 16 (by decide) (hts (.fieldLink RX13 17 "ElephantLineModel" "v" "[I") (by decide +kernel)) (fun _ h9 => h9) rfl dX13_teach_67 ?_
        refine lv_bipush (v := 11) hx hb dX13_teach_70 (by decide) ?_
        refine lv_iload_n hx hb dX13_teach_72 rfl (lv_at hl 1 rfl) ?_
        refine lv_iadd hx hb dX13_teach_73 ?_
        obtain ⟨i_11, h⟩ := gIn_some h
        refine va_iald hx hb hK hP 1 1 rfl rfl i_11 dX13_teach_74 ?_
        refine lv_iload_n hx hb dX13_teach_75 rfl (lv_at hl 2 rfl) ?_
        refine lv_iadd hx hb dX13_teach_76 ?_
        refine lv_bipush (v := 30) hx hb dX13_teach_77 (by decide) ?_
        have jn98 : ∀ (t2_12 : Int32), f_X13_teach_B98 wa_lanes wa_who p1 (11 + p1) t2_12 0 mo_trouble mo_where mo_acts_8 mo_v mo_past_9 = some (res, mo_thrown', mo_trouble', mo_where', mo_acts', mo_v', mo_past') → ∀ (H : Heap) (locs : List Loc), va_P D vwCl ([(a_mo, .inr (13, [.int 0, .int mo_trouble, .int mo_where, .ref a_wa, mo_read, mo_tape, .int mo_taped, .int mo_size, .int mo_spot, .int mo_sort, .int mo_place, .int mo_number, .int mo_fault, .int mo_wrongAt, .int mo_laneTold, .long mo_word, .ref a_mo_v, mo_x, .ref a_mo_past, mo_kept, .int mo_acts_8, .int mo_marks, mo_put, mo_bestPut, .long mo_bestSum, mo_row, mo_best, mo_left, .int mo_bestSize, .int mo_bestLeft, mo_counts, .int mo_sets, .int mo_foeHarm, .int mo_ownHarm, .int mo_across, .int mo_sumFoe, .int mo_sumOwn, .int mo_sumWon, .int mo_sumAcross])), (a_mo_v, .inl (cy 1, 19, .inl mo_v)), (a_mo_past, .inl (cy 1, 304, .inl mo_past_9)), (a_wa, .inr (12, [.int wa_lanes, .int wa_deep, .int wa_told, .int wa_beasts, .int wa_cities, .int wa_passes, .int wa_turned, .int wa_names, .ref a_wa_who, wa_strong, wa_kind, wa_lane, wa_mood, wa_price, wa_loses, wa_name, wa_nameSort, wa_numberOf])), (a_wa_who, .inl (cy 1, 6, .inl wa_who))] ++ X) H → va_D A ([(a_mo, .inr (13, [.int 0, .int mo_trouble, .int mo_where, .ref a_wa, mo_read, mo_tape, .int mo_taped, .int mo_size, .int mo_spot, .int mo_sort, .int mo_place, .int mo_number, .int mo_fault, .int mo_wrongAt, .int mo_laneTold, .long mo_word, .ref a_mo_v, mo_x, .ref a_mo_past, mo_kept, .int mo_acts_8, .int mo_marks, mo_put, mo_bestPut, .long mo_bestSum, mo_row, mo_best, mo_left, .int mo_bestSize, .int mo_bestLeft, mo_counts, .int mo_sets, .int mo_foeHarm, .int mo_ownHarm, .int mo_across, .int mo_sumFoe, .int mo_sumOwn, .int mo_sumWon, .int mo_sumAcross])), (a_mo_v, .inl (cy 1, 19, .inl mo_v)), (a_mo_past, .inl (cy 1, 304, .inl mo_past_9)), (a_wa, .inr (12, [.int wa_lanes, .int wa_deep, .int wa_told, .int wa_beasts, .int wa_cities, .int wa_passes, .int wa_turned, .int wa_names, .ref a_wa_who, wa_strong, wa_kind, wa_lane, wa_mood, wa_price, wa_loses, wa_name, wa_nameSort, wa_numberOf])), (a_wa_who, .inl (cy 1, 6, .inl wa_who))] ++ X) → va_S A s.heap H locs → ∀ ls : Array Slot, lv_has ls 3 [(0, .ref a_mo), (1, .int p1)] → W p l e (headSpec wo_X13_teach ({ frames := 1, cells := 0, slots := 0, locals := 22 })).room s m (([.ref a_mo, .int p1, .int p2] : List Value).toArray) below meth c H locs 0 0 (MQ below (va_Qi (fun (r : Int32) (_ : Unit) => r = res) (wB D A ([(a_mo, .inr (13, [.int mo_thrown', .int mo_trouble', .int mo_where', .ref a_wa, mo_read, mo_tape, .int mo_taped, .int mo_size, .int mo_spot, .int mo_sort, .int mo_place, .int mo_number, .int mo_fault, .int mo_wrongAt, .int mo_laneTold, .long mo_word, .ref a_mo_v, mo_x, .ref a_mo_past, mo_kept, .int mo_acts', .int mo_marks, mo_put, mo_bestPut, .long mo_bestSum, mo_row, mo_best, mo_left, .int mo_bestSize, .int mo_bestLeft, mo_counts, .int mo_sets, .int mo_foeHarm, .int mo_ownHarm, .int mo_across, .int mo_sumFoe, .int mo_sumOwn, .int mo_sumWon, .int mo_sumAcross])), (a_mo_v, .inl (cy 1, 19, .inl mo_v')), (a_mo_past, .inl (cy 1, 304, .inl mo_past')), (a_wa, .inr (12, [.int wa_lanes, .int wa_deep, .int wa_told, .int wa_beasts, .int wa_cities, .int wa_passes, .int wa_turned, .int wa_names, .ref a_wa_who, wa_strong, wa_kind, wa_lane, wa_mood, wa_price, wa_loses, wa_name, wa_nameSort, wa_numberOf])), (a_wa_who, .inl (cy 1, 6, .inl wa_who))] ++ X)) A) (([.ref a_mo, .int p1, .int p2] : List Value).toArray) s 0 0 A) (F0 m 98 ls [.int t2_12, .int (11 + p1), .ref a_mo_v]) := by
          intro t2_12 h H locs hP hD hS ls hl
          unfold f_X13_teach_B98 at h
          obtain ⟨i_13, h⟩ := gIn_some h
          refine va_iast hx hb hK hP hD hS 1 1 rfl rfl i_13 dX13_teach_98 (fun H locs hP hD hS => ?_)
          refine lv_aload_n hx hb dX13_teach_99 rfl (lv_at hl 0 rfl) ?_
          refine lv_aload_n hx hb dX13_teach_100 rfl (lv_at hl 0 rfl) ?_
          refine va_get (D := D) (ci := 13) (C := RX13) (T := TX13) (N := 39) (v := .ref a_mo_v) hx hb hX13 (fun _ q => q) hown hK hP 0 rfl rfl 16 (by decide) (hts (.fieldLink RX13 17 "ElephantLineModel" "v" "[I") (by decide +kernel)) (fun _ h9 => h9) rfl dX13_teach_101 ?_
          refine lv_bipush (v := 11) hx hb dX13_teach_104 (by decide) ?_
          refine lv_iload_n hx hb dX13_teach_106 rfl (lv_at hl 1 rfl) ?_
          refine lv_iadd hx hb dX13_teach_107 ?_
          obtain ⟨i_14, h⟩ := gIn_some h
          refine va_iald hx hb hK hP 1 1 rfl rfl i_14 dX13_teach_108 ?_
          have hP : va_P D vwCl ([(a_mo, .inr (13, [.int 0, .int mo_trouble, .int mo_where, .ref a_wa, mo_read, mo_tape, .int mo_taped, .int mo_size, .int mo_spot, .int mo_sort, .int mo_place, .int mo_number, .int mo_fault, .int mo_wrongAt, .int mo_laneTold, .long mo_word, .ref a_mo_v, mo_x, .ref a_mo_past, mo_kept, .int mo_acts_8, .int mo_marks, mo_put, mo_bestPut, .long mo_bestSum, mo_row, mo_best, mo_left, .int mo_bestSize, .int mo_bestLeft, mo_counts, .int mo_sets, .int mo_foeHarm, .int mo_ownHarm, .int mo_across, .int mo_sumFoe, .int mo_sumOwn, .int mo_sumWon, .int mo_sumAcross])), (a_mo_v, .inl (cy 1, 19, .inl (upd mo_v (11 + p1).toNatClampNeg t2_12))), (a_mo_past, .inl (cy 1, 304, .inl mo_past_9)), (a_wa, .inr (12, [.int wa_lanes, .int wa_deep, .int wa_told, .int wa_beasts, .int wa_cities, .int wa_passes, .int wa_turned, .int wa_names, .ref a_wa_who, wa_strong, wa_kind, wa_lane, wa_mood, wa_price, wa_loses, wa_name, wa_nameSort, wa_numberOf])), (a_wa_who, .inl (cy 1, 6, .inl wa_who))] ++ X) H := hP
          have hD : va_D A ([(a_mo, .inr (13, [.int 0, .int mo_trouble, .int mo_where, .ref a_wa, mo_read, mo_tape, .int mo_taped, .int mo_size, .int mo_spot, .int mo_sort, .int mo_place, .int mo_number, .int mo_fault, .int mo_wrongAt, .int mo_laneTold, .long mo_word, .ref a_mo_v, mo_x, .ref a_mo_past, mo_kept, .int mo_acts_8, .int mo_marks, mo_put, mo_bestPut, .long mo_bestSum, mo_row, mo_best, mo_left, .int mo_bestSize, .int mo_bestLeft, mo_counts, .int mo_sets, .int mo_foeHarm, .int mo_ownHarm, .int mo_across, .int mo_sumFoe, .int mo_sumOwn, .int mo_sumWon, .int mo_sumAcross])), (a_mo_v, .inl (cy 1, 19, .inl (upd mo_v (11 + p1).toNatClampNeg t2_12))), (a_mo_past, .inl (cy 1, 304, .inl mo_past_9)), (a_wa, .inr (12, [.int wa_lanes, .int wa_deep, .int wa_told, .int wa_beasts, .int wa_cities, .int wa_passes, .int wa_turned, .int wa_names, .ref a_wa_who, wa_strong, wa_kind, wa_lane, wa_mood, wa_price, wa_loses, wa_name, wa_nameSort, wa_numberOf])), (a_wa_who, .inl (cy 1, 6, .inl wa_who))] ++ X) := hD
          obtain ⟨r_15, mo_trouble_16, mo_where_17, hc_18, h⟩ := bd3_some h
          refine wVi [.int ((upd mo_v (11 + p1).toNatClampNeg t2_12) (11 + p1).toNatClampNeg)] [] ⟨hx, hb, hml, hown, hts⟩ (c_X13_good l D cy A ([(a_mo_v, .inl (cy 1, 19, .inl (upd mo_v (11 + p1).toNatClampNeg t2_12))), (a_mo_past, .inl (cy 1, 304, .inl mo_past_9)), (a_wa, .inr (12, [.int wa_lanes, .int wa_deep, .int wa_told, .int wa_beasts, .int wa_cities, .int wa_passes, .int wa_turned, .int wa_names, .ref a_wa_who, wa_strong, wa_kind, wa_lane, wa_mood, wa_price, wa_loses, wa_name, wa_nameSort, wa_numberOf])), (a_wa_who, .inl (cy 1, 6, .inl wa_who))] ++ X) a_mo 0 mo_trouble mo_where (.ref a_wa) (mo_read) (mo_tape) mo_taped mo_size mo_spot mo_sort mo_place mo_number mo_fault mo_wrongAt mo_laneTold mo_word (.ref a_mo_v) (mo_x) (.ref a_mo_past) (mo_kept) mo_acts_8 mo_marks (mo_put) (mo_bestPut) mo_bestSum (mo_row) (mo_best) (mo_left) mo_bestSize mo_bestLeft (mo_counts) mo_sets mo_foeHarm mo_ownHarm mo_across mo_sumFoe mo_sumOwn mo_sumWon mo_sumAcross ((upd mo_v (11 + p1).toNatClampNeg t2_12) (11 + p1).toNatClampNeg) r_15 mo_trouble_16 mo_where_17 hc_18) gX13_teach_X13_good rfl hd_X13_good ⟨Nat.le_of_ble_eq_true rfl, Nat.le_of_ble_eq_true rfl⟩ rfl rfl hKN (pX3 hP [0, 1, 2, 3, 4] rfl) (dX3 hD [0, 1, 2, 3, 4] rfl rfl) hS hA 13 0 rfl rfl rfl hl.1 rfl (Nat.le_of_ble_eq_true rfl) dX13_teach_109 ⟨Nat.le_of_ble_eq_true rfl, Nat.le_of_ble_eq_true rfl⟩ (fun H locs hP hD hS => ?_)
          have hP := pX4 (L1 := [(a_mo, .inr (13, [.int 0, .int mo_trouble_16, .int mo_where_17, .ref a_wa, mo_read, mo_tape, .int mo_taped, .int mo_size, .int mo_spot, .int mo_sort, .int mo_place, .int mo_number, .int mo_fault, .int mo_wrongAt, .int mo_laneTold, .long mo_word, .ref a_mo_v, mo_x, .ref a_mo_past, mo_kept, .int mo_acts_8, .int mo_marks, mo_put, mo_bestPut, .long mo_bestSum, mo_row, mo_best, mo_left, .int mo_bestSize, .int mo_bestLeft, mo_counts, .int mo_sets, .int mo_foeHarm, .int mo_ownHarm, .int mo_across, .int mo_sumFoe, .int mo_sumOwn, .int mo_sumWon, .int mo_sumAcross])), (a_mo_v, .inl (cy 1, 19, .inl (upd mo_v (11 + p1).toNatClampNeg t2_12))), (a_mo_past, .inl (cy 1, 304, .inl mo_past_9)), (a_wa, .inr (12, [.int wa_lanes, .int wa_deep, .int wa_told, .int wa_beasts, .int wa_cities, .int wa_passes, .int wa_turned, .int wa_names, .ref a_wa_who, wa_strong, wa_kind, wa_lane, wa_mood, wa_price, wa_loses, wa_name, wa_nameSort, wa_numberOf])), (a_wa_who, .inl (cy 1, 6, .inl wa_who))]) hP [0, 1, 2, 3, 4] rfl
          have hD := dX4 (L1 := [(a_mo, .inr (13, [.int 0, .int mo_trouble_16, .int mo_where_17, .ref a_wa, mo_read, mo_tape, .int mo_taped, .int mo_size, .int mo_spot, .int mo_sort, .int mo_place, .int mo_number, .int mo_fault, .int mo_wrongAt, .int mo_laneTold, .long mo_word, .ref a_mo_v, mo_x, .ref a_mo_past, mo_kept, .int mo_acts_8, .int mo_marks, mo_put, mo_bestPut, .long mo_bestSum, mo_row, mo_best, mo_left, .int mo_bestSize, .int mo_bestLeft, mo_counts, .int mo_sets, .int mo_foeHarm, .int mo_ownHarm, .int mo_across, .int mo_sumFoe, .int mo_sumOwn, .int mo_sumWon, .int mo_sumAcross])), (a_mo_v, .inl (cy 1, 19, .inl (upd mo_v (11 + p1).toNatClampNeg t2_12))), (a_mo_past, .inl (cy 1, 304, .inl mo_past_9)), (a_wa, .inr (12, [.int wa_lanes, .int wa_deep, .int wa_told, .int wa_beasts, .int wa_cities, .int wa_passes, .int wa_turned, .int wa_names, .ref a_wa_who, wa_strong, wa_kind, wa_lane, wa_mood, wa_price, wa_loses, wa_name, wa_nameSort, wa_numberOf])), (a_wa_who, .inl (cy 1, 6, .inl wa_who))]) hD [0, 1, 2, 3, 4] rfl rfl
          have h0 := Option.some.inj h
          clear h
          obtain ⟨e1, h1⟩ := pjP h0
          clear h0
          subst e1
          obtain ⟨e2, h2⟩ := pjP h1
          clear h1
          subst e2
          obtain ⟨e3, h3⟩ := pjP h2
          clear h2
          subst e3
          obtain ⟨e4, h4⟩ := pjP h3
          clear h3
          subst e4
          obtain ⟨e5, h5⟩ := pjP h4
          clear h4
          subst e5
          obtain ⟨e6, h6⟩ := pjP h5
          clear h5
          subst e6
          subst h6
          exact W.iret hx hb hr (fun t ht _ => ⟨⟨_, (), rfl, rfl, by rw [ht]; exact hP, hD⟩, hS.F ht⟩) hS.2.2 dX13_teach_112
        refine lv_icmp_ge (tgt := 96) hx hb dX13_teach_79 (by decide) (fun cd => ?_) (fun cd => ?_)
        · have h := ifT cd h
          refine lv_bipush (v := 30) hx hb dX13_teach_96 (by decide) ?_
          exact jn98 (30 : Int32) h _ _ hP hD hS _ (lv_sub hl [0, 1] rfl)
        · have h := ifF cd h
          refine lv_aload_n hx hb dX13_teach_82 rfl (lv_at hl 0 rfl) ?_
          refine va_get (D := D) (ci := 13) (C := RX13) (T := TX13) (N := 39) (v := .ref a_mo_v) hx hb hX13 (fun _ q => q) hown hK hP 0 rfl rfl 16 (by decide) (hts (.fieldLink RX13 17 "ElephantLineModel" "v" "[I") (by decide +kernel)) (fun _ h9 => h9) rfl dX13_teach_83 ?_
          refine lv_bipush (v := 11) hx hb dX13_teach_86 (by decide) ?_
          refine lv_iload_n hx hb dX13_teach_88 rfl (lv_at hl 1 rfl) ?_
          refine lv_iadd hx hb dX13_teach_89 ?_
          obtain ⟨i_19, h⟩ := gIn_some h
          refine va_iald hx hb hK hP 1 1 rfl rfl i_19 dX13_teach_90 ?_
          refine lv_iload_n hx hb dX13_teach_91 rfl (lv_at hl 2 rfl) ?_
          refine lv_iadd hx hb dX13_teach_92 ?_
          refine lv_goto (tgt := 98) hx hb dX13_teach_93 (by decide) ?_
          exact jn98 ((mo_v (11 + p1).toNatClampNeg) + p2) h _ _ hP hD hS _ (lv_sub hl [0, 1] rfl)
      · have h := ifF cd h
        refine lv_aload_n hx hb dX13_teach_48 rfl (lv_at hl 0 rfl) ?_
        refine lv_iconst (v := 5) hx hb dX13_teach_49 (by decide) ?_
        obtain ⟨r_20, mo_trouble_21, mo_where_22, hc_23, h⟩ := bd3_some h
        refine wVi [.int 5] [] ⟨hx, hb, hml, hown, hts⟩ (c_X13_refused l D cy A ([(a_mo_v, .inl (cy 1, 19, .inl mo_v)), (a_mo_past, .inl (cy 1, 304, .inl mo_past)), (a_wa, .inr (12, [.int wa_lanes, .int wa_deep, .int wa_told, .int wa_beasts, .int wa_cities, .int wa_passes, .int wa_turned, .int wa_names, .ref a_wa_who, wa_strong, wa_kind, wa_lane, wa_mood, wa_price, wa_loses, wa_name, wa_nameSort, wa_numberOf])), (a_wa_who, .inl (cy 1, 6, .inl wa_who))] ++ X) a_mo 0 mo_trouble mo_where (.ref a_wa) (mo_read) (mo_tape) mo_taped mo_size mo_spot mo_sort mo_place mo_number mo_fault mo_wrongAt mo_laneTold mo_word (.ref a_mo_v) (mo_x) (.ref a_mo_past) (mo_kept) mo_acts mo_marks (mo_put) (mo_bestPut) mo_bestSum (mo_row) (mo_best) (mo_left) mo_bestSize mo_bestLeft (mo_counts) mo_sets mo_foeHarm mo_ownHarm mo_across mo_sumFoe mo_sumOwn mo_sumWon mo_sumAcross (5 : Int32) r_20 mo_trouble_21 mo_where_22 hc_23) gX13_teach_X13_refused rfl hd_X13_refused ⟨Nat.le_of_ble_eq_true rfl, Nat.le_of_ble_eq_true rfl⟩ rfl rfl hKN (pX3 hP [0, 1, 2, 3, 4] rfl) (dX3 hD [0, 1, 2, 3, 4] rfl rfl) hS hA 13 0 rfl rfl rfl hl.1 rfl (Nat.le_of_ble_eq_true rfl) dX13_teach_50 ⟨Nat.le_of_ble_eq_true rfl, Nat.le_of_ble_eq_true rfl⟩ (fun H locs hP hD hS => ?_)
        have hP := pX4 (L1 := [(a_mo, .inr (13, [.int 0, .int mo_trouble_21, .int mo_where_22, .ref a_wa, mo_read, mo_tape, .int mo_taped, .int mo_size, .int mo_spot, .int mo_sort, .int mo_place, .int mo_number, .int mo_fault, .int mo_wrongAt, .int mo_laneTold, .long mo_word, .ref a_mo_v, mo_x, .ref a_mo_past, mo_kept, .int mo_acts, .int mo_marks, mo_put, mo_bestPut, .long mo_bestSum, mo_row, mo_best, mo_left, .int mo_bestSize, .int mo_bestLeft, mo_counts, .int mo_sets, .int mo_foeHarm, .int mo_ownHarm, .int mo_across, .int mo_sumFoe, .int mo_sumOwn, .int mo_sumWon, .int mo_sumAcross])), (a_mo_v, .inl (cy 1, 19, .inl mo_v)), (a_mo_past, .inl (cy 1, 304, .inl mo_past)), (a_wa, .inr (12, [.int wa_lanes, .int wa_deep, .int wa_told, .int wa_beasts, .int wa_cities, .int wa_passes, .int wa_turned, .int wa_names, .ref a_wa_who, wa_strong, wa_kind, wa_lane, wa_mood, wa_price, wa_loses, wa_name, wa_nameSort, wa_numberOf])), (a_wa_who, .inl (cy 1, 6, .inl wa_who))]) hP [0, 1, 2, 3, 4] rfl
        have hD := dX4 (L1 := [(a_mo, .inr (13, [.int 0, .int mo_trouble_21, .int mo_where_22, .ref a_wa, mo_read, mo_tape, .int mo_taped, .int mo_size, .int mo_spot, .int mo_sort, .int mo_place, .int mo_number, .int mo_fault, .int mo_wrongAt, .int mo_laneTold, .long mo_word, .ref a_mo_v, mo_x, .ref a_mo_past, mo_kept, .int mo_acts, .int mo_marks, mo_put, mo_bestPut, .long mo_bestSum, mo_row, mo_best, mo_left, .int mo_bestSize, .int mo_bestLeft, mo_counts, .int mo_sets, .int mo_foeHarm, .int mo_ownHarm, .int mo_across, .int mo_sumFoe, .int mo_sumOwn, .int mo_sumWon, .int mo_sumAcross])), (a_mo_v, .inl (cy 1, 19, .inl mo_v)), (a_mo_past, .inl (cy 1, 304, .inl mo_past)), (a_wa, .inr (12, [.int wa_lanes, .int wa_deep, .int wa_told, .int wa_beasts, .int wa_cities, .int wa_passes, .int wa_turned, .int wa_names, .ref a_wa_who, wa_strong, wa_kind, wa_lane, wa_mood, wa_price, wa_loses, wa_name, wa_nameSort, wa_numberOf])), (a_wa_who, .inl (cy 1, 6, .inl wa_who))]) hD [0, 1, 2, 3, 4] rfl rfl
        have h0 := Option.some.inj h
        clear h
        obtain ⟨e1, h1⟩ := pjP h0
        clear h0
        subst e1
        obtain ⟨e2, h2⟩ := pjP h1
        clear h1
        subst e2
        obtain ⟨e3, h3⟩ := pjP h2
        clear h2
        subst e3
        obtain ⟨e4, h4⟩ := pjP h3
        clear h3
        subst e4
        obtain ⟨e5, h5⟩ := pjP h4
        clear h4
        subst e5
        obtain ⟨e6, h6⟩ := pjP h5
        clear h5
        subst e6
        subst h6
        exact W.iret hx hb hr (fun t ht _ => ⟨⟨_, (), rfl, rfl, by rw [ht]; exact hP, hD⟩, hS.F ht⟩) hS.2.2 dX13_teach_53
    · have h := ifT cd h
      refine lv_aload_n hx hb dX13_teach_29 rfl (lv_at hl 0 rfl) ?_
      refine lv_iconst (v := 2) hx hb dX13_teach_30 (by decide) ?_
      obtain ⟨r_24, mo_trouble_25, mo_where_26, hc_27, h⟩ := bd3_some h
      refine wVi [.int 2] [] ⟨hx, hb, hml, hown, hts⟩ (c_X13_refused l D cy A ([(a_mo_v, .inl (cy 1, 19, .inl mo_v)), (a_mo_past, .inl (cy 1, 304, .inl mo_past)), (a_wa, .inr (12, [.int wa_lanes, .int wa_deep, .int wa_told, .int wa_beasts, .int wa_cities, .int wa_passes, .int wa_turned, .int wa_names, .ref a_wa_who, wa_strong, wa_kind, wa_lane, wa_mood, wa_price, wa_loses, wa_name, wa_nameSort, wa_numberOf])), (a_wa_who, .inl (cy 1, 6, .inl wa_who))] ++ X) a_mo 0 mo_trouble mo_where (.ref a_wa) (mo_read) (mo_tape) mo_taped mo_size mo_spot mo_sort mo_place mo_number mo_fault mo_wrongAt mo_laneTold mo_word (.ref a_mo_v) (mo_x) (.ref a_mo_past) (mo_kept) mo_acts mo_marks (mo_put) (mo_bestPut) mo_bestSum (mo_row) (mo_best) (mo_left) mo_bestSize mo_bestLeft (mo_counts) mo_sets mo_foeHarm mo_ownHarm mo_across mo_sumFoe mo_sumOwn mo_sumWon mo_sumAcross (2 : Int32) r_24 mo_trouble_25 mo_where_26 hc_27) gX13_teach_X13_refused rfl hd_X13_refused ⟨Nat.le_of_ble_eq_true rfl, Nat.le_of_ble_eq_true rfl⟩ rfl rfl hKN (pX3 hP [0, 1, 2, 3, 4] rfl) (dX3 hD [0, 1, 2, 3, 4] rfl rfl) hS hA 13 0 rfl rfl rfl hl.1 rfl (Nat.le_of_ble_eq_true rfl) dX13_teach_31 ⟨Nat.le_of_ble_eq_true rfl, Nat.le_of_ble_eq_true rfl⟩ (fun H locs hP hD hS => ?_)
      have hP := pX4 (L1 := [(a_mo, .inr (13, [.int 0, .int mo_trouble_25, .int mo_where_26, .ref a_wa, mo_read, mo_tape, .int mo_taped, .int mo_size, .int mo_spot, .int mo_sort, .int mo_place, .int mo_number, .int mo_fault, .int mo_wrongAt, .int mo_laneTold, .long mo_word, .ref a_mo_v, mo_x, .ref a_mo_past, mo_kept, .int mo_acts, .int mo_marks, mo_put, mo_bestPut, .long mo_bestSum, mo_row, mo_best, mo_left, .int mo_bestSize, .int mo_bestLeft, mo_counts, .int mo_sets, .int mo_foeHarm, .int mo_ownHarm, .int mo_across, .int mo_sumFoe, .int mo_sumOwn, .int mo_sumWon, .int mo_sumAcross])), (a_mo_v, .inl (cy 1, 19, .inl mo_v)), (a_mo_past, .inl (cy 1, 304, .inl mo_past)), (a_wa, .inr (12, [.int wa_lanes, .int wa_deep, .int wa_told, .int wa_beasts, .int wa_cities, .int wa_passes, .int wa_turned, .int wa_names, .ref a_wa_who, wa_strong, wa_kind, wa_lane, wa_mood, wa_price, wa_loses, wa_name, wa_nameSort, wa_numberOf])), (a_wa_who, .inl (cy 1, 6, .inl wa_who))]) hP [0, 1, 2, 3, 4] rfl
      have hD := dX4 (L1 := [(a_mo, .inr (13, [.int 0, .int mo_trouble_25, .int mo_where_26, .ref a_wa, mo_read, mo_tape, .int mo_taped, .int mo_size, .int mo_spot, .int mo_sort, .int mo_place, .int mo_number, .int mo_fault, .int mo_wrongAt, .int mo_laneTold, .long mo_word, .ref a_mo_v, mo_x, .ref a_mo_past, mo_kept, .int mo_acts, .int mo_marks, mo_put, mo_bestPut, .long mo_bestSum, mo_row, mo_best, mo_left, .int mo_bestSize, .int mo_bestLeft, mo_counts, .int mo_sets, .int mo_foeHarm, .int mo_ownHarm, .int mo_across, .int mo_sumFoe, .int mo_sumOwn, .int mo_sumWon, .int mo_sumAcross])), (a_mo_v, .inl (cy 1, 19, .inl mo_v)), (a_mo_past, .inl (cy 1, 304, .inl mo_past)), (a_wa, .inr (12, [.int wa_lanes, .int wa_deep, .int wa_told, .int wa_beasts, .int wa_cities, .int wa_passes, .int wa_turned, .int wa_names, .ref a_wa_who, wa_strong, wa_kind, wa_lane, wa_mood, wa_price, wa_loses, wa_name, wa_nameSort, wa_numberOf])), (a_wa_who, .inl (cy 1, 6, .inl wa_who))]) hD [0, 1, 2, 3, 4] rfl rfl
      have h0 := Option.some.inj h
      clear h
      obtain ⟨e1, h1⟩ := pjP h0
      clear h0
      subst e1
      obtain ⟨e2, h2⟩ := pjP h1
      clear h1
      subst e2
      obtain ⟨e3, h3⟩ := pjP h2
      clear h2
      subst e3
      obtain ⟨e4, h4⟩ := pjP h3
      clear h3
      subst e4
      obtain ⟨e5, h5⟩ := pjP h4
      clear h4
      subst e5
      obtain ⟨e6, h6⟩ := pjP h5
      clear h5
      subst e6
      subst h6
      exact W.iret hx hb hr (fun t ht _ => ⟨⟨_, (), rfl, rfl, by rw [ht]; exact hP, hD⟩, hS.F ht⟩) hS.2.2 dX13_teach_34
  · have h := ifT cd h
    refine lv_aload_n hx hb dX13_teach_13 rfl (lv_at hl 0 rfl) ?_
    refine lv_iconst (v := 1) hx hb dX13_teach_14 (by decide) ?_
    obtain ⟨r_28, mo_trouble_29, mo_where_30, hc_31, h⟩ := bd3_some h
    refine wVi [.int 1] [] ⟨hx, hb, hml, hown, hts⟩ (c_X13_refused l D cy A ([(a_mo_v, .inl (cy 1, 19, .inl mo_v)), (a_mo_past, .inl (cy 1, 304, .inl mo_past)), (a_wa, .inr (12, [.int wa_lanes, .int wa_deep, .int wa_told, .int wa_beasts, .int wa_cities, .int wa_passes, .int wa_turned, .int wa_names, .ref a_wa_who, wa_strong, wa_kind, wa_lane, wa_mood, wa_price, wa_loses, wa_name, wa_nameSort, wa_numberOf])), (a_wa_who, .inl (cy 1, 6, .inl wa_who))] ++ X) a_mo 0 mo_trouble mo_where (.ref a_wa) (mo_read) (mo_tape) mo_taped mo_size mo_spot mo_sort mo_place mo_number mo_fault mo_wrongAt mo_laneTold mo_word (.ref a_mo_v) (mo_x) (.ref a_mo_past) (mo_kept) mo_acts mo_marks (mo_put) (mo_bestPut) mo_bestSum (mo_row) (mo_best) (mo_left) mo_bestSize mo_bestLeft (mo_counts) mo_sets mo_foeHarm mo_ownHarm mo_across mo_sumFoe mo_sumOwn mo_sumWon mo_sumAcross (1 : Int32) r_28 mo_trouble_29 mo_where_30 hc_31) gX13_teach_X13_refused rfl hd_X13_refused ⟨Nat.le_of_ble_eq_true rfl, Nat.le_of_ble_eq_true rfl⟩ rfl rfl hKN (pX3 hP [0, 1, 2, 3, 4] rfl) (dX3 hD [0, 1, 2, 3, 4] rfl rfl) hS hA 13 0 rfl rfl rfl hl.1 rfl (Nat.le_of_ble_eq_true rfl) dX13_teach_15 ⟨Nat.le_of_ble_eq_true rfl, Nat.le_of_ble_eq_true rfl⟩ (fun H locs hP hD hS => ?_)
    have hP := pX4 (L1 := [(a_mo, .inr (13, [.int 0, .int mo_trouble_29, .int mo_where_30, .ref a_wa, mo_read, mo_tape, .int mo_taped, .int mo_size, .int mo_spot, .int mo_sort, .int mo_place, .int mo_number, .int mo_fault, .int mo_wrongAt, .int mo_laneTold, .long mo_word, .ref a_mo_v, mo_x, .ref a_mo_past, mo_kept, .int mo_acts, .int mo_marks, mo_put, mo_bestPut, .long mo_bestSum, mo_row, mo_best, mo_left, .int mo_bestSize, .int mo_bestLeft, mo_counts, .int mo_sets, .int mo_foeHarm, .int mo_ownHarm, .int mo_across, .int mo_sumFoe, .int mo_sumOwn, .int mo_sumWon, .int mo_sumAcross])), (a_mo_v, .inl (cy 1, 19, .inl mo_v)), (a_mo_past, .inl (cy 1, 304, .inl mo_past)), (a_wa, .inr (12, [.int wa_lanes, .int wa_deep, .int wa_told, .int wa_beasts, .int wa_cities, .int wa_passes, .int wa_turned, .int wa_names, .ref a_wa_who, wa_strong, wa_kind, wa_lane, wa_mood, wa_price, wa_loses, wa_name, wa_nameSort, wa_numberOf])), (a_wa_who, .inl (cy 1, 6, .inl wa_who))]) hP [0, 1, 2, 3, 4] rfl
    have hD := dX4 (L1 := [(a_mo, .inr (13, [.int 0, .int mo_trouble_29, .int mo_where_30, .ref a_wa, mo_read, mo_tape, .int mo_taped, .int mo_size, .int mo_spot, .int mo_sort, .int mo_place, .int mo_number, .int mo_fault, .int mo_wrongAt, .int mo_laneTold, .long mo_word, .ref a_mo_v, mo_x, .ref a_mo_past, mo_kept, .int mo_acts, .int mo_marks, mo_put, mo_bestPut, .long mo_bestSum, mo_row, mo_best, mo_left, .int mo_bestSize, .int mo_bestLeft, mo_counts, .int mo_sets, .int mo_foeHarm, .int mo_ownHarm, .int mo_across, .int mo_sumFoe, .int mo_sumOwn, .int mo_sumWon, .int mo_sumAcross])), (a_mo_v, .inl (cy 1, 19, .inl mo_v)), (a_mo_past, .inl (cy 1, 304, .inl mo_past)), (a_wa, .inr (12, [.int wa_lanes, .int wa_deep, .int wa_told, .int wa_beasts, .int wa_cities, .int wa_passes, .int wa_turned, .int wa_names, .ref a_wa_who, wa_strong, wa_kind, wa_lane, wa_mood, wa_price, wa_loses, wa_name, wa_nameSort, wa_numberOf])), (a_wa_who, .inl (cy 1, 6, .inl wa_who))]) hD [0, 1, 2, 3, 4] rfl rfl
    have h0 := Option.some.inj h
    clear h
    obtain ⟨e1, h1⟩ := pjP h0
    clear h0
    subst e1
    obtain ⟨e2, h2⟩ := pjP h1
    clear h1
    subst e2
    obtain ⟨e3, h3⟩ := pjP h2
    clear h2
    subst e3
    obtain ⟨e4, h4⟩ := pjP h3
    clear h3
    subst e4
    obtain ⟨e5, h5⟩ := pjP h4
    clear h4
    subst e5
    obtain ⟨e6, h6⟩ := pjP h5
    clear h5
    subst e6
    subst h6
    exact W.iret hx hb hr (fun t ht _ => ⟨⟨_, (), rfl, rfl, by rw [ht]; exact hP, hD⟩, hS.F ht⟩) hS.2.2 dX13_teach_18
theorem hd_X13_rain : yX13_rain.cls = RX13 ∧ yX13_rain.cls ≠ "java/lang/invoke/MethodHandle" ∧ yX13_rain.cls ≠ "java/lang/invoke/VarHandle" ∧ (parseMethodDescriptor yX13_rain.desc).map (fun d => d.parameters.length) = some 1 := by decide +kernel
set_option maxHeartbeats 4000000 in
set_option maxRecDepth 100000 in
theorem c_X13_rain (l : Launch) (D : va_G) (cy : Nat → ClassId) (A : Nat → Prop) (X : va_W) (a_mo a_mo_v a_mo_past a_wa : Nat) (mo_thrown : Int32) (mo_trouble : Int32) (mo_where : Int32) (mo_read : Value) (mo_tape : Value) (mo_taped : Int32) (mo_size : Int32) (mo_spot : Int32) (mo_sort : Int32) (mo_place : Int32) (mo_number : Int32) (mo_fault : Int32) (mo_wrongAt : Int32) (mo_laneTold : Int32) (mo_word : Int64) (mo_x : Value) (mo_kept : Value) (mo_acts : Int32) (mo_marks : Int32) (mo_put : Value) (mo_bestPut : Value) (mo_bestSum : Int64) (mo_row : Value) (mo_best : Value) (mo_left : Value) (mo_bestSize : Int32) (mo_bestLeft : Int32) (mo_counts : Value) (mo_sets : Int32) (mo_foeHarm : Int32) (mo_ownHarm : Int32) (mo_across : Int32) (mo_sumFoe : Int32) (mo_sumOwn : Int32) (mo_sumWon : Int32) (mo_sumAcross : Int32) (mo_v : Nat → Int32) (mo_past : Nat → Int32) (p1 : Int32) (res : Int32) (mo_thrown' : Int32) (mo_trouble' : Int32) (mo_where' : Int32) (mo_acts' : Int32) (mo_v' : Nat → Int32) (mo_past' : Nat → Int32) (h : f_X13_rain mo_thrown mo_trouble mo_where mo_acts mo_v mo_past p1 = some (res, mo_thrown', mo_trouble', mo_where', mo_acts', mo_v', mo_past')) : Met l yX13_rain wo_X13_rain ({ frames := 2, cells := 0, slots := 0, locals := 42 }) (wrPc D cy A [.ref a_mo, .int p1] ([(a_mo, .inr (13, [.int mo_thrown, .int mo_trouble, .int mo_where, .ref a_wa, mo_read, mo_tape, .int mo_taped, .int mo_size, .int mo_spot, .int mo_sort, .int mo_place, .int mo_number, .int mo_fault, .int mo_wrongAt, .int mo_laneTold, .long mo_word, .ref a_mo_v, mo_x, .ref a_mo_past, mo_kept, .int mo_acts, .int mo_marks, mo_put, mo_bestPut, .long mo_bestSum, mo_row, mo_best, mo_left, .int mo_bestSize, .int mo_bestLeft, mo_counts, .int mo_sets, .int mo_foeHarm, .int mo_ownHarm, .int mo_across, .int mo_sumFoe, .int mo_sumOwn, .int mo_sumWon, .int mo_sumAcross])), (a_mo_v, .inl (cy 1, 19, .inl mo_v)), (a_mo_past, .inl (cy 1, 304, .inl mo_past))] ++ X)) (va_Qi (fun (r : Int32) (_ : Unit) => r = res ∧ nbv r) (wB D A ([(a_mo, .inr (13, [.int mo_thrown', .int mo_trouble', .int mo_where', .ref a_wa, mo_read, mo_tape, .int mo_taped, .int mo_size, .int mo_spot, .int mo_sort, .int mo_place, .int mo_number, .int mo_fault, .int mo_wrongAt, .int mo_laneTold, .long mo_word, .ref a_mo_v, mo_x, .ref a_mo_past, mo_kept, .int mo_acts', .int mo_marks, mo_put, mo_bestPut, .long mo_bestSum, mo_row, mo_best, mo_left, .int mo_bestSize, .int mo_bestLeft, mo_counts, .int mo_sets, .int mo_foeHarm, .int mo_ownHarm, .int mo_across, .int mo_sumFoe, .int mo_sumOwn, .int mo_sumWon, .int mo_sumAcross])), (a_mo_v, .inl (cy 1, 19, .inl mo_v')), (a_mo_past, .inl (cy 1, 304, .inl mo_past'))] ++ X)) A) 0 0 A := by
  refine Met.ofW (cc := cX13_rain) (maxL := 2) (ret := (some .boolean)) (by decide) rfl ?_
  intro p e s m args below meth c s₁ B hml hv
  obtain ⟨rfl, hP, hKN, hD, hA⟩ := hv
  have hK := hKN.1
  have hx := B.exec
  have hb := B.bytes
  have hr := B.returns
  have hts := wt_X13_rain hKN.2.2 (([.ref a_mo, .int p1] : List Value).toArray)
  have hown : s.vm.findClass RX13 = some m.cls := findClass_of_methodNamed B.named
  have hlocks := B.notSynchronized
  have hS : va_S A s.heap s.heap [] := va_S.rf
  have hX13 := wc_X13 hKN.2.2 (([.ref a_mo, .int p1] : List Value).toArray)
  have hl := lv_entry ([.ref a_mo, .int p1]) (n := 2) (Nat.le_of_ble_eq_true rfl)
  rw [lg_entry_eq]
  generalize (lg_sl ([.ref a_mo, .int p1]) ++ List.replicate (2 - (lg_sl ([.ref a_mo, .int p1])).length) Slot.unset).toArray = ls at hl ⊢
  have hl : lv_has ls 2 [(0, .ref a_mo), (1, .int p1)] := hl
  unfold f_X13_rain at h
  refine lv_aload_n hx hb dX13_rain_0 rfl (lv_at hl 0 rfl) ?_
  refine lv_iconst (v := 0) hx hb dX13_rain_1 (by decide) ?_
  refine va_put (D := D) (ci := 13) (C := RX13) (T := TX13) (N := 39) (v := .int 0) (ty := .int) hx hb hX13 (fun _ q => q) tyX13 tyX13_ok nmX13 hown hK hP hD hS 0 rfl rfl 0 (by decide) (hts (.fieldLink RX13 48 "ElephantLineModel" "thrown" "I") (by decide +kernel)) (fun _ h9 => h9) rfl (tyX13_ok 0 (by decide)) rfl rfl (Nat.le_of_ble_eq_true rfl) dX13_rain_2 (fun H locs hP hD hS => ?_)
  refine lv_aload_n hx hb dX13_rain_5 rfl (lv_at hl 0 rfl) ?_
  refine va_get (D := D) (ci := 13) (C := RX13) (T := TX13) (N := 39) (v := .ref a_wa) hx hb hX13 (fun _ q => q) hown hK hP 0 rfl rfl 3 (by decide) (hts (.fieldLink RX13 301 "ElephantLineModel" "war" "LElephantLineModel$War;") (by decide +kernel)) (fun _ h9 => h9) rfl dX13_rain_6 ?_
  refine lv_ifnonnull (tgt := 18) hx hb dX13_rain_9 (by decide) ?_
  refine lv_aload_n hx hb dX13_rain_18 rfl (lv_at hl 0 rfl) ?_
  refine va_get (D := D) (ci := 13) (C := RX13) (T := TX13) (N := 39) (v := .ref a_mo_v) hx hb hX13 (fun _ q => q) hown hK hP 0 rfl rfl 16 (by decide) (hts (.fieldLink RX13 17 "ElephantLineModel" "v" "[I") (by decide +kernel)) (fun _ h9 => h9) rfl dX13_rain_19 ?_
  refine lv_bipush (v := 17) hx hb dX13_rain_22 (by decide) ?_
  refine va_iald hx hb hK hP 1 1 rfl rfl (vpc (by decide)) dX13_rain_24 ?_
  refine lv_iconst (v := 1) hx hb dX13_rain_25 (by decide) ?_
  have jn34 : ∀ (t0_1 : Int32), nbv t0_1 → f_X13_rain_B34 p1 t0_1 0 mo_trouble mo_where mo_acts mo_v mo_past = some (res, mo_thrown', mo_trouble', mo_where', mo_acts', mo_v', mo_past') → ∀ (H : Heap) (locs : List Loc), va_P D vwCl ([(a_mo, .inr (13, [.int 0, .int mo_trouble, .int mo_where, .ref a_wa, mo_read, mo_tape, .int mo_taped, .int mo_size, .int mo_spot, .int mo_sort, .int mo_place, .int mo_number, .int mo_fault, .int mo_wrongAt, .int mo_laneTold, .long mo_word, .ref a_mo_v, mo_x, .ref a_mo_past, mo_kept, .int mo_acts, .int mo_marks, mo_put, mo_bestPut, .long mo_bestSum, mo_row, mo_best, mo_left, .int mo_bestSize, .int mo_bestLeft, mo_counts, .int mo_sets, .int mo_foeHarm, .int mo_ownHarm, .int mo_across, .int mo_sumFoe, .int mo_sumOwn, .int mo_sumWon, .int mo_sumAcross])), (a_mo_v, .inl (cy 1, 19, .inl mo_v)), (a_mo_past, .inl (cy 1, 304, .inl mo_past))] ++ X) H → va_D A ([(a_mo, .inr (13, [.int 0, .int mo_trouble, .int mo_where, .ref a_wa, mo_read, mo_tape, .int mo_taped, .int mo_size, .int mo_spot, .int mo_sort, .int mo_place, .int mo_number, .int mo_fault, .int mo_wrongAt, .int mo_laneTold, .long mo_word, .ref a_mo_v, mo_x, .ref a_mo_past, mo_kept, .int mo_acts, .int mo_marks, mo_put, mo_bestPut, .long mo_bestSum, mo_row, mo_best, mo_left, .int mo_bestSize, .int mo_bestLeft, mo_counts, .int mo_sets, .int mo_foeHarm, .int mo_ownHarm, .int mo_across, .int mo_sumFoe, .int mo_sumOwn, .int mo_sumWon, .int mo_sumAcross])), (a_mo_v, .inl (cy 1, 19, .inl mo_v)), (a_mo_past, .inl (cy 1, 304, .inl mo_past))] ++ X) → va_S A s.heap H locs → ∀ ls : Array Slot, lv_has ls 2 [(0, .ref a_mo), (1, .int p1)] → W p l e (headSpec wo_X13_rain ({ frames := 2, cells := 0, slots := 0, locals := 42 })).room s m (([.ref a_mo, .int p1] : List Value).toArray) below meth c H locs 0 0 (MQ below (va_Qi (fun (r : Int32) (_ : Unit) => r = res ∧ nbv r) (wB D A ([(a_mo, .inr (13, [.int mo_thrown', .int mo_trouble', .int mo_where', .ref a_wa, mo_read, mo_tape, .int mo_taped, .int mo_size, .int mo_spot, .int mo_sort, .int mo_place, .int mo_number, .int mo_fault, .int mo_wrongAt, .int mo_laneTold, .long mo_word, .ref a_mo_v, mo_x, .ref a_mo_past, mo_kept, .int mo_acts', .int mo_marks, mo_put, mo_bestPut, .long mo_bestSum, mo_row, mo_best, mo_left, .int mo_bestSize, .int mo_bestLeft, mo_counts, .int mo_sets, .int mo_foeHarm, .int mo_ownHarm, .int mo_across, .int mo_sumFoe, .int mo_sumOwn, .int mo_sumWon, .int mo_sumAcross])), (a_mo_v, .inl (cy 1, 19, .inl mo_v')), (a_mo_past, .inl (cy 1, 304, .inl mo_past'))] ++ X)) A) (([.ref a_mo, .int p1] : List Value).toArray) s 0 0 A) (F0 m 34 ls [.int t0_1]) := by
    intro t0_1 hnb_t0_1 h H locs hP hD hS ls hl
    unfold f_X13_rain_B34 at h
    refine lv_iload_n hx hb dX13_rain_34 rfl (lv_at hl 1 rfl) ?_
    refine lv_icmp_ne (tgt := 44) hx hb dX13_rain_35 (by decide) (fun cd => ?_) (fun cd => ?_)
    · have h := ifF cd h
      refine lv_aload_n hx hb dX13_rain_44 rfl (lv_at hl 0 rfl) ?_
      obtain ⟨mo_acts_2, mo_past_3, hc_4, h⟩ := bd2_some h
      refine wVv [] [] ⟨hx, hb, hml, hown, hts⟩ (c_X13_remembers l D cy A X a_mo a_mo_v a_mo_past 0 mo_trouble mo_where (.ref a_wa) (mo_read) (mo_tape) mo_taped mo_size mo_spot mo_sort mo_place mo_number mo_fault mo_wrongAt mo_laneTold mo_word (mo_x) (mo_kept) mo_acts mo_marks (mo_put) (mo_bestPut) mo_bestSum (mo_row) (mo_best) (mo_left) mo_bestSize mo_bestLeft (mo_counts) mo_sets mo_foeHarm mo_ownHarm mo_across mo_sumFoe mo_sumOwn mo_sumWon mo_sumAcross mo_v mo_past mo_acts_2 mo_past_3 hc_4) gX13_rain_X13_remembers rfl hd_X13_remembers ⟨Nat.le_of_ble_eq_true rfl, Nat.le_of_ble_eq_true rfl⟩ rfl rfl hKN hP hD hS hA 13 0 rfl rfl rfl hl.1 rfl (Nat.le_of_ble_eq_true rfl) dX13_rain_45 ⟨Nat.le_of_ble_eq_true rfl, Nat.le_of_ble_eq_true rfl⟩ (fun H locs hP hD hS => ?_)
      refine lv_aload_n hx hb dX13_rain_48 rfl (lv_at hl 0 rfl) ?_
      refine va_get (D := D) (ci := 13) (C := RX13) (T := TX13) (N := 39) (v := .ref a_mo_v) hx hb hX13 (fun _ q => q) hown hK hP 0 rfl rfl 16 (by decide) (hts (.fieldLink RX13 17 "ElephantLineModel" "v" "[I") (by decide +kernel)) (fun _ h9 => h9) rfl dX13_rain_49 ?_
      refine lv_bipush (v := 17) hx hb dX13_rain_52 (by decide) ?_
      refine lv_iload_n hx hb dX13_rain_54 rfl (lv_at hl 1 rfl) ?_
      have jn63 : ∀ (t2_5 : Int32), nbv t2_5 → f_X13_rain_B63 17 t2_5 0 mo_trouble mo_where mo_acts_2 mo_v mo_past_3 = some (res, mo_thrown', mo_trouble', mo_where', mo_acts', mo_v', mo_past') → ∀ (H : Heap) (locs : List Loc), va_P D vwCl ([(a_mo, .inr (13, [.int 0, .int mo_trouble, .int mo_where, .ref a_wa, mo_read, mo_tape, .int mo_taped, .int mo_size, .int mo_spot, .int mo_sort, .int mo_place, .int mo_number, .int mo_fault, .int mo_wrongAt, .int mo_laneTold, .long mo_word, .ref a_mo_v, mo_x, .ref a_mo_past, mo_kept, .int mo_acts_2, .int mo_marks, mo_put, mo_bestPut, .long mo_bestSum, mo_row, mo_best, mo_left, .int mo_bestSize, .int mo_bestLeft, mo_counts, .int mo_sets, .int mo_foeHarm, .int mo_ownHarm, .int mo_across, .int mo_sumFoe, .int mo_sumOwn, .int mo_sumWon, .int mo_sumAcross])), (a_mo_v, .inl (cy 1, 19, .inl mo_v)), (a_mo_past, .inl (cy 1, 304, .inl mo_past_3))] ++ X) H → va_D A ([(a_mo, .inr (13, [.int 0, .int mo_trouble, .int mo_where, .ref a_wa, mo_read, mo_tape, .int mo_taped, .int mo_size, .int mo_spot, .int mo_sort, .int mo_place, .int mo_number, .int mo_fault, .int mo_wrongAt, .int mo_laneTold, .long mo_word, .ref a_mo_v, mo_x, .ref a_mo_past, mo_kept, .int mo_acts_2, .int mo_marks, mo_put, mo_bestPut, .long mo_bestSum, mo_row, mo_best, mo_left, .int mo_bestSize, .int mo_bestLeft, mo_counts, .int mo_sets, .int mo_foeHarm, .int mo_ownHarm, .int mo_across, .int mo_sumFoe, .int mo_sumOwn, .int mo_sumWon, .int mo_sumAcross])), (a_mo_v, .inl (cy 1, 19, .inl mo_v)), (a_mo_past, .inl (cy 1, 304, .inl mo_past_3))] ++ X) → va_S A s.heap H locs → ∀ ls : Array Slot, lv_has ls 2 [(0, .ref a_mo)] → W p l e (headSpec wo_X13_rain ({ frames := 2, cells := 0, slots := 0, locals := 42 })).room s m (([.ref a_mo, .int p1] : List Value).toArray) below meth c H locs 0 0 (MQ below (va_Qi (fun (r : Int32) (_ : Unit) => r = res ∧ nbv r) (wB D A ([(a_mo, .inr (13, [.int mo_thrown', .int mo_trouble', .int mo_where', .ref a_wa, mo_read, mo_tape, .int mo_taped, .int mo_size, .int mo_spot, .int mo_sort, .int mo_place, .int mo_number, .int mo_fault, .int mo_wrongAt, .int mo_laneTold, .long mo_word, .ref a_mo_v, mo_x, .ref a_mo_past, mo_kept, .int mo_acts', .int mo_marks, mo_put, mo_bestPut, .long mo_bestSum, mo_row, mo_best, mo_left, .int mo_bestSize, .int mo_bestLeft, mo_counts, .int mo_sets, .int mo_foeHarm, .int mo_ownHarm, .int mo_across, .int mo_sumFoe, .int mo_sumOwn, .int mo_sumWon, .int mo_sumAcross])), (a_mo_v, .inl (cy 1, 19, .inl mo_v')), (a_mo_past, .inl (cy 1, 304, .inl mo_past'))] ++ X)) A) (([.ref a_mo, .int p1] : List Value).toArray) s 0 0 A) (F0 m 63 ls [.int t2_5, .int 17, .ref a_mo_v]) := by
        intro t2_5 hnb_t2_5 h H locs hP hD hS ls hl
        unfold f_X13_rain_B63 at h
        obtain ⟨i_6, h⟩ := gIn_some h
        refine va_iast hx hb hK hP hD hS 1 1 rfl rfl i_6 dX13_rain_63 (fun H locs hP hD hS => ?_)
        refine lv_aload_n hx hb dX13_rain_64 rfl (lv_at hl 0 rfl) ?_
        have hP : va_P D vwCl ([(a_mo, .inr (13, [.int 0, .int mo_trouble, .int mo_where, .ref a_wa, mo_read, mo_tape, .int mo_taped, .int mo_size, .int mo_spot, .int mo_sort, .int mo_place, .int mo_number, .int mo_fault, .int mo_wrongAt, .int mo_laneTold, .long mo_word, .ref a_mo_v, mo_x, .ref a_mo_past, mo_kept, .int mo_acts_2, .int mo_marks, mo_put, mo_bestPut, .long mo_bestSum, mo_row, mo_best, mo_left, .int mo_bestSize, .int mo_bestLeft, mo_counts, .int mo_sets, .int mo_foeHarm, .int mo_ownHarm, .int mo_across, .int mo_sumFoe, .int mo_sumOwn, .int mo_sumWon, .int mo_sumAcross])), (a_mo_v, .inl (cy 1, 19, .inl (upd mo_v ((17 : Int32).toNatClampNeg) t2_5))), (a_mo_past, .inl (cy 1, 304, .inl mo_past_3))] ++ X) H := hP
        have hD : va_D A ([(a_mo, .inr (13, [.int 0, .int mo_trouble, .int mo_where, .ref a_wa, mo_read, mo_tape, .int mo_taped, .int mo_size, .int mo_spot, .int mo_sort, .int mo_place, .int mo_number, .int mo_fault, .int mo_wrongAt, .int mo_laneTold, .long mo_word, .ref a_mo_v, mo_x, .ref a_mo_past, mo_kept, .int mo_acts_2, .int mo_marks, mo_put, mo_bestPut, .long mo_bestSum, mo_row, mo_best, mo_left, .int mo_bestSize, .int mo_bestLeft, mo_counts, .int mo_sets, .int mo_foeHarm, .int mo_ownHarm, .int mo_across, .int mo_sumFoe, .int mo_sumOwn, .int mo_sumWon, .int mo_sumAcross])), (a_mo_v, .inl (cy 1, 19, .inl (upd mo_v ((17 : Int32).toNatClampNeg) t2_5))), (a_mo_past, .inl (cy 1, 304, .inl mo_past_3))] ++ X) := hD
        obtain ⟨r_7, mo_trouble_8, mo_where_9, hc_10, h⟩ := bd3_some h
        refine wVb [] [] ⟨hx, hb, hml, hown, hts⟩ (c_X13_granted l D cy A ([(a_mo_v, .inl (cy 1, 19, .inl (upd mo_v ((17 : Int32).toNatClampNeg) t2_5))), (a_mo_past, .inl (cy 1, 304, .inl mo_past_3))] ++ X) a_mo 0 mo_trouble mo_where (.ref a_wa) (mo_read) (mo_tape) mo_taped mo_size mo_spot mo_sort mo_place mo_number mo_fault mo_wrongAt mo_laneTold mo_word (.ref a_mo_v) (mo_x) (.ref a_mo_past) (mo_kept) mo_acts_2 mo_marks (mo_put) (mo_bestPut) mo_bestSum (mo_row) (mo_best) (mo_left) mo_bestSize mo_bestLeft (mo_counts) mo_sets mo_foeHarm mo_ownHarm mo_across mo_sumFoe mo_sumOwn mo_sumWon mo_sumAcross r_7 mo_trouble_8 mo_where_9 hc_10) gX13_rain_X13_granted rfl hd_X13_granted ⟨Nat.le_of_ble_eq_true rfl, Nat.le_of_ble_eq_true rfl⟩ rfl rfl hKN (pX3 hP [0, 1, 2] rfl) (dX3 hD [0, 1, 2] rfl rfl) hS hA 13 0 rfl rfl rfl hl.1 rfl (Nat.le_of_ble_eq_true rfl) dX13_rain_65 ⟨Nat.le_of_ble_eq_true rfl, Nat.le_of_ble_eq_true rfl⟩ (fun nb_11 H locs hP hD hS => ?_)
        have hP := pX4 (L1 := [(a_mo, .inr (13, [.int 0, .int mo_trouble_8, .int mo_where_9, .ref a_wa, mo_read, mo_tape, .int mo_taped, .int mo_size, .int mo_spot, .int mo_sort, .int mo_place, .int mo_number, .int mo_fault, .int mo_wrongAt, .int mo_laneTold, .long mo_word, .ref a_mo_v, mo_x, .ref a_mo_past, mo_kept, .int mo_acts_2, .int mo_marks, mo_put, mo_bestPut, .long mo_bestSum, mo_row, mo_best, mo_left, .int mo_bestSize, .int mo_bestLeft, mo_counts, .int mo_sets, .int mo_foeHarm, .int mo_ownHarm, .int mo_across, .int mo_sumFoe, .int mo_sumOwn, .int mo_sumWon, .int mo_sumAcross])), (a_mo_v, .inl (cy 1, 19, .inl (upd mo_v ((17 : Int32).toNatClampNeg) t2_5))), (a_mo_past, .inl (cy 1, 304, .inl mo_past_3))]) hP [0, 1, 2] rfl
        have hD := dX4 (L1 := [(a_mo, .inr (13, [.int 0, .int mo_trouble_8, .int mo_where_9, .ref a_wa, mo_read, mo_tape, .int mo_taped, .int mo_size, .int mo_spot, .int mo_sort, .int mo_place, .int mo_number, .int mo_fault, .int mo_wrongAt, .int mo_laneTold, .long mo_word, .ref a_mo_v, mo_x, .ref a_mo_past, mo_kept, .int mo_acts_2, .int mo_marks, mo_put, mo_bestPut, .long mo_bestSum, mo_row, mo_best, mo_left, .int mo_bestSize, .int mo_bestLeft, mo_counts, .int mo_sets, .int mo_foeHarm, .int mo_ownHarm, .int mo_across, .int mo_sumFoe, .int mo_sumOwn, .int mo_sumWon, .int mo_sumAcross])), (a_mo_v, .inl (cy 1, 19, .inl (upd mo_v ((17 : Int32).toNatClampNeg) t2_5))), (a_mo_past, .inl (cy 1, 304, .inl mo_past_3))]) hD [0, 1, 2] rfl rfl
        have h0 := Option.some.inj h
        clear h
        obtain ⟨e1, h1⟩ := pjP h0
        clear h0
        subst e1
        obtain ⟨e2, h2⟩ := pjP h1
        clear h1
        subst e2
        obtain ⟨e3, h3⟩ := pjP h2
        clear h2
        subst e3
        obtain ⟨e4, h4⟩ := pjP h3
        clear h3
        subst e4
        obtain ⟨e5, h5⟩ := pjP h4
        clear h4
        subst e5
        obtain ⟨e6, h6⟩ := pjP h5
        clear h5
        subst e6
        subst h6
        exact W.zret (ty := .boolean) hx hb hr (nbv.n nb_11) (fun t ht _ => ⟨⟨_, (), rfl, ⟨rfl, nb_11⟩, by rw [ht]; exact hP, hD⟩, hS.F ht⟩) hS.2.2 dX13_rain_68
      refine lv_if_eq (tgt := 62) hx hb dX13_rain_55 (by decide) (fun cd => ?_) (fun cd => ?_)
      · have h := ifT cd h
        refine lv_iconst (v := 0) hx hb dX13_rain_62 (by decide) ?_
        exact jn63 (0 : Int32) nbv_0 h _ _ hP hD hS _ (lv_sub hl [0] rfl)
      · have h := ifF cd h
        refine lv_iconst (v := 1) hx hb dX13_rain_58 (by decide) ?_
        refine lv_goto (tgt := 63) hx hb dX13_rain_59 (by decide) ?_
        exact jn63 (1 : Int32) nbv_1 h _ _ hP hD hS _ (lv_sub hl [0] rfl)
    · have h := ifT cd h
      refine lv_aload_n hx hb dX13_rain_38 rfl (lv_at hl 0 rfl) ?_
      refine lv_iconst (v := 5) hx hb dX13_rain_39 (by decide) ?_
      obtain ⟨r_12, mo_trouble_13, mo_where_14, hc_15, h⟩ := bd3_some h
      refine wVb [.int 5] [] ⟨hx, hb, hml, hown, hts⟩ (c_X13_denied l D cy A ([(a_mo_v, .inl (cy 1, 19, .inl mo_v)), (a_mo_past, .inl (cy 1, 304, .inl mo_past))] ++ X) a_mo 0 mo_trouble mo_where (.ref a_wa) (mo_read) (mo_tape) mo_taped mo_size mo_spot mo_sort mo_place mo_number mo_fault mo_wrongAt mo_laneTold mo_word (.ref a_mo_v) (mo_x) (.ref a_mo_past) (mo_kept) mo_acts mo_marks (mo_put) (mo_bestPut) mo_bestSum (mo_row) (mo_best) (mo_left) mo_bestSize mo_bestLeft (mo_counts) mo_sets mo_foeHarm mo_ownHarm mo_across mo_sumFoe mo_sumOwn mo_sumWon mo_sumAcross (5 : Int32) r_12 mo_trouble_13 mo_where_14 hc_15) gX13_rain_X13_denied rfl hd_X13_denied ⟨Nat.le_of_ble_eq_true rfl, Nat.le_of_ble_eq_true rfl⟩ rfl rfl hKN (pX3 hP [0, 1, 2] rfl) (dX3 hD [0, 1, 2] rfl rfl) hS hA 13 0 rfl rfl rfl hl.1 rfl (Nat.le_of_ble_eq_true rfl) dX13_rain_40 ⟨Nat.le_of_ble_eq_true rfl, Nat.le_of_ble_eq_true rfl⟩ (fun nb_16 H locs hP hD hS => ?_)
      have hP := pX4 (L1 := [(a_mo, .inr (13, [.int 0, .int mo_trouble_13, .int mo_where_14, .ref a_wa, mo_read, mo_tape, .int mo_taped, .int mo_size, .int mo_spot, .int mo_sort, .int mo_place, .int mo_number, .int mo_fault, .int mo_wrongAt, .int mo_laneTold, .long mo_word, .ref a_mo_v, mo_x, .ref a_mo_past, mo_kept, .int mo_acts, .int mo_marks, mo_put, mo_bestPut, .long mo_bestSum, mo_row, mo_best, mo_left, .int mo_bestSize, .int mo_bestLeft, mo_counts, .int mo_sets, .int mo_foeHarm, .int mo_ownHarm, .int mo_across, .int mo_sumFoe, .int mo_sumOwn, .int mo_sumWon, .int mo_sumAcross])), (a_mo_v, .inl (cy 1, 19, .inl mo_v)), (a_mo_past, .inl (cy 1, 304, .inl mo_past))]) hP [0, 1, 2] rfl
      have hD := dX4 (L1 := [(a_mo, .inr (13, [.int 0, .int mo_trouble_13, .int mo_where_14, .ref a_wa, mo_read, mo_tape, .int mo_taped, .int mo_size, .int mo_spot, .int mo_sort, .int mo_place, .int mo_number, .int mo_fault, .int mo_wrongAt, .int mo_laneTold, .long mo_word, .ref a_mo_v, mo_x, .ref a_mo_past, mo_kept, .int mo_acts, .int mo_marks, mo_put, mo_bestPut, .long mo_bestSum, mo_row, mo_best, mo_left, .int mo_bestSize, .int mo_bestLeft, mo_counts, .int mo_sets, .int mo_foeHarm, .int mo_ownHarm, .int mo_across, .int mo_sumFoe, .int mo_sumOwn, .int mo_sumWon, .int mo_sumAcross])), (a_mo_v, .inl (cy 1, 19, .inl mo_v)), (a_mo_past, .inl (cy 1, 304, .inl mo_past))]) hD [0, 1, 2] rfl rfl
      have h0 := Option.some.inj h
      clear h
      obtain ⟨e1, h1⟩ := pjP h0
      clear h0
      subst e1
      obtain ⟨e2, h2⟩ := pjP h1
      clear h1
      subst e2
      obtain ⟨e3, h3⟩ := pjP h2
      clear h2
      subst e3
      obtain ⟨e4, h4⟩ := pjP h3
      clear h3
      subst e4
      obtain ⟨e5, h5⟩ := pjP h4
      clear h4
      subst e5
      obtain ⟨e6, h6⟩ := pjP h5
      clear h5
      subst e6
      subst h6
      exact W.zret (ty := .boolean) hx hb hr (nbv.n nb_16) (fun t ht _ => ⟨⟨_, (), rfl, ⟨rfl, nb_16⟩, by rw [ht]; exact hP, hD⟩, hS.F ht⟩) hS.2.2 dX13_rain_43
  refine lv_icmp_ne (tgt := 33) hx hb dX13_rain_26 (by decide) (fun cd => ?_) (fun cd => ?_)
  · have h := ifF cd h
    refine lv_iconst (v := 0) hx hb dX13_rain_33 (by decide) ?_
    exact jn34 (0 : Int32) nbv_0 h _ _ hP hD hS _ (lv_sub hl [0, 1] rfl)
  · have h := ifT cd h
    refine lv_iconst (v := 1) hx hb dX13_rain_29 (by decide) ?_
    refine lv_goto (tgt := 34) hx hb dX13_rain_30 (by decide) ?_
    exact jn34 (1 : Int32) nbv_1 h _ _ hP hD hS _ (lv_sub hl [0, 1] rfl)
theorem hd_X13_seed : yX13_seed.cls = RX13 ∧ yX13_seed.cls ≠ "java/lang/invoke/MethodHandle" ∧ yX13_seed.cls ≠ "java/lang/invoke/VarHandle" ∧ (parseMethodDescriptor yX13_seed.desc).map (fun d => d.parameters.length) = some 1 := by decide +kernel
set_option maxHeartbeats 4000000 in
set_option maxRecDepth 100000 in
theorem c_X13_seed (l : Launch) (D : va_G) (cy : Nat → ClassId) (A : Nat → Prop) (X : va_W) (a_mo a_mo_v a_wa : Nat) (mo_thrown : Int32) (mo_trouble : Int32) (mo_where : Int32) (mo_read : Value) (mo_tape : Value) (mo_taped : Int32) (mo_size : Int32) (mo_spot : Int32) (mo_sort : Int32) (mo_place : Int32) (mo_number : Int32) (mo_fault : Int32) (mo_wrongAt : Int32) (mo_laneTold : Int32) (mo_word : Int64) (mo_x : Value) (mo_past : Value) (mo_kept : Value) (mo_acts : Int32) (mo_marks : Int32) (mo_put : Value) (mo_bestPut : Value) (mo_bestSum : Int64) (mo_row : Value) (mo_best : Value) (mo_left : Value) (mo_bestSize : Int32) (mo_bestLeft : Int32) (mo_counts : Value) (mo_sets : Int32) (mo_foeHarm : Int32) (mo_ownHarm : Int32) (mo_across : Int32) (mo_sumFoe : Int32) (mo_sumOwn : Int32) (mo_sumWon : Int32) (mo_sumAcross : Int32) (mo_v : Nat → Int32) (p1 : Int32) (res : Int32) (mo_thrown' : Int32) (mo_trouble' : Int32) (mo_where' : Int32) (mo_v' : Nat → Int32) (h : f_X13_seed mo_thrown mo_trouble mo_where mo_v p1 = some (res, mo_thrown', mo_trouble', mo_where', mo_v')) : Met l yX13_seed wo_X13_seed ({ frames := 2, cells := 0, slots := 0, locals := 42 }) (wrPc D cy A [.ref a_mo, .int p1] ([(a_mo, .inr (13, [.int mo_thrown, .int mo_trouble, .int mo_where, .ref a_wa, mo_read, mo_tape, .int mo_taped, .int mo_size, .int mo_spot, .int mo_sort, .int mo_place, .int mo_number, .int mo_fault, .int mo_wrongAt, .int mo_laneTold, .long mo_word, .ref a_mo_v, mo_x, mo_past, mo_kept, .int mo_acts, .int mo_marks, mo_put, mo_bestPut, .long mo_bestSum, mo_row, mo_best, mo_left, .int mo_bestSize, .int mo_bestLeft, mo_counts, .int mo_sets, .int mo_foeHarm, .int mo_ownHarm, .int mo_across, .int mo_sumFoe, .int mo_sumOwn, .int mo_sumWon, .int mo_sumAcross])), (a_mo_v, .inl (cy 1, 19, .inl mo_v))] ++ X)) (va_Qi (fun (r : Int32) (_ : Unit) => r = res ∧ nbv r) (wB D A ([(a_mo, .inr (13, [.int mo_thrown', .int mo_trouble', .int mo_where', .ref a_wa, mo_read, mo_tape, .int mo_taped, .int mo_size, .int mo_spot, .int mo_sort, .int mo_place, .int mo_number, .int mo_fault, .int mo_wrongAt, .int mo_laneTold, .long mo_word, .ref a_mo_v, mo_x, mo_past, mo_kept, .int mo_acts, .int mo_marks, mo_put, mo_bestPut, .long mo_bestSum, mo_row, mo_best, mo_left, .int mo_bestSize, .int mo_bestLeft, mo_counts, .int mo_sets, .int mo_foeHarm, .int mo_ownHarm, .int mo_across, .int mo_sumFoe, .int mo_sumOwn, .int mo_sumWon, .int mo_sumAcross])), (a_mo_v, .inl (cy 1, 19, .inl mo_v'))] ++ X)) A) 0 0 A := by
  refine Met.ofW (cc := cX13_seed) (maxL := 2) (ret := (some .boolean)) (by decide) rfl ?_
  intro p e s m args below meth c s₁ B hml hv
  obtain ⟨rfl, hP, hKN, hD, hA⟩ := hv
  have hK := hKN.1
  have hx := B.exec
  have hb := B.bytes
  have hr := B.returns
  have hts := wt_X13_seed hKN.2.2 (([.ref a_mo, .int p1] : List Value).toArray)
  have hown : s.vm.findClass RX13 = some m.cls := findClass_of_methodNamed B.named
  have hlocks := B.notSynchronized
  have hS : va_S A s.heap s.heap [] := va_S.rf
  have hX13 := wc_X13 hKN.2.2 (([.ref a_mo, .int p1] : List Value).toArray)
  have hl := lv_entry ([.ref a_mo, .int p1]) (n := 2) (Nat.le_of_ble_eq_true rfl)
  rw [lg_entry_eq]
  generalize (lg_sl ([.ref a_mo, .int p1]) ++ List.replicate (2 - (lg_sl ([.ref a_mo, .int p1])).length) Slot.unset).toArray = ls at hl ⊢
  have hl : lv_has ls 2 [(0, .ref a_mo), (1, .int p1)] := hl
  unfold f_X13_seed at h
  refine lv_aload_n hx hb dX13_seed_0 rfl (lv_at hl 0 rfl) ?_
  refine lv_iconst (v := 0) hx hb dX13_seed_1 (by decide) ?_
  refine va_put (D := D) (ci := 13) (C := RX13) (T := TX13) (N := 39) (v := .int 0) (ty := .int) hx hb hX13 (fun _ q => q) tyX13 tyX13_ok nmX13 hown hK hP hD hS 0 rfl rfl 0 (by decide) (hts (.fieldLink RX13 48 "ElephantLineModel" "thrown" "I") (by decide +kernel)) (fun _ h9 => h9) rfl (tyX13_ok 0 (by decide)) rfl rfl (Nat.le_of_ble_eq_true rfl) dX13_seed_2 (fun H locs hP hD hS => ?_)
  refine lv_aload_n hx hb dX13_seed_5 rfl (lv_at hl 0 rfl) ?_
  refine va_get (D := D) (ci := 13) (C := RX13) (T := TX13) (N := 39) (v := .ref a_wa) hx hb hX13 (fun _ q => q) hown hK hP 0 rfl rfl 3 (by decide) (hts (.fieldLink RX13 301 "ElephantLineModel" "war" "LElephantLineModel$War;") (by decide +kernel)) (fun _ h9 => h9) rfl dX13_seed_6 ?_
  refine lv_ifnonnull (tgt := 18) hx hb dX13_seed_9 (by decide) ?_
  refine lv_iload_n hx hb dX13_seed_18 rfl (lv_at hl 1 rfl) ?_
  refine lv_iconst (v := 0) hx hb dX13_seed_19 (by decide) ?_
  refine lv_ldcw (v := 65536) hx hb hown (hts (.constant RX13 462 (65536)) (by decide +kernel)) dX13_seed_20 ?_
  have hP : va_P D vwCl ([(a_mo, .inr (13, [.int 0, .int mo_trouble, .int mo_where, .ref a_wa, mo_read, mo_tape, .int mo_taped, .int mo_size, .int mo_spot, .int mo_sort, .int mo_place, .int mo_number, .int mo_fault, .int mo_wrongAt, .int mo_laneTold, .long mo_word, .ref a_mo_v, mo_x, mo_past, mo_kept, .int mo_acts, .int mo_marks, mo_put, mo_bestPut, .long mo_bestSum, mo_row, mo_best, mo_left, .int mo_bestSize, .int mo_bestLeft, mo_counts, .int mo_sets, .int mo_foeHarm, .int mo_ownHarm, .int mo_across, .int mo_sumFoe, .int mo_sumOwn, .int mo_sumWon, .int mo_sumAcross])), (a_mo_v, .inl (cy 1, 19, .inl mo_v))] ++ X) H := hP
  have hD : va_D A ([(a_mo, .inr (13, [.int 0, .int mo_trouble, .int mo_where, .ref a_wa, mo_read, mo_tape, .int mo_taped, .int mo_size, .int mo_spot, .int mo_sort, .int mo_place, .int mo_number, .int mo_fault, .int mo_wrongAt, .int mo_laneTold, .long mo_word, .ref a_mo_v, mo_x, mo_past, mo_kept, .int mo_acts, .int mo_marks, mo_put, mo_bestPut, .long mo_bestSum, mo_row, mo_best, mo_left, .int mo_bestSize, .int mo_bestLeft, mo_counts, .int mo_sets, .int mo_foeHarm, .int mo_ownHarm, .int mo_across, .int mo_sumFoe, .int mo_sumOwn, .int mo_sumWon, .int mo_sumAcross])), (a_mo_v, .inl (cy 1, 19, .inl mo_v))] ++ X) := hD
  obtain ⟨r_1, hc_2, h⟩ := bd1_some h
  refine kSb [.int p1, .int 0, .int 65536] [] ⟨hx, hb, hml, hown, hts⟩ (c_X13_in l D cy p1 (0 : Int32) (65536 : Int32) r_1 hc_2) gX13_seed_X13_in rfl hd_X13_in ⟨Nat.le_of_ble_eq_true rfl, Nat.le_of_ble_eq_true rfl⟩ rfl rfl hKN va_nil rfl hl.1 rfl (Nat.le_of_ble_eq_true rfl) dX13_seed_23 ⟨Nat.le_of_ble_eq_true rfl, Nat.le_of_ble_eq_true rfl⟩ (fun nb_3 => ?_)
  refine lv_if_ne (tgt := 35) hx hb dX13_seed_26 (by decide) (fun cd => ?_) (fun cd => ?_)
  · have h := ifF cd h
    refine lv_aload_n hx hb dX13_seed_35 rfl (lv_at hl 0 rfl) ?_
    refine va_get (D := D) (ci := 13) (C := RX13) (T := TX13) (N := 39) (v := .ref a_mo_v) hx hb hX13 (fun _ q => q) hown hK hP 0 rfl rfl 16 (by decide) (hts (.fieldLink RX13 17 "ElephantLineModel" "v" "[I") (by decide +kernel)) (fun _ h9 => h9) rfl dX13_seed_36 ?_
    refine lv_bipush (v := 18) hx hb dX13_seed_39 (by decide) ?_
    refine lv_iload_n hx hb dX13_seed_41 rfl (lv_at hl 1 rfl) ?_
    refine va_iast hx hb hK hP hD hS 1 1 rfl rfl (vpc (by decide)) dX13_seed_42 (fun H locs hP hD hS => ?_)
    refine lv_aload_n hx hb dX13_seed_43 rfl (lv_at hl 0 rfl) ?_
    have hP : va_P D vwCl ([(a_mo, .inr (13, [.int 0, .int mo_trouble, .int mo_where, .ref a_wa, mo_read, mo_tape, .int mo_taped, .int mo_size, .int mo_spot, .int mo_sort, .int mo_place, .int mo_number, .int mo_fault, .int mo_wrongAt, .int mo_laneTold, .long mo_word, .ref a_mo_v, mo_x, mo_past, mo_kept, .int mo_acts, .int mo_marks, mo_put, mo_bestPut, .long mo_bestSum, mo_row, mo_best, mo_left, .int mo_bestSize, .int mo_bestLeft, mo_counts, .int mo_sets, .int mo_foeHarm, .int mo_ownHarm, .int mo_across, .int mo_sumFoe, .int mo_sumOwn, .int mo_sumWon, .int mo_sumAcross])), (a_mo_v, .inl (cy 1, 19, .inl (upd mo_v ((18 : Int32).toNatClampNeg) p1)))] ++ X) H := hP
    have hD : va_D A ([(a_mo, .inr (13, [.int 0, .int mo_trouble, .int mo_where, .ref a_wa, mo_read, mo_tape, .int mo_taped, .int mo_size, .int mo_spot, .int mo_sort, .int mo_place, .int mo_number, .int mo_fault, .int mo_wrongAt, .int mo_laneTold, .long mo_word, .ref a_mo_v, mo_x, mo_past, mo_kept, .int mo_acts, .int mo_marks, mo_put, mo_bestPut, .long mo_bestSum, mo_row, mo_best, mo_left, .int mo_bestSize, .int mo_bestLeft, mo_counts, .int mo_sets, .int mo_foeHarm, .int mo_ownHarm, .int mo_across, .int mo_sumFoe, .int mo_sumOwn, .int mo_sumWon, .int mo_sumAcross])), (a_mo_v, .inl (cy 1, 19, .inl (upd mo_v ((18 : Int32).toNatClampNeg) p1)))] ++ X) := hD
    obtain ⟨r_4, mo_trouble_5, mo_where_6, hc_7, h⟩ := bd3_some h
    refine wVb [] [] ⟨hx, hb, hml, hown, hts⟩ (c_X13_granted l D cy A ([(a_mo_v, .inl (cy 1, 19, .inl (upd mo_v ((18 : Int32).toNatClampNeg) p1)))] ++ X) a_mo 0 mo_trouble mo_where (.ref a_wa) (mo_read) (mo_tape) mo_taped mo_size mo_spot mo_sort mo_place mo_number mo_fault mo_wrongAt mo_laneTold mo_word (.ref a_mo_v) (mo_x) (mo_past) (mo_kept) mo_acts mo_marks (mo_put) (mo_bestPut) mo_bestSum (mo_row) (mo_best) (mo_left) mo_bestSize mo_bestLeft (mo_counts) mo_sets mo_foeHarm mo_ownHarm mo_across mo_sumFoe mo_sumOwn mo_sumWon mo_sumAcross r_4 mo_trouble_5 mo_where_6 hc_7) gX13_seed_X13_granted rfl hd_X13_granted ⟨Nat.le_of_ble_eq_true rfl, Nat.le_of_ble_eq_true rfl⟩ rfl rfl hKN (pX3 hP [0, 1] rfl) (dX3 hD [0, 1] rfl rfl) hS hA 13 0 rfl rfl rfl hl.1 rfl (Nat.le_of_ble_eq_true rfl) dX13_seed_44 ⟨Nat.le_of_ble_eq_true rfl, Nat.le_of_ble_eq_true rfl⟩ (fun nb_8 H locs hP hD hS => ?_)
    have hP := pX4 (L1 := [(a_mo, .inr (13, [.int 0, .int mo_trouble_5, .int mo_where_6, .ref a_wa, mo_read, mo_tape, .int mo_taped, .int mo_size, .int mo_spot, .int mo_sort, .int mo_place, .int mo_number, .int mo_fault, .int mo_wrongAt, .int mo_laneTold, .long mo_word, .ref a_mo_v, mo_x, mo_past, mo_kept, .int mo_acts, .int mo_marks, mo_put, mo_bestPut, .long mo_bestSum, mo_row, mo_best, mo_left, .int mo_bestSize, .int mo_bestLeft, mo_counts, .int mo_sets, .int mo_foeHarm, .int mo_ownHarm, .int mo_across, .int mo_sumFoe, .int mo_sumOwn, .int mo_sumWon, .int mo_sumAcross])), (a_mo_v, .inl (cy 1, 19, .inl (upd mo_v ((18 : Int32).toNatClampNeg) p1)))]) hP [0, 1] rfl
    have hD := dX4 (L1 := [(a_mo, .inr (13, [.int 0, .int mo_trouble_5, .int mo_where_6, .ref a_wa, mo_read, mo_tape, .int mo_taped, .int mo_size, .int mo_spot, .int mo_sort, .int mo_place, .int mo_number, .int mo_fault, .int mo_wrongAt, .int mo_laneTold, .long mo_word, .ref a_mo_v, mo_x, mo_past, mo_kept, .int mo_acts, .int mo_marks, mo_put, mo_bestPut, .long mo_bestSum, mo_row, mo_best, mo_left, .int mo_bestSize, .int mo_bestLeft, mo_counts, .int mo_sets, .int mo_foeHarm, .int mo_ownHarm, .int mo_across, .int mo_sumFoe, .int mo_sumOwn, .int mo_sumWon, .int mo_sumAcross])), (a_mo_v, .inl (cy 1, 19, .inl (upd mo_v ((18 : Int32).toNatClampNeg) p1)))]) hD [0, 1] rfl rfl
    cases h
    exact W.zret (ty := .boolean) hx hb hr (nbv.n nb_8) (fun t ht _ => ⟨⟨_, (), rfl, ⟨rfl, nb_8⟩, by rw [ht]; exact hP, hD⟩, hS.F ht⟩) hS.2.2 dX13_seed_47
  · have h := ifT cd h
    refine lv_aload_n hx hb dX13_seed_29 rfl (lv_at hl 0 rfl) ?_
    refine lv_iconst (v := 2) hx hb dX13_seed_30 (by decide) ?_
    obtain ⟨r_9, mo_trouble_10, mo_where_11, hc_12, h⟩ := bd3_some h
    refine wVb [.int 2] [] ⟨hx, hb, hml, hown, hts⟩ (c_X13_denied l D cy A ([(a_mo_v, .inl (cy 1, 19, .inl mo_v))] ++ X) a_mo 0 mo_trouble mo_where (.ref a_wa) (mo_read) (mo_tape) mo_taped mo_size mo_spot mo_sort mo_place mo_number mo_fault mo_wrongAt mo_laneTold mo_word (.ref a_mo_v) (mo_x) (mo_past) (mo_kept) mo_acts mo_marks (mo_put) (mo_bestPut) mo_bestSum (mo_row) (mo_best) (mo_left) mo_bestSize mo_bestLeft (mo_counts) mo_sets mo_foeHarm mo_ownHarm mo_across mo_sumFoe mo_sumOwn mo_sumWon mo_sumAcross (2 : Int32) r_9 mo_trouble_10 mo_where_11 hc_12) gX13_seed_X13_denied rfl hd_X13_denied ⟨Nat.le_of_ble_eq_true rfl, Nat.le_of_ble_eq_true rfl⟩ rfl rfl hKN (pX3 hP [0, 1] rfl) (dX3 hD [0, 1] rfl rfl) hS hA 13 0 rfl rfl rfl hl.1 rfl (Nat.le_of_ble_eq_true rfl) dX13_seed_31 ⟨Nat.le_of_ble_eq_true rfl, Nat.le_of_ble_eq_true rfl⟩ (fun nb_13 H locs hP hD hS => ?_)
    have hP := pX4 (L1 := [(a_mo, .inr (13, [.int 0, .int mo_trouble_10, .int mo_where_11, .ref a_wa, mo_read, mo_tape, .int mo_taped, .int mo_size, .int mo_spot, .int mo_sort, .int mo_place, .int mo_number, .int mo_fault, .int mo_wrongAt, .int mo_laneTold, .long mo_word, .ref a_mo_v, mo_x, mo_past, mo_kept, .int mo_acts, .int mo_marks, mo_put, mo_bestPut, .long mo_bestSum, mo_row, mo_best, mo_left, .int mo_bestSize, .int mo_bestLeft, mo_counts, .int mo_sets, .int mo_foeHarm, .int mo_ownHarm, .int mo_across, .int mo_sumFoe, .int mo_sumOwn, .int mo_sumWon, .int mo_sumAcross])), (a_mo_v, .inl (cy 1, 19, .inl mo_v))]) hP [0, 1] rfl
    have hD := dX4 (L1 := [(a_mo, .inr (13, [.int 0, .int mo_trouble_10, .int mo_where_11, .ref a_wa, mo_read, mo_tape, .int mo_taped, .int mo_size, .int mo_spot, .int mo_sort, .int mo_place, .int mo_number, .int mo_fault, .int mo_wrongAt, .int mo_laneTold, .long mo_word, .ref a_mo_v, mo_x, mo_past, mo_kept, .int mo_acts, .int mo_marks, mo_put, mo_bestPut, .long mo_bestSum, mo_row, mo_best, mo_left, .int mo_bestSize, .int mo_bestLeft, mo_counts, .int mo_sets, .int mo_foeHarm, .int mo_ownHarm, .int mo_across, .int mo_sumFoe, .int mo_sumOwn, .int mo_sumWon, .int mo_sumAcross])), (a_mo_v, .inl (cy 1, 19, .inl mo_v))]) hD [0, 1] rfl rfl
    cases h
    exact W.zret (ty := .boolean) hx hb hr (nbv.n nb_13) (fun t ht _ => ⟨⟨_, (), rfl, ⟨rfl, nb_13⟩, by rw [ht]; exact hP, hD⟩, hS.F ht⟩) hS.2.2 dX13_seed_34
theorem hd_X13_undo : yX13_undo.cls = RX13 ∧ yX13_undo.cls ≠ "java/lang/invoke/MethodHandle" ∧ yX13_undo.cls ≠ "java/lang/invoke/VarHandle" ∧ (parseMethodDescriptor yX13_undo.desc).map (fun d => d.parameters.length) = some 0 := by decide +kernel
set_option maxHeartbeats 4000000 in
set_option maxRecDepth 100000 in
theorem c_X13_undo (l : Launch) (D : va_G) (cy : Nat → ClassId) (A : Nat → Prop) (X : va_W) (a_mo a_mo_v a_mo_past a_wa : Nat) (mo_thrown : Int32) (mo_trouble : Int32) (mo_where : Int32) (mo_read : Value) (mo_tape : Value) (mo_taped : Int32) (mo_size : Int32) (mo_spot : Int32) (mo_sort : Int32) (mo_place : Int32) (mo_number : Int32) (mo_fault : Int32) (mo_wrongAt : Int32) (mo_laneTold : Int32) (mo_word : Int64) (mo_x : Value) (mo_kept : Value) (mo_acts : Int32) (mo_marks : Int32) (mo_put : Value) (mo_bestPut : Value) (mo_bestSum : Int64) (mo_row : Value) (mo_best : Value) (mo_left : Value) (mo_bestSize : Int32) (mo_bestLeft : Int32) (mo_counts : Value) (mo_sets : Int32) (mo_foeHarm : Int32) (mo_ownHarm : Int32) (mo_across : Int32) (mo_sumFoe : Int32) (mo_sumOwn : Int32) (mo_sumWon : Int32) (mo_sumAcross : Int32) (mo_v : Nat → Int32) (mo_past : Nat → Int32) (res : Int32) (mo_thrown' : Int32) (mo_trouble' : Int32) (mo_where' : Int32) (mo_acts' : Int32) (mo_v' : Nat → Int32) (h : f_X13_undo mo_thrown mo_trouble mo_where mo_acts mo_v mo_past = some (res, mo_thrown', mo_trouble', mo_where', mo_acts', mo_v')) : Met l yX13_undo wo_X13_undo ({ frames := 2, cells := 0, slots := 0, locals := 42 }) (wrPc D cy A [.ref a_mo] ([(a_mo, .inr (13, [.int mo_thrown, .int mo_trouble, .int mo_where, .ref a_wa, mo_read, mo_tape, .int mo_taped, .int mo_size, .int mo_spot, .int mo_sort, .int mo_place, .int mo_number, .int mo_fault, .int mo_wrongAt, .int mo_laneTold, .long mo_word, .ref a_mo_v, mo_x, .ref a_mo_past, mo_kept, .int mo_acts, .int mo_marks, mo_put, mo_bestPut, .long mo_bestSum, mo_row, mo_best, mo_left, .int mo_bestSize, .int mo_bestLeft, mo_counts, .int mo_sets, .int mo_foeHarm, .int mo_ownHarm, .int mo_across, .int mo_sumFoe, .int mo_sumOwn, .int mo_sumWon, .int mo_sumAcross])), (a_mo_v, .inl (cy 1, 19, .inl mo_v)), (a_mo_past, .inl (cy 1, 304, .inl mo_past))] ++ X)) (va_Qi (fun (r : Int32) (_ : Unit) => r = res ∧ nbv r) (wB D A ([(a_mo, .inr (13, [.int mo_thrown', .int mo_trouble', .int mo_where', .ref a_wa, mo_read, mo_tape, .int mo_taped, .int mo_size, .int mo_spot, .int mo_sort, .int mo_place, .int mo_number, .int mo_fault, .int mo_wrongAt, .int mo_laneTold, .long mo_word, .ref a_mo_v, mo_x, .ref a_mo_past, mo_kept, .int mo_acts', .int mo_marks, mo_put, mo_bestPut, .long mo_bestSum, mo_row, mo_best, mo_left, .int mo_bestSize, .int mo_bestLeft, mo_counts, .int mo_sets, .int mo_foeHarm, .int mo_ownHarm, .int mo_across, .int mo_sumFoe, .int mo_sumOwn, .int mo_sumWon, .int mo_sumAcross])), (a_mo_v, .inl (cy 1, 19, .inl mo_v')), (a_mo_past, .inl (cy 1, 304, .inl mo_past))] ++ X)) A) 0 0 A := by
  refine Met.ofW (cc := cX13_undo) (maxL := 2) (ret := (some .boolean)) (by decide) rfl ?_
  intro p e s m args below meth c s₁ B hml hv
  obtain ⟨rfl, hP, hKN, hD, hA⟩ := hv
  have hK := hKN.1
  have hx := B.exec
  have hb := B.bytes
  have hr := B.returns
  have hts := wt_X13_undo hKN.2.2 (([.ref a_mo] : List Value).toArray)
  have hown : s.vm.findClass RX13 = some m.cls := findClass_of_methodNamed B.named
  have hlocks := B.notSynchronized
  have hS : va_S A s.heap s.heap [] := va_S.rf
  have hX13 := wc_X13 hKN.2.2 (([.ref a_mo] : List Value).toArray)
  have hl := lv_entry ([.ref a_mo]) (n := 2) (Nat.le_of_ble_eq_true rfl)
  rw [lg_entry_eq]
  generalize (lg_sl ([.ref a_mo]) ++ List.replicate (2 - (lg_sl ([.ref a_mo])).length) Slot.unset).toArray = ls at hl ⊢
  have hl : lv_has ls 2 [(0, .ref a_mo)] := hl
  unfold f_X13_undo at h
  refine lv_aload_n hx hb dX13_undo_0 rfl (lv_at hl 0 rfl) ?_
  refine lv_iconst (v := 0) hx hb dX13_undo_1 (by decide) ?_
  refine va_put (D := D) (ci := 13) (C := RX13) (T := TX13) (N := 39) (v := .int 0) (ty := .int) hx hb hX13 (fun _ q => q) tyX13 tyX13_ok nmX13 hown hK hP hD hS 0 rfl rfl 0 (by decide) (hts (.fieldLink RX13 48 "ElephantLineModel" "thrown" "I") (by decide +kernel)) (fun _ h9 => h9) rfl (tyX13_ok 0 (by decide)) rfl rfl (Nat.le_of_ble_eq_true rfl) dX13_undo_2 (fun H locs hP hD hS => ?_)
  refine lv_aload_n hx hb dX13_undo_5 rfl (lv_at hl 0 rfl) ?_
  refine va_get (D := D) (ci := 13) (C := RX13) (T := TX13) (N := 39) (v := .ref a_wa) hx hb hX13 (fun _ q => q) hown hK hP 0 rfl rfl 3 (by decide) (hts (.fieldLink RX13 301 "ElephantLineModel" "war" "LElephantLineModel$War;") (by decide +kernel)) (fun _ h9 => h9) rfl dX13_undo_6 ?_
  refine lv_ifnull hx hb dX13_undo_9 ?_
  refine lv_aload_n hx hb dX13_undo_12 rfl (lv_at hl 0 rfl) ?_
  refine va_get (D := D) (ci := 13) (C := RX13) (T := TX13) (N := 39) (v := .int mo_acts) hx hb hX13 (fun _ q => q) hown hK hP 0 rfl rfl 20 (by decide) (hts (.fieldLink RX13 304 "ElephantLineModel" "acts" "I") (by decide +kernel)) (fun _ h9 => h9) rfl dX13_undo_13 ?_
  refine lv_if_ne (tgt := 26) hx hb dX13_undo_16 (by decide) (fun cd => ?_) (fun cd => ?_)
  · have h := ifF cd h
    refine lv_aload_n hx hb dX13_undo_26 rfl (lv_at hl 0 rfl) ?_
    refine lv_dup hx hb dX13_undo_27 rfl ?_
    refine va_get (D := D) (ci := 13) (C := RX13) (T := TX13) (N := 39) (v := .int mo_acts) hx hb hX13 (fun _ q => q) hown hK hP 0 rfl rfl 20 (by decide) (hts (.fieldLink RX13 304 "ElephantLineModel" "acts" "I") (by decide +kernel)) (fun _ h9 => h9) rfl dX13_undo_28 ?_
    refine lv_iconst (v := 1) hx hb dX13_undo_31 (by decide) ?_
    refine lv_isub hx hb dX13_undo_32 ?_
    refine va_put (D := D) (ci := 13) (C := RX13) (T := TX13) (N := 39) (v := .int (mo_acts - 1)) (ty := .int) hx hb hX13 (fun _ q => q) tyX13 tyX13_ok nmX13 hown hK hP hD hS 0 rfl rfl 20 (by decide) (hts (.fieldLink RX13 304 "ElephantLineModel" "acts" "I") (by decide +kernel)) (fun _ h9 => h9) rfl (tyX13_ok 20 (by decide)) rfl rfl (Nat.le_of_ble_eq_true rfl) dX13_undo_33 (fun H locs hP hD hS => ?_)
    refine lv_iconst (v := 0) hx hb dX13_undo_36 (by decide) ?_
    refine lv_istore_n (lv' := [(1, .int 0), (0, .ref a_mo)]) hx hb dX13_undo_37 rfl hl (by decide) rfl (fun ls hl => ?_)
    have jn70 : ∀ (mo_v_1 : Nat → Int32), f_X13_undo_B70 mo_past 0 mo_trouble mo_where (mo_acts - 1) mo_v_1 = some (res, mo_thrown', mo_trouble', mo_where', mo_acts', mo_v') → ∀ (H : Heap) (locs : List Loc), va_P D vwCl ([(a_mo, .inr (13, [.int 0, .int mo_trouble, .int mo_where, .ref a_wa, mo_read, mo_tape, .int mo_taped, .int mo_size, .int mo_spot, .int mo_sort, .int mo_place, .int mo_number, .int mo_fault, .int mo_wrongAt, .int mo_laneTold, .long mo_word, .ref a_mo_v, mo_x, .ref a_mo_past, mo_kept, .int (mo_acts - 1), .int mo_marks, mo_put, mo_bestPut, .long mo_bestSum, mo_row, mo_best, mo_left, .int mo_bestSize, .int mo_bestLeft, mo_counts, .int mo_sets, .int mo_foeHarm, .int mo_ownHarm, .int mo_across, .int mo_sumFoe, .int mo_sumOwn, .int mo_sumWon, .int mo_sumAcross])), (a_mo_v, .inl (cy 1, 19, .inl mo_v_1)), (a_mo_past, .inl (cy 1, 304, .inl mo_past))] ++ X) H → va_D A ([(a_mo, .inr (13, [.int 0, .int mo_trouble, .int mo_where, .ref a_wa, mo_read, mo_tape, .int mo_taped, .int mo_size, .int mo_spot, .int mo_sort, .int mo_place, .int mo_number, .int mo_fault, .int mo_wrongAt, .int mo_laneTold, .long mo_word, .ref a_mo_v, mo_x, .ref a_mo_past, mo_kept, .int (mo_acts - 1), .int mo_marks, mo_put, mo_bestPut, .long mo_bestSum, mo_row, mo_best, mo_left, .int mo_bestSize, .int mo_bestLeft, mo_counts, .int mo_sets, .int mo_foeHarm, .int mo_ownHarm, .int mo_across, .int mo_sumFoe, .int mo_sumOwn, .int mo_sumWon, .int mo_sumAcross])), (a_mo_v, .inl (cy 1, 19, .inl mo_v_1)), (a_mo_past, .inl (cy 1, 304, .inl mo_past))] ++ X) → va_S A s.heap H locs → ∀ ls : Array Slot, lv_has ls 2 [(0, .ref a_mo)] → W p l e (headSpec wo_X13_undo ({ frames := 2, cells := 0, slots := 0, locals := 42 })).room s m (([.ref a_mo] : List Value).toArray) below meth c H locs 0 0 (MQ below (va_Qi (fun (r : Int32) (_ : Unit) => r = res ∧ nbv r) (wB D A ([(a_mo, .inr (13, [.int mo_thrown', .int mo_trouble', .int mo_where', .ref a_wa, mo_read, mo_tape, .int mo_taped, .int mo_size, .int mo_spot, .int mo_sort, .int mo_place, .int mo_number, .int mo_fault, .int mo_wrongAt, .int mo_laneTold, .long mo_word, .ref a_mo_v, mo_x, .ref a_mo_past, mo_kept, .int mo_acts', .int mo_marks, mo_put, mo_bestPut, .long mo_bestSum, mo_row, mo_best, mo_left, .int mo_bestSize, .int mo_bestLeft, mo_counts, .int mo_sets, .int mo_foeHarm, .int mo_ownHarm, .int mo_across, .int mo_sumFoe, .int mo_sumOwn, .int mo_sumWon, .int mo_sumAcross])), (a_mo_v, .inl (cy 1, 19, .inl mo_v')), (a_mo_past, .inl (cy 1, 304, .inl mo_past))] ++ X)) A) (([.ref a_mo] : List Value).toArray) s 0 0 A) (F0 m 70 ls []) := by
      intro mo_v_1 h H locs hP hD hS ls hl
      unfold f_X13_undo_B70 at h
      refine lv_aload_n hx hb dX13_undo_70 rfl (lv_at hl 0 rfl) ?_
      obtain ⟨r_2, mo_trouble_3, mo_where_4, hc_5, h⟩ := bd3_some h
      refine wVb [] [] ⟨hx, hb, hml, hown, hts⟩ (c_X13_granted l D cy A ([(a_mo_v, .inl (cy 1, 19, .inl mo_v_1)), (a_mo_past, .inl (cy 1, 304, .inl mo_past))] ++ X) a_mo 0 mo_trouble mo_where (.ref a_wa) (mo_read) (mo_tape) mo_taped mo_size mo_spot mo_sort mo_place mo_number mo_fault mo_wrongAt mo_laneTold mo_word (.ref a_mo_v) (mo_x) (.ref a_mo_past) (mo_kept) (mo_acts - 1) mo_marks (mo_put) (mo_bestPut) mo_bestSum (mo_row) (mo_best) (mo_left) mo_bestSize mo_bestLeft (mo_counts) mo_sets mo_foeHarm mo_ownHarm mo_across mo_sumFoe mo_sumOwn mo_sumWon mo_sumAcross r_2 mo_trouble_3 mo_where_4 hc_5) gX13_undo_X13_granted rfl hd_X13_granted ⟨Nat.le_of_ble_eq_true rfl, Nat.le_of_ble_eq_true rfl⟩ rfl rfl hKN (pX3 hP [0, 1, 2] rfl) (dX3 hD [0, 1, 2] rfl rfl) hS hA 13 0 rfl rfl rfl hl.1 rfl (Nat.le_of_ble_eq_true rfl) dX13_undo_71 ⟨Nat.le_of_ble_eq_true rfl, Nat.le_of_ble_eq_true rfl⟩ (fun nb_6 H locs hP hD hS => ?_)
      have hP := pX4 (L1 := [(a_mo, .inr (13, [.int 0, .int mo_trouble_3, .int mo_where_4, .ref a_wa, mo_read, mo_tape, .int mo_taped, .int mo_size, .int mo_spot, .int mo_sort, .int mo_place, .int mo_number, .int mo_fault, .int mo_wrongAt, .int mo_laneTold, .long mo_word, .ref a_mo_v, mo_x, .ref a_mo_past, mo_kept, .int (mo_acts - 1), .int mo_marks, mo_put, mo_bestPut, .long mo_bestSum, mo_row, mo_best, mo_left, .int mo_bestSize, .int mo_bestLeft, mo_counts, .int mo_sets, .int mo_foeHarm, .int mo_ownHarm, .int mo_across, .int mo_sumFoe, .int mo_sumOwn, .int mo_sumWon, .int mo_sumAcross])), (a_mo_v, .inl (cy 1, 19, .inl mo_v_1)), (a_mo_past, .inl (cy 1, 304, .inl mo_past))]) hP [0, 1, 2] rfl
      have hD := dX4 (L1 := [(a_mo, .inr (13, [.int 0, .int mo_trouble_3, .int mo_where_4, .ref a_wa, mo_read, mo_tape, .int mo_taped, .int mo_size, .int mo_spot, .int mo_sort, .int mo_place, .int mo_number, .int mo_fault, .int mo_wrongAt, .int mo_laneTold, .long mo_word, .ref a_mo_v, mo_x, .ref a_mo_past, mo_kept, .int (mo_acts - 1), .int mo_marks, mo_put, mo_bestPut, .long mo_bestSum, mo_row, mo_best, mo_left, .int mo_bestSize, .int mo_bestLeft, mo_counts, .int mo_sets, .int mo_foeHarm, .int mo_ownHarm, .int mo_across, .int mo_sumFoe, .int mo_sumOwn, .int mo_sumWon, .int mo_sumAcross])), (a_mo_v, .inl (cy 1, 19, .inl mo_v_1)), (a_mo_past, .inl (cy 1, 304, .inl mo_past))]) hD [0, 1, 2] rfl rfl
      have h0 := Option.some.inj h
      clear h
      obtain ⟨e1, h1⟩ := pjP h0
      clear h0
      subst e1
      obtain ⟨e2, h2⟩ := pjP h1
      clear h1
      subst e2
      obtain ⟨e3, h3⟩ := pjP h2
      clear h2
      subst e3
      obtain ⟨e4, h4⟩ := pjP h3
      clear h3
      subst e4
      obtain ⟨e5, h5⟩ := pjP h4
      clear h4
      subst e5
      subst h5
      exact W.zret (ty := .boolean) hx hb hr (nbv.n nb_6) (fun t ht _ => ⟨⟨_, (), rfl, ⟨rfl, nb_6⟩, by rw [ht]; exact hP, hD⟩, hS.F ht⟩) hS.2.2 dX13_undo_74
    have lp38 : ∀ (n38 : Nat) (x1_7 : Int32) (mo_v_8 : Nat → Int32), f_X13_undo_L38 mo_past 0 mo_trouble mo_where (mo_acts - 1) n38 x1_7 mo_v_8 = some (res, mo_thrown', mo_trouble', mo_where', mo_acts', mo_v') → ∀ (H : Heap) (locs : List Loc), va_P D vwCl ([(a_mo, .inr (13, [.int 0, .int mo_trouble, .int mo_where, .ref a_wa, mo_read, mo_tape, .int mo_taped, .int mo_size, .int mo_spot, .int mo_sort, .int mo_place, .int mo_number, .int mo_fault, .int mo_wrongAt, .int mo_laneTold, .long mo_word, .ref a_mo_v, mo_x, .ref a_mo_past, mo_kept, .int (mo_acts - 1), .int mo_marks, mo_put, mo_bestPut, .long mo_bestSum, mo_row, mo_best, mo_left, .int mo_bestSize, .int mo_bestLeft, mo_counts, .int mo_sets, .int mo_foeHarm, .int mo_ownHarm, .int mo_across, .int mo_sumFoe, .int mo_sumOwn, .int mo_sumWon, .int mo_sumAcross])), (a_mo_v, .inl (cy 1, 19, .inl mo_v_8)), (a_mo_past, .inl (cy 1, 304, .inl mo_past))] ++ X) H → va_D A ([(a_mo, .inr (13, [.int 0, .int mo_trouble, .int mo_where, .ref a_wa, mo_read, mo_tape, .int mo_taped, .int mo_size, .int mo_spot, .int mo_sort, .int mo_place, .int mo_number, .int mo_fault, .int mo_wrongAt, .int mo_laneTold, .long mo_word, .ref a_mo_v, mo_x, .ref a_mo_past, mo_kept, .int (mo_acts - 1), .int mo_marks, mo_put, mo_bestPut, .long mo_bestSum, mo_row, mo_best, mo_left, .int mo_bestSize, .int mo_bestLeft, mo_counts, .int mo_sets, .int mo_foeHarm, .int mo_ownHarm, .int mo_across, .int mo_sumFoe, .int mo_sumOwn, .int mo_sumWon, .int mo_sumAcross])), (a_mo_v, .inl (cy 1, 19, .inl mo_v_8)), (a_mo_past, .inl (cy 1, 304, .inl mo_past))] ++ X) → va_S A s.heap H locs → ∀ ls : Array Slot, lv_has ls 2 [(0, .ref a_mo), (1, .int x1_7)] → W p l e (headSpec wo_X13_undo ({ frames := 2, cells := 0, slots := 0, locals := 42 })).room s m (([.ref a_mo] : List Value).toArray) below meth c H locs 0 0 (MQ below (va_Qi (fun (r : Int32) (_ : Unit) => r = res ∧ nbv r) (wB D A ([(a_mo, .inr (13, [.int mo_thrown', .int mo_trouble', .int mo_where', .ref a_wa, mo_read, mo_tape, .int mo_taped, .int mo_size, .int mo_spot, .int mo_sort, .int mo_place, .int mo_number, .int mo_fault, .int mo_wrongAt, .int mo_laneTold, .long mo_word, .ref a_mo_v, mo_x, .ref a_mo_past, mo_kept, .int mo_acts', .int mo_marks, mo_put, mo_bestPut, .long mo_bestSum, mo_row, mo_best, mo_left, .int mo_bestSize, .int mo_bestLeft, mo_counts, .int mo_sets, .int mo_foeHarm, .int mo_ownHarm, .int mo_across, .int mo_sumFoe, .int mo_sumOwn, .int mo_sumWon, .int mo_sumAcross])), (a_mo_v, .inl (cy 1, 19, .inl mo_v')), (a_mo_past, .inl (cy 1, 304, .inl mo_past))] ++ X)) A) (([.ref a_mo] : List Value).toArray) s 0 0 A) (F0 m 38 ls []) := by
      intro n38
      induction n38 with
      | zero => intro x1_7 mo_v_8 h; exact absurd (show (none : Option (Int32 × Int32 × Int32 × Int32 × Int32 × (Nat → Int32))) = some _ from h) (by intro q; cases q)
      | succ n38 ih38 =>
        intro x1_7 mo_v_8 h H locs hP hD hS ls hl
        have h : f_X13_undo_b38 mo_past 0 mo_trouble mo_where (mo_acts - 1) (f_X13_undo_L38 mo_past 0 mo_trouble mo_where (mo_acts - 1) n38) x1_7 mo_v_8 = some (res, mo_thrown', mo_trouble', mo_where', mo_acts', mo_v') := h
        unfold f_X13_undo_b38 at h
        refine lv_iload_n hx hb dX13_undo_38 rfl (lv_at hl 1 rfl) ?_
        refine lv_bipush (v := 19) hx hb dX13_undo_39 (by decide) ?_
        refine lv_icmp_ge (tgt := 70) hx hb dX13_undo_41 (by decide) (fun cd => ?_) (fun cd => ?_)
        · have h := ifT cd h
          exact jn70 mo_v_8 h _ _ hP hD hS _ (lv_sub hl [0] rfl)
        · have h := ifF cd h
          refine lv_aload_n hx hb dX13_undo_44 rfl (lv_at hl 0 rfl) ?_
          refine va_get (D := D) (ci := 13) (C := RX13) (T := TX13) (N := 39) (v := .ref a_mo_v) hx hb hX13 (fun _ q => q) hown hK hP 0 rfl rfl 16 (by decide) (hts (.fieldLink RX13 17 "ElephantLineModel" "v" "[I") (by decide +kernel)) (fun _ h9 => h9) rfl dX13_undo_45 ?_
          refine lv_iload_n hx hb dX13_undo_48 rfl (lv_at hl 1 rfl) ?_
          refine lv_aload_n hx hb dX13_undo_49 rfl (lv_at hl 0 rfl) ?_
          refine va_get (D := D) (ci := 13) (C := RX13) (T := TX13) (N := 39) (v := .ref a_mo_past) hx hb hX13 (fun _ q => q) hown hK hP 0 rfl rfl 18 (by decide) (hts (.fieldLink RX13 24 "ElephantLineModel" "past" "[I") (by decide +kernel)) (fun _ h9 => h9) rfl dX13_undo_50 ?_
          refine lv_bipush (v := 19) hx hb dX13_undo_53 (by decide) ?_
          refine lv_aload_n hx hb dX13_undo_55 rfl (lv_at hl 0 rfl) ?_
          refine va_get (D := D) (ci := 13) (C := RX13) (T := TX13) (N := 39) (v := .int (mo_acts - 1)) hx hb hX13 (fun _ q => q) hown hK hP 0 rfl rfl 20 (by decide) (hts (.fieldLink RX13 304 "ElephantLineModel" "acts" "I") (by decide +kernel)) (fun _ h9 => h9) rfl dX13_undo_56 ?_
          refine lv_imul hx hb dX13_undo_59 ?_
          refine lv_iload_n hx hb dX13_undo_60 rfl (lv_at hl 1 rfl) ?_
          refine lv_iadd hx hb dX13_undo_61 ?_
          obtain ⟨i_9, h⟩ := gIn_some h
          refine va_iald hx hb hK hP 2 1 rfl rfl i_9 dX13_undo_62 ?_
          obtain ⟨i_10, h⟩ := gIn_some h
          refine va_iast hx hb hK hP hD hS 1 1 rfl rfl i_10 dX13_undo_63 (fun H locs hP hD hS => ?_)
          refine lv_iinc (v := x1_7 + 1) (lv' := [(1, .int (x1_7 + 1)), (0, .ref a_mo)]) hx hb dX13_undo_64 hl (k := 1) rfl (by first | rfl | decide) (by decide) rfl (fun ls hl => ?_)
          refine lv_goto (tgt := 38) hx hb dX13_undo_67 (by decide) ?_
          exact ih38 (x1_7 + 1) (upd mo_v_8 x1_7.toNatClampNeg (mo_past ((19 * (mo_acts - 1)) + x1_7).toNatClampNeg)) h _ _ hP hD hS _ (lv_sub hl [1, 0] rfl)
    exact lp38 fuelN (0 : Int32) mo_v h _ _ hP hD hS _ (lv_sub hl [1, 0] rfl)
  · have h := ifT cd h
    refine lv_aload_n hx hb dX13_undo_19 rfl (lv_at hl 0 rfl) ?_
    refine lv_bipush (v := 6) hx hb dX13_undo_20 (by decide) ?_
    have hP : va_P D vwCl ([(a_mo, .inr (13, [.int 0, .int mo_trouble, .int mo_where, .ref a_wa, mo_read, mo_tape, .int mo_taped, .int mo_size, .int mo_spot, .int mo_sort, .int mo_place, .int mo_number, .int mo_fault, .int mo_wrongAt, .int mo_laneTold, .long mo_word, .ref a_mo_v, mo_x, .ref a_mo_past, mo_kept, .int mo_acts, .int mo_marks, mo_put, mo_bestPut, .long mo_bestSum, mo_row, mo_best, mo_left, .int mo_bestSize, .int mo_bestLeft, mo_counts, .int mo_sets, .int mo_foeHarm, .int mo_ownHarm, .int mo_across, .int mo_sumFoe, .int mo_sumOwn, .int mo_sumWon, .int mo_sumAcross])), (a_mo_v, .inl (cy 1, 19, .inl mo_v)), (a_mo_past, .inl (cy 1, 304, .inl mo_past))] ++ X) H := hP
    have hD : va_D A ([(a_mo, .inr (13, [.int 0, .int mo_trouble, .int mo_where, .ref a_wa, mo_read, mo_tape, .int mo_taped, .int mo_size, .int mo_spot, .int mo_sort, .int mo_place, .int mo_number, .int mo_fault, .int mo_wrongAt, .int mo_laneTold, .long mo_word, .ref a_mo_v, mo_x, .ref a_mo_past, mo_kept, .int mo_acts, .int mo_marks, mo_put, mo_bestPut, .long mo_bestSum, mo_row, mo_best, mo_left, .int mo_bestSize, .int mo_bestLeft, mo_counts, .int mo_sets, .int mo_foeHarm, .int mo_ownHarm, .int mo_across, .int mo_sumFoe, .int mo_sumOwn, .int mo_sumWon, .int mo_sumAcross])), (a_mo_v, .inl (cy 1, 19, .inl mo_v)), (a_mo_past, .inl (cy 1, 304, .inl mo_past))] ++ X) := hD
    obtain ⟨r_11, mo_trouble_12, mo_where_13, hc_14, h⟩ := bd3_some h
    refine wVb [.int 6] [] ⟨hx, hb, hml, hown, hts⟩ (c_X13_denied l D cy A ([(a_mo_v, .inl (cy 1, 19, .inl mo_v)), (a_mo_past, .inl (cy 1, 304, .inl mo_past))] ++ X) a_mo 0 mo_trouble mo_where (.ref a_wa) (mo_read) (mo_tape) mo_taped mo_size mo_spot mo_sort mo_place mo_number mo_fault mo_wrongAt mo_laneTold mo_word (.ref a_mo_v) (mo_x) (.ref a_mo_past) (mo_kept) mo_acts mo_marks (mo_put) (mo_bestPut) mo_bestSum (mo_row) (mo_best) (mo_left) mo_bestSize mo_bestLeft (mo_counts) mo_sets mo_foeHarm mo_ownHarm mo_across mo_sumFoe mo_sumOwn mo_sumWon mo_sumAcross (6 : Int32) r_11 mo_trouble_12 mo_where_13 hc_14) gX13_undo_X13_denied rfl hd_X13_denied ⟨Nat.le_of_ble_eq_true rfl, Nat.le_of_ble_eq_true rfl⟩ rfl rfl hKN (pX3 hP [0, 1, 2] rfl) (dX3 hD [0, 1, 2] rfl rfl) hS hA 13 0 rfl rfl rfl hl.1 rfl (Nat.le_of_ble_eq_true rfl) dX13_undo_22 ⟨Nat.le_of_ble_eq_true rfl, Nat.le_of_ble_eq_true rfl⟩ (fun nb_15 H locs hP hD hS => ?_)
    have hP := pX4 (L1 := [(a_mo, .inr (13, [.int 0, .int mo_trouble_12, .int mo_where_13, .ref a_wa, mo_read, mo_tape, .int mo_taped, .int mo_size, .int mo_spot, .int mo_sort, .int mo_place, .int mo_number, .int mo_fault, .int mo_wrongAt, .int mo_laneTold, .long mo_word, .ref a_mo_v, mo_x, .ref a_mo_past, mo_kept, .int mo_acts, .int mo_marks, mo_put, mo_bestPut, .long mo_bestSum, mo_row, mo_best, mo_left, .int mo_bestSize, .int mo_bestLeft, mo_counts, .int mo_sets, .int mo_foeHarm, .int mo_ownHarm, .int mo_across, .int mo_sumFoe, .int mo_sumOwn, .int mo_sumWon, .int mo_sumAcross])), (a_mo_v, .inl (cy 1, 19, .inl mo_v)), (a_mo_past, .inl (cy 1, 304, .inl mo_past))]) hP [0, 1, 2] rfl
    have hD := dX4 (L1 := [(a_mo, .inr (13, [.int 0, .int mo_trouble_12, .int mo_where_13, .ref a_wa, mo_read, mo_tape, .int mo_taped, .int mo_size, .int mo_spot, .int mo_sort, .int mo_place, .int mo_number, .int mo_fault, .int mo_wrongAt, .int mo_laneTold, .long mo_word, .ref a_mo_v, mo_x, .ref a_mo_past, mo_kept, .int mo_acts, .int mo_marks, mo_put, mo_bestPut, .long mo_bestSum, mo_row, mo_best, mo_left, .int mo_bestSize, .int mo_bestLeft, mo_counts, .int mo_sets, .int mo_foeHarm, .int mo_ownHarm, .int mo_across, .int mo_sumFoe, .int mo_sumOwn, .int mo_sumWon, .int mo_sumAcross])), (a_mo_v, .inl (cy 1, 19, .inl mo_v)), (a_mo_past, .inl (cy 1, 304, .inl mo_past))]) hD [0, 1, 2] rfl rfl
    have h0 := Option.some.inj h
    clear h
    obtain ⟨e1, h1⟩ := pjP h0
    clear h0
    subst e1
    obtain ⟨e2, h2⟩ := pjP h1
    clear h1
    subst e2
    obtain ⟨e3, h3⟩ := pjP h2
    clear h2
    subst e3
    obtain ⟨e4, h4⟩ := pjP h3
    clear h3
    subst e4
    obtain ⟨e5, h5⟩ := pjP h4
    clear h4
    subst e5
    subst h5
    exact W.zret (ty := .boolean) hx hb hr (nbv.n nb_15) (fun t ht _ => ⟨⟨_, (), rfl, ⟨rfl, nb_15⟩, by rw [ht]; exact hP, hD⟩, hS.F ht⟩) hS.2.2 dX13_undo_25
theorem hd_X13_mark : yX13_mark.cls = RX13 ∧ yX13_mark.cls ≠ "java/lang/invoke/MethodHandle" ∧ yX13_mark.cls ≠ "java/lang/invoke/VarHandle" ∧ (parseMethodDescriptor yX13_mark.desc).map (fun d => d.parameters.length) = some 0 := by decide +kernel
set_option maxHeartbeats 4000000 in
set_option maxRecDepth 100000 in
theorem c_X13_mark (l : Launch) (D : va_G) (cy : Nat → ClassId) (A : Nat → Prop) (X : va_W) (a_mo a_mo_v a_mo_kept a_wa : Nat) (mo_thrown : Int32) (mo_trouble : Int32) (mo_where : Int32) (mo_read : Value) (mo_tape : Value) (mo_taped : Int32) (mo_size : Int32) (mo_spot : Int32) (mo_sort : Int32) (mo_place : Int32) (mo_number : Int32) (mo_fault : Int32) (mo_wrongAt : Int32) (mo_laneTold : Int32) (mo_word : Int64) (mo_x : Value) (mo_past : Value) (mo_acts : Int32) (mo_marks : Int32) (mo_put : Value) (mo_bestPut : Value) (mo_bestSum : Int64) (mo_row : Value) (mo_best : Value) (mo_left : Value) (mo_bestSize : Int32) (mo_bestLeft : Int32) (mo_counts : Value) (mo_sets : Int32) (mo_foeHarm : Int32) (mo_ownHarm : Int32) (mo_across : Int32) (mo_sumFoe : Int32) (mo_sumOwn : Int32) (mo_sumWon : Int32) (mo_sumAcross : Int32) (mo_v : Nat → Int32) (mo_kept : Nat → Int32) (res : Int32) (mo_thrown' : Int32) (mo_trouble' : Int32) (mo_where' : Int32) (mo_marks' : Int32) (mo_kept' : Nat → Int32) (h : f_X13_mark mo_thrown mo_trouble mo_where mo_marks mo_v mo_kept = some (res, mo_thrown', mo_trouble', mo_where', mo_marks', mo_kept')) : Met l yX13_mark wo_X13_mark ({ frames := 1, cells := 0, slots := 0, locals := 21 }) (wrPc D cy A [.ref a_mo] ([(a_mo, .inr (13, [.int mo_thrown, .int mo_trouble, .int mo_where, .ref a_wa, mo_read, mo_tape, .int mo_taped, .int mo_size, .int mo_spot, .int mo_sort, .int mo_place, .int mo_number, .int mo_fault, .int mo_wrongAt, .int mo_laneTold, .long mo_word, .ref a_mo_v, mo_x, mo_past, .ref a_mo_kept, .int mo_acts, .int mo_marks, mo_put, mo_bestPut, .long mo_bestSum, mo_row, mo_best, mo_left, .int mo_bestSize, .int mo_bestLeft, mo_counts, .int mo_sets, .int mo_foeHarm, .int mo_ownHarm, .int mo_across, .int mo_sumFoe, .int mo_sumOwn, .int mo_sumWon, .int mo_sumAcross])), (a_mo_v, .inl (cy 1, 19, .inl mo_v)), (a_mo_kept, .inl (cy 1, 57, .inl mo_kept))] ++ X)) (va_Qi (fun (r : Int32) (_ : Unit) => r = res) (wB D A ([(a_mo, .inr (13, [.int mo_thrown', .int mo_trouble', .int mo_where', .ref a_wa, mo_read, mo_tape, .int mo_taped, .int mo_size, .int mo_spot, .int mo_sort, .int mo_place, .int mo_number, .int mo_fault, .int mo_wrongAt, .int mo_laneTold, .long mo_word, .ref a_mo_v, mo_x, mo_past, .ref a_mo_kept, .int mo_acts, .int mo_marks', mo_put, mo_bestPut, .long mo_bestSum, mo_row, mo_best, mo_left, .int mo_bestSize, .int mo_bestLeft, mo_counts, .int mo_sets, .int mo_foeHarm, .int mo_ownHarm, .int mo_across, .int mo_sumFoe, .int mo_sumOwn, .int mo_sumWon, .int mo_sumAcross])), (a_mo_v, .inl (cy 1, 19, .inl mo_v)), (a_mo_kept, .inl (cy 1, 57, .inl mo_kept'))] ++ X)) A) 0 0 A := by
  refine Met.ofW (cc := cX13_mark) (maxL := 2) (ret := (some .int)) (by decide) rfl ?_
  intro p e s m args below meth c s₁ B hml hv
  obtain ⟨rfl, hP, hKN, hD, hA⟩ := hv
  have hK := hKN.1
  have hx := B.exec
  have hb := B.bytes
  have hr := B.returns
  have hts := wt_X13_mark hKN.2.2 (([.ref a_mo] : List Value).toArray)
  have hown : s.vm.findClass RX13 = some m.cls := findClass_of_methodNamed B.named
  have hlocks := B.notSynchronized
  have hS : va_S A s.heap s.heap [] := va_S.rf
  have hX13 := wc_X13 hKN.2.2 (([.ref a_mo] : List Value).toArray)
  have hl := lv_entry ([.ref a_mo]) (n := 2) (Nat.le_of_ble_eq_true rfl)
  rw [lg_entry_eq]
  generalize (lg_sl ([.ref a_mo]) ++ List.replicate (2 - (lg_sl ([.ref a_mo])).length) Slot.unset).toArray = ls at hl ⊢
  have hl : lv_has ls 2 [(0, .ref a_mo)] := hl
  unfold f_X13_mark at h
  refine lv_aload_n hx hb dX13_mark_0 rfl (lv_at hl 0 rfl) ?_
  refine lv_iconst (v := 0) hx hb dX13_mark_1 (by decide) ?_
  refine va_put (D := D) (ci := 13) (C := RX13) (T := TX13) (N := 39) (v := .int 0) (ty := .int) hx hb hX13 (fun _ q => q) tyX13 tyX13_ok nmX13 hown hK hP hD hS 0 rfl rfl 0 (by decide) (hts (.fieldLink RX13 48 "ElephantLineModel" "thrown" "I") (by decide +kernel)) (fun _ h9 => h9) rfl (tyX13_ok 0 (by decide)) rfl rfl (Nat.le_of_ble_eq_true rfl) dX13_mark_2 (fun H locs hP hD hS => ?_)
  refine lv_aload_n hx hb dX13_mark_5 rfl (lv_at hl 0 rfl) ?_
  refine va_get (D := D) (ci := 13) (C := RX13) (T := TX13) (N := 39) (v := .ref a_wa) hx hb hX13 (fun _ q => q) hown hK hP 0 rfl rfl 3 (by decide) (hts (.fieldLink RX13 301 "ElephantLineModel" "war" "LElephantLineModel$War;") (by decide +kernel)) (fun _ h9 => h9) rfl dX13_mark_6 ?_
  refine lv_ifnonnull (tgt := 18) hx hb dX13_mark_9 (by decide) ?_
  refine lv_aload_n hx hb dX13_mark_18 rfl (lv_at hl 0 rfl) ?_
  refine va_get (D := D) (ci := 13) (C := RX13) (T := TX13) (N := 39) (v := .int mo_marks) hx hb hX13 (fun _ q => q) hown hK hP 0 rfl rfl 21 (by decide) (hts (.fieldLink RX13 307 "ElephantLineModel" "marks" "I") (by decide +kernel)) (fun _ h9 => h9) rfl dX13_mark_19 ?_
  refine lv_iconst (v := 3) hx hb dX13_mark_22 (by decide) ?_
  refine lv_icmp_ne (tgt := 32) hx hb dX13_mark_23 (by decide) (fun cd => ?_) (fun cd => ?_)
  · have h := ifF cd h
    refine lv_iconst (v := 0) hx hb dX13_mark_32 (by decide) ?_
    refine lv_istore_n (lv' := [(1, .int 0), (0, .ref a_mo)]) hx hb dX13_mark_33 rfl hl (by decide) rfl (fun ls hl => ?_)
    have jn66 : ∀ (mo_kept_1 : Nat → Int32), f_X13_mark_B66 mo_v 0 mo_trouble mo_where mo_marks mo_kept_1 = some (res, mo_thrown', mo_trouble', mo_where', mo_marks', mo_kept') → ∀ (H : Heap) (locs : List Loc), va_P D vwCl ([(a_mo, .inr (13, [.int 0, .int mo_trouble, .int mo_where, .ref a_wa, mo_read, mo_tape, .int mo_taped, .int mo_size, .int mo_spot, .int mo_sort, .int mo_place, .int mo_number, .int mo_fault, .int mo_wrongAt, .int mo_laneTold, .long mo_word, .ref a_mo_v, mo_x, mo_past, .ref a_mo_kept, .int mo_acts, .int mo_marks, mo_put, mo_bestPut, .long mo_bestSum, mo_row, mo_best, mo_left, .int mo_bestSize, .int mo_bestLeft, mo_counts, .int mo_sets, .int mo_foeHarm, .int mo_ownHarm, .int mo_across, .int mo_sumFoe, .int mo_sumOwn, .int mo_sumWon, .int mo_sumAcross])), (a_mo_v, .inl (cy 1, 19, .inl mo_v)), (a_mo_kept, .inl (cy 1, 57, .inl mo_kept_1))] ++ X) H → va_D A ([(a_mo, .inr (13, [.int 0, .int mo_trouble, .int mo_where, .ref a_wa, mo_read, mo_tape, .int mo_taped, .int mo_size, .int mo_spot, .int mo_sort, .int mo_place, .int mo_number, .int mo_fault, .int mo_wrongAt, .int mo_laneTold, .long mo_word, .ref a_mo_v, mo_x, mo_past, .ref a_mo_kept, .int mo_acts, .int mo_marks, mo_put, mo_bestPut, .long mo_bestSum, mo_row, mo_best, mo_left, .int mo_bestSize, .int mo_bestLeft, mo_counts, .int mo_sets, .int mo_foeHarm, .int mo_ownHarm, .int mo_across, .int mo_sumFoe, .int mo_sumOwn, .int mo_sumWon, .int mo_sumAcross])), (a_mo_v, .inl (cy 1, 19, .inl mo_v)), (a_mo_kept, .inl (cy 1, 57, .inl mo_kept_1))] ++ X) → va_S A s.heap H locs → ∀ ls : Array Slot, lv_has ls 2 [(0, .ref a_mo)] → W p l e (headSpec wo_X13_mark ({ frames := 1, cells := 0, slots := 0, locals := 21 })).room s m (([.ref a_mo] : List Value).toArray) below meth c H locs 0 0 (MQ below (va_Qi (fun (r : Int32) (_ : Unit) => r = res) (wB D A ([(a_mo, .inr (13, [.int mo_thrown', .int mo_trouble', .int mo_where', .ref a_wa, mo_read, mo_tape, .int mo_taped, .int mo_size, .int mo_spot, .int mo_sort, .int mo_place, .int mo_number, .int mo_fault, .int mo_wrongAt, .int mo_laneTold, .long mo_word, .ref a_mo_v, mo_x, mo_past, .ref a_mo_kept, .int mo_acts, .int mo_marks', mo_put, mo_bestPut, .long mo_bestSum, mo_row, mo_best, mo_left, .int mo_bestSize, .int mo_bestLeft, mo_counts, .int mo_sets, .int mo_foeHarm, .int mo_ownHarm, .int mo_across, .int mo_sumFoe, .int mo_sumOwn, .int mo_sumWon, .int mo_sumAcross])), (a_mo_v, .inl (cy 1, 19, .inl mo_v)), (a_mo_kept, .inl (cy 1, 57, .inl mo_kept'))] ++ X)) A) (([.ref a_mo] : List Value).toArray) s 0 0 A) (F0 m 66 ls []) := by
      intro mo_kept_1 h H locs hP hD hS ls hl
      unfold f_X13_mark_B66 at h
      refine lv_aload_n hx hb dX13_mark_66 rfl (lv_at hl 0 rfl) ?_
      refine lv_dup hx hb dX13_mark_67 rfl ?_
      refine va_get (D := D) (ci := 13) (C := RX13) (T := TX13) (N := 39) (v := .int mo_marks) hx hb hX13 (fun _ q => q) hown hK hP 0 rfl rfl 21 (by decide) (hts (.fieldLink RX13 307 "ElephantLineModel" "marks" "I") (by decide +kernel)) (fun _ h9 => h9) rfl dX13_mark_68 ?_
      refine lv_iconst (v := 1) hx hb dX13_mark_71 (by decide) ?_
      refine lv_iadd hx hb dX13_mark_72 ?_
      refine va_put (D := D) (ci := 13) (C := RX13) (T := TX13) (N := 39) (v := .int (mo_marks + 1)) (ty := .int) hx hb hX13 (fun _ q => q) tyX13 tyX13_ok nmX13 hown hK hP hD hS 0 rfl rfl 21 (by decide) (hts (.fieldLink RX13 307 "ElephantLineModel" "marks" "I") (by decide +kernel)) (fun _ h9 => h9) rfl (tyX13_ok 21 (by decide)) rfl rfl (Nat.le_of_ble_eq_true rfl) dX13_mark_73 (fun H locs hP hD hS => ?_)
      refine lv_aload_n hx hb dX13_mark_76 rfl (lv_at hl 0 rfl) ?_
      refine lv_aload_n hx hb dX13_mark_77 rfl (lv_at hl 0 rfl) ?_
      refine va_get (D := D) (ci := 13) (C := RX13) (T := TX13) (N := 39) (v := .int (mo_marks + 1)) hx hb hX13 (fun _ q => q) hown hK hP 0 rfl rfl 21 (by decide) (hts (.fieldLink RX13 307 "ElephantLineModel" "marks" "I") (by decide +kernel)) (fun _ h9 => h9) rfl dX13_mark_78 ?_
      refine lv_iconst (v := 1) hx hb dX13_mark_81 (by decide) ?_
      refine lv_isub hx hb dX13_mark_82 ?_
      have hP : va_P D vwCl ([(a_mo, .inr (13, [.int 0, .int mo_trouble, .int mo_where, .ref a_wa, mo_read, mo_tape, .int mo_taped, .int mo_size, .int mo_spot, .int mo_sort, .int mo_place, .int mo_number, .int mo_fault, .int mo_wrongAt, .int mo_laneTold, .long mo_word, .ref a_mo_v, mo_x, mo_past, .ref a_mo_kept, .int mo_acts, .int (mo_marks + 1), mo_put, mo_bestPut, .long mo_bestSum, mo_row, mo_best, mo_left, .int mo_bestSize, .int mo_bestLeft, mo_counts, .int mo_sets, .int mo_foeHarm, .int mo_ownHarm, .int mo_across, .int mo_sumFoe, .int mo_sumOwn, .int mo_sumWon, .int mo_sumAcross])), (a_mo_v, .inl (cy 1, 19, .inl mo_v)), (a_mo_kept, .inl (cy 1, 57, .inl mo_kept_1))] ++ X) H := hP
      have hD : va_D A ([(a_mo, .inr (13, [.int 0, .int mo_trouble, .int mo_where, .ref a_wa, mo_read, mo_tape, .int mo_taped, .int mo_size, .int mo_spot, .int mo_sort, .int mo_place, .int mo_number, .int mo_fault, .int mo_wrongAt, .int mo_laneTold, .long mo_word, .ref a_mo_v, mo_x, mo_past, .ref a_mo_kept, .int mo_acts, .int (mo_marks + 1), mo_put, mo_bestPut, .long mo_bestSum, mo_row, mo_best, mo_left, .int mo_bestSize, .int mo_bestLeft, mo_counts, .int mo_sets, .int mo_foeHarm, .int mo_ownHarm, .int mo_across, .int mo_sumFoe, .int mo_sumOwn, .int mo_sumWon, .int mo_sumAcross])), (a_mo_v, .inl (cy 1, 19, .inl mo_v)), (a_mo_kept, .inl (cy 1, 57, .inl mo_kept_1))] ++ X) := hD
      obtain ⟨r_2, mo_trouble_3, mo_where_4, hc_5, h⟩ := bd3_some h
      refine wVi [.int ((mo_marks + 1) - 1)] [] ⟨hx, hb, hml, hown, hts⟩ (c_X13_good l D cy A ([(a_mo_v, .inl (cy 1, 19, .inl mo_v)), (a_mo_kept, .inl (cy 1, 57, .inl mo_kept_1))] ++ X) a_mo 0 mo_trouble mo_where (.ref a_wa) (mo_read) (mo_tape) mo_taped mo_size mo_spot mo_sort mo_place mo_number mo_fault mo_wrongAt mo_laneTold mo_word (.ref a_mo_v) (mo_x) (mo_past) (.ref a_mo_kept) mo_acts (mo_marks + 1) (mo_put) (mo_bestPut) mo_bestSum (mo_row) (mo_best) (mo_left) mo_bestSize mo_bestLeft (mo_counts) mo_sets mo_foeHarm mo_ownHarm mo_across mo_sumFoe mo_sumOwn mo_sumWon mo_sumAcross ((mo_marks + 1) - 1) r_2 mo_trouble_3 mo_where_4 hc_5) gX13_mark_X13_good rfl hd_X13_good ⟨Nat.le_of_ble_eq_true rfl, Nat.le_of_ble_eq_true rfl⟩ rfl rfl hKN (pX3 hP [0, 1, 2] rfl) (dX3 hD [0, 1, 2] rfl rfl) hS hA 13 0 rfl rfl rfl hl.1 rfl (Nat.le_of_ble_eq_true rfl) dX13_mark_83 ⟨Nat.le_of_ble_eq_true rfl, Nat.le_of_ble_eq_true rfl⟩ (fun H locs hP hD hS => ?_)
      have hP := pX4 (L1 := [(a_mo, .inr (13, [.int 0, .int mo_trouble_3, .int mo_where_4, .ref a_wa, mo_read, mo_tape, .int mo_taped, .int mo_size, .int mo_spot, .int mo_sort, .int mo_place, .int mo_number, .int mo_fault, .int mo_wrongAt, .int mo_laneTold, .long mo_word, .ref a_mo_v, mo_x, mo_past, .ref a_mo_kept, .int mo_acts, .int (mo_marks + 1), mo_put, mo_bestPut, .long mo_bestSum, mo_row, mo_best, mo_left, .int mo_bestSize, .int mo_bestLeft, mo_counts, .int mo_sets, .int mo_foeHarm, .int mo_ownHarm, .int mo_across, .int mo_sumFoe, .int mo_sumOwn, .int mo_sumWon, .int mo_sumAcross])), (a_mo_v, .inl (cy 1, 19, .inl mo_v)), (a_mo_kept, .inl (cy 1, 57, .inl mo_kept_1))]) hP [0, 1, 2] rfl
      have hD := dX4 (L1 := [(a_mo, .inr (13, [.int 0, .int mo_trouble_3, .int mo_where_4, .ref a_wa, mo_read, mo_tape, .int mo_taped, .int mo_size, .int mo_spot, .int mo_sort, .int mo_place, .int mo_number, .int mo_fault, .int mo_wrongAt, .int mo_laneTold, .long mo_word, .ref a_mo_v, mo_x, mo_past, .ref a_mo_kept, .int mo_acts, .int (mo_marks + 1), mo_put, mo_bestPut, .long mo_bestSum, mo_row, mo_best, mo_left, .int mo_bestSize, .int mo_bestLeft, mo_counts, .int mo_sets, .int mo_foeHarm, .int mo_ownHarm, .int mo_across, .int mo_sumFoe, .int mo_sumOwn, .int mo_sumWon, .int mo_sumAcross])), (a_mo_v, .inl (cy 1, 19, .inl mo_v)), (a_mo_kept, .inl (cy 1, 57, .inl mo_kept_1))]) hD [0, 1, 2] rfl rfl
      have h0 := Option.some.inj h
      clear h
      obtain ⟨e1, h1⟩ := pjP h0
      clear h0
      subst e1
      obtain ⟨e2, h2⟩ := pjP h1
      clear h1
      subst e2
      obtain ⟨e3, h3⟩ := pjP h2
      clear h2
      subst e3
      obtain ⟨e4, h4⟩ := pjP h3
      clear h3
      subst e4
      obtain ⟨e5, h5⟩ := pjP h4
      clear h4
      subst e5
      subst h5
      exact W.iret hx hb hr (fun t ht _ => ⟨⟨_, (), rfl, rfl, by rw [ht]; exact hP, hD⟩, hS.F ht⟩) hS.2.2 dX13_mark_86
    have lp34 : ∀ (n34 : Nat) (x1_6 : Int32) (mo_kept_7 : Nat → Int32), f_X13_mark_L34 mo_v 0 mo_trouble mo_where mo_marks n34 x1_6 mo_kept_7 = some (res, mo_thrown', mo_trouble', mo_where', mo_marks', mo_kept') → ∀ (H : Heap) (locs : List Loc), va_P D vwCl ([(a_mo, .inr (13, [.int 0, .int mo_trouble, .int mo_where, .ref a_wa, mo_read, mo_tape, .int mo_taped, .int mo_size, .int mo_spot, .int mo_sort, .int mo_place, .int mo_number, .int mo_fault, .int mo_wrongAt, .int mo_laneTold, .long mo_word, .ref a_mo_v, mo_x, mo_past, .ref a_mo_kept, .int mo_acts, .int mo_marks, mo_put, mo_bestPut, .long mo_bestSum, mo_row, mo_best, mo_left, .int mo_bestSize, .int mo_bestLeft, mo_counts, .int mo_sets, .int mo_foeHarm, .int mo_ownHarm, .int mo_across, .int mo_sumFoe, .int mo_sumOwn, .int mo_sumWon, .int mo_sumAcross])), (a_mo_v, .inl (cy 1, 19, .inl mo_v)), (a_mo_kept, .inl (cy 1, 57, .inl mo_kept_7))] ++ X) H → va_D A ([(a_mo, .inr (13, [.int 0, .int mo_trouble, .int mo_where, .ref a_wa, mo_read, mo_tape, .int mo_taped, .int mo_size, .int mo_spot, .int mo_sort, .int mo_place, .int mo_number, .int mo_fault, .int mo_wrongAt, .int mo_laneTold, .long mo_word, .ref a_mo_v, mo_x, mo_past, .ref a_mo_kept, .int mo_acts, .int mo_marks, mo_put, mo_bestPut, .long mo_bestSum, mo_row, mo_best, mo_left, .int mo_bestSize, .int mo_bestLeft, mo_counts, .int mo_sets, .int mo_foeHarm, .int mo_ownHarm, .int mo_across, .int mo_sumFoe, .int mo_sumOwn, .int mo_sumWon, .int mo_sumAcross])), (a_mo_v, .inl (cy 1, 19, .inl mo_v)), (a_mo_kept, .inl (cy 1, 57, .inl mo_kept_7))] ++ X) → va_S A s.heap H locs → ∀ ls : Array Slot, lv_has ls 2 [(0, .ref a_mo), (1, .int x1_6)] → W p l e (headSpec wo_X13_mark ({ frames := 1, cells := 0, slots := 0, locals := 21 })).room s m (([.ref a_mo] : List Value).toArray) below meth c H locs 0 0 (MQ below (va_Qi (fun (r : Int32) (_ : Unit) => r = res) (wB D A ([(a_mo, .inr (13, [.int mo_thrown', .int mo_trouble', .int mo_where', .ref a_wa, mo_read, mo_tape, .int mo_taped, .int mo_size, .int mo_spot, .int mo_sort, .int mo_place, .int mo_number, .int mo_fault, .int mo_wrongAt, .int mo_laneTold, .long mo_word, .ref a_mo_v, mo_x, mo_past, .ref a_mo_kept, .int mo_acts, .int mo_marks', mo_put, mo_bestPut, .long mo_bestSum, mo_row, mo_best, mo_left, .int mo_bestSize, .int mo_bestLeft, mo_counts, .int mo_sets, .int mo_foeHarm, .int mo_ownHarm, .int mo_across, .int mo_sumFoe, .int mo_sumOwn, .int mo_sumWon, .int mo_sumAcross])), (a_mo_v, .inl (cy 1, 19, .inl mo_v)), (a_mo_kept, .inl (cy 1, 57, .inl mo_kept'))] ++ X)) A) (([.ref a_mo] : List Value).toArray) s 0 0 A) (F0 m 34 ls []) := by
      intro n34
      induction n34 with
      | zero => intro x1_6 mo_kept_7 h; exact absurd (show (none : Option (Int32 × Int32 × Int32 × Int32 × Int32 × (Nat → Int32))) = some _ from h) (by intro q; cases q)
      | succ n34 ih34 =>
        intro x1_6 mo_kept_7 h H locs hP hD hS ls hl
        have h : f_X13_mark_b34 mo_v 0 mo_trouble mo_where mo_marks (f_X13_mark_L34 mo_v 0 mo_trouble mo_where mo_marks n34) x1_6 mo_kept_7 = some (res, mo_thrown', mo_trouble', mo_where', mo_marks', mo_kept') := h
        unfold f_X13_mark_b34 at h
        refine lv_iload_n hx hb dX13_mark_34 rfl (lv_at hl 1 rfl) ?_
        refine lv_bipush (v := 19) hx hb dX13_mark_35 (by decide) ?_
        refine lv_icmp_ge (tgt := 66) hx hb dX13_mark_37 (by decide) (fun cd => ?_) (fun cd => ?_)
        · have h := ifT cd h
          exact jn66 mo_kept_7 h _ _ hP hD hS _ (lv_sub hl [0] rfl)
        · have h := ifF cd h
          refine lv_aload_n hx hb dX13_mark_40 rfl (lv_at hl 0 rfl) ?_
          refine va_get (D := D) (ci := 13) (C := RX13) (T := TX13) (N := 39) (v := .ref a_mo_kept) hx hb hX13 (fun _ q => q) hown hK hP 0 rfl rfl 19 (by decide) (hts (.fieldLink RX13 27 "ElephantLineModel" "kept" "[I") (by decide +kernel)) (fun _ h9 => h9) rfl dX13_mark_41 ?_
          refine lv_bipush (v := 19) hx hb dX13_mark_44 (by decide) ?_
          refine lv_aload_n hx hb dX13_mark_46 rfl (lv_at hl 0 rfl) ?_
          refine va_get (D := D) (ci := 13) (C := RX13) (T := TX13) (N := 39) (v := .int mo_marks) hx hb hX13 (fun _ q => q) hown hK hP 0 rfl rfl 21 (by decide) (hts (.fieldLink RX13 307 "ElephantLineModel" "marks" "I") (by decide +kernel)) (fun _ h9 => h9) rfl dX13_mark_47 ?_
          refine lv_imul hx hb dX13_mark_50 ?_
          refine lv_iload_n hx hb dX13_mark_51 rfl (lv_at hl 1 rfl) ?_
          refine lv_iadd hx hb dX13_mark_52 ?_
          refine lv_aload_n hx hb dX13_mark_53 rfl (lv_at hl 0 rfl) ?_
          refine va_get (D := D) (ci := 13) (C := RX13) (T := TX13) (N := 39) (v := .ref a_mo_v) hx hb hX13 (fun _ q => q) hown hK hP 0 rfl rfl 16 (by decide) (hts (.fieldLink RX13 17 "ElephantLineModel" "v" "[I") (by decide +kernel)) (fun _ h9 => h9) rfl dX13_mark_54 ?_
          refine lv_iload_n hx hb dX13_mark_57 rfl (lv_at hl 1 rfl) ?_
          obtain ⟨i_8, h⟩ := gIn_some h
          refine va_iald hx hb hK hP 1 1 rfl rfl i_8 dX13_mark_58 ?_
          obtain ⟨i_9, h⟩ := gIn_some h
          refine va_iast hx hb hK hP hD hS 2 1 rfl rfl i_9 dX13_mark_59 (fun H locs hP hD hS => ?_)
          refine lv_iinc (v := x1_6 + 1) (lv' := [(1, .int (x1_6 + 1)), (0, .ref a_mo)]) hx hb dX13_mark_60 hl (k := 1) rfl (by first | rfl | decide) (by decide) rfl (fun ls hl => ?_)
          refine lv_goto (tgt := 34) hx hb dX13_mark_63 (by decide) ?_
          exact ih34 (x1_6 + 1) (upd mo_kept_7 ((19 * mo_marks) + x1_6).toNatClampNeg (mo_v x1_6.toNatClampNeg)) h _ _ hP hD hS _ (lv_sub hl [1, 0] rfl)
    exact lp34 fuelN (0 : Int32) mo_kept h _ _ hP hD hS _ (lv_sub hl [1, 0] rfl)
  · have h := ifT cd h
    refine lv_aload_n hx hb dX13_mark_26 rfl (lv_at hl 0 rfl) ?_
    refine lv_iconst (v := 3) hx hb dX13_mark_27 (by decide) ?_
    have hP : va_P D vwCl ([(a_mo, .inr (13, [.int 0, .int mo_trouble, .int mo_where, .ref a_wa, mo_read, mo_tape, .int mo_taped, .int mo_size, .int mo_spot, .int mo_sort, .int mo_place, .int mo_number, .int mo_fault, .int mo_wrongAt, .int mo_laneTold, .long mo_word, .ref a_mo_v, mo_x, mo_past, .ref a_mo_kept, .int mo_acts, .int mo_marks, mo_put, mo_bestPut, .long mo_bestSum, mo_row, mo_best, mo_left, .int mo_bestSize, .int mo_bestLeft, mo_counts, .int mo_sets, .int mo_foeHarm, .int mo_ownHarm, .int mo_across, .int mo_sumFoe, .int mo_sumOwn, .int mo_sumWon, .int mo_sumAcross])), (a_mo_v, .inl (cy 1, 19, .inl mo_v)), (a_mo_kept, .inl (cy 1, 57, .inl mo_kept))] ++ X) H := hP
    have hD : va_D A ([(a_mo, .inr (13, [.int 0, .int mo_trouble, .int mo_where, .ref a_wa, mo_read, mo_tape, .int mo_taped, .int mo_size, .int mo_spot, .int mo_sort, .int mo_place, .int mo_number, .int mo_fault, .int mo_wrongAt, .int mo_laneTold, .long mo_word, .ref a_mo_v, mo_x, mo_past, .ref a_mo_kept, .int mo_acts, .int mo_marks, mo_put, mo_bestPut, .long mo_bestSum, mo_row, mo_best, mo_left, .int mo_bestSize, .int mo_bestLeft, mo_counts, .int mo_sets, .int mo_foeHarm, .int mo_ownHarm, .int mo_across, .int mo_sumFoe, .int mo_sumOwn, .int mo_sumWon, .int mo_sumAcross])), (a_mo_v, .inl (cy 1, 19, .inl mo_v)), (a_mo_kept, .inl (cy 1, 57, .inl mo_kept))] ++ X) := hD
    obtain ⟨r_10, mo_trouble_11, mo_where_12, hc_13, h⟩ := bd3_some h
    refine wVi [.int 3] [] ⟨hx, hb, hml, hown, hts⟩ (c_X13_refused l D cy A ([(a_mo_v, .inl (cy 1, 19, .inl mo_v)), (a_mo_kept, .inl (cy 1, 57, .inl mo_kept))] ++ X) a_mo 0 mo_trouble mo_where (.ref a_wa) (mo_read) (mo_tape) mo_taped mo_size mo_spot mo_sort mo_place mo_number mo_fault mo_wrongAt mo_laneTold mo_word (.ref a_mo_v) (mo_x) (mo_past) (.ref a_mo_kept) mo_acts mo_marks (mo_put) (mo_bestPut) mo_bestSum (mo_row) (mo_best) (mo_left) mo_bestSize mo_bestLeft (mo_counts) mo_sets mo_foeHarm mo_ownHarm mo_across mo_sumFoe mo_sumOwn mo_sumWon mo_sumAcross (3 : Int32) r_10 mo_trouble_11 mo_where_12 hc_13) gX13_mark_X13_refused rfl hd_X13_refused ⟨Nat.le_of_ble_eq_true rfl, Nat.le_of_ble_eq_true rfl⟩ rfl rfl hKN (pX3 hP [0, 1, 2] rfl) (dX3 hD [0, 1, 2] rfl rfl) hS hA 13 0 rfl rfl rfl hl.1 rfl (Nat.le_of_ble_eq_true rfl) dX13_mark_28 ⟨Nat.le_of_ble_eq_true rfl, Nat.le_of_ble_eq_true rfl⟩ (fun H locs hP hD hS => ?_)
    have hP := pX4 (L1 := [(a_mo, .inr (13, [.int 0, .int mo_trouble_11, .int mo_where_12, .ref a_wa, mo_read, mo_tape, .int mo_taped, .int mo_size, .int mo_spot, .int mo_sort, .int mo_place, .int mo_number, .int mo_fault, .int mo_wrongAt, .int mo_laneTold, .long mo_word, .ref a_mo_v, mo_x, mo_past, .ref a_mo_kept, .int mo_acts, .int mo_marks, mo_put, mo_bestPut, .long mo_bestSum, mo_row, mo_best, mo_left, .int mo_bestSize, .int mo_bestLeft, mo_counts, .int mo_sets, .int mo_foeHarm, .int mo_ownHarm, .int mo_across, .int mo_sumFoe, .int mo_sumOwn, .int mo_sumWon, .int mo_sumAcross])), (a_mo_v, .inl (cy 1, 19, .inl mo_v)), (a_mo_kept, .inl (cy 1, 57, .inl mo_kept))]) hP [0, 1, 2] rfl
    have hD := dX4 (L1 := [(a_mo, .inr (13, [.int 0, .int mo_trouble_11, .int mo_where_12, .ref a_wa, mo_read, mo_tape, .int mo_taped, .int mo_size, .int mo_spot, .int mo_sort, .int mo_place, .int mo_number, .int mo_fault, .int mo_wrongAt, .int mo_laneTold, .long mo_word, .ref a_mo_v, mo_x, mo_past, .ref a_mo_kept, .int mo_acts, .int mo_marks, mo_put, mo_bestPut, .long mo_bestSum, mo_row, mo_best, mo_left, .int mo_bestSize, .int mo_bestLeft, mo_counts, .int mo_sets, .int mo_foeHarm, .int mo_ownHarm, .int mo_across, .int mo_sumFoe, .int mo_sumOwn, .int mo_sumWon, .int mo_sumAcross])), (a_mo_v, .inl (cy 1, 19, .inl mo_v)), (a_mo_kept, .inl (cy 1, 57, .inl mo_kept))]) hD [0, 1, 2] rfl rfl
    have h0 := Option.some.inj h
    clear h
    obtain ⟨e1, h1⟩ := pjP h0
    clear h0
    subst e1
    obtain ⟨e2, h2⟩ := pjP h1
    clear h1
    subst e2
    obtain ⟨e3, h3⟩ := pjP h2
    clear h2
    subst e3
    obtain ⟨e4, h4⟩ := pjP h3
    clear h3
    subst e4
    obtain ⟨e5, h5⟩ := pjP h4
    clear h4
    subst e5
    subst h5
    exact W.iret hx hb hr (fun t ht _ => ⟨⟨_, (), rfl, rfl, by rw [ht]; exact hP, hD⟩, hS.F ht⟩) hS.2.2 dX13_mark_31
