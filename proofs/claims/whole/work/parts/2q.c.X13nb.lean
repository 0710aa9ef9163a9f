set_option maxHeartbeats 4000000 in
set_option maxRecDepth 100000 in
theorem c_X13_toHammer_n (l : Launch) (D : va_G) (cy : Nat → ClassId) (A : Nat → Prop) (X : va_W) (a_mo : Nat) (mo_thrown : Int32) (mo_trouble : Int32) (mo_where : Int32) (mo_read : Value) (mo_tape : Value) (mo_taped : Int32) (mo_size : Int32) (mo_spot : Int32) (mo_sort : Int32) (mo_place : Int32) (mo_number : Int32) (mo_fault : Int32) (mo_wrongAt : Int32) (mo_laneTold : Int32) (mo_word : Int64) (mo_v : Value) (mo_x : Value) (mo_past : Value) (mo_kept : Value) (mo_acts : Int32) (mo_marks : Int32) (mo_put : Value) (mo_bestPut : Value) (mo_bestSum : Int64) (mo_row : Value) (mo_best : Value) (mo_left : Value) (mo_bestSize : Int32) (mo_bestLeft : Int32) (mo_counts : Value) (mo_sets : Int32) (mo_foeHarm : Int32) (mo_ownHarm : Int32) (mo_across : Int32) (mo_sumFoe : Int32) (mo_sumOwn : Int32) (mo_sumWon : Int32) (mo_sumAcross : Int32) (res : Int32) (mo_thrown' : Int32) (mo_trouble' : Int32) (mo_where' : Int32) (h : f_X13_toHammer_n mo_thrown mo_trouble mo_where = some (res, mo_thrown', mo_trouble', mo_where')) : Met l yX13_toHammer wo_X13_toHammer ({ frames := 1, cells := 0, slots := 0, locals := 21 }) (wrPc D cy A [.ref a_mo] ([(a_mo, .inr (13, [.int mo_thrown, .int mo_trouble, .int mo_where, .null, mo_read, mo_tape, .int mo_taped, .int mo_size, .int mo_spot, .int mo_sort, .int mo_place, .int mo_number, .int mo_fault, .int mo_wrongAt, .int mo_laneTold, .long mo_word, mo_v, mo_x, mo_past, mo_kept, .int mo_acts, .int mo_marks, mo_put, mo_bestPut, .long mo_bestSum, mo_row, mo_best, mo_left, .int mo_bestSize, .int mo_bestLeft, mo_counts, .int mo_sets, .int mo_foeHarm, .int mo_ownHarm, .int mo_across, .int mo_sumFoe, .int mo_sumOwn, .int mo_sumWon, .int mo_sumAcross]))] ++ X)) (va_Qi (fun (r : Int32) (_ : Unit) => r = res) (wB D A ([(a_mo, .inr (13, [.int mo_thrown', .int mo_trouble', .int mo_where', .null, mo_read, mo_tape, .int mo_taped, .int mo_size, .int mo_spot, .int mo_sort, .int mo_place, .int mo_number, .int mo_fault, .int mo_wrongAt, .int mo_laneTold, .long mo_word, mo_v, mo_x, mo_past, mo_kept, .int mo_acts, .int mo_marks, mo_put, mo_bestPut, .long mo_bestSum, mo_row, mo_best, mo_left, .int mo_bestSize, .int mo_bestLeft, mo_counts, .int mo_sets, .int mo_foeHarm, .int mo_ownHarm, .int mo_across, .int mo_sumFoe, .int mo_sumOwn, .int mo_sumWon, .int mo_sumAcross]))] ++ X)) A) 0 0 A := by
  refine Met.ofW (cc := cX13_toHammer) (maxL := 7) (ret := (some .int)) (by decide) rfl ?_
  intro p e s m args below meth c s₁ B hml hv
  obtain ⟨rfl, hP, hKN, hD, hA⟩ := hv
  have hK := hKN.1
  have hx := B.exec
  have hb := B.bytes
  have hr := B.returns
  have hts := wt_X13_toHammer hKN.2.2 (([.ref a_mo] : List Value).toArray)
  have hown : s.vm.findClass RX13 = some m.cls := findClass_of_methodNamed B.named
  have hlocks := B.notSynchronized
  have hS : va_S A s.heap s.heap [] := va_S.rf
  have hX13 := wc_X13 hKN.2.2 (([.ref a_mo] : List Value).toArray)
  have hl := lv_entry ([.ref a_mo]) (n := 7) (Nat.le_of_ble_eq_true rfl)
  rw [lg_entry_eq]
  generalize (lg_sl ([.ref a_mo]) ++ List.replicate (7 - (lg_sl ([.ref a_mo])).length) Slot.unset).toArray = ls at hl ⊢
  have hl : lv_has ls 7 [(0, .ref a_mo)] := hl
  unfold f_X13_toHammer_n at h
  refine lv_aload_n hx hb dX13_toHammer_0 rfl (lv_at hl 0 rfl) ?_
  refine lv_iconst (v := 0) hx hb dX13_toHammer_1 (by decide) ?_
  refine va_put (D := D) (ci := 13) (C := RX13) (T := TX13) (N := 39) (v := .int 0) (ty := .int) hx hb hX13 (fun _ q => q) tyX13 tyX13_ok nmX13 hown hK hP hD hS 0 rfl rfl 0 (by decide) (hts (.fieldLink RX13 48 "ElephantLineModel" "thrown" "I") (by decide +kernel)) (fun _ h9 => h9) rfl (tyX13_ok 0 (by decide)) rfl rfl (Nat.le_of_ble_eq_true rfl) dX13_toHammer_2 (fun H locs hP hD hS => ?_)
  refine lv_aload_n hx hb dX13_toHammer_5 rfl (lv_at hl 0 rfl) ?_
  refine va_get (D := D) (ci := 13) (C := RX13) (T := TX13) (N := 39) (v := .null) hx hb hX13 (fun _ q => q) hown hK hP 0 rfl rfl 3 (by decide) (hts (.fieldLink RX13 301 "ElephantLineModel" "war" "LElephantLineModel$War;") (by decide +kernel)) (fun _ h9 => h9) rfl dX13_toHammer_6 ?_
  refine lv_ifnonnullN hx hb dX13_toHammer_9 ?_
  refine lv_aload_n hx hb dX13_toHammer_12 rfl (lv_at hl 0 rfl) ?_
  refine lv_iconst (v := 1) hx hb dX13_toHammer_13 (by decide) ?_
  have hP : va_P D vwCl ([(a_mo, .inr (13, [.int 0, .int mo_trouble, .int mo_where, .null, mo_read, mo_tape, .int mo_taped, .int mo_size, .int mo_spot, .int mo_sort, .int mo_place, .int mo_number, .int mo_fault, .int mo_wrongAt, .int mo_laneTold, .long mo_word, mo_v, mo_x, mo_past, mo_kept, .int mo_acts, .int mo_marks, mo_put, mo_bestPut, .long mo_bestSum, mo_row, mo_best, mo_left, .int mo_bestSize, .int mo_bestLeft, mo_counts, .int mo_sets, .int mo_foeHarm, .int mo_ownHarm, .int mo_across, .int mo_sumFoe, .int mo_sumOwn, .int mo_sumWon, .int mo_sumAcross]))] ++ X) H := hP
  have hD : va_D A ([(a_mo, .inr (13, [.int 0, .int mo_trouble, .int mo_where, .null, mo_read, mo_tape, .int mo_taped, .int mo_size, .int mo_spot, .int mo_sort, .int mo_place, .int mo_number, .int mo_fault, .int mo_wrongAt, .int mo_laneTold, .long mo_word, mo_v, mo_x, mo_past, mo_kept, .int mo_acts, .int mo_marks, mo_put, mo_bestPut, .long mo_bestSum, mo_row, mo_best, mo_left, .int mo_bestSize, .int mo_bestLeft, mo_counts, .int mo_sets, .int mo_foeHarm, .int mo_ownHarm, .int mo_across, .int mo_sumFoe, .int mo_sumOwn, .int mo_sumWon, .int mo_sumAcross]))] ++ X) := hD
  obtain ⟨r_1, mo_trouble_2, mo_where_3, hc_4, h⟩ := bd3_some h
  refine wVi [.int 1] [] ⟨hx, hb, hml, hown, hts⟩ (c_X13_refused l D cy A X a_mo 0 mo_trouble mo_where (.null) (mo_read) (mo_tape) mo_taped mo_size mo_spot mo_sort mo_place mo_number mo_fault mo_wrongAt mo_laneTold mo_word (mo_v) (mo_x) (mo_past) (mo_kept) mo_acts mo_marks (mo_put) (mo_bestPut) mo_bestSum (mo_row) (mo_best) (mo_left) mo_bestSize mo_bestLeft (mo_counts) mo_sets mo_foeHarm mo_ownHarm mo_across mo_sumFoe mo_sumOwn mo_sumWon mo_sumAcross (1 : Int32) r_1 mo_trouble_2 mo_where_3 hc_4) gX13_toHammer_X13_refused rfl hd_X13_refused ⟨Nat.le_of_ble_eq_true rfl, Nat.le_of_ble_eq_true rfl⟩ rfl rfl hKN hP hD hS hA 13 0 rfl rfl rfl hl.1 rfl (Nat.le_of_ble_eq_true rfl) dX13_toHammer_14 ⟨Nat.le_of_ble_eq_true rfl, Nat.le_of_ble_eq_true rfl⟩ (fun H locs hP hD hS => ?_)
  cases h
  exact W.iret hx hb hr (fun t ht _ => ⟨⟨_, (), rfl, rfl, by rw [ht]; exact hP, hD⟩, hS.F ht⟩) hS.2.2 dX13_toHammer_17
set_option maxHeartbeats 4000000 in
set_option maxRecDepth 100000 in
theorem c_X13_bestLane_n (l : Launch) (D : va_G) (cy : Nat → ClassId) (A : Nat → Prop) (X : va_W) (a_mo : Nat) (mo_thrown : Int32) (mo_trouble : Int32) (mo_where : Int32) (mo_read : Value) (mo_tape : Value) (mo_taped : Int32) (mo_size : Int32) (mo_spot : Int32) (mo_sort : Int32) (mo_place : Int32) (mo_number : Int32) (mo_fault : Int32) (mo_wrongAt : Int32) (mo_laneTold : Int32) (mo_word : Int64) (mo_v : Value) (mo_x : Value) (mo_past : Value) (mo_kept : Value) (mo_acts : Int32) (mo_marks : Int32) (mo_put : Value) (mo_bestPut : Value) (mo_bestSum : Int64) (mo_row : Value) (mo_best : Value) (mo_left : Value) (mo_bestSize : Int32) (mo_bestLeft : Int32) (mo_counts : Value) (mo_sets : Int32) (mo_foeHarm : Int32) (mo_ownHarm : Int32) (mo_across : Int32) (mo_sumFoe : Int32) (mo_sumOwn : Int32) (mo_sumWon : Int32) (mo_sumAcross : Int32) (p1 : Int32) (res : Int32) (mo_thrown' : Int32) (mo_trouble' : Int32) (mo_where' : Int32) (h : f_X13_bestLane_n mo_thrown mo_trouble mo_where p1 = some (res, mo_thrown', mo_trouble', mo_where')) : Met l yX13_bestLane wo_X13_bestLane ({ frames := 1, cells := 0, slots := 0, locals := 21 }) (wrPc D cy A [.ref a_mo, .int p1] ([(a_mo, .inr (13, [.int mo_thrown, .int mo_trouble, .int mo_where, .null, mo_read, mo_tape, .int mo_taped, .int mo_size, .int mo_spot, .int mo_sort, .int mo_place, .int mo_number, .int mo_fault, .int mo_wrongAt, .int mo_laneTold, .long mo_word, mo_v, mo_x, mo_past, mo_kept, .int mo_acts, .int mo_marks, mo_put, mo_bestPut, .long mo_bestSum, mo_row, mo_best, mo_left, .int mo_bestSize, .int mo_bestLeft, mo_counts, .int mo_sets, .int mo_foeHarm, .int mo_ownHarm, .int mo_across, .int mo_sumFoe, .int mo_sumOwn, .int mo_sumWon, .int mo_sumAcross]))] ++ X)) (va_Qi (fun (r : Int32) (_ : Unit) => r = res) (wB D A ([(a_mo, .inr (13, [.int mo_thrown', .int mo_trouble', .int mo_where', .null, mo_read, mo_tape, .int mo_taped, .int mo_size, .int mo_spot, .int mo_sort, .int mo_place, .int mo_number, .int mo_fault, .int mo_wrongAt, .int mo_laneTold, .long mo_word, mo_v, mo_x, mo_past, mo_kept, .int mo_acts, .int mo_marks, mo_put, mo_bestPut, .long mo_bestSum, mo_row, mo_best, mo_left, .int mo_bestSize, .int mo_bestLeft, mo_counts, .int mo_sets, .int mo_foeHarm, .int mo_ownHarm, .int mo_across, .int mo_sumFoe, .int mo_sumOwn, .int mo_sumWon, .int mo_sumAcross]))] ++ X)) A) 0 0 A := by
  refine Met.ofW (cc := cX13_bestLane) (maxL := 4) (ret := (some .int)) (by decide) rfl ?_
  intro p e s m args below meth c s₁ B hml hv
  obtain ⟨rfl, hP, hKN, hD, hA⟩ := hv
  have hK := hKN.1
  have hx := B.exec
  have hb := B.bytes
  have hr := B.returns
  have hts := wt_X13_bestLane hKN.2.2 (([.ref a_mo, .int p1] : List Value).toArray)
  have hown : s.vm.findClass RX13 = some m.cls := findClass_of_methodNamed B.named
  have hlocks := B.notSynchronized
  have hS : va_S A s.heap s.heap [] := va_S.rf
  have hX13 := wc_X13 hKN.2.2 (([.ref a_mo, .int p1] : List Value).toArray)
  have hl := lv_entry ([.ref a_mo, .int p1]) (n := 4) (Nat.le_of_ble_eq_true rfl)
  rw [lg_entry_eq]
  generalize (lg_sl ([.ref a_mo, .int p1]) ++ List.replicate (4 - (lg_sl ([.ref a_mo, .int p1])).length) Slot.unset).toArray = ls at hl ⊢
  have hl : lv_has ls 4 [(0, .ref a_mo), (1, .int p1)] := hl
  unfold f_X13_bestLane_n at h
  refine lv_aload_n hx hb dX13_bestLane_0 rfl (lv_at hl 0 rfl) ?_
  refine lv_iconst (v := 0) hx hb dX13_bestLane_1 (by decide) ?_
  refine va_put (D := D) (ci := 13) (C := RX13) (T := TX13) (N := 39) (v := .int 0) (ty := .int) hx hb hX13 (fun _ q => q) tyX13 tyX13_ok nmX13 hown hK hP hD hS 0 rfl rfl 0 (by decide) (hts (.fieldLink RX13 48 "ElephantLineModel" "thrown" "I") (by decide +kernel)) (fun _ h9 => h9) rfl (tyX13_ok 0 (by decide)) rfl rfl (Nat.le_of_ble_eq_true rfl) dX13_bestLane_2 (fun H locs hP hD hS => ?_)
  refine lv_aload_n hx hb dX13_bestLane_5 rfl (lv_at hl 0 rfl) ?_
  refine lv_iload_n hx hb dX13_bestLane_6 rfl (lv_at hl 1 rfl) ?_
  have hP : va_P D vwCl ([(a_mo, .inr (13, [.int 0, .int mo_trouble, .int mo_where, .null, mo_read, mo_tape, .int mo_taped, .int mo_size, .int mo_spot, .int mo_sort, .int mo_place, .int mo_number, .int mo_fault, .int mo_wrongAt, .int mo_laneTold, .long mo_word, mo_v, mo_x, mo_past, mo_kept, .int mo_acts, .int mo_marks, mo_put, mo_bestPut, .long mo_bestSum, mo_row, mo_best, mo_left, .int mo_bestSize, .int mo_bestLeft, mo_counts, .int mo_sets, .int mo_foeHarm, .int mo_ownHarm, .int mo_across, .int mo_sumFoe, .int mo_sumOwn, .int mo_sumWon, .int mo_sumAcross]))] ++ X) H := hP
  have hD : va_D A ([(a_mo, .inr (13, [.int 0, .int mo_trouble, .int mo_where, .null, mo_read, mo_tape, .int mo_taped, .int mo_size, .int mo_spot, .int mo_sort, .int mo_place, .int mo_number, .int mo_fault, .int mo_wrongAt, .int mo_laneTold, .long mo_word, mo_v, mo_x, mo_past, mo_kept, .int mo_acts, .int mo_marks, mo_put, mo_bestPut, .long mo_bestSum, mo_row, mo_best, mo_left, .int mo_bestSize, .int mo_bestLeft, mo_counts, .int mo_sets, .int mo_foeHarm, .int mo_ownHarm, .int mo_across, .int mo_sumFoe, .int mo_sumOwn, .int mo_sumWon, .int mo_sumAcross]))] ++ X) := hD
  refine kVb [.int p1] [] ⟨hx, hb, hml, hown, hts⟩ (c_X13_isBeast_n l D cy a_mo 0 mo_trouble mo_where (mo_read) (mo_tape) mo_taped mo_size mo_spot mo_sort mo_place mo_number mo_fault mo_wrongAt mo_laneTold mo_word (mo_v) (mo_x) (mo_past) (mo_kept) mo_acts mo_marks (mo_put) (mo_bestPut) mo_bestSum (mo_row) (mo_best) (mo_left) mo_bestSize mo_bestLeft (mo_counts) mo_sets mo_foeHarm mo_ownHarm mo_across mo_sumFoe mo_sumOwn mo_sumWon mo_sumAcross p1 0 rfl) gX13_bestLane_X13_isBeast rfl hd_X13_isBeast ⟨Nat.le_of_ble_eq_true rfl, Nat.le_of_ble_eq_true rfl⟩ rfl rfl hKN (pXc hP [0] rfl) 13 0 rfl rfl rfl hl.1 rfl (Nat.le_of_ble_eq_true rfl) dX13_bestLane_7 ⟨Nat.le_of_ble_eq_true rfl, Nat.le_of_ble_eq_true rfl⟩ (fun nb_3 => ?_)
  refine lv_if_ne (tgt := 19) hx hb dX13_bestLane_10 (by decide) (fun cd => ?_) (fun cd => ?_)
  · exact absurd cd (by decide)
  refine lv_aload_n hx hb dX13_bestLane_13 rfl (lv_at hl 0 rfl) ?_
  refine lv_iconst (v := 1) hx hb dX13_bestLane_14 (by decide) ?_
  obtain ⟨r_4, mo_trouble_5, mo_where_6, hc_7, h⟩ := bd3_some h
  refine wVi [.int 1] [] ⟨hx, hb, hml, hown, hts⟩ (c_X13_refused l D cy A X a_mo 0 mo_trouble mo_where (.null) (mo_read) (mo_tape) mo_taped mo_size mo_spot mo_sort mo_place mo_number mo_fault mo_wrongAt mo_laneTold mo_word (mo_v) (mo_x) (mo_past) (mo_kept) mo_acts mo_marks (mo_put) (mo_bestPut) mo_bestSum (mo_row) (mo_best) (mo_left) mo_bestSize mo_bestLeft (mo_counts) mo_sets mo_foeHarm mo_ownHarm mo_across mo_sumFoe mo_sumOwn mo_sumWon mo_sumAcross (1 : Int32) r_4 mo_trouble_5 mo_where_6 hc_7) gX13_bestLane_X13_refused rfl hd_X13_refused ⟨Nat.le_of_ble_eq_true rfl, Nat.le_of_ble_eq_true rfl⟩ rfl rfl hKN hP hD hS hA 13 0 rfl rfl rfl hl.1 rfl (Nat.le_of_ble_eq_true rfl) dX13_bestLane_15 ⟨Nat.le_of_ble_eq_true rfl, Nat.le_of_ble_eq_true rfl⟩ (fun H locs hP hD hS => ?_)
  cases h
  exact W.iret hx hb hr (fun t ht _ => ⟨⟨_, (), rfl, rfl, by rw [ht]; exact hP, hD⟩, hS.F ht⟩) hS.2.2 dX13_bestLane_18
set_option maxHeartbeats 4000000 in
set_option maxRecDepth 100000 in
theorem c_X13_all_n (l : Launch) (D : va_G) (cy : Nat → ClassId) (A : Nat → Prop) (X : va_W) (a_mo : Nat) (mo_thrown : Int32) (mo_trouble : Int32) (mo_where : Int32) (mo_read : Value) (mo_tape : Value) (mo_taped : Int32) (mo_size : Int32) (mo_spot : Int32) (mo_sort : Int32) (mo_place : Int32) (mo_number : Int32) (mo_fault : Int32) (mo_wrongAt : Int32) (mo_laneTold : Int32) (mo_word : Int64) (mo_v : Value) (mo_x : Value) (mo_past : Value) (mo_kept : Value) (mo_acts : Int32) (mo_marks : Int32) (mo_put : Value) (mo_bestPut : Value) (mo_bestSum : Int64) (mo_row : Value) (mo_best : Value) (mo_left : Value) (mo_bestSize : Int32) (mo_bestLeft : Int32) (mo_counts : Value) (mo_sets : Int32) (mo_foeHarm : Int32) (mo_ownHarm : Int32) (mo_across : Int32) (mo_sumFoe : Int32) (mo_sumOwn : Int32) (mo_sumWon : Int32) (mo_sumAcross : Int32) (p1 : Int32) (p2 : Int32) (res : Int64) (mo_thrown' : Int32) (mo_trouble' : Int32) (mo_where' : Int32) (h : f_X13_all_n mo_thrown mo_trouble mo_where p1 p2 = some (res, mo_thrown', mo_trouble', mo_where')) : Met l yX13_all wo_X13_all ({ frames := 1, cells := 0, slots := 0, locals := 21 }) (wrPc D cy A [.ref a_mo, .int p1, .int p2] ([(a_mo, .inr (13, [.int mo_thrown, .int mo_trouble, .int mo_where, .null, mo_read, mo_tape, .int mo_taped, .int mo_size, .int mo_spot, .int mo_sort, .int mo_place, .int mo_number, .int mo_fault, .int mo_wrongAt, .int mo_laneTold, .long mo_word, mo_v, mo_x, mo_past, mo_kept, .int mo_acts, .int mo_marks, mo_put, mo_bestPut, .long mo_bestSum, mo_row, mo_best, mo_left, .int mo_bestSize, .int mo_bestLeft, mo_counts, .int mo_sets, .int mo_foeHarm, .int mo_ownHarm, .int mo_across, .int mo_sumFoe, .int mo_sumOwn, .int mo_sumWon, .int mo_sumAcross]))] ++ X)) (va_Ql (fun (r : Int64) (_ : Unit) => r = res) (wB D A ([(a_mo, .inr (13, [.int mo_thrown', .int mo_trouble', .int mo_where', .null, mo_read, mo_tape, .int mo_taped, .int mo_size, .int mo_spot, .int mo_sort, .int mo_place, .int mo_number, .int mo_fault, .int mo_wrongAt, .int mo_laneTold, .long mo_word, mo_v, mo_x, mo_past, mo_kept, .int mo_acts, .int mo_marks, mo_put, mo_bestPut, .long mo_bestSum, mo_row, mo_best, mo_left, .int mo_bestSize, .int mo_bestLeft, mo_counts, .int mo_sets, .int mo_foeHarm, .int mo_ownHarm, .int mo_across, .int mo_sumFoe, .int mo_sumOwn, .int mo_sumWon, .int mo_sumAcross]))] ++ X)) A) 0 0 A := by
  refine Met.ofW (cc := cX13_all) (maxL := 6) (ret := (some .long)) (by decide) rfl ?_
  intro p e s m args below meth c s₁ B hml hv
  obtain ⟨rfl, hP, hKN, hD, hA⟩ := hv
  have hK := hKN.1
  have hx := B.exec
  have hb := B.bytes
  have hr := B.returns
  have hts := wt_X13_all hKN.2.2 (([.ref a_mo, .int p1, .int p2] : List Value).toArray)
  have hown : s.vm.findClass RX13 = some m.cls := findClass_of_methodNamed B.named
  have hlocks := B.notSynchronized
  have hS : va_S A s.heap s.heap [] := va_S.rf
  have hX13 := wc_X13 hKN.2.2 (([.ref a_mo, .int p1, .int p2] : List Value).toArray)
  have hl := lv_entry ([.ref a_mo, .int p1, .int p2]) (n := 6) (Nat.le_of_ble_eq_true rfl)
  rw [lg_entry_eq]
  generalize (lg_sl ([.ref a_mo, .int p1, .int p2]) ++ List.replicate (6 - (lg_sl ([.ref a_mo, .int p1, .int p2])).length) Slot.unset).toArray = ls at hl ⊢
  have hl : lv_has ls 6 [(0, .ref a_mo), (1, .int p1), (2, .int p2)] := hl
  unfold f_X13_all_n at h
  refine lv_aload_n hx hb dX13_all_0 rfl (lv_at hl 0 rfl) ?_
  refine lv_iconst (v := 0) hx hb dX13_all_1 (by decide) ?_
  refine va_put (D := D) (ci := 13) (C := RX13) (T := TX13) (N := 39) (v := .int 0) (ty := .int) hx hb hX13 (fun _ q => q) tyX13 tyX13_ok nmX13 hown hK hP hD hS 0 rfl rfl 0 (by decide) (hts (.fieldLink RX13 48 "ElephantLineModel" "thrown" "I") (by decide +kernel)) (fun _ h9 => h9) rfl (tyX13_ok 0 (by decide)) rfl rfl (Nat.le_of_ble_eq_true rfl) dX13_all_2 (fun H locs hP hD hS => ?_)
  refine lv_aload_n hx hb dX13_all_5 rfl (lv_at hl 0 rfl) ?_
  refine va_get (D := D) (ci := 13) (C := RX13) (T := TX13) (N := 39) (v := .null) hx hb hX13 (fun _ q => q) hown hK hP 0 rfl rfl 3 (by decide) (hts (.fieldLink RX13 301 "ElephantLineModel" "war" "LElephantLineModel$War;") (by decide +kernel)) (fun _ h9 => h9) rfl dX13_all_6 ?_
  refine lv_ifnonnullN hx hb dX13_all_9 ?_
  refine lv_aload_n hx hb dX13_all_12 rfl (lv_at hl 0 rfl) ?_
  refine lv_iconst (v := 1) hx hb dX13_all_13 (by decide) ?_
  have hP : va_P D vwCl ([(a_mo, .inr (13, [.int 0, .int mo_trouble, .int mo_where, .null, mo_read, mo_tape, .int mo_taped, .int mo_size, .int mo_spot, .int mo_sort, .int mo_place, .int mo_number, .int mo_fault, .int mo_wrongAt, .int mo_laneTold, .long mo_word, mo_v, mo_x, mo_past, mo_kept, .int mo_acts, .int mo_marks, mo_put, mo_bestPut, .long mo_bestSum, mo_row, mo_best, mo_left, .int mo_bestSize, .int mo_bestLeft, mo_counts, .int mo_sets, .int mo_foeHarm, .int mo_ownHarm, .int mo_across, .int mo_sumFoe, .int mo_sumOwn, .int mo_sumWon, .int mo_sumAcross]))] ++ X) H := hP
  have hD : va_D A ([(a_mo, .inr (13, [.int 0, .int mo_trouble, .int mo_where, .null, mo_read, mo_tape, .int mo_taped, .int mo_size, .int mo_spot, .int mo_sort, .int mo_place, .int mo_number, .int mo_fault, .int mo_wrongAt, .int mo_laneTold, .long mo_word, mo_v, mo_x, mo_past, mo_kept, .int mo_acts, .int mo_marks, mo_put, mo_bestPut, .long mo_bestSum, mo_row, mo_best, mo_left, .int mo_bestSize, .int mo_bestLeft, mo_counts, .int mo_sets, .int mo_foeHarm, .int mo_ownHarm, .int mo_across, .int mo_sumFoe, .int mo_sumOwn, .int mo_sumWon, .int mo_sumAcross]))] ++ X) := hD
  obtain ⟨r_1, mo_trouble_2, mo_where_3, hc_4, h⟩ := bd3_some h
  refine wVi [.int 1] [] ⟨hx, hb, hml, hown, hts⟩ (c_X13_refused l D cy A X a_mo 0 mo_trouble mo_where (.null) (mo_read) (mo_tape) mo_taped mo_size mo_spot mo_sort mo_place mo_number mo_fault mo_wrongAt mo_laneTold mo_word (mo_v) (mo_x) (mo_past) (mo_kept) mo_acts mo_marks (mo_put) (mo_bestPut) mo_bestSum (mo_row) (mo_best) (mo_left) mo_bestSize mo_bestLeft (mo_counts) mo_sets mo_foeHarm mo_ownHarm mo_across mo_sumFoe mo_sumOwn mo_sumWon mo_sumAcross (1 : Int32) r_1 mo_trouble_2 mo_where_3 hc_4) gX13_all_X13_refused rfl hd_X13_refused ⟨Nat.le_of_ble_eq_true rfl, Nat.le_of_ble_eq_true rfl⟩ rfl rfl hKN hP hD hS hA 13 0 rfl rfl rfl hl.1 rfl (Nat.le_of_ble_eq_true rfl) dX13_all_14 ⟨Nat.le_of_ble_eq_true rfl, Nat.le_of_ble_eq_true rfl⟩ (fun H locs hP hD hS => ?_)
  refine lv_i2l hx hb dX13_all_17 rfl ?_
  cases h
  exact W.lret hx hb hr (fun t ht _ => ⟨⟨_, (), rfl, rfl, by rw [ht]; exact hP, hD⟩, hS.F ht⟩) hS.2.2 dX13_all_18
set_option maxHeartbeats 4000000 in
set_option maxRecDepth 100000 in
theorem c_X13_worst_n (l : Launch) (D : va_G) (cy : Nat → ClassId) (A : Nat → Prop) (X : va_W) (a_mo : Nat) (mo_thrown : Int32) (mo_trouble : Int32) (mo_where : Int32) (mo_read : Value) (mo_tape : Value) (mo_taped : Int32) (mo_size : Int32) (mo_spot : Int32) (mo_sort : Int32) (mo_place : Int32) (mo_number : Int32) (mo_fault : Int32) (mo_wrongAt : Int32) (mo_laneTold : Int32) (mo_word : Int64) (mo_v : Value) (mo_x : Value) (mo_past : Value) (mo_kept : Value) (mo_acts : Int32) (mo_marks : Int32) (mo_put : Value) (mo_bestPut : Value) (mo_bestSum : Int64) (mo_row : Value) (mo_best : Value) (mo_left : Value) (mo_bestSize : Int32) (mo_bestLeft : Int32) (mo_counts : Value) (mo_sets : Int32) (mo_foeHarm : Int32) (mo_ownHarm : Int32) (mo_across : Int32) (mo_sumFoe : Int32) (mo_sumOwn : Int32) (mo_sumWon : Int32) (mo_sumAcross : Int32) (res : Int32) (mo_thrown' : Int32) (mo_trouble' : Int32) (mo_where' : Int32) (h : f_X13_worst_n mo_thrown mo_trouble mo_where = some (res, mo_thrown', mo_trouble', mo_where')) : Met l yX13_worst wo_X13_worst ({ frames := 1, cells := 0, slots := 0, locals := 21 }) (wrPc D cy A [.ref a_mo] ([(a_mo, .inr (13, [.int mo_thrown, .int mo_trouble, .int mo_where, .null, mo_read, mo_tape, .int mo_taped, .int mo_size, .int mo_spot, .int mo_sort, .int mo_place, .int mo_number, .int mo_fault, .int mo_wrongAt, .int mo_laneTold, .long mo_word, mo_v, mo_x, mo_past, mo_kept, .int mo_acts, .int mo_marks, mo_put, mo_bestPut, .long mo_bestSum, mo_row, mo_best, mo_left, .int mo_bestSize, .int mo_bestLeft, mo_counts, .int mo_sets, .int mo_foeHarm, .int mo_ownHarm, .int mo_across, .int mo_sumFoe, .int mo_sumOwn, .int mo_sumWon, .int mo_sumAcross]))] ++ X)) (va_Qi (fun (r : Int32) (_ : Unit) => r = res) (wB D A ([(a_mo, .inr (13, [.int mo_thrown', .int mo_trouble', .int mo_where', .null, mo_read, mo_tape, .int mo_taped, .int mo_size, .int mo_spot, .int mo_sort, .int mo_place, .int mo_number, .int mo_fault, .int mo_wrongAt, .int mo_laneTold, .long mo_word, mo_v, mo_x, mo_past, mo_kept, .int mo_acts, .int mo_marks, mo_put, mo_bestPut, .long mo_bestSum, mo_row, mo_best, mo_left, .int mo_bestSize, .int mo_bestLeft, mo_counts, .int mo_sets, .int mo_foeHarm, .int mo_ownHarm, .int mo_across, .int mo_sumFoe, .int mo_sumOwn, .int mo_sumWon, .int mo_sumAcross]))] ++ X)) A) 0 0 A := by
  refine Met.ofW (cc := cX13_worst) (maxL := 5) (ret := (some .int)) (by decide) rfl ?_
  intro p e s m args below meth c s₁ B hml hv
  obtain ⟨rfl, hP, hKN, hD, hA⟩ := hv
  have hK := hKN.1
  have hx := B.exec
  have hb := B.bytes
  have hr := B.returns
  have hts := wt_X13_worst hKN.2.2 (([.ref a_mo] : List Value).toArray)
  have hown : s.vm.findClass RX13 = some m.cls := findClass_of_methodNamed B.named
  have hlocks := B.notSynchronized
  have hS : va_S A s.heap s.heap [] := va_S.rf
  have hX13 := wc_X13 hKN.2.2 (([.ref a_mo] : List Value).toArray)
  have hl := lv_entry ([.ref a_mo]) (n := 5) (Nat.le_of_ble_eq_true rfl)
  rw [lg_entry_eq]
  generalize (lg_sl ([.ref a_mo]) ++ List.replicate (5 - (lg_sl ([.ref a_mo])).length) Slot.unset).toArray = ls at hl ⊢
  have hl : lv_has ls 5 [(0, .ref a_mo)] := hl
  unfold f_X13_worst_n at h
  refine lv_aload_n hx hb dX13_worst_0 rfl (lv_at hl 0 rfl) ?_
  refine lv_iconst (v := 0) hx hb dX13_worst_1 (by decide) ?_
  refine va_put (D := D) (ci := 13) (C := RX13) (T := TX13) (N := 39) (v := .int 0) (ty := .int) hx hb hX13 (fun _ q => q) tyX13 tyX13_ok nmX13 hown hK hP hD hS 0 rfl rfl 0 (by decide) (hts (.fieldLink RX13 48 "ElephantLineModel" "thrown" "I") (by decide +kernel)) (fun _ h9 => h9) rfl (tyX13_ok 0 (by decide)) rfl rfl (Nat.le_of_ble_eq_true rfl) dX13_worst_2 (fun H locs hP hD hS => ?_)
  refine lv_aload_n hx hb dX13_worst_5 rfl (lv_at hl 0 rfl) ?_
  refine va_get (D := D) (ci := 13) (C := RX13) (T := TX13) (N := 39) (v := .null) hx hb hX13 (fun _ q => q) hown hK hP 0 rfl rfl 3 (by decide) (hts (.fieldLink RX13 301 "ElephantLineModel" "war" "LElephantLineModel$War;") (by decide +kernel)) (fun _ h9 => h9) rfl dX13_worst_6 ?_
  refine lv_ifnonnullN hx hb dX13_worst_9 ?_
  refine lv_aload_n hx hb dX13_worst_12 rfl (lv_at hl 0 rfl) ?_
  refine lv_iconst (v := 1) hx hb dX13_worst_13 (by decide) ?_
  have hP : va_P D vwCl ([(a_mo, .inr (13, [.int 0, .int mo_trouble, .int mo_where, .null, mo_read, mo_tape, .int mo_taped, .int mo_size, .int mo_spot, .int mo_sort, .int mo_place, .int mo_number, .int mo_fault, .int mo_wrongAt, .int mo_laneTold, .long mo_word, mo_v, mo_x, mo_past, mo_kept, .int mo_acts, .int mo_marks, mo_put, mo_bestPut, .long mo_bestSum, mo_row, mo_best, mo_left, .int mo_bestSize, .int mo_bestLeft, mo_counts, .int mo_sets, .int mo_foeHarm, .int mo_ownHarm, .int mo_across, .int mo_sumFoe, .int mo_sumOwn, .int mo_sumWon, .int mo_sumAcross]))] ++ X) H := hP
  have hD : va_D A ([(a_mo, .inr (13, [.int 0, .int mo_trouble, .int mo_where, .null, mo_read, mo_tape, .int mo_taped, .int mo_size, .int mo_spot, .int mo_sort, .int mo_place, .int mo_number, .int mo_fault, .int mo_wrongAt, .int mo_laneTold, .long mo_word, mo_v, mo_x, mo_past, mo_kept, .int mo_acts, .int mo_marks, mo_put, mo_bestPut, .long mo_bestSum, mo_row, mo_best, mo_left, .int mo_bestSize, .int mo_bestLeft, mo_counts, .int mo_sets, .int mo_foeHarm, .int mo_ownHarm, .int mo_across, .int mo_sumFoe, .int mo_sumOwn, .int mo_sumWon, .int mo_sumAcross]))] ++ X) := hD
  obtain ⟨r_1, mo_trouble_2, mo_where_3, hc_4, h⟩ := bd3_some h
  refine wVi [.int 1] [] ⟨hx, hb, hml, hown, hts⟩ (c_X13_refused l D cy A X a_mo 0 mo_trouble mo_where (.null) (mo_read) (mo_tape) mo_taped mo_size mo_spot mo_sort mo_place mo_number mo_fault mo_wrongAt mo_laneTold mo_word (mo_v) (mo_x) (mo_past) (mo_kept) mo_acts mo_marks (mo_put) (mo_bestPut) mo_bestSum (mo_row) (mo_best) (mo_left) mo_bestSize mo_bestLeft (mo_counts) mo_sets mo_foeHarm mo_ownHarm mo_across mo_sumFoe mo_sumOwn mo_sumWon mo_sumAcross (1 : Int32) r_1 mo_trouble_2 mo_where_3 hc_4) gX13_worst_X13_refused rfl hd_X13_refused ⟨Nat.le_of_ble_eq_true rfl, Nat.le_of_ble_eq_true rfl⟩ rfl rfl hKN hP hD hS hA 13 0 rfl rfl rfl hl.1 rfl (Nat.le_of_ble_eq_true rfl) dX13_worst_14 ⟨Nat.le_of_ble_eq_true rfl, Nat.le_of_ble_eq_true rfl⟩ (fun H locs hP hD hS => ?_)
  cases h
  exact W.iret hx hb hr (fun t ht _ => ⟨⟨_, (), rfl, rfl, by rw [ht]; exact hP, hD⟩, hS.F ht⟩) hS.2.2 dX13_worst_17
set_option maxHeartbeats 4000000 in
set_option maxRecDepth 100000 in
theorem c_X13_place_n (l : Launch) (D : va_G) (cy : Nat → ClassId) (A : Nat → Prop) (X : va_W) (a_mo : Nat) (mo_thrown : Int32) (mo_trouble : Int32) (mo_where : Int32) (mo_read : Value) (mo_tape : Value) (mo_taped : Int32) (mo_size : Int32) (mo_spot : Int32) (mo_sort : Int32) (mo_place : Int32) (mo_number : Int32) (mo_fault : Int32) (mo_wrongAt : Int32) (mo_laneTold : Int32) (mo_word : Int64) (mo_v : Value) (mo_x : Value) (mo_past : Value) (mo_kept : Value) (mo_acts : Int32) (mo_marks : Int32) (mo_put : Value) (mo_bestPut : Value) (mo_bestSum : Int64) (mo_row : Value) (mo_best : Value) (mo_left : Value) (mo_bestSize : Int32) (mo_bestLeft : Int32) (mo_counts : Value) (mo_sets : Int32) (mo_foeHarm : Int32) (mo_ownHarm : Int32) (mo_across : Int32) (mo_sumFoe : Int32) (mo_sumOwn : Int32) (mo_sumWon : Int32) (mo_sumAcross : Int32) (p1 : Int32) (res : Int32) (mo_thrown' : Int32) (mo_trouble' : Int32) (mo_where' : Int32) (h : f_X13_place_n mo_thrown mo_trouble mo_where p1 = some (res, mo_thrown', mo_trouble', mo_where')) : Met l yX13_place wo_X13_place ({ frames := 1, cells := 0, slots := 0, locals := 21 }) (wrPc D cy A [.ref a_mo, .int p1] ([(a_mo, .inr (13, [.int mo_thrown, .int mo_trouble, .int mo_where, .null, mo_read, mo_tape, .int mo_taped, .int mo_size, .int mo_spot, .int mo_sort, .int mo_place, .int mo_number, .int mo_fault, .int mo_wrongAt, .int mo_laneTold, .long mo_word, mo_v, mo_x, mo_past, mo_kept, .int mo_acts, .int mo_marks, mo_put, mo_bestPut, .long mo_bestSum, mo_row, mo_best, mo_left, .int mo_bestSize, .int mo_bestLeft, mo_counts, .int mo_sets, .int mo_foeHarm, .int mo_ownHarm, .int mo_across, .int mo_sumFoe, .int mo_sumOwn, .int mo_sumWon, .int mo_sumAcross]))] ++ X)) (va_Qi (fun (r : Int32) (_ : Unit) => r = res) (wB D A ([(a_mo, .inr (13, [.int mo_thrown', .int mo_trouble', .int mo_where', .null, mo_read, mo_tape, .int mo_taped, .int mo_size, .int mo_spot, .int mo_sort, .int mo_place, .int mo_number, .int mo_fault, .int mo_wrongAt, .int mo_laneTold, .long mo_word, mo_v, mo_x, mo_past, mo_kept, .int mo_acts, .int mo_marks, mo_put, mo_bestPut, .long mo_bestSum, mo_row, mo_best, mo_left, .int mo_bestSize, .int mo_bestLeft, mo_counts, .int mo_sets, .int mo_foeHarm, .int mo_ownHarm, .int mo_across, .int mo_sumFoe, .int mo_sumOwn, .int mo_sumWon, .int mo_sumAcross]))] ++ X)) A) 0 0 A := by
  refine Met.ofW (cc := cX13_place) (maxL := 2) (ret := (some .int)) (by decide) rfl ?_
  intro p e s m args below meth c s₁ B hml hv
  obtain ⟨rfl, hP, hKN, hD, hA⟩ := hv
  have hK := hKN.1
  have hx := B.exec
  have hb := B.bytes
  have hr := B.returns
  have hts := wt_X13_place hKN.2.2 (([.ref a_mo, .int p1] : List Value).toArray)
  have hown : s.vm.findClass RX13 = some m.cls := findClass_of_methodNamed B.named
  have hlocks := B.notSynchronized
  have hS : va_S A s.heap s.heap [] := va_S.rf
  have hX13 := wc_X13 hKN.2.2 (([.ref a_mo, .int p1] : List Value).toArray)
  have hl := lv_entry ([.ref a_mo, .int p1]) (n := 2) (Nat.le_of_ble_eq_true rfl)
  rw [lg_entry_eq]
  generalize (lg_sl ([.ref a_mo, .int p1]) ++ List.replicate (2 - (lg_sl ([.ref a_mo, .int p1])).length) Slot.unset).toArray = ls at hl ⊢
  have hl : lv_has ls 2 [(0, .ref a_mo), (1, .int p1)] := hl
  unfold f_X13_place_n at h
  refine lv_aload_n hx hb dX13_place_0 rfl (lv_at hl 0 rfl) ?_
  refine lv_iconst (v := 0) hx hb dX13_place_1 (by decide) ?_
  refine va_put (D := D) (ci := 13) (C := RX13) (T := TX13) (N := 39) (v := .int 0) (ty := .int) hx hb hX13 (fun _ q => q) tyX13 tyX13_ok nmX13 hown hK hP hD hS 0 rfl rfl 0 (by decide) (hts (.fieldLink RX13 48 "ElephantLineModel" "thrown" "I") (by decide +kernel)) (fun _ h9 => h9) rfl (tyX13_ok 0 (by decide)) rfl rfl (Nat.le_of_ble_eq_true rfl) dX13_place_2 (fun H locs hP hD hS => ?_)
  refine lv_aload_n hx hb dX13_place_5 rfl (lv_at hl 0 rfl) ?_
  refine lv_iload_n hx hb dX13_place_6 rfl (lv_at hl 1 rfl) ?_
  have hP : va_P D vwCl ([(a_mo, .inr (13, [.int 0, .int mo_trouble, .int mo_where, .null, mo_read, mo_tape, .int mo_taped, .int mo_size, .int mo_spot, .int mo_sort, .int mo_place, .int mo_number, .int mo_fault, .int mo_wrongAt, .int mo_laneTold, .long mo_word, mo_v, mo_x, mo_past, mo_kept, .int mo_acts, .int mo_marks, mo_put, mo_bestPut, .long mo_bestSum, mo_row, mo_best, mo_left, .int mo_bestSize, .int mo_bestLeft, mo_counts, .int mo_sets, .int mo_foeHarm, .int mo_ownHarm, .int mo_across, .int mo_sumFoe, .int mo_sumOwn, .int mo_sumWon, .int mo_sumAcross]))] ++ X) H := hP
  have hD : va_D A ([(a_mo, .inr (13, [.int 0, .int mo_trouble, .int mo_where, .null, mo_read, mo_tape, .int mo_taped, .int mo_size, .int mo_spot, .int mo_sort, .int mo_place, .int mo_number, .int mo_fault, .int mo_wrongAt, .int mo_laneTold, .long mo_word, mo_v, mo_x, mo_past, mo_kept, .int mo_acts, .int mo_marks, mo_put, mo_bestPut, .long mo_bestSum, mo_row, mo_best, mo_left, .int mo_bestSize, .int mo_bestLeft, mo_counts, .int mo_sets, .int mo_foeHarm, .int mo_ownHarm, .int mo_across, .int mo_sumFoe, .int mo_sumOwn, .int mo_sumWon, .int mo_sumAcross]))] ++ X) := hD
  refine kVb [.int p1] [] ⟨hx, hb, hml, hown, hts⟩ (c_X13_isBeast_n l D cy a_mo 0 mo_trouble mo_where (mo_read) (mo_tape) mo_taped mo_size mo_spot mo_sort mo_place mo_number mo_fault mo_wrongAt mo_laneTold mo_word (mo_v) (mo_x) (mo_past) (mo_kept) mo_acts mo_marks (mo_put) (mo_bestPut) mo_bestSum (mo_row) (mo_best) (mo_left) mo_bestSize mo_bestLeft (mo_counts) mo_sets mo_foeHarm mo_ownHarm mo_across mo_sumFoe mo_sumOwn mo_sumWon mo_sumAcross p1 0 rfl) gX13_place_X13_isBeast rfl hd_X13_isBeast ⟨Nat.le_of_ble_eq_true rfl, Nat.le_of_ble_eq_true rfl⟩ rfl rfl hKN (pXc hP [0] rfl) 13 0 rfl rfl rfl hl.1 rfl (Nat.le_of_ble_eq_true rfl) dX13_place_7 ⟨Nat.le_of_ble_eq_true rfl, Nat.le_of_ble_eq_true rfl⟩ (fun nb_3 => ?_)
  refine lv_if_ne (tgt := 19) hx hb dX13_place_10 (by decide) (fun cd => ?_) (fun cd => ?_)
  · exact absurd cd (by decide)
  refine lv_aload_n hx hb dX13_place_13 rfl (lv_at hl 0 rfl) ?_
  refine lv_iconst (v := 1) hx hb dX13_place_14 (by decide) ?_
  obtain ⟨r_4, mo_trouble_5, mo_where_6, hc_7, h⟩ := bd3_some h
  refine wVi [.int 1] [] ⟨hx, hb, hml, hown, hts⟩ (c_X13_refused l D cy A X a_mo 0 mo_trouble mo_where (.null) (mo_read) (mo_tape) mo_taped mo_size mo_spot mo_sort mo_place mo_number mo_fault mo_wrongAt mo_laneTold mo_word (mo_v) (mo_x) (mo_past) (mo_kept) mo_acts mo_marks (mo_put) (mo_bestPut) mo_bestSum (mo_row) (mo_best) (mo_left) mo_bestSize mo_bestLeft (mo_counts) mo_sets mo_foeHarm mo_ownHarm mo_across mo_sumFoe mo_sumOwn mo_sumWon mo_sumAcross (1 : Int32) r_4 mo_trouble_5 mo_where_6 hc_7) gX13_place_X13_refused rfl hd_X13_refused ⟨Nat.le_of_ble_eq_true rfl, Nat.le_of_ble_eq_true rfl⟩ rfl rfl hKN hP hD hS hA 13 0 rfl rfl rfl hl.1 rfl (Nat.le_of_ble_eq_true rfl) dX13_place_15 ⟨Nat.le_of_ble_eq_true rfl, Nat.le_of_ble_eq_true rfl⟩ (fun H locs hP hD hS => ?_)
  cases h
  exact W.iret hx hb hr (fun t ht _ => ⟨⟨_, (), rfl, rfl, by rw [ht]; exact hP, hD⟩, hS.F ht⟩) hS.2.2 dX13_place_18
set_option maxHeartbeats 4000000 in
set_option maxRecDepth 100000 in
theorem c_X13_placed_n (l : Launch) (D : va_G) (cy : Nat → ClassId) (A : Nat → Prop) (X : va_W) (a_mo : Nat) (mo_thrown : Int32) (mo_trouble : Int32) (mo_where : Int32) (mo_read : Value) (mo_tape : Value) (mo_taped : Int32) (mo_size : Int32) (mo_spot : Int32) (mo_sort : Int32) (mo_place : Int32) (mo_number : Int32) (mo_fault : Int32) (mo_wrongAt : Int32) (mo_laneTold : Int32) (mo_word : Int64) (mo_v : Value) (mo_x : Value) (mo_past : Value) (mo_kept : Value) (mo_acts : Int32) (mo_marks : Int32) (mo_put : Value) (mo_bestPut : Value) (mo_bestSum : Int64) (mo_row : Value) (mo_best : Value) (mo_left : Value) (mo_bestSize : Int32) (mo_bestLeft : Int32) (mo_counts : Value) (mo_sets : Int32) (mo_foeHarm : Int32) (mo_ownHarm : Int32) (mo_across : Int32) (mo_sumFoe : Int32) (mo_sumOwn : Int32) (mo_sumWon : Int32) (mo_sumAcross : Int32) (p1 : Int32) (res : Int64) (mo_thrown' : Int32) (mo_trouble' : Int32) (mo_where' : Int32) (h : f_X13_placed_n mo_thrown mo_trouble mo_where p1 = some (res, mo_thrown', mo_trouble', mo_where')) : Met l yX13_placed wo_X13_placed ({ frames := 2, cells := 0, slots := 0, locals := 42 }) (wrPc D cy A [.ref a_mo, .int p1] ([(a_mo, .inr (13, [.int mo_thrown, .int mo_trouble, .int mo_where, .null, mo_read, mo_tape, .int mo_taped, .int mo_size, .int mo_spot, .int mo_sort, .int mo_place, .int mo_number, .int mo_fault, .int mo_wrongAt, .int mo_laneTold, .long mo_word, mo_v, mo_x, mo_past, mo_kept, .int mo_acts, .int mo_marks, mo_put, mo_bestPut, .long mo_bestSum, mo_row, mo_best, mo_left, .int mo_bestSize, .int mo_bestLeft, mo_counts, .int mo_sets, .int mo_foeHarm, .int mo_ownHarm, .int mo_across, .int mo_sumFoe, .int mo_sumOwn, .int mo_sumWon, .int mo_sumAcross]))] ++ X)) (va_Ql (fun (r : Int64) (_ : Unit) => r = res) (wB D A ([(a_mo, .inr (13, [.int mo_thrown', .int mo_trouble', .int mo_where', .null, mo_read, mo_tape, .int mo_taped, .int mo_size, .int mo_spot, .int mo_sort, .int mo_place, .int mo_number, .int mo_fault, .int mo_wrongAt, .int mo_laneTold, .long mo_word, mo_v, mo_x, mo_past, mo_kept, .int mo_acts, .int mo_marks, mo_put, mo_bestPut, .long mo_bestSum, mo_row, mo_best, mo_left, .int mo_bestSize, .int mo_bestLeft, mo_counts, .int mo_sets, .int mo_foeHarm, .int mo_ownHarm, .int mo_across, .int mo_sumFoe, .int mo_sumOwn, .int mo_sumWon, .int mo_sumAcross]))] ++ X)) A) 0 0 A := by
  refine Met.ofW (cc := cX13_placed) (maxL := 2) (ret := (some .long)) (by decide) rfl ?_
  intro p e s m args below meth c s₁ B hml hv
  obtain ⟨rfl, hP, hKN, hD, hA⟩ := hv
  have hK := hKN.1
  have hx := B.exec
  have hb := B.bytes
  have hr := B.returns
  have hts := wt_X13_placed hKN.2.2 (([.ref a_mo, .int p1] : List Value).toArray)
  have hown : s.vm.findClass RX13 = some m.cls := findClass_of_methodNamed B.named
  have hlocks := B.notSynchronized
  have hS : va_S A s.heap s.heap [] := va_S.rf
  have hX13 := wc_X13 hKN.2.2 (([.ref a_mo, .int p1] : List Value).toArray)
  have hl := lv_entry ([.ref a_mo, .int p1]) (n := 2) (Nat.le_of_ble_eq_true rfl)
  rw [lg_entry_eq]
  generalize (lg_sl ([.ref a_mo, .int p1]) ++ List.replicate (2 - (lg_sl ([.ref a_mo, .int p1])).length) Slot.unset).toArray = ls at hl ⊢
  have hl : lv_has ls 2 [(0, .ref a_mo), (1, .int p1)] := hl
  unfold f_X13_placed_n at h
  refine lv_aload_n hx hb dX13_placed_0 rfl (lv_at hl 0 rfl) ?_
  refine lv_iconst (v := 0) hx hb dX13_placed_1 (by decide) ?_
  refine va_put (D := D) (ci := 13) (C := RX13) (T := TX13) (N := 39) (v := .int 0) (ty := .int) hx hb hX13 (fun _ q => q) tyX13 tyX13_ok nmX13 hown hK hP hD hS 0 rfl rfl 0 (by decide) (hts (.fieldLink RX13 48 "ElephantLineModel" "thrown" "I") (by decide +kernel)) (fun _ h9 => h9) rfl (tyX13_ok 0 (by decide)) rfl rfl (Nat.le_of_ble_eq_true rfl) dX13_placed_2 (fun H locs hP hD hS => ?_)
  refine lv_aload_n hx hb dX13_placed_5 rfl (lv_at hl 0 rfl) ?_
  refine va_get (D := D) (ci := 13) (C := RX13) (T := TX13) (N := 39) (v := .null) hx hb hX13 (fun _ q => q) hown hK hP 0 rfl rfl 3 (by decide) (hts (.fieldLink RX13 301 "ElephantLineModel" "war" "LElephantLineModel$War;") (by decide +kernel)) (fun _ h9 => h9) rfl dX13_placed_6 ?_
  refine lv_ifnonnullN hx hb dX13_placed_9 ?_
  refine lv_aload_n hx hb dX13_placed_12 rfl (lv_at hl 0 rfl) ?_
  refine lv_iconst (v := 1) hx hb dX13_placed_13 (by decide) ?_
  have hP : va_P D vwCl ([(a_mo, .inr (13, [.int 0, .int mo_trouble, .int mo_where, .null, mo_read, mo_tape, .int mo_taped, .int mo_size, .int mo_spot, .int mo_sort, .int mo_place, .int mo_number, .int mo_fault, .int mo_wrongAt, .int mo_laneTold, .long mo_word, mo_v, mo_x, mo_past, mo_kept, .int mo_acts, .int mo_marks, mo_put, mo_bestPut, .long mo_bestSum, mo_row, mo_best, mo_left, .int mo_bestSize, .int mo_bestLeft, mo_counts, .int mo_sets, .int mo_foeHarm, .int mo_ownHarm, .int mo_across, .int mo_sumFoe, .int mo_sumOwn, .int mo_sumWon, .int mo_sumAcross]))] ++ X) H := hP
  have hD : va_D A ([(a_mo, .inr (13, [.int 0, .int mo_trouble, .int mo_where, .null, mo_read, mo_tape, .int mo_taped, .int mo_size, .int mo_spot, .int mo_sort, .int mo_place, .int mo_number, .int mo_fault, .int mo_wrongAt, .int mo_laneTold, .long mo_word, mo_v, mo_x, mo_past, mo_kept, .int mo_acts, .int mo_marks, mo_put, mo_bestPut, .long mo_bestSum, mo_row, mo_best, mo_left, .int mo_bestSize, .int mo_bestLeft, mo_counts, .int mo_sets, .int mo_foeHarm, .int mo_ownHarm, .int mo_across, .int mo_sumFoe, .int mo_sumOwn, .int mo_sumWon, .int mo_sumAcross]))] ++ X) := hD
  obtain ⟨r_1, mo_trouble_2, mo_where_3, hc_4, h⟩ := bd3_some h
  refine wVl [.int 1] [] ⟨hx, hb, hml, hown, hts⟩ (c_X13_lost l D cy A X a_mo 0 mo_trouble mo_where (.null) (mo_read) (mo_tape) mo_taped mo_size mo_spot mo_sort mo_place mo_number mo_fault mo_wrongAt mo_laneTold mo_word (mo_v) (mo_x) (mo_past) (mo_kept) mo_acts mo_marks (mo_put) (mo_bestPut) mo_bestSum (mo_row) (mo_best) (mo_left) mo_bestSize mo_bestLeft (mo_counts) mo_sets mo_foeHarm mo_ownHarm mo_across mo_sumFoe mo_sumOwn mo_sumWon mo_sumAcross (1 : Int32) r_1 mo_trouble_2 mo_where_3 hc_4) gX13_placed_X13_lost rfl hd_X13_lost ⟨Nat.le_of_ble_eq_true rfl, Nat.le_of_ble_eq_true rfl⟩ rfl rfl hKN hP hD hS hA 13 0 rfl rfl rfl hl.1 rfl (Nat.le_of_ble_eq_true rfl) dX13_placed_14 ⟨Nat.le_of_ble_eq_true rfl, Nat.le_of_ble_eq_true rfl⟩ (fun H locs hP hD hS => ?_)
  cases h
  exact W.lret hx hb hr (fun t ht _ => ⟨⟨_, (), rfl, rfl, by rw [ht]; exact hP, hD⟩, hS.F ht⟩) hS.2.2 dX13_placed_17
set_option maxHeartbeats 4000000 in
set_option maxRecDepth 100000 in
theorem c_X13_out_n (l : Launch) (D : va_G) (cy : Nat → ClassId) (A : Nat → Prop) (X : va_W) (a_mo : Nat) (mo_thrown : Int32) (mo_trouble : Int32) (mo_where : Int32) (mo_read : Value) (mo_tape : Value) (mo_taped : Int32) (mo_size : Int32) (mo_spot : Int32) (mo_sort : Int32) (mo_place : Int32) (mo_number : Int32) (mo_fault : Int32) (mo_wrongAt : Int32) (mo_laneTold : Int32) (mo_word : Int64) (mo_v : Value) (mo_x : Value) (mo_past : Value) (mo_kept : Value) (mo_acts : Int32) (mo_marks : Int32) (mo_put : Value) (mo_bestPut : Value) (mo_bestSum : Int64) (mo_row : Value) (mo_best : Value) (mo_left : Value) (mo_bestSize : Int32) (mo_bestLeft : Int32) (mo_counts : Value) (mo_sets : Int32) (mo_foeHarm : Int32) (mo_ownHarm : Int32) (mo_across : Int32) (mo_sumFoe : Int32) (mo_sumOwn : Int32) (mo_sumWon : Int32) (mo_sumAcross : Int32) (res : Int32) (mo_thrown' : Int32) (mo_trouble' : Int32) (mo_where' : Int32) (h : f_X13_out_n mo_thrown mo_trouble mo_where = some (res, mo_thrown', mo_trouble', mo_where')) : Met l yX13_out wo_X13_out ({ frames := 1, cells := 0, slots := 0, locals := 21 }) (wrPc D cy A [.ref a_mo] ([(a_mo, .inr (13, [.int mo_thrown, .int mo_trouble, .int mo_where, .null, mo_read, mo_tape, .int mo_taped, .int mo_size, .int mo_spot, .int mo_sort, .int mo_place, .int mo_number, .int mo_fault, .int mo_wrongAt, .int mo_laneTold, .long mo_word, mo_v, mo_x, mo_past, mo_kept, .int mo_acts, .int mo_marks, mo_put, mo_bestPut, .long mo_bestSum, mo_row, mo_best, mo_left, .int mo_bestSize, .int mo_bestLeft, mo_counts, .int mo_sets, .int mo_foeHarm, .int mo_ownHarm, .int mo_across, .int mo_sumFoe, .int mo_sumOwn, .int mo_sumWon, .int mo_sumAcross]))] ++ X)) (va_Qi (fun (r : Int32) (_ : Unit) => r = res) (wB D A ([(a_mo, .inr (13, [.int mo_thrown', .int mo_trouble', .int mo_where', .null, mo_read, mo_tape, .int mo_taped, .int mo_size, .int mo_spot, .int mo_sort, .int mo_place, .int mo_number, .int mo_fault, .int mo_wrongAt, .int mo_laneTold, .long mo_word, mo_v, mo_x, mo_past, mo_kept, .int mo_acts, .int mo_marks, mo_put, mo_bestPut, .long mo_bestSum, mo_row, mo_best, mo_left, .int mo_bestSize, .int mo_bestLeft, mo_counts, .int mo_sets, .int mo_foeHarm, .int mo_ownHarm, .int mo_across, .int mo_sumFoe, .int mo_sumOwn, .int mo_sumWon, .int mo_sumAcross]))] ++ X)) A) 0 0 A := by
  refine Met.ofW (cc := cX13_out) (maxL := 3) (ret := (some .int)) (by decide) rfl ?_
  intro p e s m args below meth c s₁ B hml hv
  obtain ⟨rfl, hP, hKN, hD, hA⟩ := hv
  have hK := hKN.1
  have hx := B.exec
  have hb := B.bytes
  have hr := B.returns
  have hts := wt_X13_out hKN.2.2 (([.ref a_mo] : List Value).toArray)
  have hown : s.vm.findClass RX13 = some m.cls := findClass_of_methodNamed B.named
  have hlocks := B.notSynchronized
  have hS : va_S A s.heap s.heap [] := va_S.rf
  have hX13 := wc_X13 hKN.2.2 (([.ref a_mo] : List Value).toArray)
  have hl := lv_entry ([.ref a_mo]) (n := 3) (Nat.le_of_ble_eq_true rfl)
  rw [lg_entry_eq]
  generalize (lg_sl ([.ref a_mo]) ++ List.replicate (3 - (lg_sl ([.ref a_mo])).length) Slot.unset).toArray = ls at hl ⊢
  have hl : lv_has ls 3 [(0, .ref a_mo)] := hl
  unfold f_X13_out_n at h
  refine lv_aload_n hx hb dX13_out_0 rfl (lv_at hl 0 rfl) ?_
  refine lv_iconst (v := 0) hx hb dX13_out_1 (by decide) ?_
  refine va_put (D := D) (ci := 13) (C := RX13) (T := TX13) (N := 39) (v := .int 0) (ty := .int) hx hb hX13 (fun _ q => q) tyX13 tyX13_ok nmX13 hown hK hP hD hS 0 rfl rfl 0 (by decide) (hts (.fieldLink RX13 48 "ElephantLineModel" "thrown" "I") (by decide +kernel)) (fun _ h9 => h9) rfl (tyX13_ok 0 (by decide)) rfl rfl (Nat.le_of_ble_eq_true rfl) dX13_out_2 (fun H locs hP hD hS => ?_)
  refine lv_aload_n hx hb dX13_out_5 rfl (lv_at hl 0 rfl) ?_
  refine va_get (D := D) (ci := 13) (C := RX13) (T := TX13) (N := 39) (v := .null) hx hb hX13 (fun _ q => q) hown hK hP 0 rfl rfl 3 (by decide) (hts (.fieldLink RX13 301 "ElephantLineModel" "war" "LElephantLineModel$War;") (by decide +kernel)) (fun _ h9 => h9) rfl dX13_out_6 ?_
  refine lv_ifnonnullN hx hb dX13_out_9 ?_
  refine lv_aload_n hx hb dX13_out_12 rfl (lv_at hl 0 rfl) ?_
  refine lv_iconst (v := 1) hx hb dX13_out_13 (by decide) ?_
  have hP : va_P D vwCl ([(a_mo, .inr (13, [.int 0, .int mo_trouble, .int mo_where, .null, mo_read, mo_tape, .int mo_taped, .int mo_size, .int mo_spot, .int mo_sort, .int mo_place, .int mo_number, .int mo_fault, .int mo_wrongAt, .int mo_laneTold, .long mo_word, mo_v, mo_x, mo_past, mo_kept, .int mo_acts, .int mo_marks, mo_put, mo_bestPut, .long mo_bestSum, mo_row, mo_best, mo_left, .int mo_bestSize, .int mo_bestLeft, mo_counts, .int mo_sets, .int mo_foeHarm, .int mo_ownHarm, .int mo_across, .int mo_sumFoe, .int mo_sumOwn, .int mo_sumWon, .int mo_sumAcross]))] ++ X) H := hP
  have hD : va_D A ([(a_mo, .inr (13, [.int 0, .int mo_trouble, .int mo_where, .null, mo_read, mo_tape, .int mo_taped, .int mo_size, .int mo_spot, .int mo_sort, .int mo_place, .int mo_number, .int mo_fault, .int mo_wrongAt, .int mo_laneTold, .long mo_word, mo_v, mo_x, mo_past, mo_kept, .int mo_acts, .int mo_marks, mo_put, mo_bestPut, .long mo_bestSum, mo_row, mo_best, mo_left, .int mo_bestSize, .int mo_bestLeft, mo_counts, .int mo_sets, .int mo_foeHarm, .int mo_ownHarm, .int mo_across, .int mo_sumFoe, .int mo_sumOwn, .int mo_sumWon, .int mo_sumAcross]))] ++ X) := hD
  obtain ⟨r_1, mo_trouble_2, mo_where_3, hc_4, h⟩ := bd3_some h
  refine wVi [.int 1] [] ⟨hx, hb, hml, hown, hts⟩ (c_X13_refused l D cy A X a_mo 0 mo_trouble mo_where (.null) (mo_read) (mo_tape) mo_taped mo_size mo_spot mo_sort mo_place mo_number mo_fault mo_wrongAt mo_laneTold mo_word (mo_v) (mo_x) (mo_past) (mo_kept) mo_acts mo_marks (mo_put) (mo_bestPut) mo_bestSum (mo_row) (mo_best) (mo_left) mo_bestSize mo_bestLeft (mo_counts) mo_sets mo_foeHarm mo_ownHarm mo_across mo_sumFoe mo_sumOwn mo_sumWon mo_sumAcross (1 : Int32) r_1 mo_trouble_2 mo_where_3 hc_4) gX13_out_X13_refused rfl hd_X13_refused ⟨Nat.le_of_ble_eq_true rfl, Nat.le_of_ble_eq_true rfl⟩ rfl rfl hKN hP hD hS hA 13 0 rfl rfl rfl hl.1 rfl (Nat.le_of_ble_eq_true rfl) dX13_out_14 ⟨Nat.le_of_ble_eq_true rfl, Nat.le_of_ble_eq_true rfl⟩ (fun H locs hP hD hS => ?_)
  cases h
  exact W.iret hx hb hr (fun t ht _ => ⟨⟨_, (), rfl, rfl, by rw [ht]; exact hP, hD⟩, hS.F ht⟩) hS.2.2 dX13_out_17
