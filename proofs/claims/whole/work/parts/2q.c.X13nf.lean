set_option maxHeartbeats 4000000 in
set_option maxRecDepth 100000 in
theorem c_X13_won_n (l : Launch) (D : va_G) (cy : Nat → ClassId) (A : Nat → Prop) (X : va_W) (a_mo : Nat) (mo_thrown : Int32) (mo_trouble : Int32) (mo_where : Int32) (mo_read : Value) (mo_tape : Value) (mo_taped : Int32) (mo_size : Int32) (mo_spot : Int32) (mo_sort : Int32) (mo_place : Int32) (mo_number : Int32) (mo_fault : Int32) (mo_wrongAt : Int32) (mo_laneTold : Int32) (mo_word : Int64) (mo_v : Value) (mo_x : Value) (mo_past : Value) (mo_kept : Value) (mo_acts : Int32) (mo_marks : Int32) (mo_put : Value) (mo_bestPut : Value) (mo_bestSum : Int64) (mo_row : Value) (mo_best : Value) (mo_left : Value) (mo_bestSize : Int32) (mo_bestLeft : Int32) (mo_counts : Value) (mo_sets : Int32) (mo_foeHarm : Int32) (mo_ownHarm : Int32) (mo_across : Int32) (mo_sumFoe : Int32) (mo_sumOwn : Int32) (mo_sumWon : Int32) (mo_sumAcross : Int32) (p1 : Int32) (p2 : Int32) (res : Int32) (mo_thrown' : Int32) (mo_trouble' : Int32) (mo_where' : Int32) (h : f_X13_won_n mo_thrown mo_trouble mo_where p1 p2 = some (res, mo_thrown', mo_trouble', mo_where')) : Met l yX13_won wo_X13_won ({ frames := 1, cells := 0, slots := 0, locals := 23 }) (wrPc D cy A [.ref a_mo, .int p1, .int p2] ([(a_mo, .inr (13, [.int mo_thrown, .int mo_trouble, .int mo_where, .null, mo_read, mo_tape, .int mo_taped, .int mo_size, .int mo_spot, .int mo_sort, .int mo_place, .int mo_number, .int mo_fault, .int mo_wrongAt, .int mo_laneTold, .long mo_word, mo_v, mo_x, mo_past, mo_kept, .int mo_acts, .int mo_marks, mo_put, mo_bestPut, .long mo_bestSum, mo_row, mo_best, mo_left, .int mo_bestSize, .int mo_bestLeft, mo_counts, .int mo_sets, .int mo_foeHarm, .int mo_ownHarm, .int mo_across, .int mo_sumFoe, .int mo_sumOwn, .int mo_sumWon, .int mo_sumAcross]))] ++ X)) (va_Qi (fun (r : Int32) (_ : Unit) => r = res) (wB D A ([(a_mo, .inr (13, [.int mo_thrown', .int mo_trouble', .int mo_where', .null, mo_read, mo_tape, .int mo_taped, .int mo_size, .int mo_spot, .int mo_sort, .int mo_place, .int mo_number, .int mo_fault, .int mo_wrongAt, .int mo_laneTold, .long mo_word, mo_v, mo_x, mo_past, mo_kept, .int mo_acts, .int mo_marks, mo_put, mo_bestPut, .long mo_bestSum, mo_row, mo_best, mo_left, .int mo_bestSize, .int mo_bestLeft, mo_counts, .int mo_sets, .int mo_foeHarm, .int mo_ownHarm, .int mo_across, .int mo_sumFoe, .int mo_sumOwn, .int mo_sumWon, .int mo_sumAcross]))] ++ X)) A) 0 0 A := by
  refine Met.ofW (cc := cX13_won) (maxL := 4) (ret := (some .int)) (by decide) rfl ?_
  intro p e s m args below meth c s₁ B hml hv
  obtain ⟨rfl, hP, hKN, hD, hA⟩ := hv
  have hK := hKN.1
  have hx := B.exec
  have hb := B.bytes
  have hr := B.returns
  have hts := wt_X13_won hKN.2.2 (([.ref a_mo, .int p1, .int p2] : List Value).toArray)
  have hown : s.vm.findClass RX13 = some m.cls := findClass_of_methodNamed B.named
  have hlocks := B.notSynchronized
  have hS : va_S A s.heap s.heap [] := va_S.rf
  have hX13 := wc_X13 hKN.2.2 (([.ref a_mo, .int p1, .int p2] : List Value).toArray)
  have hl := lv_entry ([.ref a_mo, .int p1, .int p2]) (n := 4) (Nat.le_of_ble_eq_true rfl)
  rw [lg_entry_eq]
  generalize (lg_sl ([.ref a_mo, .int p1, .int p2]) ++ List.replicate (4 - (lg_sl ([.ref a_mo, .int p1, .int p2])).length) Slot.unset).toArray = ls at hl ⊢
  have hl : lv_has ls 4 [(0, .ref a_mo), (1, .int p1), (2, .int p2)] := hl
  unfold f_X13_won_n at h
  refine lv_aload_n hx hb dX13_won_0 rfl (lv_at hl 0 rfl) ?_
  refine lv_iconst (v := 0) hx hb dX13_won_1 (by decide) ?_
  refine va_put (D := D) (ci := 13) (C := RX13) (T := TX13) (N := 39) (v := .int 0) (ty := .int) hx hb hX13 (fun _ q => q) tyX13 tyX13_ok nmX13 hown hK hP hD hS 0 rfl rfl 0 (by decide) (hts (.fieldLink RX13 48 "ElephantLineModel" "thrown" "I") (by decide +kernel)) (fun _ h9 => h9) rfl (tyX13_ok 0 (by decide)) rfl rfl (Nat.le_of_ble_eq_true rfl) dX13_won_2 (fun H locs hP hD hS => ?_)
  refine lv_aload_n hx hb dX13_won_5 rfl (lv_at hl 0 rfl) ?_
  refine lv_aload_n hx hb dX13_won_6 rfl (lv_at hl 0 rfl) ?_
  refine va_get (D := D) (ci := 13) (C := RX13) (T := TX13) (N := 39) (v := .null) hx hb hX13 (fun _ q => q) hown hK hP 0 rfl rfl 3 (by decide) (hts (.fieldLink RX13 301 "ElephantLineModel" "war" "LElephantLineModel$War;") (by decide +kernel)) (fun _ h9 => h9) rfl dX13_won_7 ?_
  refine lv_ifnullN (tgt := 17) hx hb dX13_won_10 (by decide) ?_
  refine lv_iconst (v := 0) hx hb dX13_won_17 (by decide) ?_
  refine lv_iload_n hx hb dX13_won_18 rfl (lv_at hl 1 rfl) ?_
  refine lv_iload_n hx hb dX13_won_19 rfl (lv_at hl 2 rfl) ?_
  have hP : va_P D vwCl ([(a_mo, .inr (13, [.int 0, .int mo_trouble, .int mo_where, .null, mo_read, mo_tape, .int mo_taped, .int mo_size, .int mo_spot, .int mo_sort, .int mo_place, .int mo_number, .int mo_fault, .int mo_wrongAt, .int mo_laneTold, .long mo_word, mo_v, mo_x, mo_past, mo_kept, .int mo_acts, .int mo_marks, mo_put, mo_bestPut, .long mo_bestSum, mo_row, mo_best, mo_left, .int mo_bestSize, .int mo_bestLeft, mo_counts, .int mo_sets, .int mo_foeHarm, .int mo_ownHarm, .int mo_across, .int mo_sumFoe, .int mo_sumOwn, .int mo_sumWon, .int mo_sumAcross]))] ++ X) H := hP
  have hD : va_D A ([(a_mo, .inr (13, [.int 0, .int mo_trouble, .int mo_where, .null, mo_read, mo_tape, .int mo_taped, .int mo_size, .int mo_spot, .int mo_sort, .int mo_place, .int mo_number, .int mo_fault, .int mo_wrongAt, .int mo_laneTold, .long mo_word, mo_v, mo_x, mo_past, mo_kept, .int mo_acts, .int mo_marks, mo_put, mo_bestPut, .long mo_bestSum, mo_row, mo_best, mo_left, .int mo_bestSize, .int mo_bestLeft, mo_counts, .int mo_sets, .int mo_foeHarm, .int mo_ownHarm, .int mo_across, .int mo_sumFoe, .int mo_sumOwn, .int mo_sumWon, .int mo_sumAcross]))] ++ X) := hD
  refine kVi [.int 0, .int p1, .int p2] [] ⟨hx, hb, hml, hown, hts⟩ (c_X13_refusesBattles_n l D cy a_mo 0 mo_trouble mo_where (.null) (mo_read) (mo_tape) mo_taped mo_size mo_spot mo_sort mo_place mo_number mo_fault mo_wrongAt mo_laneTold mo_word (mo_v) (mo_x) (mo_past) (mo_kept) mo_acts mo_marks (mo_put) (mo_bestPut) mo_bestSum (mo_row) (mo_best) (mo_left) mo_bestSize mo_bestLeft (mo_counts) mo_sets mo_foeHarm mo_ownHarm mo_across mo_sumFoe mo_sumOwn mo_sumWon mo_sumAcross p1 p2 1 rfl) gX13_won_X13_refusesBattles rfl hd_X13_refusesBattles ⟨Nat.le_of_ble_eq_true rfl, Nat.le_of_ble_eq_true rfl⟩ rfl rfl hKN (pXc hP [0] rfl) 13 0 rfl rfl rfl hl.1 rfl (Nat.le_of_ble_eq_true rfl) dX13_won_20 ⟨Nat.le_of_ble_eq_true rfl, Nat.le_of_ble_eq_true rfl⟩ ?_
  refine lv_istore_n (lv' := [(3, .int 1), (0, .ref a_mo), (1, .int p1), (2, .int p2)]) hx hb dX13_won_23 rfl hl (by decide) rfl (fun ls hl => ?_)
  refine lv_iload_n hx hb dX13_won_24 rfl (lv_at hl 0 rfl) ?_
  refine lv_if_le (tgt := 34) hx hb dX13_won_25 (by decide) (fun cd => ?_) (fun cd => ?_)
  · exact absurd cd (by decide)
  refine lv_aload_n hx hb dX13_won_28 rfl (lv_at hl 1 rfl) ?_
  refine lv_iload_n hx hb dX13_won_29 rfl (lv_at hl 0 rfl) ?_
  obtain ⟨r_3, mo_trouble_4, mo_where_5, hc_6, h⟩ := bd3_some h
  refine wVi [.int 1] [] ⟨hx, hb, hml, hown, hts⟩ (c_X13_refused l D cy A X a_mo 0 mo_trouble mo_where (.null) (mo_read) (mo_tape) mo_taped mo_size mo_spot mo_sort mo_place mo_number mo_fault mo_wrongAt mo_laneTold mo_word (mo_v) (mo_x) (mo_past) (mo_kept) mo_acts mo_marks (mo_put) (mo_bestPut) mo_bestSum (mo_row) (mo_best) (mo_left) mo_bestSize mo_bestLeft (mo_counts) mo_sets mo_foeHarm mo_ownHarm mo_across mo_sumFoe mo_sumOwn mo_sumWon mo_sumAcross (1 : Int32) r_3 mo_trouble_4 mo_where_5 hc_6) gX13_won_X13_refused rfl hd_X13_refused ⟨Nat.le_of_ble_eq_true rfl, Nat.le_of_ble_eq_true rfl⟩ rfl rfl hKN hP hD hS hA 13 0 rfl rfl rfl hl.1 rfl (Nat.le_of_ble_eq_true rfl) dX13_won_30 ⟨Nat.le_of_ble_eq_true rfl, Nat.le_of_ble_eq_true rfl⟩ (fun H locs hP hD hS => ?_)
  cases h
  exact W.iret hx hb hr (fun t ht _ => ⟨⟨_, (), rfl, rfl, by rw [ht]; exact hP, hD⟩, hS.F ht⟩) hS.2.2 dX13_won_33
set_option maxHeartbeats 4000000 in
set_option maxRecDepth 100000 in
theorem c_X13_acrossIn_n (l : Launch) (D : va_G) (cy : Nat → ClassId) (A : Nat → Prop) (X : va_W) (a_mo : Nat) (mo_thrown : Int32) (mo_trouble : Int32) (mo_where : Int32) (mo_read : Value) (mo_tape : Value) (mo_taped : Int32) (mo_size : Int32) (mo_spot : Int32) (mo_sort : Int32) (mo_place : Int32) (mo_number : Int32) (mo_fault : Int32) (mo_wrongAt : Int32) (mo_laneTold : Int32) (mo_word : Int64) (mo_v : Value) (mo_x : Value) (mo_past : Value) (mo_kept : Value) (mo_acts : Int32) (mo_marks : Int32) (mo_put : Value) (mo_bestPut : Value) (mo_bestSum : Int64) (mo_row : Value) (mo_best : Value) (mo_left : Value) (mo_bestSize : Int32) (mo_bestLeft : Int32) (mo_counts : Value) (mo_sets : Int32) (mo_foeHarm : Int32) (mo_ownHarm : Int32) (mo_across : Int32) (mo_sumFoe : Int32) (mo_sumOwn : Int32) (mo_sumWon : Int32) (mo_sumAcross : Int32) (p1 : Int32) (p2 : Int32) (p3 : Int32) (res : Int32) (mo_thrown' : Int32) (mo_trouble' : Int32) (mo_where' : Int32) (h : f_X13_acrossIn_n mo_thrown mo_trouble mo_where p1 p2 p3 = some (res, mo_thrown', mo_trouble', mo_where')) : Met l yX13_acrossIn wo_X13_acrossIn ({ frames := 1, cells := 0, slots := 0, locals := 23 }) (wrPc D cy A [.ref a_mo, .int p1, .int p2, .int p3] ([(a_mo, .inr (13, [.int mo_thrown, .int mo_trouble, .int mo_where, .null, mo_read, mo_tape, .int mo_taped, .int mo_size, .int mo_spot, .int mo_sort, .int mo_place, .int mo_number, .int mo_fault, .int mo_wrongAt, .int mo_laneTold, .long mo_word, mo_v, mo_x, mo_past, mo_kept, .int mo_acts, .int mo_marks, mo_put, mo_bestPut, .long mo_bestSum, mo_row, mo_best, mo_left, .int mo_bestSize, .int mo_bestLeft, mo_counts, .int mo_sets, .int mo_foeHarm, .int mo_ownHarm, .int mo_across, .int mo_sumFoe, .int mo_sumOwn, .int mo_sumWon, .int mo_sumAcross]))] ++ X)) (va_Qi (fun (r : Int32) (_ : Unit) => r = res) (wB D A ([(a_mo, .inr (13, [.int mo_thrown', .int mo_trouble', .int mo_where', .null, mo_read, mo_tape, .int mo_taped, .int mo_size, .int mo_spot, .int mo_sort, .int mo_place, .int mo_number, .int mo_fault, .int mo_wrongAt, .int mo_laneTold, .long mo_word, mo_v, mo_x, mo_past, mo_kept, .int mo_acts, .int mo_marks, mo_put, mo_bestPut, .long mo_bestSum, mo_row, mo_best, mo_left, .int mo_bestSize, .int mo_bestLeft, mo_counts, .int mo_sets, .int mo_foeHarm, .int mo_ownHarm, .int mo_across, .int mo_sumFoe, .int mo_sumOwn, .int mo_sumWon, .int mo_sumAcross]))] ++ X)) A) 0 0 A := by
  refine Met.ofW (cc := cX13_acrossIn) (maxL := 5) (ret := (some .int)) (by decide) rfl ?_
  intro p e s m args below meth c s₁ B hml hv
  obtain ⟨rfl, hP, hKN, hD, hA⟩ := hv
  have hK := hKN.1
  have hx := B.exec
  have hb := B.bytes
  have hr := B.returns
  have hts := wt_X13_acrossIn hKN.2.2 (([.ref a_mo, .int p1, .int p2, .int p3] : List Value).toArray)
  have hown : s.vm.findClass RX13 = some m.cls := findClass_of_methodNamed B.named
  have hlocks := B.notSynchronized
  have hS : va_S A s.heap s.heap [] := va_S.rf
  have hX13 := wc_X13 hKN.2.2 (([.ref a_mo, .int p1, .int p2, .int p3] : List Value).toArray)
  have hl := lv_entry ([.ref a_mo, .int p1, .int p2, .int p3]) (n := 5) (Nat.le_of_ble_eq_true rfl)
  rw [lg_entry_eq]
  generalize (lg_sl ([.ref a_mo, .int p1, .int p2, .int p3]) ++ List.replicate (5 - (lg_sl ([.ref a_mo, .int p1, .int p2, .int p3])).length) Slot.unset).toArray = ls at hl ⊢
  have hl : lv_has ls 5 [(0, .ref a_mo), (1, .int p1), (2, .int p2), (3, .int p3)] := hl
  unfold f_X13_acrossIn_n at h
  refine lv_aload_n hx hb dX13_acrossIn_0 rfl (lv_at hl 0 rfl) ?_
  refine lv_iconst (v := 0) hx hb dX13_acrossIn_1 (by decide) ?_
  refine va_put (D := D) (ci := 13) (C := RX13) (T := TX13) (N := 39) (v := .int 0) (ty := .int) hx hb hX13 (fun _ q => q) tyX13 tyX13_ok nmX13 hown hK hP hD hS 0 rfl rfl 0 (by decide) (hts (.fieldLink RX13 48 "ElephantLineModel" "thrown" "I") (by decide +kernel)) (fun _ h9 => h9) rfl (tyX13_ok 0 (by decide)) rfl rfl (Nat.le_of_ble_eq_true rfl) dX13_acrossIn_2 (fun H locs hP hD hS => ?_)
  refine lv_aload_n hx hb dX13_acrossIn_5 rfl (lv_at hl 0 rfl) ?_
  refine lv_aload_n hx hb dX13_acrossIn_6 rfl (lv_at hl 0 rfl) ?_
  refine lv_iload_n hx hb dX13_acrossIn_7 rfl (lv_at hl 1 rfl) ?_
  have hP : va_P D vwCl ([(a_mo, .inr (13, [.int 0, .int mo_trouble, .int mo_where, .null, mo_read, mo_tape, .int mo_taped, .int mo_size, .int mo_spot, .int mo_sort, .int mo_place, .int mo_number, .int mo_fault, .int mo_wrongAt, .int mo_laneTold, .long mo_word, mo_v, mo_x, mo_past, mo_kept, .int mo_acts, .int mo_marks, mo_put, mo_bestPut, .long mo_bestSum, mo_row, mo_best, mo_left, .int mo_bestSize, .int mo_bestLeft, mo_counts, .int mo_sets, .int mo_foeHarm, .int mo_ownHarm, .int mo_across, .int mo_sumFoe, .int mo_sumOwn, .int mo_sumWon, .int mo_sumAcross]))] ++ X) H := hP
  have hD : va_D A ([(a_mo, .inr (13, [.int 0, .int mo_trouble, .int mo_where, .null, mo_read, mo_tape, .int mo_taped, .int mo_size, .int mo_spot, .int mo_sort, .int mo_place, .int mo_number, .int mo_fault, .int mo_wrongAt, .int mo_laneTold, .long mo_word, mo_v, mo_x, mo_past, mo_kept, .int mo_acts, .int mo_marks, mo_put, mo_bestPut, .long mo_bestSum, mo_row, mo_best, mo_left, .int mo_bestSize, .int mo_bestLeft, mo_counts, .int mo_sets, .int mo_foeHarm, .int mo_ownHarm, .int mo_across, .int mo_sumFoe, .int mo_sumOwn, .int mo_sumWon, .int mo_sumAcross]))] ++ X) := hD
  refine kVb [.int p1] [.ref a_mo] ⟨hx, hb, hml, hown, hts⟩ (c_X13_isBeast_n l D cy a_mo 0 mo_trouble mo_where (mo_read) (mo_tape) mo_taped mo_size mo_spot mo_sort mo_place mo_number mo_fault mo_wrongAt mo_laneTold mo_word (mo_v) (mo_x) (mo_past) (mo_kept) mo_acts mo_marks (mo_put) (mo_bestPut) mo_bestSum (mo_row) (mo_best) (mo_left) mo_bestSize mo_bestLeft (mo_counts) mo_sets mo_foeHarm mo_ownHarm mo_across mo_sumFoe mo_sumOwn mo_sumWon mo_sumAcross p1 0 rfl) gX13_acrossIn_X13_isBeast rfl hd_X13_isBeast ⟨Nat.le_of_ble_eq_true rfl, Nat.le_of_ble_eq_true rfl⟩ rfl rfl hKN (pXc hP [0] rfl) 13 0 rfl rfl rfl hl.1 rfl (Nat.le_of_ble_eq_true rfl) dX13_acrossIn_8 ⟨Nat.le_of_ble_eq_true rfl, Nat.le_of_ble_eq_true rfl⟩ (fun nb_3 => ?_)
  refine lv_iload_n hx hb dX13_acrossIn_11 rfl (lv_at hl 2 rfl) ?_
  refine lv_iload_n hx hb dX13_acrossIn_12 rfl (lv_at hl 3 rfl) ?_
  refine kVi [.int 0, .int p2, .int p3] [] ⟨hx, hb, hml, hown, hts⟩ (c_X13_refusesBattles_n l D cy a_mo 0 mo_trouble mo_where (.null) (mo_read) (mo_tape) mo_taped mo_size mo_spot mo_sort mo_place mo_number mo_fault mo_wrongAt mo_laneTold mo_word (mo_v) (mo_x) (mo_past) (mo_kept) mo_acts mo_marks (mo_put) (mo_bestPut) mo_bestSum (mo_row) (mo_best) (mo_left) mo_bestSize mo_bestLeft (mo_counts) mo_sets mo_foeHarm mo_ownHarm mo_across mo_sumFoe mo_sumOwn mo_sumWon mo_sumAcross p2 p3 1 rfl) gX13_acrossIn_X13_refusesBattles rfl hd_X13_refusesBattles ⟨Nat.le_of_ble_eq_true rfl, Nat.le_of_ble_eq_true rfl⟩ rfl rfl hKN (pXc hP [0] rfl) 13 0 rfl rfl rfl hl.1 rfl (Nat.le_of_ble_eq_true rfl) dX13_acrossIn_13 ⟨Nat.le_of_ble_eq_true rfl, Nat.le_of_ble_eq_true rfl⟩ ?_
  refine lv_istore (lv' := [(4, .int 1), (0, .ref a_mo), (1, .int p1), (2, .int p2), (3, .int p3)]) hx hb dX13_acrossIn_16 hl (by decide) rfl (fun ls hl => ?_)
  refine lv_iload hx hb dX13_acrossIn_18 (lv_at hl 0 rfl) ?_
  refine lv_if_le (tgt := 30) hx hb dX13_acrossIn_20 (by decide) (fun cd => ?_) (fun cd => ?_)
  · exact absurd cd (by decide)
  refine lv_aload_n hx hb dX13_acrossIn_23 rfl (lv_at hl 1 rfl) ?_
  refine lv_iload hx hb dX13_acrossIn_24 (lv_at hl 0 rfl) ?_
  obtain ⟨r_6, mo_trouble_7, mo_where_8, hc_9, h⟩ := bd3_some h
  refine wVi [.int 1] [] ⟨hx, hb, hml, hown, hts⟩ (c_X13_refused l D cy A X a_mo 0 mo_trouble mo_where (.null) (mo_read) (mo_tape) mo_taped mo_size mo_spot mo_sort mo_place mo_number mo_fault mo_wrongAt mo_laneTold mo_word (mo_v) (mo_x) (mo_past) (mo_kept) mo_acts mo_marks (mo_put) (mo_bestPut) mo_bestSum (mo_row) (mo_best) (mo_left) mo_bestSize mo_bestLeft (mo_counts) mo_sets mo_foeHarm mo_ownHarm mo_across mo_sumFoe mo_sumOwn mo_sumWon mo_sumAcross (1 : Int32) r_6 mo_trouble_7 mo_where_8 hc_9) gX13_acrossIn_X13_refused rfl hd_X13_refused ⟨Nat.le_of_ble_eq_true rfl, Nat.le_of_ble_eq_true rfl⟩ rfl rfl hKN hP hD hS hA 13 0 rfl rfl rfl hl.1 rfl (Nat.le_of_ble_eq_true rfl) dX13_acrossIn_26 ⟨Nat.le_of_ble_eq_true rfl, Nat.le_of_ble_eq_true rfl⟩ (fun H locs hP hD hS => ?_)
  cases h
  exact W.iret hx hb hr (fun t ht _ => ⟨⟨_, (), rfl, rfl, by rw [ht]; exact hP, hD⟩, hS.F ht⟩) hS.2.2 dX13_acrossIn_29
set_option maxHeartbeats 4000000 in
set_option maxRecDepth 100000 in
theorem c_X13_move_n (l : Launch) (D : va_G) (cy : Nat → ClassId) (A : Nat → Prop) (X : va_W) (a_mo : Nat) (mo_thrown : Int32) (mo_trouble : Int32) (mo_where : Int32) (mo_read : Value) (mo_tape : Value) (mo_taped : Int32) (mo_size : Int32) (mo_spot : Int32) (mo_sort : Int32) (mo_place : Int32) (mo_number : Int32) (mo_fault : Int32) (mo_wrongAt : Int32) (mo_laneTold : Int32) (mo_word : Int64) (mo_v : Value) (mo_x : Value) (mo_past : Value) (mo_kept : Value) (mo_acts : Int32) (mo_marks : Int32) (mo_put : Value) (mo_bestPut : Value) (mo_bestSum : Int64) (mo_row : Value) (mo_best : Value) (mo_left : Value) (mo_bestSize : Int32) (mo_bestLeft : Int32) (mo_counts : Value) (mo_sets : Int32) (mo_foeHarm : Int32) (mo_ownHarm : Int32) (mo_across : Int32) (mo_sumFoe : Int32) (mo_sumOwn : Int32) (mo_sumWon : Int32) (mo_sumAcross : Int32) (p1 : Int32) (p2 : Int32) (res : Int32) (mo_thrown' : Int32) (mo_trouble' : Int32) (mo_where' : Int32) (h : f_X13_move_n mo_thrown mo_trouble mo_where p1 p2 = some (res, mo_thrown', mo_trouble', mo_where')) : Met l yX13_move wo_X13_move ({ frames := 2, cells := 0, slots := 0, locals := 42 }) (wrPc D cy A [.ref a_mo, .int p1, .int p2] ([(a_mo, .inr (13, [.int mo_thrown, .int mo_trouble, .int mo_where, .null, mo_read, mo_tape, .int mo_taped, .int mo_size, .int mo_spot, .int mo_sort, .int mo_place, .int mo_number, .int mo_fault, .int mo_wrongAt, .int mo_laneTold, .long mo_word, mo_v, mo_x, mo_past, mo_kept, .int mo_acts, .int mo_marks, mo_put, mo_bestPut, .long mo_bestSum, mo_row, mo_best, mo_left, .int mo_bestSize, .int mo_bestLeft, mo_counts, .int mo_sets, .int mo_foeHarm, .int mo_ownHarm, .int mo_across, .int mo_sumFoe, .int mo_sumOwn, .int mo_sumWon, .int mo_sumAcross]))] ++ X)) (va_Qi (fun (r : Int32) (_ : Unit) => r = res ∧ nbv r) (wB D A ([(a_mo, .inr (13, [.int mo_thrown', .int mo_trouble', .int mo_where', .null, mo_read, mo_tape, .int mo_taped, .int mo_size, .int mo_spot, .int mo_sort, .int mo_place, .int mo_number, .int mo_fault, .int mo_wrongAt, .int mo_laneTold, .long mo_word, mo_v, mo_x, mo_past, mo_kept, .int mo_acts, .int mo_marks, mo_put, mo_bestPut, .long mo_bestSum, mo_row, mo_best, mo_left, .int mo_bestSize, .int mo_bestLeft, mo_counts, .int mo_sets, .int mo_foeHarm, .int mo_ownHarm, .int mo_across, .int mo_sumFoe, .int mo_sumOwn, .int mo_sumWon, .int mo_sumAcross]))] ++ X)) A) 0 0 A := by
  refine Met.ofW (cc := cX13_move) (maxL := 3) (ret := (some .boolean)) (by decide) rfl ?_
  intro p e s m args below meth c s₁ B hml hv
  obtain ⟨rfl, hP, hKN, hD, hA⟩ := hv
  have hK := hKN.1
  have hx := B.exec
  have hb := B.bytes
  have hr := B.returns
  have hts := wt_X13_move hKN.2.2 (([.ref a_mo, .int p1, .int p2] : List Value).toArray)
  have hown : s.vm.findClass RX13 = some m.cls := findClass_of_methodNamed B.named
  have hlocks := B.notSynchronized
  have hS : va_S A s.heap s.heap [] := va_S.rf
  have hX13 := wc_X13 hKN.2.2 (([.ref a_mo, .int p1, .int p2] : List Value).toArray)
  have hl := lv_entry ([.ref a_mo, .int p1, .int p2]) (n := 3) (Nat.le_of_ble_eq_true rfl)
  rw [lg_entry_eq]
  generalize (lg_sl ([.ref a_mo, .int p1, .int p2]) ++ List.replicate (3 - (lg_sl ([.ref a_mo, .int p1, .int p2])).length) Slot.unset).toArray = ls at hl ⊢
  have hl : lv_has ls 3 [(0, .ref a_mo), (1, .int p1), (2, .int p2)] := hl
  unfold f_X13_move_n at h
  refine lv_aload_n hx hb dX13_move_0 rfl (lv_at hl 0 rfl) ?_
  refine lv_iconst (v := 0) hx hb dX13_move_1 (by decide) ?_
  refine va_put (D := D) (ci := 13) (C := RX13) (T := TX13) (N := 39) (v := .int 0) (ty := .int) hx hb hX13 (fun _ q => q) tyX13 tyX13_ok nmX13 hown hK hP hD hS 0 rfl rfl 0 (by decide) (hts (.fieldLink RX13 48 "ElephantLineModel" "thrown" "I") (by decide +kernel)) (fun _ h9 => h9) rfl (tyX13_ok 0 (by decide)) rfl rfl (Nat.le_of_ble_eq_true rfl) dX13_move_2 (fun H locs hP hD hS => ?_)
  refine lv_aload_n hx hb dX13_move_5 rfl (lv_at hl 0 rfl) ?_
  refine lv_iload_n hx hb dX13_move_6 rfl (lv_at hl 1 rfl) ?_
  have hP : va_P D vwCl ([(a_mo, .inr (13, [.int 0, .int mo_trouble, .int mo_where, .null, mo_read, mo_tape, .int mo_taped, .int mo_size, .int mo_spot, .int mo_sort, .int mo_place, .int mo_number, .int mo_fault, .int mo_wrongAt, .int mo_laneTold, .long mo_word, mo_v, mo_x, mo_past, mo_kept, .int mo_acts, .int mo_marks, mo_put, mo_bestPut, .long mo_bestSum, mo_row, mo_best, mo_left, .int mo_bestSize, .int mo_bestLeft, mo_counts, .int mo_sets, .int mo_foeHarm, .int mo_ownHarm, .int mo_across, .int mo_sumFoe, .int mo_sumOwn, .int mo_sumWon, .int mo_sumAcross]))] ++ X) H := hP
  have hD : va_D A ([(a_mo, .inr (13, [.int 0, .int mo_trouble, .int mo_where, .null, mo_read, mo_tape, .int mo_taped, .int mo_size, .int mo_spot, .int mo_sort, .int mo_place, .int mo_number, .int mo_fault, .int mo_wrongAt, .int mo_laneTold, .long mo_word, mo_v, mo_x, mo_past, mo_kept, .int mo_acts, .int mo_marks, mo_put, mo_bestPut, .long mo_bestSum, mo_row, mo_best, mo_left, .int mo_bestSize, .int mo_bestLeft, mo_counts, .int mo_sets, .int mo_foeHarm, .int mo_ownHarm, .int mo_across, .int mo_sumFoe, .int mo_sumOwn, .int mo_sumWon, .int mo_sumAcross]))] ++ X) := hD
  refine kVb [.int p1] [] ⟨hx, hb, hml, hown, hts⟩ (c_X13_isBeast_n l D cy a_mo 0 mo_trouble mo_where (mo_read) (mo_tape) mo_taped mo_size mo_spot mo_sort mo_place mo_number mo_fault mo_wrongAt mo_laneTold mo_word (mo_v) (mo_x) (mo_past) (mo_kept) mo_acts mo_marks (mo_put) (mo_bestPut) mo_bestSum (mo_row) (mo_best) (mo_left) mo_bestSize mo_bestLeft (mo_counts) mo_sets mo_foeHarm mo_ownHarm mo_across mo_sumFoe mo_sumOwn mo_sumWon mo_sumAcross p1 0 rfl) gX13_move_X13_isBeast rfl hd_X13_isBeast ⟨Nat.le_of_ble_eq_true rfl, Nat.le_of_ble_eq_true rfl⟩ rfl rfl hKN (pXc hP [0] rfl) 13 0 rfl rfl rfl hl.1 rfl (Nat.le_of_ble_eq_true rfl) dX13_move_7 ⟨Nat.le_of_ble_eq_true rfl, Nat.le_of_ble_eq_true rfl⟩ (fun nb_3 => ?_)
  refine lv_if_eq (tgt := 21) hx hb dX13_move_10 (by decide) (fun cd => ?_) (fun cd => ?_)
  rotate_left
  · exact absurd (by decide) cd
  refine lv_aload_n hx hb dX13_move_21 rfl (lv_at hl 0 rfl) ?_
  refine lv_iconst (v := 1) hx hb dX13_move_22 (by decide) ?_
  obtain ⟨r_4, mo_trouble_5, mo_where_6, hc_7, h⟩ := bd3_some h
  refine wVb [.int 1] [] ⟨hx, hb, hml, hown, hts⟩ (c_X13_denied l D cy A X a_mo 0 mo_trouble mo_where (.null) (mo_read) (mo_tape) mo_taped mo_size mo_spot mo_sort mo_place mo_number mo_fault mo_wrongAt mo_laneTold mo_word (mo_v) (mo_x) (mo_past) (mo_kept) mo_acts mo_marks (mo_put) (mo_bestPut) mo_bestSum (mo_row) (mo_best) (mo_left) mo_bestSize mo_bestLeft (mo_counts) mo_sets mo_foeHarm mo_ownHarm mo_across mo_sumFoe mo_sumOwn mo_sumWon mo_sumAcross (1 : Int32) r_4 mo_trouble_5 mo_where_6 hc_7) gX13_move_X13_denied rfl hd_X13_denied ⟨Nat.le_of_ble_eq_true rfl, Nat.le_of_ble_eq_true rfl⟩ rfl rfl hKN hP hD hS hA 13 0 rfl rfl rfl hl.1 rfl (Nat.le_of_ble_eq_true rfl) dX13_move_23 ⟨Nat.le_of_ble_eq_true rfl, Nat.le_of_ble_eq_true rfl⟩ (fun nb_8 H locs hP hD hS => ?_)
  cases h
  exact W.zret (ty := .boolean) hx hb hr (nbv.n nb_8) (fun t ht _ => ⟨⟨_, (), rfl, ⟨rfl, nb_8⟩, by rw [ht]; exact hP, hD⟩, hS.F ht⟩) hS.2.2 dX13_move_26
set_option maxHeartbeats 4000000 in
set_option maxRecDepth 100000 in
theorem c_X13_wound_n (l : Launch) (D : va_G) (cy : Nat → ClassId) (A : Nat → Prop) (X : va_W) (a_mo : Nat) (mo_thrown : Int32) (mo_trouble : Int32) (mo_where : Int32) (mo_read : Value) (mo_tape : Value) (mo_taped : Int32) (mo_size : Int32) (mo_spot : Int32) (mo_sort : Int32) (mo_place : Int32) (mo_number : Int32) (mo_fault : Int32) (mo_wrongAt : Int32) (mo_laneTold : Int32) (mo_word : Int64) (mo_v : Value) (mo_x : Value) (mo_past : Value) (mo_kept : Value) (mo_acts : Int32) (mo_marks : Int32) (mo_put : Value) (mo_bestPut : Value) (mo_bestSum : Int64) (mo_row : Value) (mo_best : Value) (mo_left : Value) (mo_bestSize : Int32) (mo_bestLeft : Int32) (mo_counts : Value) (mo_sets : Int32) (mo_foeHarm : Int32) (mo_ownHarm : Int32) (mo_across : Int32) (mo_sumFoe : Int32) (mo_sumOwn : Int32) (mo_sumWon : Int32) (mo_sumAcross : Int32) (p1 : Int32) (p2 : Int32) (res : Int32) (mo_thrown' : Int32) (mo_trouble' : Int32) (mo_where' : Int32) (h : f_X13_wound_n mo_thrown mo_trouble mo_where p1 p2 = some (res, mo_thrown', mo_trouble', mo_where')) : Met l yX13_wound wo_X13_wound ({ frames := 1, cells := 0, slots := 0, locals := 21 }) (wrPc D cy A [.ref a_mo, .int p1, .int p2] ([(a_mo, .inr (13, [.int mo_thrown, .int mo_trouble, .int mo_where, .null, mo_read, mo_tape, .int mo_taped, .int mo_size, .int mo_spot, .int mo_sort, .int mo_place, .int mo_number, .int mo_fault, .int mo_wrongAt, .int mo_laneTold, .long mo_word, mo_v, mo_x, mo_past, mo_kept, .int mo_acts, .int mo_marks, mo_put, mo_bestPut, .long mo_bestSum, mo_row, mo_best, mo_left, .int mo_bestSize, .int mo_bestLeft, mo_counts, .int mo_sets, .int mo_foeHarm, .int mo_ownHarm, .int mo_across, .int mo_sumFoe, .int mo_sumOwn, .int mo_sumWon, .int mo_sumAcross]))] ++ X)) (va_Qi (fun (r : Int32) (_ : Unit) => r = res) (wB D A ([(a_mo, .inr (13, [.int mo_thrown', .int mo_trouble', .int mo_where', .null, mo_read, mo_tape, .int mo_taped, .int mo_size, .int mo_spot, .int mo_sort, .int mo_place, .int mo_number, .int mo_fault, .int mo_wrongAt, .int mo_laneTold, .long mo_word, mo_v, mo_x, mo_past, mo_kept, .int mo_acts, .int mo_marks, mo_put, mo_bestPut, .long mo_bestSum, mo_row, mo_best, mo_left, .int mo_bestSize, .int mo_bestLeft, mo_counts, .int mo_sets, .int mo_foeHarm, .int mo_ownHarm, .int mo_across, .int mo_sumFoe, .int mo_sumOwn, .int mo_sumWon, .int mo_sumAcross]))] ++ X)) A) 0 0 A := by
  refine Met.ofW (cc := cX13_wound) (maxL := 3) (ret := (some .int)) (by decide) rfl ?_
  intro p e s m args below meth c s₁ B hml hv
  obtain ⟨rfl, hP, hKN, hD, hA⟩ := hv
  have hK := hKN.1
  have hx := B.exec
  have hb := B.bytes
  have hr := B.returns
  have hts := wt_X13_wound hKN.2.2 (([.ref a_mo, .int p1, .int p2] : List Value).toArray)
  have hown : s.vm.findClass RX13 = some m.cls := findClass_of_methodNamed B.named
  have hlocks := B.notSynchronized
  have hS : va_S A s.heap s.heap [] := va_S.rf
  have hX13 := wc_X13 hKN.2.2 (([.ref a_mo, .int p1, .int p2] : List Value).toArray)
  have hl := lv_entry ([.ref a_mo, .int p1, .int p2]) (n := 3) (Nat.le_of_ble_eq_true rfl)
  rw [lg_entry_eq]
  generalize (lg_sl ([.ref a_mo, .int p1, .int p2]) ++ List.replicate (3 - (lg_sl ([.ref a_mo, .int p1, .int p2])).length) Slot.unset).toArray = ls at hl ⊢
  have hl : lv_has ls 3 [(0, .ref a_mo), (1, .int p1), (2, .int p2)] := hl
  unfold f_X13_wound_n at h
  refine lv_aload_n hx hb dX13_wound_0 rfl (lv_at hl 0 rfl) ?_
  refine lv_iconst (v := 0) hx hb dX13_wound_1 (by decide) ?_
  refine va_put (D := D) (ci := 13) (C := RX13) (T := TX13) (N := 39) (v := .int 0) (ty := .int) hx hb hX13 (fun _ q => q) tyX13 tyX13_ok nmX13 hown hK hP hD hS 0 rfl rfl 0 (by decide) (hts (.fieldLink RX13 48 "ElephantLineModel" "thrown" "I") (by decide +kernel)) (fun _ h9 => h9) rfl (tyX13_ok 0 (by decide)) rfl rfl (Nat.le_of_ble_eq_true rfl) dX13_wound_2 (fun H locs hP hD hS => ?_)
  refine lv_aload_n hx hb dX13_wound_5 rfl (lv_at hl 0 rfl) ?_
  refine lv_iload_n hx hb dX13_wound_6 rfl (lv_at hl 1 rfl) ?_
  have hP : va_P D vwCl ([(a_mo, .inr (13, [.int 0, .int mo_trouble, .int mo_where, .null, mo_read, mo_tape, .int mo_taped, .int mo_size, .int mo_spot, .int mo_sort, .int mo_place, .int mo_number, .int mo_fault, .int mo_wrongAt, .int mo_laneTold, .long mo_word, mo_v, mo_x, mo_past, mo_kept, .int mo_acts, .int mo_marks, mo_put, mo_bestPut, .long mo_bestSum, mo_row, mo_best, mo_left, .int mo_bestSize, .int mo_bestLeft, mo_counts, .int mo_sets, .int mo_foeHarm, .int mo_ownHarm, .int mo_across, .int mo_sumFoe, .int mo_sumOwn, .int mo_sumWon, .int mo_sumAcross]))] ++ X) H := hP
  have hD : va_D A ([(a_mo, .inr (13, [.int 0, .int mo_trouble, .int mo_where, .null, mo_read, mo_tape, .int mo_taped, .int mo_size, .int mo_spot, .int mo_sort, .int mo_place, .int mo_number, .int mo_fault, .int mo_wrongAt, .int mo_laneTold, .long mo_word, mo_v, mo_x, mo_past, mo_kept, .int mo_acts, .int mo_marks, mo_put, mo_bestPut, .long mo_bestSum, mo_row, mo_best, mo_left, .int mo_bestSize, .int mo_bestLeft, mo_counts, .int mo_sets, .int mo_foeHarm, .int mo_ownHarm, .int mo_across, .int mo_sumFoe, .int mo_sumOwn, .int mo_sumWon, .int mo_sumAcross]))] ++ X) := hD
  refine kVb [.int p1] [] ⟨hx, hb, hml, hown, hts⟩ (c_X13_isBeast_n l D cy a_mo 0 mo_trouble mo_where (mo_read) (mo_tape) mo_taped mo_size mo_spot mo_sort mo_place mo_number mo_fault mo_wrongAt mo_laneTold mo_word (mo_v) (mo_x) (mo_past) (mo_kept) mo_acts mo_marks (mo_put) (mo_bestPut) mo_bestSum (mo_row) (mo_best) (mo_left) mo_bestSize mo_bestLeft (mo_counts) mo_sets mo_foeHarm mo_ownHarm mo_across mo_sumFoe mo_sumOwn mo_sumWon mo_sumAcross p1 0 rfl) gX13_wound_X13_isBeast rfl hd_X13_isBeast ⟨Nat.le_of_ble_eq_true rfl, Nat.le_of_ble_eq_true rfl⟩ rfl rfl hKN (pXc hP [0] rfl) 13 0 rfl rfl rfl hl.1 rfl (Nat.le_of_ble_eq_true rfl) dX13_wound_7 ⟨Nat.le_of_ble_eq_true rfl, Nat.le_of_ble_eq_true rfl⟩ (fun nb_3 => ?_)
  refine lv_if_ne (tgt := 19) hx hb dX13_wound_10 (by decide) (fun cd => ?_) (fun cd => ?_)
  · exact absurd cd (by decide)
  refine lv_aload_n hx hb dX13_wound_13 rfl (lv_at hl 0 rfl) ?_
  refine lv_iconst (v := 1) hx hb dX13_wound_14 (by decide) ?_
  obtain ⟨r_4, mo_trouble_5, mo_where_6, hc_7, h⟩ := bd3_some h
  refine wVi [.int 1] [] ⟨hx, hb, hml, hown, hts⟩ (c_X13_refused l D cy A X a_mo 0 mo_trouble mo_where (.null) (mo_read) (mo_tape) mo_taped mo_size mo_spot mo_sort mo_place mo_number mo_fault mo_wrongAt mo_laneTold mo_word (mo_v) (mo_x) (mo_past) (mo_kept) mo_acts mo_marks (mo_put) (mo_bestPut) mo_bestSum (mo_row) (mo_best) (mo_left) mo_bestSize mo_bestLeft (mo_counts) mo_sets mo_foeHarm mo_ownHarm mo_across mo_sumFoe mo_sumOwn mo_sumWon mo_sumAcross (1 : Int32) r_4 mo_trouble_5 mo_where_6 hc_7) gX13_wound_X13_refused rfl hd_X13_refused ⟨Nat.le_of_ble_eq_true rfl, Nat.le_of_ble_eq_true rfl⟩ rfl rfl hKN hP hD hS hA 13 0 rfl rfl rfl hl.1 rfl (Nat.le_of_ble_eq_true rfl) dX13_wound_15 ⟨Nat.le_of_ble_eq_true rfl, Nat.le_of_ble_eq_true rfl⟩ (fun H locs hP hD hS => ?_)
  cases h
  exact W.iret hx hb hr (fun t ht _ => ⟨⟨_, (), rfl, rfl, by rw [ht]; exact hP, hD⟩, hS.F ht⟩) hS.2.2 dX13_wound_18
set_option maxHeartbeats 4000000 in
set_option maxRecDepth 100000 in
theorem c_X13_hammer_n (l : Launch) (D : va_G) (cy : Nat → ClassId) (A : Nat → Prop) (X : va_W) (a_mo : Nat) (mo_thrown : Int32) (mo_trouble : Int32) (mo_where : Int32) (mo_read : Value) (mo_tape : Value) (mo_taped : Int32) (mo_size : Int32) (mo_spot : Int32) (mo_sort : Int32) (mo_place : Int32) (mo_number : Int32) (mo_fault : Int32) (mo_wrongAt : Int32) (mo_laneTold : Int32) (mo_word : Int64) (mo_v : Value) (mo_x : Value) (mo_past : Value) (mo_kept : Value) (mo_acts : Int32) (mo_marks : Int32) (mo_put : Value) (mo_bestPut : Value) (mo_bestSum : Int64) (mo_row : Value) (mo_best : Value) (mo_left : Value) (mo_bestSize : Int32) (mo_bestLeft : Int32) (mo_counts : Value) (mo_sets : Int32) (mo_foeHarm : Int32) (mo_ownHarm : Int32) (mo_across : Int32) (mo_sumFoe : Int32) (mo_sumOwn : Int32) (mo_sumWon : Int32) (mo_sumAcross : Int32) (p1 : Int32) (res : Int32) (mo_thrown' : Int32) (mo_trouble' : Int32) (mo_where' : Int32) (h : f_X13_hammer_n mo_thrown mo_trouble mo_where p1 = some (res, mo_thrown', mo_trouble', mo_where')) : Met l yX13_hammer wo_X13_hammer ({ frames := 2, cells := 0, slots := 0, locals := 42 }) (wrPc D cy A [.ref a_mo, .int p1] ([(a_mo, .inr (13, [.int mo_thrown, .int mo_trouble, .int mo_where, .null, mo_read, mo_tape, .int mo_taped, .int mo_size, .int mo_spot, .int mo_sort, .int mo_place, .int mo_number, .int mo_fault, .int mo_wrongAt, .int mo_laneTold, .long mo_word, mo_v, mo_x, mo_past, mo_kept, .int mo_acts, .int mo_marks, mo_put, mo_bestPut, .long mo_bestSum, mo_row, mo_best, mo_left, .int mo_bestSize, .int mo_bestLeft, mo_counts, .int mo_sets, .int mo_foeHarm, .int mo_ownHarm, .int mo_across, .int mo_sumFoe, .int mo_sumOwn, .int mo_sumWon, .int mo_sumAcross]))] ++ X)) (va_Qi (fun (r : Int32) (_ : Unit) => r = res ∧ nbv r) (wB D A ([(a_mo, .inr (13, [.int mo_thrown', .int mo_trouble', .int mo_where', .null, mo_read, mo_tape, .int mo_taped, .int mo_size, .int mo_spot, .int mo_sort, .int mo_place, .int mo_number, .int mo_fault, .int mo_wrongAt, .int mo_laneTold, .long mo_word, mo_v, mo_x, mo_past, mo_kept, .int mo_acts, .int mo_marks, mo_put, mo_bestPut, .long mo_bestSum, mo_row, mo_best, mo_left, .int mo_bestSize, .int mo_bestLeft, mo_counts, .int mo_sets, .int mo_foeHarm, .int mo_ownHarm, .int mo_across, .int mo_sumFoe, .int mo_sumOwn, .int mo_sumWon, .int mo_sumAcross]))] ++ X)) A) 0 0 A := by
  refine Met.ofW (cc := cX13_hammer) (maxL := 2) (ret := (some .boolean)) (by decide) rfl ?_
  intro p e s m args below meth c s₁ B hml hv
  obtain ⟨rfl, hP, hKN, hD, hA⟩ := hv
  have hK := hKN.1
  have hx := B.exec
  have hb := B.bytes
  have hr := B.returns
  have hts := wt_X13_hammer hKN.2.2 (([.ref a_mo, .int p1] : List Value).toArray)
  have hown : s.vm.findClass RX13 = some m.cls := findClass_of_methodNamed B.named
  have hlocks := B.notSynchronized
  have hS : va_S A s.heap s.heap [] := va_S.rf
  have hX13 := wc_X13 hKN.2.2 (([.ref a_mo, .int p1] : List Value).toArray)
  have hl := lv_entry ([.ref a_mo, .int p1]) (n := 2) (Nat.le_of_ble_eq_true rfl)
  rw [lg_entry_eq]
  generalize (lg_sl ([.ref a_mo, .int p1]) ++ List.replicate (2 - (lg_sl ([.ref a_mo, .int p1])).length) Slot.unset).toArray = ls at hl ⊢
  have hl : lv_has ls 2 [(0, .ref a_mo), (1, .int p1)] := hl
  unfold f_X13_hammer_n at h
  refine lv_aload_n hx hb dX13_hammer_0 rfl (lv_at hl 0 rfl) ?_
  refine lv_iconst (v := 0) hx hb dX13_hammer_1 (by decide) ?_
  refine va_put (D := D) (ci := 13) (C := RX13) (T := TX13) (N := 39) (v := .int 0) (ty := .int) hx hb hX13 (fun _ q => q) tyX13 tyX13_ok nmX13 hown hK hP hD hS 0 rfl rfl 0 (by decide) (hts (.fieldLink RX13 48 "ElephantLineModel" "thrown" "I") (by decide +kernel)) (fun _ h9 => h9) rfl (tyX13_ok 0 (by decide)) rfl rfl (Nat.le_of_ble_eq_true rfl) dX13_hammer_2 (fun H locs hP hD hS => ?_)
  refine lv_aload_n hx hb dX13_hammer_5 rfl (lv_at hl 0 rfl) ?_
  refine lv_iload_n hx hb dX13_hammer_6 rfl (lv_at hl 1 rfl) ?_
  have hP : va_P D vwCl ([(a_mo, .inr (13, [.int 0, .int mo_trouble, .int mo_where, .null, mo_read, mo_tape, .int mo_taped, .int mo_size, .int mo_spot, .int mo_sort, .int mo_place, .int mo_number, .int mo_fault, .int mo_wrongAt, .int mo_laneTold, .long mo_word, mo_v, mo_x, mo_past, mo_kept, .int mo_acts, .int mo_marks, mo_put, mo_bestPut, .long mo_bestSum, mo_row, mo_best, mo_left, .int mo_bestSize, .int mo_bestLeft, mo_counts, .int mo_sets, .int mo_foeHarm, .int mo_ownHarm, .int mo_across, .int mo_sumFoe, .int mo_sumOwn, .int mo_sumWon, .int mo_sumAcross]))] ++ X) H := hP
  have hD : va_D A ([(a_mo, .inr (13, [.int 0, .int mo_trouble, .int mo_where, .null, mo_read, mo_tape, .int mo_taped, .int mo_size, .int mo_spot, .int mo_sort, .int mo_place, .int mo_number, .int mo_fault, .int mo_wrongAt, .int mo_laneTold, .long mo_word, mo_v, mo_x, mo_past, mo_kept, .int mo_acts, .int mo_marks, mo_put, mo_bestPut, .long mo_bestSum, mo_row, mo_best, mo_left, .int mo_bestSize, .int mo_bestLeft, mo_counts, .int mo_sets, .int mo_foeHarm, .int mo_ownHarm, .int mo_across, .int mo_sumFoe, .int mo_sumOwn, .int mo_sumWon, .int mo_sumAcross]))] ++ X) := hD
  refine kVb [.int p1] [] ⟨hx, hb, hml, hown, hts⟩ (c_X13_isBeast_n l D cy a_mo 0 mo_trouble mo_where (mo_read) (mo_tape) mo_taped mo_size mo_spot mo_sort mo_place mo_number mo_fault mo_wrongAt mo_laneTold mo_word (mo_v) (mo_x) (mo_past) (mo_kept) mo_acts mo_marks (mo_put) (mo_bestPut) mo_bestSum (mo_row) (mo_best) (mo_left) mo_bestSize mo_bestLeft (mo_counts) mo_sets mo_foeHarm mo_ownHarm mo_across mo_sumFoe mo_sumOwn mo_sumWon mo_sumAcross p1 0 rfl) gX13_hammer_X13_isBeast rfl hd_X13_isBeast ⟨Nat.le_of_ble_eq_true rfl, Nat.le_of_ble_eq_true rfl⟩ rfl rfl hKN (pXc hP [0] rfl) 13 0 rfl rfl rfl hl.1 rfl (Nat.le_of_ble_eq_true rfl) dX13_hammer_7 ⟨Nat.le_of_ble_eq_true rfl, Nat.le_of_ble_eq_true rfl⟩ (fun nb_3 => ?_)
  refine lv_if_ne (tgt := 19) hx hb dX13_hammer_10 (by decide) (fun cd => ?_) (fun cd => ?_)
  · exact absurd cd (by decide)
  refine lv_aload_n hx hb dX13_hammer_13 rfl (lv_at hl 0 rfl) ?_
  refine lv_iconst (v := 1) hx hb dX13_hammer_14 (by decide) ?_
  obtain ⟨r_4, mo_trouble_5, mo_where_6, hc_7, h⟩ := bd3_some h
  refine wVb [.int 1] [] ⟨hx, hb, hml, hown, hts⟩ (c_X13_denied l D cy A X a_mo 0 mo_trouble mo_where (.null) (mo_read) (mo_tape) mo_taped mo_size mo_spot mo_sort mo_place mo_number mo_fault mo_wrongAt mo_laneTold mo_word (mo_v) (mo_x) (mo_past) (mo_kept) mo_acts mo_marks (mo_put) (mo_bestPut) mo_bestSum (mo_row) (mo_best) (mo_left) mo_bestSize mo_bestLeft (mo_counts) mo_sets mo_foeHarm mo_ownHarm mo_across mo_sumFoe mo_sumOwn mo_sumWon mo_sumAcross (1 : Int32) r_4 mo_trouble_5 mo_where_6 hc_7) gX13_hammer_X13_denied rfl hd_X13_denied ⟨Nat.le_of_ble_eq_true rfl, Nat.le_of_ble_eq_true rfl⟩ rfl rfl hKN hP hD hS hA 13 0 rfl rfl rfl hl.1 rfl (Nat.le_of_ble_eq_true rfl) dX13_hammer_15 ⟨Nat.le_of_ble_eq_true rfl, Nat.le_of_ble_eq_true rfl⟩ (fun nb_8 H locs hP hD hS => ?_)
  cases h
  exact W.zret (ty := .boolean) hx hb hr (nbv.n nb_8) (fun t ht _ => ⟨⟨_, (), rfl, ⟨rfl, nb_8⟩, by rw [ht]; exact hP, hD⟩, hS.F ht⟩) hS.2.2 dX13_hammer_18
set_option maxHeartbeats 4000000 in
set_option maxRecDepth 100000 in
theorem c_X13_teach_n (l : Launch) (D : va_G) (cy : Nat → ClassId) (A : Nat → Prop) (X : va_W) (a_mo : Nat) (mo_thrown : Int32) (mo_trouble : Int32) (mo_where : Int32) (mo_read : Value) (mo_tape : Value) (mo_taped : Int32) (mo_size : Int32) (mo_spot : Int32) (mo_sort : Int32) (mo_place : Int32) (mo_number : Int32) (mo_fault : Int32) (mo_wrongAt : Int32) (mo_laneTold : Int32) (mo_word : Int64) (mo_v : Value) (mo_x : Value) (mo_past : Value) (mo_kept : Value) (mo_acts : Int32) (mo_marks : Int32) (mo_put : Value) (mo_bestPut : Value) (mo_bestSum : Int64) (mo_row : Value) (mo_best : Value) (mo_left : Value) (mo_bestSize : Int32) (mo_bestLeft : Int32) (mo_counts : Value) (mo_sets : Int32) (mo_foeHarm : Int32) (mo_ownHarm : Int32) (mo_across : Int32) (mo_sumFoe : Int32) (mo_sumOwn : Int32) (mo_sumWon : Int32) (mo_sumAcross : Int32) (p1 : Int32) (p2 : Int32) (res : Int32) (mo_thrown' : Int32) (mo_trouble' : Int32) (mo_where' : Int32) (h : f_X13_teach_n mo_thrown mo_trouble mo_where p1 p2 = some (res, mo_thrown', mo_trouble', mo_where')) : Met l yX13_teach wo_X13_teach ({ frames := 1, cells := 0, slots := 0, locals := 21 }) (wrPc D cy A [.ref a_mo, .int p1, .int p2] ([(a_mo, .inr (13, [.int mo_thrown, .int mo_trouble, .int mo_where, .null, mo_read, mo_tape, .int mo_taped, .int mo_size, .int mo_spot, .int mo_sort, .int mo_place, .int mo_number, .int mo_fault, .int mo_wrongAt, .int mo_laneTold, .long mo_word, mo_v, mo_x, mo_past, mo_kept, .int mo_acts, .int mo_marks, mo_put, mo_bestPut, .long mo_bestSum, mo_row, mo_best, mo_left, .int mo_bestSize, .int mo_bestLeft, mo_counts, .int mo_sets, .int mo_foeHarm, .int mo_ownHarm, .int mo_across, .int mo_sumFoe, .int mo_sumOwn, .int mo_sumWon, .int mo_sumAcross]))] ++ X)) (va_Qi (fun (r : Int32) (_ : Unit) => r = res) (wB D A ([(a_mo, .inr (13, [.int mo_thrown', .int mo_trouble', .int mo_where', .null, mo_read, mo_tape, .int mo_taped, .int mo_size, .int mo_spot, .int mo_sort, .int mo_place, .int mo_number, .int mo_fault, .int mo_wrongAt, .int mo_laneTold, .long mo_word, mo_v, mo_x, mo_past, mo_kept, .int mo_acts, .int mo_marks, mo_put, mo_bestPut, .long mo_bestSum, mo_row, mo_best, mo_left, .int mo_bestSize, .int mo_bestLeft, mo_counts, .int mo_sets, .int mo_foeHarm, .int mo_ownHarm, .int mo_across, .int mo_sumFoe, .int mo_sumOwn, .int mo_sumWon, .int mo_sumAcross]))] ++ X)) A) 0 0 A := by
  refine Met.ofW (cc := cX13_teach) (maxL := 3) (ret := (some .int)) (by decide) rfl ?_
  intro p e s m args below meth c s₁ B hml hv
  obtain ⟨rfl, hP, hKN, hD, hA⟩ := hv
  have hK := hKN.1
  have hx := B.exec
  have hb := B.bytes
  have hr := B.returns
  have hts := wt_X13_teach hKN.2.2 (([.ref a_mo, .int p1, .int p2] : List Value).toArray)
  have hown : s.vm.findClass RX13 = some m.cls := findClass_of_methodNamed B.named
  have hlocks := B.notSynchronized
  have hS : va_S A s.heap s.heap [] := va_S.rf
  have hX13 := wc_X13 hKN.2.2 (([.ref a_mo, .int p1, .int p2] : List Value).toArray)
  have hl := lv_entry ([.ref a_mo, .int p1, .int p2]) (n := 3) (Nat.le_of_ble_eq_true rfl)
  rw [lg_entry_eq]
  generalize (lg_sl ([.ref a_mo, .int p1, .int p2]) ++ List.replicate (3 - (lg_sl ([.ref a_mo, .int p1, .int p2])).length) Slot.unset).toArray = ls at hl ⊢
  have hl : lv_has ls 3 [(0, .ref a_mo), (1, .int p1), (2, .int p2)] := hl
  unfold f_X13_teach_n at h
  refine lv_aload_n hx hb dX13_teach_0 rfl (lv_at hl 0 rfl) ?_
  refine lv_iconst (v := 0) hx hb dX13_teach_1 (by decide) ?_
  refine va_put (D := D) (ci := 13) (C := RX13) (T := TX13) (N := 39) (v := .int 0) (ty := .int) hx hb hX13 (fun _ q => q) tyX13 tyX13_ok nmX13 hown hK hP hD hS 0 rfl rfl 0 (by decide) (hts (.fieldLink RX13 48 "ElephantLineModel" "thrown" "I") (by decide +kernel)) (fun _ h9 => h9) rfl (tyX13_ok 0 (by decide)) rfl rfl (Nat.le_of_ble_eq_true rfl) dX13_teach_2 (fun H locs hP hD hS => ?_)
  refine lv_aload_n hx hb dX13_teach_5 rfl (lv_at hl 0 rfl) ?_
  refine lv_iload_n hx hb dX13_teach_6 rfl (lv_at hl 1 rfl) ?_
  have hP : va_P D vwCl ([(a_mo, .inr (13, [.int 0, .int mo_trouble, .int mo_where, .null, mo_read, mo_tape, .int mo_taped, .int mo_size, .int mo_spot, .int mo_sort, .int mo_place, .int mo_number, .int mo_fault, .int mo_wrongAt, .int mo_laneTold, .long mo_word, mo_v, mo_x, mo_past, mo_kept, .int mo_acts, .int mo_marks, mo_put, mo_bestPut, .long mo_bestSum, mo_row, mo_best, mo_left, .int mo_bestSize, .int mo_bestLeft, mo_counts, .int mo_sets, .int mo_foeHarm, .int mo_ownHarm, .int mo_across, .int mo_sumFoe, .int mo_sumOwn, .int mo_sumWon, .int mo_sumAcross]))] ++ X) H := hP
  have hD : va_D A ([(a_mo, .inr (13, [.int 0, .int mo_trouble, .int mo_where, .null, mo_read, mo_tape, .int mo_taped, .int mo_size, .int mo_spot, .int mo_sort, .int mo_place, .int mo_number, .int mo_fault, .int mo_wrongAt, .int mo_laneTold, .long mo_word, mo_v, mo_x, mo_past, mo_kept, .int mo_acts, .int mo_marks, mo_put, mo_bestPut, .long mo_bestSum, mo_row, mo_best, mo_left, .int mo_bestSize, .int mo_bestLeft, mo_counts, .int mo_sets, .int mo_foeHarm, .int mo_ownHarm, .int mo_across, .int mo_sumFoe, .int mo_sumOwn, .int mo_sumWon, .int mo_sumAcross]))] ++ X) := hD
  refine kVb [.int p1] [] ⟨hx, hb, hml, hown, hts⟩ (c_X13_isLane_n l D cy a_mo 0 mo_trouble mo_where (mo_read) (mo_tape) mo_taped mo_size mo_spot mo_sort mo_place mo_number mo_fault mo_wrongAt mo_laneTold mo_word (mo_v) (mo_x) (mo_past) (mo_kept) mo_acts mo_marks (mo_put) (mo_bestPut) mo_bestSum (mo_row) (mo_best) (mo_left) mo_bestSize mo_bestLeft (mo_counts) mo_sets mo_foeHarm mo_ownHarm mo_across mo_sumFoe mo_sumOwn mo_sumWon mo_sumAcross p1 0 rfl) gX13_teach_X13_isLane rfl hd_X13_isLane ⟨Nat.le_of_ble_eq_true rfl, Nat.le_of_ble_eq_true rfl⟩ rfl rfl hKN (pXc hP [0] rfl) 13 0 rfl rfl rfl hl.1 rfl (Nat.le_of_ble_eq_true rfl) dX13_teach_7 ⟨Nat.le_of_ble_eq_true rfl, Nat.le_of_ble_eq_true rfl⟩ (fun nb_3 => ?_)
  refine lv_if_ne (tgt := 19) hx hb dX13_teach_10 (by decide) (fun cd => ?_) (fun cd => ?_)
  · exact absurd cd (by decide)
  refine lv_aload_n hx hb dX13_teach_13 rfl (lv_at hl 0 rfl) ?_
  refine lv_iconst (v := 1) hx hb dX13_teach_14 (by decide) ?_
  obtain ⟨r_4, mo_trouble_5, mo_where_6, hc_7, h⟩ := bd3_some h
  refine wVi [.int 1] [] ⟨hx, hb, hml, hown, hts⟩ (c_X13_refused l D cy A X a_mo 0 mo_trouble mo_where (.null) (mo_read) (mo_tape) mo_taped mo_size mo_spot mo_sort mo_place mo_number mo_fault mo_wrongAt mo_laneTold mo_word (mo_v) (mo_x) (mo_past) (mo_kept) mo_acts mo_marks (mo_put) (mo_bestPut) mo_bestSum (mo_row) (mo_best) (mo_left) mo_bestSize mo_bestLeft (mo_counts) mo_sets mo_foeHarm mo_ownHarm mo_across mo_sumFoe mo_sumOwn mo_sumWon mo_sumAcross (1 : Int32) r_4 mo_trouble_5 mo_where_6 hc_7) gX13_teach_X13_refused rfl hd_X13_refused ⟨Nat.le_of_ble_eq_true rfl, Nat.le_of_ble_eq_true rfl⟩ rfl rfl hKN hP hD hS hA 13 0 rfl rfl rfl hl.1 rfl (Nat.le_of_ble_eq_true rfl) dX13_teach_15 ⟨Nat.le_of_ble_eq_true rfl, Nat.le_of_ble_eq_true rfl⟩ (fun H locs hP hD hS => ?_)
  cases h
  exact W.iret hx hb hr (fun t ht _ => ⟨⟨_, (), rfl, rfl, by rw [ht]; exact hP, hD⟩, hS.F ht⟩) hS.2.2 dX13_teach_18
