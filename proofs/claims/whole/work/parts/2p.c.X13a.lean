noncomputable def f_X13_thrown (mo_thrown : Int32) : Option (Int32) :=
  some (mo_thrown)
theorem hd_X13_thrown : yX13_thrown.cls = RX13 ∧ yX13_thrown.cls ≠ "java/lang/invoke/MethodHandle" ∧ yX13_thrown.cls ≠ "java/lang/invoke/VarHandle" ∧ (parseMethodDescriptor yX13_thrown.desc).map (fun d => d.parameters.length) = some 0 := by decide +kernel
set_option maxHeartbeats 4000000 in
set_option maxRecDepth 100000 in
theorem c_X13_thrown (l : Launch) (D : va_G) (cy : Nat → ClassId) (a_mo : Nat) (mo_thrown : Int32) (mo_trouble : Int32) (mo_where : Int32) (mo_war : Value) (mo_read : Value) (mo_tape : Value) (mo_taped : Int32) (mo_size : Int32) (mo_spot : Int32) (mo_sort : Int32) (mo_place : Int32) (mo_number : Int32) (mo_fault : Int32) (mo_wrongAt : Int32) (mo_laneTold : Int32) (mo_word : Int64) (mo_v : Value) (mo_x : Value) (mo_past : Value) (mo_kept : Value) (mo_acts : Int32) (mo_marks : Int32) (mo_put : Value) (mo_bestPut : Value) (mo_bestSum : Int64) (mo_row : Value) (mo_best : Value) (mo_left : Value) (mo_bestSize : Int32) (mo_bestLeft : Int32) (mo_counts : Value) (mo_sets : Int32) (mo_foeHarm : Int32) (mo_ownHarm : Int32) (mo_across : Int32) (mo_sumFoe : Int32) (mo_sumOwn : Int32) (mo_sumWon : Int32) (mo_sumAcross : Int32) (res : Int32) (h : f_X13_thrown mo_thrown = some (res)) : Met l yX13_thrown wo_X13_thrown ({ frames := 0, cells := 0, slots := 0, locals := 0 }) (roPc D cy [.ref a_mo] [(a_mo, .inr (13, [.int mo_thrown, .int mo_trouble, .int mo_where, mo_war, mo_read, mo_tape, .int mo_taped, .int mo_size, .int mo_spot, .int mo_sort, .int mo_place, .int mo_number, .int mo_fault, .int mo_wrongAt, .int mo_laneTold, .long mo_word, mo_v, mo_x, mo_past, mo_kept, .int mo_acts, .int mo_marks, mo_put, mo_bestPut, .long mo_bestSum, mo_row, mo_best, mo_left, .int mo_bestSize, .int mo_bestLeft, mo_counts, .int mo_sets, .int mo_foeHarm, .int mo_ownHarm, .int mo_across, .int mo_sumFoe, .int mo_sumOwn, .int mo_sumWon, .int mo_sumAcross]))]) (vp_Si (fun r => r = res)) 0 0 (fun _ => False) := by
  refine Met.ofW (cc := cX13_thrown) (maxL := 1) (ret := (some .int)) (by decide) rfl ?_
  intro p e s m args below meth c s₁ B hml hv
  obtain ⟨rfl, hP, hKN⟩ := hv
  have hK := hKN.1
  have hx := B.exec
  have hb := B.bytes
  have hr := B.returns
  have hts := wt_X13_thrown hKN.2.2 (([.ref a_mo] : List Value).toArray)
  have hown : s.vm.findClass RX13 = some m.cls := findClass_of_methodNamed B.named
  have hlocks := B.notSynchronized
  have hX13 := wc_X13 hKN.2.2 (([.ref a_mo] : List Value).toArray)
  have hl := lv_entry ([.ref a_mo]) (n := 1) (Nat.le_of_ble_eq_true rfl)
  rw [lg_entry_eq]
  generalize (lg_sl ([.ref a_mo]) ++ List.replicate (1 - (lg_sl ([.ref a_mo])).length) Slot.unset).toArray = ls at hl ⊢
  have hl : lv_has ls 1 [(0, .ref a_mo)] := hl
  unfold f_X13_thrown at h
  refine lv_aload_n hx hb dX13_thrown_0 rfl (lv_at hl 0 rfl) ?_
  refine va_get (D := D) (ci := 13) (C := RX13) (T := TX13) (N := 39) (v := .int mo_thrown) hx hb hX13 (fun _ q => q) hown hK hP 0 rfl rfl 0 (by decide) (hts (.fieldLink RX13 48 "ElephantLineModel" "thrown" "I") (by decide +kernel)) (fun _ h9 => h9) rfl dX13_thrown_1 ?_
  exact W.iret (v := mo_thrown) hx hb hr (fun t ht _ => ⟨_, rfl, Option.some.inj h, ht⟩) (fun _ q => by cases q) dX13_thrown_4
noncomputable def f_X13_refused (mo_trouble : Int32) (mo_where : Int32) (p1 : Int32) : Option (Int32 × Int32 × Int32) :=
  some ((-1), p1, (-1))
theorem hd_X13_refused : yX13_refused.cls = RX13 ∧ yX13_refused.cls ≠ "java/lang/invoke/MethodHandle" ∧ yX13_refused.cls ≠ "java/lang/invoke/VarHandle" ∧ (parseMethodDescriptor yX13_refused.desc).map (fun d => d.parameters.length) = some 1 := by decide +kernel
set_option maxHeartbeats 4000000 in
set_option maxRecDepth 100000 in
theorem c_X13_refused (l : Launch) (D : va_G) (cy : Nat → ClassId) (A : Nat → Prop) (X : va_W) (a_mo : Nat) (mo_thrown : Int32) (mo_trouble : Int32) (mo_where : Int32) (mo_war : Value) (mo_read : Value) (mo_tape : Value) (mo_taped : Int32) (mo_size : Int32) (mo_spot : Int32) (mo_sort : Int32) (mo_place : Int32) (mo_number : Int32) (mo_fault : Int32) (mo_wrongAt : Int32) (mo_laneTold : Int32) (mo_word : Int64) (mo_v : Value) (mo_x : Value) (mo_past : Value) (mo_kept : Value) (mo_acts : Int32) (mo_marks : Int32) (mo_put : Value) (mo_bestPut : Value) (mo_bestSum : Int64) (mo_row : Value) (mo_best : Value) (mo_left : Value) (mo_bestSize : Int32) (mo_bestLeft : Int32) (mo_counts : Value) (mo_sets : Int32) (mo_foeHarm : Int32) (mo_ownHarm : Int32) (mo_across : Int32) (mo_sumFoe : Int32) (mo_sumOwn : Int32) (mo_sumWon : Int32) (mo_sumAcross : Int32) (p1 : Int32) (res : Int32) (mo_trouble' : Int32) (mo_where' : Int32) (h : f_X13_refused mo_trouble mo_where p1 = some (res, mo_trouble', mo_where')) : Met l yX13_refused wo_X13_refused ({ frames := 0, cells := 0, slots := 0, locals := 0 }) (wrPc D cy A [.ref a_mo, .int p1] ([(a_mo, .inr (13, [.int mo_thrown, .int mo_trouble, .int mo_where, mo_war, mo_read, mo_tape, .int mo_taped, .int mo_size, .int mo_spot, .int mo_sort, .int mo_place, .int mo_number, .int mo_fault, .int mo_wrongAt, .int mo_laneTold, .long mo_word, mo_v, mo_x, mo_past, mo_kept, .int mo_acts, .int mo_marks, mo_put, mo_bestPut, .long mo_bestSum, mo_row, mo_best, mo_left, .int mo_bestSize, .int mo_bestLeft, mo_counts, .int mo_sets, .int mo_foeHarm, .int mo_ownHarm, .int mo_across, .int mo_sumFoe, .int mo_sumOwn, .int mo_sumWon, .int mo_sumAcross]))] ++ X)) (va_Qi (fun (r : Int32) (_ : Unit) => r = res) (wB D A ([(a_mo, .inr (13, [.int mo_thrown, .int mo_trouble', .int mo_where', mo_war, mo_read, mo_tape, .int mo_taped, .int mo_size, .int mo_spot, .int mo_sort, .int mo_place, .int mo_number, .int mo_fault, .int mo_wrongAt, .int mo_laneTold, .long mo_word, mo_v, mo_x, mo_past, mo_kept, .int mo_acts, .int mo_marks, mo_put, mo_bestPut, .long mo_bestSum, mo_row, mo_best, mo_left, .int mo_bestSize, .int mo_bestLeft, mo_counts, .int mo_sets, .int mo_foeHarm, .int mo_ownHarm, .int mo_across, .int mo_sumFoe, .int mo_sumOwn, .int mo_sumWon, .int mo_sumAcross]))] ++ X)) A) 0 0 A := by
  refine Met.ofW (cc := cX13_refused) (maxL := 2) (ret := (some .int)) (by decide) rfl ?_
  intro p e s m args below meth c s₁ B hml hv
  obtain ⟨rfl, hP, hKN, hD, hA⟩ := hv
  have hK := hKN.1
  have hx := B.exec
  have hb := B.bytes
  have hr := B.returns
  have hts := wt_X13_refused hKN.2.2 (([.ref a_mo, .int p1] : List Value).toArray)
  have hown : s.vm.findClass RX13 = some m.cls := findClass_of_methodNamed B.named
  have hlocks := B.notSynchronized
  have hS : va_S A s.heap s.heap [] := va_S.rf
  have hX13 := wc_X13 hKN.2.2 (([.ref a_mo, .int p1] : List Value).toArray)
  have hl := lv_entry ([.ref a_mo, .int p1]) (n := 2) (Nat.le_of_ble_eq_true rfl)
  rw [lg_entry_eq]
  generalize (lg_sl ([.ref a_mo, .int p1]) ++ List.replicate (2 - (lg_sl ([.ref a_mo, .int p1])).length) Slot.unset).toArray = ls at hl ⊢
  have hl : lv_has ls 2 [(0, .ref a_mo), (1, .int p1)] := hl
  unfold f_X13_refused at h
  refine lv_aload_n hx hb dX13_refused_0 rfl (lv_at hl 0 rfl) ?_
  refine lv_iload_n hx hb dX13_refused_1 rfl (lv_at hl 1 rfl) ?_
  refine va_put (D := D) (ci := 13) (C := RX13) (T := TX13) (N := 39) (v := .int p1) (ty := .int) hx hb hX13 (fun _ q => q) tyX13 tyX13_ok nmX13 hown hK hP hD hS 0 rfl rfl 1 (by decide) (hts (.fieldLink RX13 51 "ElephantLineModel" "trouble" "I") (by decide +kernel)) (fun _ h9 => h9) rfl (tyX13_ok 1 (by decide)) rfl rfl (Nat.le_of_ble_eq_true rfl) dX13_refused_2 (fun H locs hP hD hS => ?_)
  refine lv_aload_n hx hb dX13_refused_5 rfl (lv_at hl 0 rfl) ?_
  refine lv_iconst (v := (-1)) hx hb dX13_refused_6 (by decide) ?_
  refine va_put (D := D) (ci := 13) (C := RX13) (T := TX13) (N := 39) (v := .int (-1)) (ty := .int) hx hb hX13 (fun _ q => q) tyX13 tyX13_ok nmX13 hown hK hP hD hS 0 rfl rfl 2 (by decide) (hts (.fieldLink RX13 9 "ElephantLineModel" "where" "I") (by decide +kernel)) (fun _ h9 => h9) rfl (tyX13_ok 2 (by decide)) rfl rfl (Nat.le_of_ble_eq_true rfl) dX13_refused_7 (fun H locs hP hD hS => ?_)
  refine lv_iconst (v := (-1)) hx hb dX13_refused_10 (by decide) ?_
  cases h
  exact W.iret hx hb hr (fun t ht _ => ⟨⟨_, (), rfl, rfl, by rw [ht]; exact hP, hD⟩, hS.F ht⟩) hS.2.2 dX13_refused_11
noncomputable def f_X13_lost (mo_trouble : Int32) (mo_where : Int32) (p1 : Int32) : Option (Int64 × Int32 × Int32) :=
  bd3 (f_X13_refused mo_trouble mo_where p1) fun r_1 mo_trouble_2 mo_where_3 =>
  some ((-9223372036854775808), mo_trouble_2, mo_where_3)
theorem hd_X13_lost : yX13_lost.cls = RX13 ∧ yX13_lost.cls ≠ "java/lang/invoke/MethodHandle" ∧ yX13_lost.cls ≠ "java/lang/invoke/VarHandle" ∧ (parseMethodDescriptor yX13_lost.desc).map (fun d => d.parameters.length) = some 1 := by decide +kernel
set_option maxHeartbeats 4000000 in
set_option maxRecDepth 100000 in
theorem c_X13_lost (l : Launch) (D : va_G) (cy : Nat → ClassId) (A : Nat → Prop) (X : va_W) (a_mo : Nat) (mo_thrown : Int32) (mo_trouble : Int32) (mo_where : Int32) (mo_war : Value) (mo_read : Value) (mo_tape : Value) (mo_taped : Int32) (mo_size : Int32) (mo_spot : Int32) (mo_sort : Int32) (mo_place : Int32) (mo_number : Int32) (mo_fault : Int32) (mo_wrongAt : Int32) (mo_laneTold : Int32) (mo_word : Int64) (mo_v : Value) (mo_x : Value) (mo_past : Value) (mo_kept : Value) (mo_acts : Int32) (mo_marks : Int32) (mo_put : Value) (mo_bestPut : Value) (mo_bestSum : Int64) (mo_row : Value) (mo_best : Value) (mo_left : Value) (mo_bestSize : Int32) (mo_bestLeft : Int32) (mo_counts : Value) (mo_sets : Int32) (mo_foeHarm : Int32) (mo_ownHarm : Int32) (mo_across : Int32) (mo_sumFoe : Int32) (mo_sumOwn : Int32) (mo_sumWon : Int32) (mo_sumAcross : Int32) (p1 : Int32) (res : Int64) (mo_trouble' : Int32) (mo_where' : Int32) (h : f_X13_lost mo_trouble mo_where p1 = some (res, mo_trouble', mo_where')) : Met l yX13_lost wo_X13_lost ({ frames := 1, cells := 0, slots := 0, locals := 21 }) (wrPc D cy A [.ref a_mo, .int p1] ([(a_mo, .inr (13, [.int mo_thrown, .int mo_trouble, .int mo_where, mo_war, mo_read, mo_tape, .int mo_taped, .int mo_size, .int mo_spot, .int mo_sort, .int mo_place, .int mo_number, .int mo_fault, .int mo_wrongAt, .int mo_laneTold, .long mo_word, mo_v, mo_x, mo_past, mo_kept, .int mo_acts, .int mo_marks, mo_put, mo_bestPut, .long mo_bestSum, mo_row, mo_best, mo_left, .int mo_bestSize, .int mo_bestLeft, mo_counts, .int mo_sets, .int mo_foeHarm, .int mo_ownHarm, .int mo_across, .int mo_sumFoe, .int mo_sumOwn, .int mo_sumWon, .int mo_sumAcross]))] ++ X)) (va_Ql (fun (r : Int64) (_ : Unit) => r = res) (wB D A ([(a_mo, .inr (13, [.int mo_thrown, .int mo_trouble', .int mo_where', mo_war, mo_read, mo_tape, .int mo_taped, .int mo_size, .int mo_spot, .int mo_sort, .int mo_place, .int mo_number, .int mo_fault, .int mo_wrongAt, .int mo_laneTold, .long mo_word, mo_v, mo_x, mo_past, mo_kept, .int mo_acts, .int mo_marks, mo_put, mo_bestPut, .long mo_bestSum, mo_row, mo_best, mo_left, .int mo_bestSize, .int mo_bestLeft, mo_counts, .int mo_sets, .int mo_foeHarm, .int mo_ownHarm, .int mo_across, .int mo_sumFoe, .int mo_sumOwn, .int mo_sumWon, .int mo_sumAcross]))] ++ X)) A) 0 0 A := by
  refine Met.ofW (cc := cX13_lost) (maxL := 2) (ret := (some .long)) (by decide) rfl ?_
  intro p e s m args below meth c s₁ B hml hv
  obtain ⟨rfl, hP, hKN, hD, hA⟩ := hv
  have hK := hKN.1
  have hx := B.exec
  have hb := B.bytes
  have hr := B.returns
  have hts := wt_X13_lost hKN.2.2 (([.ref a_mo, .int p1] : List Value).toArray)
  have hown : s.vm.findClass RX13 = some m.cls := findClass_of_methodNamed B.named
  have hlocks := B.notSynchronized
  have hS : va_S A s.heap s.heap [] := va_S.rf
  have hl := lv_entry ([.ref a_mo, .int p1]) (n := 2) (Nat.le_of_ble_eq_true rfl)
  rw [lg_entry_eq]
  generalize (lg_sl ([.ref a_mo, .int p1]) ++ List.replicate (2 - (lg_sl ([.ref a_mo, .int p1])).length) Slot.unset).toArray = ls at hl ⊢
  have hl : lv_has ls 2 [(0, .ref a_mo), (1, .int p1)] := hl
  unfold f_X13_lost at h
  refine lv_aload_n hx hb dX13_lost_0 rfl (lv_at hl 0 rfl) ?_
  refine lv_iload_n hx hb dX13_lost_1 rfl (lv_at hl 1 rfl) ?_
  obtain ⟨r_1, mo_trouble_2, mo_where_3, hc_4, h⟩ := bd3_some h
  refine wVi [.int p1] [] ⟨hx, hb, hml, hown, hts⟩ (c_X13_refused l D cy A X a_mo mo_thrown mo_trouble mo_where (mo_war) (mo_read) (mo_tape) mo_taped mo_size mo_spot mo_sort mo_place mo_number mo_fault mo_wrongAt mo_laneTold mo_word (mo_v) (mo_x) (mo_past) (mo_kept) mo_acts mo_marks (mo_put) (mo_bestPut) mo_bestSum (mo_row) (mo_best) (mo_left) mo_bestSize mo_bestLeft (mo_counts) mo_sets mo_foeHarm mo_ownHarm mo_across mo_sumFoe mo_sumOwn mo_sumWon mo_sumAcross p1 r_1 mo_trouble_2 mo_where_3 hc_4) gX13_lost_X13_refused rfl hd_X13_refused ⟨Nat.le_of_ble_eq_true rfl, Nat.le_of_ble_eq_true rfl⟩ rfl rfl hKN hP hD hS hA 13 0 rfl rfl rfl hl.1 rfl (Nat.le_of_ble_eq_true rfl) dX13_lost_2 ⟨Nat.le_of_ble_eq_true rfl, Nat.le_of_ble_eq_true rfl⟩ (fun H locs hP hD hS => ?_)
  refine lv_pop hx hb dX13_lost_5 rfl ?_
  refine lv_ldc2 (v := (-9223372036854775808)) hx hb hown (hts (.constantLong RX13 58 (-9223372036854775808)) (by decide +kernel)) dX13_lost_6 ?_
  cases h
  exact W.lret hx hb hr (fun t ht _ => ⟨⟨_, (), rfl, rfl, by rw [ht]; exact hP, hD⟩, hS.F ht⟩) hS.2.2 dX13_lost_9
noncomputable def f_X13_denied (mo_trouble : Int32) (mo_where : Int32) (p1 : Int32) : Option (Int32 × Int32 × Int32) :=
  bd3 (f_X13_refused mo_trouble mo_where p1) fun r_1 mo_trouble_2 mo_where_3 =>
  some (0, mo_trouble_2, mo_where_3)
theorem hd_X13_denied : yX13_denied.cls = RX13 ∧ yX13_denied.cls ≠ "java/lang/invoke/MethodHandle" ∧ yX13_denied.cls ≠ "java/lang/invoke/VarHandle" ∧ (parseMethodDescriptor yX13_denied.desc).map (fun d => d.parameters.length) = some 1 := by decide +kernel
set_option maxHeartbeats 4000000 in
set_option maxRecDepth 100000 in
theorem c_X13_denied (l : Launch) (D : va_G) (cy : Nat → ClassId) (A : Nat → Prop) (X : va_W) (a_mo : Nat) (mo_thrown : Int32) (mo_trouble : Int32) (mo_where : Int32) (mo_war : Value) (mo_read : Value) (mo_tape : Value) (mo_taped : Int32) (mo_size : Int32) (mo_spot : Int32) (mo_sort : Int32) (mo_place : Int32) (mo_number : Int32) (mo_fault : Int32) (mo_wrongAt : Int32) (mo_laneTold : Int32) (mo_word : Int64) (mo_v : Value) (mo_x : Value) (mo_past : Value) (mo_kept : Value) (mo_acts : Int32) (mo_marks : Int32) (mo_put : Value) (mo_bestPut : Value) (mo_bestSum : Int64) (mo_row : Value) (mo_best : Value) (mo_left : Value) (mo_bestSize : Int32) (mo_bestLeft : Int32) (mo_counts : Value) (mo_sets : Int32) (mo_foeHarm : Int32) (mo_ownHarm : Int32) (mo_across : Int32) (mo_sumFoe : Int32) (mo_sumOwn : Int32) (mo_sumWon : Int32) (mo_sumAcross : Int32) (p1 : Int32) (res : Int32) (mo_trouble' : Int32) (mo_where' : Int32) (h : f_X13_denied mo_trouble mo_where p1 = some (res, mo_trouble', mo_where')) : Met l yX13_denied wo_X13_denied ({ frames := 1, cells := 0, slots := 0, locals := 21 }) (wrPc D cy A [.ref a_mo, .int p1] ([(a_mo, .inr (13, [.int mo_thrown, .int mo_trouble, .int mo_where, mo_war, mo_read, mo_tape, .int mo_taped, .int mo_size, .int mo_spot, .int mo_sort, .int mo_place, .int mo_number, .int mo_fault, .int mo_wrongAt, .int mo_laneTold, .long mo_word, mo_v, mo_x, mo_past, mo_kept, .int mo_acts, .int mo_marks, mo_put, mo_bestPut, .long mo_bestSum, mo_row, mo_best, mo_left, .int mo_bestSize, .int mo_bestLeft, mo_counts, .int mo_sets, .int mo_foeHarm, .int mo_ownHarm, .int mo_across, .int mo_sumFoe, .int mo_sumOwn, .int mo_sumWon, .int mo_sumAcross]))] ++ X)) (va_Qi (fun (r : Int32) (_ : Unit) => r = res ∧ nbv r) (wB D A ([(a_mo, .inr (13, [.int mo_thrown, .int mo_trouble', .int mo_where', mo_war, mo_read, mo_tape, .int mo_taped, .int mo_size, .int mo_spot, .int mo_sort, .int mo_place, .int mo_number, .int mo_fault, .int mo_wrongAt, .int mo_laneTold, .long mo_word, mo_v, mo_x, mo_past, mo_kept, .int mo_acts, .int mo_marks, mo_put, mo_bestPut, .long mo_bestSum, mo_row, mo_best, mo_left, .int mo_bestSize, .int mo_bestLeft, mo_counts, .int mo_sets, .int mo_foeHarm, .int mo_ownHarm, .int mo_across, .int mo_sumFoe, .int mo_sumOwn, .int mo_sumWon, .int mo_sumAcross]))] ++ X)) A) 0 0 A := by
  refine Met.ofW (cc := cX13_denied) (maxL := 2) (ret := (some .boolean)) (by decide) rfl ?_
  intro p e s m args below meth c s₁ B hml hv
  obtain ⟨rfl, hP, hKN, hD, hA⟩ := hv
  have hK := hKN.1
  have hx := B.exec
  have hb := B.bytes
  have hr := B.returns
  have hts := wt_X13_denied hKN.2.2 (([.ref a_mo, .int p1] : List Value).toArray)
  have hown : s.vm.findClass RX13 = some m.cls := findClass_of_methodNamed B.named
  have hlocks := B.notSynchronized
  have hS : va_S A s.heap s.heap [] := va_S.rf
  have hl := lv_entry ([.ref a_mo, .int p1]) (n := 2) (Nat.le_of_ble_eq_true rfl)
  rw [lg_entry_eq]
  generalize (lg_sl ([.ref a_mo, .int p1]) ++ List.replicate (2 - (lg_sl ([.ref a_mo, .int p1])).length) Slot.unset).toArray = ls at hl ⊢
  have hl : lv_has ls 2 [(0, .ref a_mo), (1, .int p1)] := hl
  unfold f_X13_denied at h
  refine lv_aload_n hx hb dX13_denied_0 rfl (lv_at hl 0 rfl) ?_
  refine lv_iload_n hx hb dX13_denied_1 rfl (lv_at hl 1 rfl) ?_
  obtain ⟨r_1, mo_trouble_2, mo_where_3, hc_4, h⟩ := bd3_some h
  refine wVi [.int p1] [] ⟨hx, hb, hml, hown, hts⟩ (c_X13_refused l D cy A X a_mo mo_thrown mo_trouble mo_where (mo_war) (mo_read) (mo_tape) mo_taped mo_size mo_spot mo_sort mo_place mo_number mo_fault mo_wrongAt mo_laneTold mo_word (mo_v) (mo_x) (mo_past) (mo_kept) mo_acts mo_marks (mo_put) (mo_bestPut) mo_bestSum (mo_row) (mo_best) (mo_left) mo_bestSize mo_bestLeft (mo_counts) mo_sets mo_foeHarm mo_ownHarm mo_across mo_sumFoe mo_sumOwn mo_sumWon mo_sumAcross p1 r_1 mo_trouble_2 mo_where_3 hc_4) gX13_denied_X13_refused rfl hd_X13_refused ⟨Nat.le_of_ble_eq_true rfl, Nat.le_of_ble_eq_true rfl⟩ rfl rfl hKN hP hD hS hA 13 0 rfl rfl rfl hl.1 rfl (Nat.le_of_ble_eq_true rfl) dX13_denied_2 ⟨Nat.le_of_ble_eq_true rfl, Nat.le_of_ble_eq_true rfl⟩ (fun H locs hP hD hS => ?_)
  refine lv_pop hx hb dX13_denied_5 rfl ?_
  refine lv_iconst (v := 0) hx hb dX13_denied_6 (by decide) ?_
  cases h
  exact W.zret (ty := .boolean) hx hb hr (nbv.n nbv_0) (fun t ht _ => ⟨⟨_, (), rfl, ⟨rfl, nbv_0⟩, by rw [ht]; exact hP, hD⟩, hS.F ht⟩) hS.2.2 dX13_denied_7
noncomputable def f_X13_good (mo_trouble : Int32) (mo_where : Int32) (p1 : Int32) : Option (Int32 × Int32 × Int32) :=
  some (p1, 0, (-1))
theorem hd_X13_good : yX13_good.cls = RX13 ∧ yX13_good.cls ≠ "java/lang/invoke/MethodHandle" ∧ yX13_good.cls ≠ "java/lang/invoke/VarHandle" ∧ (parseMethodDescriptor yX13_good.desc).map (fun d => d.parameters.length) = some 1 := by decide +kernel
set_option maxHeartbeats 4000000 in
set_option maxRecDepth 100000 in
theorem c_X13_good (l : Launch) (D : va_G) (cy : Nat → ClassId) (A : Nat → Prop) (X : va_W) (a_mo : Nat) (mo_thrown : Int32) (mo_trouble : Int32) (mo_where : Int32) (mo_war : Value) (mo_read : Value) (mo_tape : Value) (mo_taped : Int32) (mo_size : Int32) (mo_spot : Int32) (mo_sort : Int32) (mo_place : Int32) (mo_number : Int32) (mo_fault : Int32) (mo_wrongAt : Int32) (mo_laneTold : Int32) (mo_word : Int64) (mo_v : Value) (mo_x : Value) (mo_past : Value) (mo_kept : Value) (mo_acts : Int32) (mo_marks : Int32) (mo_put : Value) (mo_bestPut : Value) (mo_bestSum : Int64) (mo_row : Value) (mo_best : Value) (mo_left : Value) (mo_bestSize : Int32) (mo_bestLeft : Int32) (mo_counts : Value) (mo_sets : Int32) (mo_foeHarm : Int32) (mo_ownHarm : Int32) (mo_across : Int32) (mo_sumFoe : Int32) (mo_sumOwn : Int32) (mo_sumWon : Int32) (mo_sumAcross : Int32) (p1 : Int32) (res : Int32) (mo_trouble' : Int32) (mo_where' : Int32) (h : f_X13_good mo_trouble mo_where p1 = some (res, mo_trouble', mo_where')) : Met l yX13_good wo_X13_good ({ frames := 0, cells := 0, slots := 0, locals := 0 }) (wrPc D cy A [.ref a_mo, .int p1] ([(a_mo, .inr (13, [.int mo_thrown, .int mo_trouble, .int mo_where, mo_war, mo_read, mo_tape, .int mo_taped, .int mo_size, .int mo_spot, .int mo_sort, .int mo_place, .int mo_number, .int mo_fault, .int mo_wrongAt, .int mo_laneTold, .long mo_word, mo_v, mo_x, mo_past, mo_kept, .int mo_acts, .int mo_marks, mo_put, mo_bestPut, .long mo_bestSum, mo_row, mo_best, mo_left, .int mo_bestSize, .int mo_bestLeft, mo_counts, .int mo_sets, .int mo_foeHarm, .int mo_ownHarm, .int mo_across, .int mo_sumFoe, .int mo_sumOwn, .int mo_sumWon, .int mo_sumAcross]))] ++ X)) (va_Qi (fun (r : Int32) (_ : Unit) => r = res) (wB D A ([(a_mo, .inr (13, [.int mo_thrown, .int mo_trouble', .int mo_where', mo_war, mo_read, mo_tape, .int mo_taped, .int mo_size, .int mo_spot, .int mo_sort, .int mo_place, .int mo_number, .int mo_fault, .int mo_wrongAt, .int mo_laneTold, .long mo_word, mo_v, mo_x, mo_past, mo_kept, .int mo_acts, .int mo_marks, mo_put, mo_bestPut, .long mo_bestSum, mo_row, mo_best, mo_left, .int mo_bestSize, .int mo_bestLeft, mo_counts, .int mo_sets, .int mo_foeHarm, .int mo_ownHarm, .int mo_across, .int mo_sumFoe, .int mo_sumOwn, .int mo_sumWon, .int mo_sumAcross]))] ++ X)) A) 0 0 A := by
  refine Met.ofW (cc := cX13_good) (maxL := 2) (ret := (some .int)) (by decide) rfl ?_
  intro p e s m args below meth c s₁ B hml hv
  obtain ⟨rfl, hP, hKN, hD, hA⟩ := hv
  have hK := hKN.1
  have hx := B.exec
  have hb := B.bytes
  have hr := B.returns
  have hts := wt_X13_good hKN.2.2 (([.ref a_mo, .int p1] : List Value).toArray)
  have hown : s.vm.findClass RX13 = some m.cls := findClass_of_methodNamed B.named
  have hlocks := B.notSynchronized
  have hS : va_S A s.heap s.heap [] := va_S.rf
  have hX13 := wc_X13 hKN.2.2 (([.ref a_mo, .int p1] : List Value).toArray)
  have hl := lv_entry ([.ref a_mo, .int p1]) (n := 2) (Nat.le_of_ble_eq_true rfl)
  rw [lg_entry_eq]
  generalize (lg_sl ([.ref a_mo, .int p1]) ++ List.replicate (2 - (lg_sl ([.ref a_mo, .int p1])).length) Slot.unset).toArray = ls at hl ⊢
  have hl : lv_has ls 2 [(0, .ref a_mo), (1, .int p1)] := hl
  unfold f_X13_good at h
  refine lv_aload_n hx hb dX13_good_0 rfl (lv_at hl 0 rfl) ?_
  refine lv_iconst (v := 0) hx hb dX13_good_1 (by decide) ?_
  refine va_put (D := D) (ci := 13) (C := RX13) (T := TX13) (N := 39) (v := .int 0) (ty := .int) hx hb hX13 (fun _ q => q) tyX13 tyX13_ok nmX13 hown hK hP hD hS 0 rfl rfl 1 (by decide) (hts (.fieldLink RX13 51 "ElephantLineModel" "trouble" "I") (by decide +kernel)) (fun _ h9 => h9) rfl (tyX13_ok 1 (by decide)) rfl rfl (Nat.le_of_ble_eq_true rfl) dX13_good_2 (fun H locs hP hD hS => ?_)
  refine lv_aload_n hx hb dX13_good_5 rfl (lv_at hl 0 rfl) ?_
  refine lv_iconst (v := (-1)) hx hb dX13_good_6 (by decide) ?_
  refine va_put (D := D) (ci := 13) (C := RX13) (T := TX13) (N := 39) (v := .int (-1)) (ty := .int) hx hb hX13 (fun _ q => q) tyX13 tyX13_ok nmX13 hown hK hP hD hS 0 rfl rfl 2 (by decide) (hts (.fieldLink RX13 9 "ElephantLineModel" "where" "I") (by decide +kernel)) (fun _ h9 => h9) rfl (tyX13_ok 2 (by decide)) rfl rfl (Nat.le_of_ble_eq_true rfl) dX13_good_7 (fun H locs hP hD hS => ?_)
  refine lv_iload_n hx hb dX13_good_10 rfl (lv_at hl 1 rfl) ?_
  cases h
  exact W.iret hx hb hr (fun t ht _ => ⟨⟨_, (), rfl, rfl, by rw [ht]; exact hP, hD⟩, hS.F ht⟩) hS.2.2 dX13_good_11
noncomputable def f_X13_granted (mo_trouble : Int32) (mo_where : Int32) : Option (Int32 × Int32 × Int32) :=
  bd3 (f_X13_good mo_trouble mo_where (0 : Int32)) fun r_1 mo_trouble_2 mo_where_3 =>
  some (1, mo_trouble_2, mo_where_3)
theorem hd_X13_granted : yX13_granted.cls = RX13 ∧ yX13_granted.cls ≠ "java/lang/invoke/MethodHandle" ∧ yX13_granted.cls ≠ "java/lang/invoke/VarHandle" ∧ (parseMethodDescriptor yX13_granted.desc).map (fun d => d.parameters.length) = some 0 := by decide +kernel
set_option maxHeartbeats 4000000 in
set_option maxRecDepth 100000 in
theorem c_X13_granted (l : Launch) (D : va_G) (cy : Nat → ClassId) (A : Nat → Prop) (X : va_W) (a_mo : Nat) (mo_thrown : Int32) (mo_trouble : Int32) (mo_where : Int32) (mo_war : Value) (mo_read : Value) (mo_tape : Value) (mo_taped : Int32) (mo_size : Int32) (mo_spot : Int32) (mo_sort : Int32) (mo_place : Int32) (mo_number : Int32) (mo_fault : Int32) (mo_wrongAt : Int32) (mo_laneTold : Int32) (mo_word : Int64) (mo_v : Value) (mo_x : Value) (mo_past : Value) (mo_kept : Value) (mo_acts : Int32) (mo_marks : Int32) (mo_put : Value) (mo_bestPut : Value) (mo_bestSum : Int64) (mo_row : Value) (mo_best : Value) (mo_left : Value) (mo_bestSize : Int32) (mo_bestLeft : Int32) (mo_counts : Value) (mo_sets : Int32) (mo_foeHarm : Int32) (mo_ownHarm : Int32) (mo_across : Int32) (mo_sumFoe : Int32) (mo_sumOwn : Int32) (mo_sumWon : Int32) (mo_sumAcross : Int32) (res : Int32) (mo_trouble' : Int32) (mo_where' : Int32) (h : f_X13_granted mo_trouble mo_where = some (res, mo_trouble', mo_where')) : Met l yX13_granted wo_X13_granted ({ frames := 1, cells := 0, slots := 0, locals := 21 }) (wrPc D cy A [.ref a_mo] ([(a_mo, .inr (13, [.int mo_thrown, .int mo_trouble, .int mo_where, mo_war, mo_read, mo_tape, .int mo_taped, .int mo_size, .int mo_spot, .int mo_sort, .int mo_place, .int mo_number, .int mo_fault, .int mo_wrongAt, .int mo_laneTold, .long mo_word, mo_v, mo_x, mo_past, mo_kept, .int mo_acts, .int mo_marks, mo_put, mo_bestPut, .long mo_bestSum, mo_row, mo_best, mo_left, .int mo_bestSize, .int mo_bestLeft, mo_counts, .int mo_sets, .int mo_foeHarm, .int mo_ownHarm, .int mo_across, .int mo_sumFoe, .int mo_sumOwn, .int mo_sumWon, .int mo_sumAcross]))] ++ X)) (va_Qi (fun (r : Int32) (_ : Unit) => r = res ∧ nbv r) (wB D A ([(a_mo, .inr (13, [.int mo_thrown, .int mo_trouble', .int mo_where', mo_war, mo_read, mo_tape, .int mo_taped, .int mo_size, .int mo_spot, .int mo_sort, .int mo_place, .int mo_number, .int mo_fault, .int mo_wrongAt, .int mo_laneTold, .long mo_word, mo_v, mo_x, mo_past, mo_kept, .int mo_acts, .int mo_marks, mo_put, mo_bestPut, .long mo_bestSum, mo_row, mo_best, mo_left, .int mo_bestSize, .int mo_bestLeft, mo_counts, .int mo_sets, .int mo_foeHarm, .int mo_ownHarm, .int mo_across, .int mo_sumFoe, .int mo_sumOwn, .int mo_sumWon, .int mo_sumAcross]))] ++ X)) A) 0 0 A := by
  refine Met.ofW (cc := cX13_granted) (maxL := 1) (ret := (some .boolean)) (by decide) rfl ?_
  intro p e s m args below meth c s₁ B hml hv
  obtain ⟨rfl, hP, hKN, hD, hA⟩ := hv
  have hK := hKN.1
  have hx := B.exec
  have hb := B.bytes
  have hr := B.returns
  have hts := wt_X13_granted hKN.2.2 (([.ref a_mo] : List Value).toArray)
  have hown : s.vm.findClass RX13 = some m.cls := findClass_of_methodNamed B.named
  have hlocks := B.notSynchronized
  have hS : va_S A s.heap s.heap [] := va_S.rf
  have hl := lv_entry ([.ref a_mo]) (n := 1) (Nat.le_of_ble_eq_true rfl)
  rw [lg_entry_eq]
  generalize (lg_sl ([.ref a_mo]) ++ List.replicate (1 - (lg_sl ([.ref a_mo])).length) Slot.unset).toArray = ls at hl ⊢
  have hl : lv_has ls 1 [(0, .ref a_mo)] := hl
  unfold f_X13_granted at h
  refine lv_aload_n hx hb dX13_granted_0 rfl (lv_at hl 0 rfl) ?_
  refine lv_iconst (v := 0) hx hb dX13_granted_1 (by decide) ?_
  obtain ⟨r_1, mo_trouble_2, mo_where_3, hc_4, h⟩ := bd3_some h
  refine wVi [.int 0] [] ⟨hx, hb, hml, hown, hts⟩ (c_X13_good l D cy A X a_mo mo_thrown mo_trouble mo_where (mo_war) (mo_read) (mo_tape) mo_taped mo_size mo_spot mo_sort mo_place mo_number mo_fault mo_wrongAt mo_laneTold mo_word (mo_v) (mo_x) (mo_past) (mo_kept) mo_acts mo_marks (mo_put) (mo_bestPut) mo_bestSum (mo_row) (mo_best) (mo_left) mo_bestSize mo_bestLeft (mo_counts) mo_sets mo_foeHarm mo_ownHarm mo_across mo_sumFoe mo_sumOwn mo_sumWon mo_sumAcross (0 : Int32) r_1 mo_trouble_2 mo_where_3 hc_4) gX13_granted_X13_good rfl hd_X13_good ⟨Nat.le_of_ble_eq_true rfl, Nat.le_of_ble_eq_true rfl⟩ rfl rfl hKN hP hD hS hA 13 0 rfl rfl rfl hl.1 rfl (Nat.le_of_ble_eq_true rfl) dX13_granted_2 ⟨Nat.le_of_ble_eq_true rfl, Nat.le_of_ble_eq_true rfl⟩ (fun H locs hP hD hS => ?_)
  refine lv_pop hx hb dX13_granted_5 rfl ?_
  refine lv_iconst (v := 1) hx hb dX13_granted_6 (by decide) ?_
  cases h
  exact W.zret (ty := .boolean) hx hb hr (nbv.n nbv_1) (fun t ht _ => ⟨⟨_, (), rfl, ⟨rfl, nbv_1⟩, by rw [ht]; exact hP, hD⟩, hS.F ht⟩) hS.2.2 dX13_granted_7
noncomputable def f_X13_in (p0 : Int32) (p1 : Int32) (p2 : Int32) : Option (Int32) :=
  (if p0 < p1 then
  some (0)
  else
  (if p2 < p0 then
  some (0)
  else
  some (1)))
theorem hd_X13_in : yX13_in.cls ≠ "java/lang/invoke/MethodHandle" ∧ yX13_in.cls ≠ "java/lang/invoke/VarHandle" ∧ (parseMethodDescriptor yX13_in.desc).map (fun d => d.parameters.length) = some 3 := by decide +kernel
set_option maxHeartbeats 4000000 in
set_option maxRecDepth 100000 in
theorem c_X13_in (l : Launch) (D : va_G) (cy : Nat → ClassId) (p0 : Int32) (p1 : Int32) (p2 : Int32) (res : Int32) (h : f_X13_in  p0 p1 p2 = some (res)) : Met l yX13_in wo_X13_in ({ frames := 0, cells := 0, slots := 0, locals := 0 }) (roPc D cy [.int p0, .int p1, .int p2] []) (vp_Si (fun r => r = res ∧ nbv r)) 0 0 (fun _ => False) := by
  refine Met.ofW (cc := cX13_in) (maxL := 3) (ret := (some .boolean)) (by decide) rfl ?_
  intro p e s m args below meth c s₁ B hml hv
  obtain ⟨rfl, hP, hKN⟩ := hv
  have hK := hKN.1
  have hx := B.exec
  have hb := B.bytes
  have hr := B.returns
  have hts := wt_X13_in hKN.2.2 (([.int p0, .int p1, .int p2] : List Value).toArray)
  have hown : s.vm.findClass RX13 = some m.cls := findClass_of_methodNamed B.named
  have hlocks := B.notSynchronized
  have hl := lv_entry ([.int p0, .int p1, .int p2]) (n := 3) (Nat.le_of_ble_eq_true rfl)
  rw [lg_entry_eq]
  generalize (lg_sl ([.int p0, .int p1, .int p2]) ++ List.replicate (3 - (lg_sl ([.int p0, .int p1, .int p2])).length) Slot.unset).toArray = ls at hl ⊢
  have hl : lv_has ls 3 [(0, .int p0), (1, .int p1), (2, .int p2)] := hl
  unfold f_X13_in at h
  refine lv_iload_n hx hb dX13_in_0 rfl (lv_at hl 0 rfl) ?_
  refine lv_iload_n hx hb dX13_in_1 rfl (lv_at hl 1 rfl) ?_
  refine lv_icmp_lt (tgt := 14) hx hb dX13_in_2 (by decide) (fun cd => ?_) (fun cd => ?_)
  · have h := ifT cd h
    refine lv_iconst (v := 0) hx hb dX13_in_14 (by decide) ?_
    exact W.zret (ty := .boolean) (v := 0) hx hb hr (nbv.n nbv_0) (fun t ht _ => ⟨_, rfl, ⟨Option.some.inj h, nbv_0⟩, ht⟩) (fun _ q => by cases q) dX13_in_15
  · have h := ifF cd h
    refine lv_iload_n hx hb dX13_in_5 rfl (lv_at hl 0 rfl) ?_
    refine lv_iload_n hx hb dX13_in_6 rfl (lv_at hl 2 rfl) ?_
    refine lv_icmp_gt (tgt := 14) hx hb dX13_in_7 (by decide) (fun cd => ?_) (fun cd => ?_)
    · have h := ifT cd h
      refine lv_iconst (v := 0) hx hb dX13_in_14 (by decide) ?_
      exact W.zret (ty := .boolean) (v := 0) hx hb hr (nbv.n nbv_0) (fun t ht _ => ⟨_, rfl, ⟨Option.some.inj h, nbv_0⟩, ht⟩) (fun _ q => by cases q) dX13_in_15
    · have h := ifF cd h
      refine lv_iconst (v := 1) hx hb dX13_in_10 (by decide) ?_
      refine lv_goto (tgt := 15) hx hb dX13_in_11 (by decide) ?_
      exact W.zret (ty := .boolean) (v := 1) hx hb hr (nbv.n nbv_1) (fun t ht _ => ⟨_, rfl, ⟨Option.some.inj h, nbv_1⟩, ht⟩) (fun _ q => by cases q) dX13_in_15
noncomputable def f_X13_bit (p0 : Int32) (p1 : Int32) : Option (Int32) :=
  (if ((p0 >>> (p1 &&& 31)) &&& 1) = 1 then
  some (1)
  else
  some (0))
theorem hd_X13_bit : yX13_bit.cls ≠ "java/lang/invoke/MethodHandle" ∧ yX13_bit.cls ≠ "java/lang/invoke/VarHandle" ∧ (parseMethodDescriptor yX13_bit.desc).map (fun d => d.parameters.length) = some 2 := by decide +kernel
set_option maxHeartbeats 4000000 in
set_option maxRecDepth 100000 in
theorem c_X13_bit (l : Launch) (D : va_G) (cy : Nat → ClassId) (p0 : Int32) (p1 : Int32) (res : Int32) (h : f_X13_bit  p0 p1 = some (res)) : Met l yX13_bit wo_X13_bit ({ frames := 0, cells := 0, slots := 0, locals := 0 }) (roPc D cy [.int p0, .int p1] []) (vp_Si (fun r => r = res ∧ nbv r)) 0 0 (fun _ => False) := by
  refine Met.ofW (cc := cX13_bit) (maxL := 2) (ret := (some .boolean)) (by decide) rfl ?_
  intro p e s m args below meth c s₁ B hml hv
  obtain ⟨rfl, hP, hKN⟩ := hv
  have hK := hKN.1
  have hx := B.exec
  have hb := B.bytes
  have hr := B.returns
  have hts := wt_X13_bit hKN.2.2 (([.int p0, .int p1] : List Value).toArray)
  have hown : s.vm.findClass RX13 = some m.cls := findClass_of_methodNamed B.named
  have hlocks := B.notSynchronized
  have hl := lv_entry ([.int p0, .int p1]) (n := 2) (Nat.le_of_ble_eq_true rfl)
  rw [lg_entry_eq]
  generalize (lg_sl ([.int p0, .int p1]) ++ List.replicate (2 - (lg_sl ([.int p0, .int p1])).length) Slot.unset).toArray = ls at hl ⊢
  have hl : lv_has ls 2 [(0, .int p0), (1, .int p1)] := hl
  unfold f_X13_bit at h
  refine lv_iload_n hx hb dX13_bit_0 rfl (lv_at hl 0 rfl) ?_
  refine lv_iload_n hx hb dX13_bit_1 rfl (lv_at hl 1 rfl) ?_
  refine lv_ishr hx hb dX13_bit_2 ?_
  refine lv_iconst (v := 1) hx hb dX13_bit_3 (by decide) ?_
  refine lv_iand hx hb dX13_bit_4 ?_
  refine lv_iconst (v := 1) hx hb dX13_bit_5 (by decide) ?_
  refine lv_icmp_ne (tgt := 13) hx hb dX13_bit_6 (by decide) (fun cd => ?_) (fun cd => ?_)
  · have h := ifF cd h
    refine lv_iconst (v := 0) hx hb dX13_bit_13 (by decide) ?_
    exact W.zret (ty := .boolean) (v := 0) hx hb hr (nbv.n nbv_0) (fun t ht _ => ⟨_, rfl, ⟨Option.some.inj h, nbv_0⟩, ht⟩) (fun _ q => by cases q) dX13_bit_14
  · have h := ifT cd h
    refine lv_iconst (v := 1) hx hb dX13_bit_9 (by decide) ?_
    refine lv_goto (tgt := 14) hx hb dX13_bit_10 (by decide) ?_
    exact W.zret (ty := .boolean) (v := 1) hx hb hr (nbv.n nbv_1) (fun t ht _ => ⟨_, rfl, ⟨Option.some.inj h, nbv_1⟩, ht⟩) (fun _ q => by cases q) dX13_bit_14
noncomputable def f_X13_bits_b4 (k4 : Int32 → Int32 → Option (Int32)) (x1 : Int32) (x2 : Int32) : Option (Int32) :=
  (if x2 = 0 then
  some (x1)
  else
  k4 (x1 + 1) (x2 &&& (x2 - 1)))
noncomputable def f_X13_bits_L4 : Nat → Int32 → Int32 → Option (Int32)
  | 0 => fun _ _ => none
  | n + 1 => f_X13_bits_b4 (f_X13_bits_L4 n)
noncomputable def f_X13_bits (p0 : Int32) : Option (Int32) :=
  f_X13_bits_L4 fuelN 0 p0
theorem hd_X13_bits : yX13_bits.cls ≠ "java/lang/invoke/MethodHandle" ∧ yX13_bits.cls ≠ "java/lang/invoke/VarHandle" ∧ (parseMethodDescriptor yX13_bits.desc).map (fun d => d.parameters.length) = some 1 := by decide +kernel
set_option maxHeartbeats 4000000 in
set_option maxRecDepth 100000 in
theorem c_X13_bits (l : Launch) (D : va_G) (cy : Nat → ClassId) (p0 : Int32) (res : Int32) (h : f_X13_bits  p0 = some (res)) : Met l yX13_bits wo_X13_bits ({ frames := 0, cells := 0, slots := 0, locals := 0 }) (roPc D cy [.int p0] []) (vp_Si (fun r => r = res)) 0 0 (fun _ => False) := by
  refine Met.ofW (cc := cX13_bits) (maxL := 3) (ret := (some .int)) (by decide) rfl ?_
  intro p e s m args below meth c s₁ B hml hv
  obtain ⟨rfl, hP, hKN⟩ := hv
  have hK := hKN.1
  have hx := B.exec
  have hb := B.bytes
  have hr := B.returns
  have hts := wt_X13_bits hKN.2.2 (([.int p0] : List Value).toArray)
  have hown : s.vm.findClass RX13 = some m.cls := findClass_of_methodNamed B.named
  have hlocks := B.notSynchronized
  have hl := lv_entry ([.int p0]) (n := 3) (Nat.le_of_ble_eq_true rfl)
  rw [lg_entry_eq]
  generalize (lg_sl ([.int p0]) ++ List.replicate (3 - (lg_sl ([.int p0])).length) Slot.unset).toArray = ls at hl ⊢
  have hl : lv_has ls 3 [(0, .int p0)] := hl
  unfold f_X13_bits at h
  refine lv_iconst (v := 0) hx hb dX13_bits_0 (by decide) ?_
  refine lv_istore_n (lv' := [(1, .int 0), (0, .int p0)]) hx hb dX13_bits_1 rfl hl (by decide) rfl (fun ls hl => ?_)
  refine lv_iload_n hx hb dX13_bits_2 rfl (lv_at hl 1 rfl) ?_
  refine lv_istore_n (lv' := [(2, .int p0), (1, .int 0), (0, .int p0)]) hx hb dX13_bits_3 rfl hl (by decide) rfl (fun ls hl => ?_)
  have lp4 : ∀ (n4 : Nat) (x1_1 : Int32) (x2_2 : Int32), f_X13_bits_L4 n4 x1_1 x2_2 = some (res) → ∀ ls : Array Slot, lv_has ls 3 [(1, .int x1_1), (2, .int x2_2)] → W p l e (headSpec wo_X13_bits ({ frames := 0, cells := 0, slots := 0, locals := 0 })).room s m (([.int p0] : List Value).toArray) below meth c s.heap [] 0 0 (MQ below (vp_Si (fun r => r = res)) (([.int p0] : List Value).toArray) s 0 0 (fun _ => False)) (F0 m 4 ls []) := by
    intro n4
    induction n4 with
    | zero => intro x1_1 x2_2 h; exact absurd (show (none : Option (Int32)) = some _ from h) (by intro q; cases q)
    | succ n4 ih4 =>
      intro x1_1 x2_2 h ls hl
      have h : f_X13_bits_b4 (f_X13_bits_L4 n4) x1_1 x2_2 = some (res) := h
      unfold f_X13_bits_b4 at h
      refine lv_iload_n hx hb dX13_bits_4 rfl (lv_at hl 1 rfl) ?_
      refine lv_if_eq (tgt := 20) hx hb dX13_bits_5 (by decide) (fun cd => ?_) (fun cd => ?_)
      · have h := ifT cd h
        refine lv_iload_n hx hb dX13_bits_20 rfl (lv_at hl 0 rfl) ?_
        exact W.iret (v := x1_1) hx hb hr (fun t ht _ => ⟨_, rfl, Option.some.inj h, ht⟩) (fun _ q => by cases q) dX13_bits_21
      · have h := ifF cd h
        refine lv_iinc (v := x1_1 + 1) (lv' := [(1, .int (x1_1 + 1)), (2, .int x2_2)]) hx hb dX13_bits_8 hl (k := 0) rfl (by first | rfl | decide) (by decide) rfl (fun ls hl => ?_)
        refine lv_iload_n hx hb dX13_bits_11 rfl (lv_at hl 1 rfl) ?_
        refine lv_iload_n hx hb dX13_bits_12 rfl (lv_at hl 1 rfl) ?_
        refine lv_iconst (v := 1) hx hb dX13_bits_13 (by decide) ?_
        refine lv_isub hx hb dX13_bits_14 ?_
        refine lv_iand hx hb dX13_bits_15 ?_
        refine lv_istore_n (lv' := [(2, .int (x2_2 &&& (x2_2 - 1))), (1, .int (x1_1 + 1))]) hx hb dX13_bits_16 rfl hl (by decide) rfl (fun ls hl => ?_)
        refine lv_goto (tgt := 4) hx hb dX13_bits_17 (by decide) ?_
        exact ih4 (x1_1 + 1) (x2_2 &&& (x2_2 - 1)) h _ (lv_sub hl [1, 0] rfl)
  exact lp4 fuelN (0 : Int32) p0 h _ (lv_sub hl [1, 0] rfl)
noncomputable def f_X13_common_b17 (k17 : Int64 → Int64 → Option (Int64)) (x4 : Int64) (x6 : Int64) : Option (Int64) :=
  (if x6 = 0 then
  some (x4)
  else
  if x6 = 0 then none else
  k17 x6 (x4 - x4 / x6 * x6))
noncomputable def f_X13_common_L17 : Nat → Int64 → Int64 → Option (Int64)
  | 0 => fun _ _ => none
  | n + 1 => f_X13_common_b17 (f_X13_common_L17 n)
noncomputable def f_X13_common_B12 (x2 : Int64) (t0 : Int64) : Option (Int64) :=
  f_X13_common_L17 fuelN t0 x2
noncomputable def f_X13_common (p0 : Int64) (p2 : Int64) : Option (Int64) :=
  (if 0 ≤ p0 then
  f_X13_common_B12 p2 p0
  else
  f_X13_common_B12 p2 (-p0))
theorem hd_X13_common : yX13_common.cls ≠ "java/lang/invoke/MethodHandle" ∧ yX13_common.cls ≠ "java/lang/invoke/VarHandle" ∧ (parseMethodDescriptor yX13_common.desc).map (fun d => d.parameters.length) = some 2 := by decide +kernel
set_option maxHeartbeats 4000000 in
set_option maxRecDepth 100000 in
theorem c_X13_common (l : Launch) (D : va_G) (cy : Nat → ClassId) (p0 : Int64) (p2 : Int64) (res : Int64) (h : f_X13_common  p0 p2 = some (res)) : Met l yX13_common wo_X13_common ({ frames := 0, cells := 0, slots := 0, locals := 0 }) (roPc D cy [.long p0, .long p2] []) (vp_Sl (fun r => r = res)) 0 0 (fun _ => False) := by
  refine Met.ofW (cc := cX13_common) (maxL := 10) (ret := (some .long)) (by decide) rfl ?_
  intro p e s m args below meth c s₁ B hml hv
  obtain ⟨rfl, hP, hKN⟩ := hv
  have hK := hKN.1
  have hx := B.exec
  have hb := B.bytes
  have hr := B.returns
  have hts := wt_X13_common hKN.2.2 (([.long p0, .long p2] : List Value).toArray)
  have hown : s.vm.findClass RX13 = some m.cls := findClass_of_methodNamed B.named
  have hlocks := B.notSynchronized
  have hl := lv_entry ([.long p0, .long p2]) (n := 10) (Nat.le_of_ble_eq_true rfl)
  rw [lg_entry_eq]
  generalize (lg_sl ([.long p0, .long p2]) ++ List.replicate (10 - (lg_sl ([.long p0, .long p2])).length) Slot.unset).toArray = ls at hl ⊢
  have hl : lv_has ls 10 [(0, .long p0), (2, .long p2)] := hl
  unfold f_X13_common at h
  refine lv_lload_n hx hb dX13_common_0 rfl (lv_at hl 0 rfl) ?_
  refine lv_lconst (v := 0) hx hb dX13_common_1 (by decide) ?_
  refine W.lcmp hx hb dX13_common_2 ?_
  have jn12 : ∀ (t0_1 : Int64), f_X13_common_B12 p2 t0_1 = some (res) → ∀ ls : Array Slot, lv_has ls 10 [(2, .long p2)] → W p l e (headSpec wo_X13_common ({ frames := 0, cells := 0, slots := 0, locals := 0 })).room s m (([.long p0, .long p2] : List Value).toArray) below meth c s.heap [] 0 0 (MQ below (vp_Sl (fun r => r = res)) (([.long p0, .long p2] : List Value).toArray) s 0 0 (fun _ => False)) (F0 m 12 ls [.long t0_1]) := by
    intro t0_1 h ls hl
    unfold f_X13_common_B12 at h
    refine lv_lstore (lv' := [(4, .long t0_1), (2, .long p2)]) hx hb dX13_common_12 hl (by decide) rfl (fun ls hl => ?_)
    refine lv_lload_n hx hb dX13_common_14 rfl (lv_at hl 1 rfl) ?_
    refine lv_lstore (lv' := [(6, .long p2), (4, .long t0_1), (2, .long p2)]) hx hb dX13_common_15 hl (by decide) rfl (fun ls hl => ?_)
    have lp17 : ∀ (n17 : Nat) (x4_2 : Int64) (x6_3 : Int64), f_X13_common_L17 n17 x4_2 x6_3 = some (res) → ∀ ls : Array Slot, lv_has ls 10 [(4, .long x4_2), (6, .long x6_3)] → W p l e (headSpec wo_X13_common ({ frames := 0, cells := 0, slots := 0, locals := 0 })).room s m (([.long p0, .long p2] : List Value).toArray) below meth c s.heap [] 0 0 (MQ below (vp_Sl (fun r => r = res)) (([.long p0, .long p2] : List Value).toArray) s 0 0 (fun _ => False)) (F0 m 17 ls []) := by
      intro n17
      induction n17 with
      | zero => intro x4_2 x6_3 h; exact absurd (show (none : Option (Int64)) = some _ from h) (by intro q; cases q)
      | succ n17 ih17 =>
        intro x4_2 x6_3 h ls hl
        have h : f_X13_common_b17 (f_X13_common_L17 n17) x4_2 x6_3 = some (res) := h
        unfold f_X13_common_b17 at h
        refine lv_lload hx hb dX13_common_17 (lv_at hl 1 rfl) ?_
        refine lv_lconst (v := 0) hx hb dX13_common_19 (by decide) ?_
        refine W.lcmp hx hb dX13_common_20 ?_
        refine lv_if_eq (tgt := 42) hx hb dX13_common_21 (by decide) (fun cd => ?_) (fun cd => ?_)
        · have cd := (lgc_eq _ _).mp cd
          have h := ifT cd h
          refine lv_lload hx hb dX13_common_42 (lv_at hl 0 rfl) ?_
          exact W.lret (v := x4_2) hx hb hr (fun t ht _ => ⟨_, rfl, Option.some.inj h, ht⟩) (fun _ q => by cases q) dX13_common_44
        · have cd := fun q => cd ((lgc_eq _ _).mpr q)
          have h := ifF cd h
          refine lv_lload hx hb dX13_common_24 (lv_at hl 0 rfl) ?_
          refine lv_lload hx hb dX13_common_26 (lv_at hl 1 rfl) ?_
          obtain ⟨z_4, h⟩ := gNz_some h
          refine lv_lrem hx hb dX13_common_28 z_4 ?_
          refine lv_lstore (lv' := [(8, .long (x4_2 - x4_2 / x6_3 * x6_3)), (4, .long x4_2), (6, .long x6_3)]) hx hb dX13_common_29 hl (by decide) rfl (fun ls hl => ?_)
          refine lv_lload hx hb dX13_common_31 (lv_at hl 2 rfl) ?_
          refine lv_lstore (lv' := [(4, .long x6_3), (8, .long (x4_2 - x4_2 / x6_3 * x6_3)), (6, .long x6_3)]) hx hb dX13_common_33 hl (by decide) rfl (fun ls hl => ?_)
          refine lv_lload hx hb dX13_common_35 (lv_at hl 1 rfl) ?_
          refine lv_lstore (lv' := [(6, .long (x4_2 - x4_2 / x6_3 * x6_3)), (4, .long x6_3), (8, .long (x4_2 - x4_2 / x6_3 * x6_3))]) hx hb dX13_common_37 hl (by decide) rfl (fun ls hl => ?_)
          refine lv_goto (tgt := 17) hx hb dX13_common_39 (by decide) ?_
          exact ih17 x6_3 (x4_2 - x4_2 / x6_3 * x6_3) h _ (lv_sub hl [1, 0] rfl)
    exact lp17 fuelN t0_1 p2 h _ (lv_sub hl [1, 0] rfl)
  refine lv_if_ge (tgt := 11) hx hb dX13_common_3 (by decide) (fun cd => ?_) (fun cd => ?_)
  · have cd := (lgc_ge _ _).mp cd
    have h := ifT cd h
    refine lv_lload_n hx hb dX13_common_11 rfl (lv_at hl 0 rfl) ?_
    exact jn12 p0 h _ (lv_sub hl [1] rfl)
  · have cd := fun q => cd ((lgc_ge _ _).mpr q)
    have h := ifF cd h
    refine lv_lload_n hx hb dX13_common_6 rfl (lv_at hl 0 rfl) ?_
    refine lv_lneg hx hb dX13_common_7 ?_
    refine lv_goto (tgt := 12) hx hb dX13_common_8 (by decide) ?_
    exact jn12 (-p0) h _ (lv_sub hl [1] rfl)
noncomputable def f_X13_fraction_B16 (x1 : Int64) (x3 : Int64) (t0 : Int64) (mo_trouble : Int32) (mo_where : Int32) : Option (Int64 × Int32 × Int32) :=
  bd1 (f_X13_common  x1 x3) fun r_5 =>
  if r_5 = 0 then none else
  some (t0 / r_5, mo_trouble, mo_where)
noncomputable def f_X13_fraction (mo_trouble : Int32) (mo_where : Int32) (p1 : Int64) (p3 : Int64) (p5 : Int32) : Option (Int64 × Int32 × Int32) :=
  bd3 (f_X13_good mo_trouble mo_where (0 : Int32)) fun r_1 mo_trouble_2 mo_where_3 =>
  (if p5 = 0 then
  f_X13_fraction_B16 p1 p3 p1 mo_trouble_2 mo_where_3
  else
  f_X13_fraction_B16 p1 p3 p3 mo_trouble_2 mo_where_3)
theorem hd_X13_fraction : yX13_fraction.cls = RX13 ∧ yX13_fraction.cls ≠ "java/lang/invoke/MethodHandle" ∧ yX13_fraction.cls ≠ "java/lang/invoke/VarHandle" ∧ (parseMethodDescriptor yX13_fraction.desc).map (fun d => d.parameters.length) = some 3 := by decide +kernel
set_option maxHeartbeats 4000000 in
set_option maxRecDepth 100000 in
theorem c_X13_fraction (l : Launch) (D : va_G) (cy : Nat → ClassId) (A : Nat → Prop) (X : va_W) (a_mo : Nat) (mo_thrown : Int32) (mo_trouble : Int32) (mo_where : Int32) (mo_war : Value) (mo_read : Value) (mo_tape : Value) (mo_taped : Int32) (mo_size : Int32) (mo_spot : Int32) (mo_sort : Int32) (mo_place : Int32) (mo_number : Int32) (mo_fault : Int32) (mo_wrongAt : Int32) (mo_laneTold : Int32) (mo_word : Int64) (mo_v : Value) (mo_x : Value) (mo_past : Value) (mo_kept : Value) (mo_acts : Int32) (mo_marks : Int32) (mo_put : Value) (mo_bestPut : Value) (mo_bestSum : Int64) (mo_row : Value) (mo_best : Value) (mo_left : Value) (mo_bestSize : Int32) (mo_bestLeft : Int32) (mo_counts : Value) (mo_sets : Int32) (mo_foeHarm : Int32) (mo_ownHarm : Int32) (mo_across : Int32) (mo_sumFoe : Int32) (mo_sumOwn : Int32) (mo_sumWon : Int32) (mo_sumAcross : Int32) (p1 : Int64) (p3 : Int64) (p5 : Int32) (res : Int64) (mo_trouble' : Int32) (mo_where' : Int32) (h : f_X13_fraction mo_trouble mo_where p1 p3 p5 = some (res, mo_trouble', mo_where')) : Met l yX13_fraction wo_X13_fraction ({ frames := 1, cells := 0, slots := 0, locals := 29 }) (wrPc D cy A [.ref a_mo, .long p1, .long p3, .int p5] ([(a_mo, .inr (13, [.int mo_thrown, .int mo_trouble, .int mo_where, mo_war, mo_read, mo_tape, .int mo_taped, .int mo_size, .int mo_spot, .int mo_sort, .int mo_place, .int mo_number, .int mo_fault, .int mo_wrongAt, .int mo_laneTold, .long mo_word, mo_v, mo_x, mo_past, mo_kept, .int mo_acts, .int mo_marks, mo_put, mo_bestPut, .long mo_bestSum, mo_row, mo_best, mo_left, .int mo_bestSize, .int mo_bestLeft, mo_counts, .int mo_sets, .int mo_foeHarm, .int mo_ownHarm, .int mo_across, .int mo_sumFoe, .int mo_sumOwn, .int mo_sumWon, .int mo_sumAcross]))] ++ X)) (va_Ql (fun (r : Int64) (_ : Unit) => r = res) (wB D A ([(a_mo, .inr (13, [.int mo_thrown, .int mo_trouble', .int mo_where', mo_war, mo_read, mo_tape, .int mo_taped, .int mo_size, .int mo_spot, .int mo_sort, .int mo_place, .int mo_number, .int mo_fault, .int mo_wrongAt, .int mo_laneTold, .long mo_word, mo_v, mo_x, mo_past, mo_kept, .int mo_acts, .int mo_marks, mo_put, mo_bestPut, .long mo_bestSum, mo_row, mo_best, mo_left, .int mo_bestSize, .int mo_bestLeft, mo_counts, .int mo_sets, .int mo_foeHarm, .int mo_ownHarm, .int mo_across, .int mo_sumFoe, .int mo_sumOwn, .int mo_sumWon, .int mo_sumAcross]))] ++ X)) A) 0 0 A := by
  refine Met.ofW (cc := cX13_fraction) (maxL := 6) (ret := (some .long)) (by decide) rfl ?_
  intro p e s m args below meth c s₁ B hml hv
  obtain ⟨rfl, hP, hKN, hD, hA⟩ := hv
  have hK := hKN.1
  have hx := B.exec
  have hb := B.bytes
  have hr := B.returns
  have hts := wt_X13_fraction hKN.2.2 (([.ref a_mo, .long p1, .long p3, .int p5] : List Value).toArray)
  have hown : s.vm.findClass RX13 = some m.cls := findClass_of_methodNamed B.named
  have hlocks := B.notSynchronized
  have hS : va_S A s.heap s.heap [] := va_S.rf
  have hl := lv_entry ([.ref a_mo, .long p1, .long p3, .int p5]) (n := 6) (Nat.le_of_ble_eq_true rfl)
  rw [lg_entry_eq]
  generalize (lg_sl ([.ref a_mo, .long p1, .long p3, .int p5]) ++ List.replicate (6 - (lg_sl ([.ref a_mo, .long p1, .long p3, .int p5])).length) Slot.unset).toArray = ls at hl ⊢
  have hl : lv_has ls 6 [(0, .ref a_mo), (1, .long p1), (3, .long p3), (5, .int p5)] := hl
  unfold f_X13_fraction at h
  refine lv_aload_n hx hb dX13_fraction_0 rfl (lv_at hl 0 rfl) ?_
  refine lv_iconst (v := 0) hx hb dX13_fraction_1 (by decide) ?_
  obtain ⟨r_1, mo_trouble_2, mo_where_3, hc_4, h⟩ := bd3_some h
  refine wVi [.int 0] [] ⟨hx, hb, hml, hown, hts⟩ (c_X13_good l D cy A X a_mo mo_thrown mo_trouble mo_where (mo_war) (mo_read) (mo_tape) mo_taped mo_size mo_spot mo_sort mo_place mo_number mo_fault mo_wrongAt mo_laneTold mo_word (mo_v) (mo_x) (mo_past) (mo_kept) mo_acts mo_marks (mo_put) (mo_bestPut) mo_bestSum (mo_row) (mo_best) (mo_left) mo_bestSize mo_bestLeft (mo_counts) mo_sets mo_foeHarm mo_ownHarm mo_across mo_sumFoe mo_sumOwn mo_sumWon mo_sumAcross (0 : Int32) r_1 mo_trouble_2 mo_where_3 hc_4) gX13_fraction_X13_good rfl hd_X13_good ⟨Nat.le_of_ble_eq_true rfl, Nat.le_of_ble_eq_true rfl⟩ rfl rfl hKN hP hD hS hA 13 0 rfl rfl rfl hl.1 rfl (Nat.le_of_ble_eq_true rfl) dX13_fraction_2 ⟨Nat.le_of_ble_eq_true rfl, Nat.le_of_ble_eq_true rfl⟩ (fun H locs hP hD hS => ?_)
  refine lv_pop hx hb dX13_fraction_5 rfl ?_
  refine lv_iload hx hb dX13_fraction_6 (lv_at hl 3 rfl) ?_
  have jn16 : ∀ (t0_5 : Int64), f_X13_fraction_B16 p1 p3 t0_5 mo_trouble_2 mo_where_3 = some (res, mo_trouble', mo_where') → ∀ (H : Heap) (locs : List Loc), va_P D vwCl ([(a_mo, .inr (13, [.int mo_thrown, .int mo_trouble_2, .int mo_where_3, mo_war, mo_read, mo_tape, .int mo_taped, .int mo_size, .int mo_spot, .int mo_sort, .int mo_place, .int mo_number, .int mo_fault, .int mo_wrongAt, .int mo_laneTold, .long mo_word, mo_v, mo_x, mo_past, mo_kept, .int mo_acts, .int mo_marks, mo_put, mo_bestPut, .long mo_bestSum, mo_row, mo_best, mo_left, .int mo_bestSize, .int mo_bestLeft, mo_counts, .int mo_sets, .int mo_foeHarm, .int mo_ownHarm, .int mo_across, .int mo_sumFoe, .int mo_sumOwn, .int mo_sumWon, .int mo_sumAcross]))] ++ X) H → va_D A ([(a_mo, .inr (13, [.int mo_thrown, .int mo_trouble_2, .int mo_where_3, mo_war, mo_read, mo_tape, .int mo_taped, .int mo_size, .int mo_spot, .int mo_sort, .int mo_place, .int mo_number, .int mo_fault, .int mo_wrongAt, .int mo_laneTold, .long mo_word, mo_v, mo_x, mo_past, mo_kept, .int mo_acts, .int mo_marks, mo_put, mo_bestPut, .long mo_bestSum, mo_row, mo_best, mo_left, .int mo_bestSize, .int mo_bestLeft, mo_counts, .int mo_sets, .int mo_foeHarm, .int mo_ownHarm, .int mo_across, .int mo_sumFoe, .int mo_sumOwn, .int mo_sumWon, .int mo_sumAcross]))] ++ X) → va_S A s.heap H locs → ∀ ls : Array Slot, lv_has ls 6 [(1, .long p1), (3, .long p3)] → W p l e (headSpec wo_X13_fraction ({ frames := 1, cells := 0, slots := 0, locals := 29 })).room s m (([.ref a_mo, .long p1, .long p3, .int p5] : List Value).toArray) below meth c H locs 0 0 (MQ below (va_Ql (fun (r : Int64) (_ : Unit) => r = res) (wB D A ([(a_mo, .inr (13, [.int mo_thrown, .int mo_trouble', .int mo_where', mo_war, mo_read, mo_tape, .int mo_taped, .int mo_size, .int mo_spot, .int mo_sort, .int mo_place, .int mo_number, .int mo_fault, .int mo_wrongAt, .int mo_laneTold, .long mo_word, mo_v, mo_x, mo_past, mo_kept, .int mo_acts, .int mo_marks, mo_put, mo_bestPut, .long mo_bestSum, mo_row, mo_best, mo_left, .int mo_bestSize, .int mo_bestLeft, mo_counts, .int mo_sets, .int mo_foeHarm, .int mo_ownHarm, .int mo_across, .int mo_sumFoe, .int mo_sumOwn, .int mo_sumWon, .int mo_sumAcross]))] ++ X)) A) (([.ref a_mo, .long p1, .long p3, .int p5] : List Value).toArray) s 0 0 A) (F0 m 16 ls [.long t0_5]) := by
    intro t0_5 h H locs hP hD hS ls hl
    unfold f_X13_fraction_B16 at h
    refine lv_lload_n hx hb dX13_fraction_16 rfl (lv_at hl 0 rfl) ?_
    refine lv_lload_n hx hb dX13_fraction_17 rfl (lv_at hl 1 rfl) ?_
    obtain ⟨r_6, hc_7, h⟩ := bd1_some h
    refine kSl [.long p1, .long p3] [.long t0_5] ⟨hx, hb, hml, hown, hts⟩ (c_X13_common l D cy p1 p3 r_6 hc_7) gX13_fraction_X13_common rfl hd_X13_common ⟨Nat.le_of_ble_eq_true rfl, Nat.le_of_ble_eq_true rfl⟩ rfl rfl hKN va_nil rfl hl.1 rfl (Nat.le_of_ble_eq_true rfl) dX13_fraction_18 ⟨Nat.le_of_ble_eq_true rfl, Nat.le_of_ble_eq_true rfl⟩ ?_
    obtain ⟨z_8, h⟩ := gNz_some h
    refine lv_ldiv hx hb dX13_fraction_21 z_8 ?_
    cases h
    exact W.lret hx hb hr (fun t ht _ => ⟨⟨_, (), rfl, rfl, by rw [ht]; exact hP, hD⟩, hS.F ht⟩) hS.2.2 dX13_fraction_22
  refine lv_if_eq (tgt := 15) hx hb dX13_fraction_8 (by decide) (fun cd => ?_) (fun cd => ?_)
  · have h := ifT cd h
    refine lv_lload_n hx hb dX13_fraction_15 rfl (lv_at hl 1 rfl) ?_
    exact jn16 p1 h _ _ hP hD hS _ (lv_sub hl [1, 2] rfl)
  · have h := ifF cd h
    refine lv_lload_n hx hb dX13_fraction_11 rfl (lv_at hl 2 rfl) ?_
    refine lv_goto (tgt := 16) hx hb dX13_fraction_12 (by decide) ?_
    exact jn16 p3 h _ _ hP hD hS _ (lv_sub hl [1, 2] rfl)
noncomputable def f_X13_power_b5 (x0 : Int64) (x2 : Int32) (k5 : Int64 → Int32 → Option (Int64)) (x3 : Int64) (x5 : Int32) : Option (Int64) :=
  (if x2 ≤ x5 then
  some (x3)
  else
  k5 (x3 * x0) (x5 + 1))
noncomputable def f_X13_power_L5 (x0 : Int64) (x2 : Int32) : Nat → Int64 → Int32 → Option (Int64)
  | 0 => fun _ _ => none
  | n + 1 => f_X13_power_b5 x0 x2 (f_X13_power_L5 x0 x2 n)
noncomputable def f_X13_power (p0 : Int64) (p2 : Int32) : Option (Int64) :=
  f_X13_power_L5 p0 p2 fuelN 1 0
theorem hd_X13_power : yX13_power.cls ≠ "java/lang/invoke/MethodHandle" ∧ yX13_power.cls ≠ "java/lang/invoke/VarHandle" ∧ (parseMethodDescriptor yX13_power.desc).map (fun d => d.parameters.length) = some 2 := by decide +kernel
set_option maxHeartbeats 4000000 in
set_option maxRecDepth 100000 in
theorem c_X13_power (l : Launch) (D : va_G) (cy : Nat → ClassId) (p0 : Int64) (p2 : Int32) (res : Int64) (h : f_X13_power  p0 p2 = some (res)) : Met l yX13_power wo_X13_power ({ frames := 0, cells := 0, slots := 0, locals := 0 }) (roPc D cy [.long p0, .int p2] []) (vp_Sl (fun r => r = res)) 0 0 (fun _ => False) := by
  refine Met.ofW (cc := cX13_power) (maxL := 6) (ret := (some .long)) (by decide) rfl ?_
  intro p e s m args below meth c s₁ B hml hv
  obtain ⟨rfl, hP, hKN⟩ := hv
  have hK := hKN.1
  have hx := B.exec
  have hb := B.bytes
  have hr := B.returns
  have hts := wt_X13_power hKN.2.2 (([.long p0, .int p2] : List Value).toArray)
  have hown : s.vm.findClass RX13 = some m.cls := findClass_of_methodNamed B.named
  have hlocks := B.notSynchronized
  have hl := lv_entry ([.long p0, .int p2]) (n := 6) (Nat.le_of_ble_eq_true rfl)
  rw [lg_entry_eq]
  generalize (lg_sl ([.long p0, .int p2]) ++ List.replicate (6 - (lg_sl ([.long p0, .int p2])).length) Slot.unset).toArray = ls at hl ⊢
  have hl : lv_has ls 6 [(0, .long p0), (2, .int p2)] := hl
  unfold f_X13_power at h
  refine lv_lconst (v := 1) hx hb dX13_power_0 (by decide) ?_
  refine lv_lstore_n (lv' := [(3, .long 1), (0, .long p0), (2, .int p2)]) hx hb dX13_power_1 rfl hl (by decide) rfl (fun ls hl => ?_)
  refine lv_iconst (v := 0) hx hb dX13_power_2 (by decide) ?_
  refine lv_istore (lv' := [(5, .int 0), (3, .long 1), (0, .long p0), (2, .int p2)]) hx hb dX13_power_3 hl (by decide) rfl (fun ls hl => ?_)
  have lp5 : ∀ (n5 : Nat) (x3_1 : Int64) (x5_2 : Int32), f_X13_power_L5 p0 p2 n5 x3_1 x5_2 = some (res) → ∀ ls : Array Slot, lv_has ls 6 [(0, .long p0), (2, .int p2), (3, .long x3_1), (5, .int x5_2)] → W p l e (headSpec wo_X13_power ({ frames := 0, cells := 0, slots := 0, locals := 0 })).room s m (([.long p0, .int p2] : List Value).toArray) below meth c s.heap [] 0 0 (MQ below (vp_Sl (fun r => r = res)) (([.long p0, .int p2] : List Value).toArray) s 0 0 (fun _ => False)) (F0 m 5 ls []) := by
    intro n5
    induction n5 with
    | zero => intro x3_1 x5_2 h; exact absurd (show (none : Option (Int64)) = some _ from h) (by intro q; cases q)
    | succ n5 ih5 =>
      intro x3_1 x5_2 h ls hl
      have h : f_X13_power_b5 p0 p2 (f_X13_power_L5 p0 p2 n5) x3_1 x5_2 = some (res) := h
      unfold f_X13_power_b5 at h
      refine lv_iload hx hb dX13_power_5 (lv_at hl 3 rfl) ?_
      refine lv_iload_n hx hb dX13_power_7 rfl (lv_at hl 1 rfl) ?_
      refine lv_icmp_ge (tgt := 21) hx hb dX13_power_8 (by decide) (fun cd => ?_) (fun cd => ?_)
      · have h := ifT cd h
        refine lv_lload_n hx hb dX13_power_21 rfl (lv_at hl 2 rfl) ?_
        exact W.lret (v := x3_1) hx hb hr (fun t ht _ => ⟨_, rfl, Option.some.inj h, ht⟩) (fun _ q => by cases q) dX13_power_22
      · have h := ifF cd h
        refine lv_lload_n hx hb dX13_power_11 rfl (lv_at hl 2 rfl) ?_
        refine lv_lload_n hx hb dX13_power_12 rfl (lv_at hl 0 rfl) ?_
        refine lv_lmul hx hb dX13_power_13 ?_
        refine lv_lstore_n (lv' := [(3, .long (x3_1 * p0)), (0, .long p0), (2, .int p2), (5, .int x5_2)]) hx hb dX13_power_14 rfl hl (by decide) rfl (fun ls hl => ?_)
        refine lv_iinc (v := x5_2 + 1) (lv' := [(5, .int (x5_2 + 1)), (3, .long (x3_1 * p0)), (0, .long p0), (2, .int p2)]) hx hb dX13_power_15 hl (k := 3) rfl (by first | rfl | decide) (by decide) rfl (fun ls hl => ?_)
        refine lv_goto (tgt := 5) hx hb dX13_power_18 (by decide) ?_
        exact ih5 (x3_1 * p0) (x5_2 + 1) h _ (lv_sub hl [2, 3, 1, 0] rfl)
  exact lp5 fuelN (1 : Int64) (0 : Int32) h _ (lv_sub hl [2, 3, 1, 0] rfl)
noncomputable def f_X13_byteAt (mo_size : Int32) (mo_tape : Nat → Int32) (p1 : Int32) : Option (Int32) :=
  (if mo_size ≤ p1 then
  some ((-1))
  else
  gIn p1 900 <|
  some ((mo_tape p1.toNatClampNeg) &&& 255))
theorem hd_X13_byteAt : yX13_byteAt.cls = RX13 ∧ yX13_byteAt.cls ≠ "java/lang/invoke/MethodHandle" ∧ yX13_byteAt.cls ≠ "java/lang/invoke/VarHandle" ∧ (parseMethodDescriptor yX13_byteAt.desc).map (fun d => d.parameters.length) = some 1 := by decide +kernel
set_option maxHeartbeats 4000000 in
set_option maxRecDepth 100000 in
theorem c_X13_byteAt (l : Launch) (D : va_G) (cy : Nat → ClassId) (a_mo a_mo_tape : Nat) (mo_thrown : Int32) (mo_trouble : Int32) (mo_where : Int32) (mo_war : Value) (mo_read : Value) (mo_taped : Int32) (mo_size : Int32) (mo_spot : Int32) (mo_sort : Int32) (mo_place : Int32) (mo_number : Int32) (mo_fault : Int32) (mo_wrongAt : Int32) (mo_laneTold : Int32) (mo_word : Int64) (mo_v : Value) (mo_x : Value) (mo_past : Value) (mo_kept : Value) (mo_acts : Int32) (mo_marks : Int32) (mo_put : Value) (mo_bestPut : Value) (mo_bestSum : Int64) (mo_row : Value) (mo_best : Value) (mo_left : Value) (mo_bestSize : Int32) (mo_bestLeft : Int32) (mo_counts : Value) (mo_sets : Int32) (mo_foeHarm : Int32) (mo_ownHarm : Int32) (mo_across : Int32) (mo_sumFoe : Int32) (mo_sumOwn : Int32) (mo_sumWon : Int32) (mo_sumAcross : Int32) (mo_tape : Nat → Int32) (p1 : Int32) (res : Int32) (h : f_X13_byteAt mo_size mo_tape p1 = some (res)) : Met l yX13_byteAt wo_X13_byteAt ({ frames := 0, cells := 0, slots := 0, locals := 0 }) (roPc D cy [.ref a_mo, .int p1] [(a_mo, .inr (13, [.int mo_thrown, .int mo_trouble, .int mo_where, mo_war, mo_read, .ref a_mo_tape, .int mo_taped, .int mo_size, .int mo_spot, .int mo_sort, .int mo_place, .int mo_number, .int mo_fault, .int mo_wrongAt, .int mo_laneTold, .long mo_word, mo_v, mo_x, mo_past, mo_kept, .int mo_acts, .int mo_marks, mo_put, mo_bestPut, .long mo_bestSum, mo_row, mo_best, mo_left, .int mo_bestSize, .int mo_bestLeft, mo_counts, .int mo_sets, .int mo_foeHarm, .int mo_ownHarm, .int mo_across, .int mo_sumFoe, .int mo_sumOwn, .int mo_sumWon, .int mo_sumAcross])), (a_mo_tape, .inl (cy 0, 900, .inl mo_tape))]) (vp_Si (fun r => r = res)) 0 0 (fun _ => False) := by
  refine Met.ofW (cc := cX13_byteAt) (maxL := 2) (ret := (some .int)) (by decide) rfl ?_
  intro p e s m args below meth c s₁ B hml hv
  obtain ⟨rfl, hP, hKN⟩ := hv
  have hK := hKN.1
  have hx := B.exec
  have hb := B.bytes
  have hr := B.returns
  have hts := wt_X13_byteAt hKN.2.2 (([.ref a_mo, .int p1] : List Value).toArray)
  have hown : s.vm.findClass RX13 = some m.cls := findClass_of_methodNamed B.named
  have hlocks := B.notSynchronized
  have hX13 := wc_X13 hKN.2.2 (([.ref a_mo, .int p1] : List Value).toArray)
  have hl := lv_entry ([.ref a_mo, .int p1]) (n := 2) (Nat.le_of_ble_eq_true rfl)
  rw [lg_entry_eq]
  generalize (lg_sl ([.ref a_mo, .int p1]) ++ List.replicate (2 - (lg_sl ([.ref a_mo, .int p1])).length) Slot.unset).toArray = ls at hl ⊢
  have hl : lv_has ls 2 [(0, .ref a_mo), (1, .int p1)] := hl
  unfold f_X13_byteAt at h
  refine lv_iload_n hx hb dX13_byteAt_0 rfl (lv_at hl 1 rfl) ?_
  refine lv_aload_n hx hb dX13_byteAt_1 rfl (lv_at hl 0 rfl) ?_
  refine va_get (D := D) (ci := 13) (C := RX13) (T := TX13) (N := 39) (v := .int mo_size) hx hb hX13 (fun _ q => q) hown hK hP 0 rfl rfl 7 (by decide) (hts (.fieldLink RX13 67 "ElephantLineModel" "size" "I") (by decide +kernel)) (fun _ h9 => h9) rfl dX13_byteAt_2 ?_
  refine lv_icmp_ge (tgt := 21) hx hb dX13_byteAt_5 (by decide) (fun cd => ?_) (fun cd => ?_)
  · have h := ifT cd h
    refine lv_iconst (v := (-1)) hx hb dX13_byteAt_21 (by decide) ?_
    exact W.iret (v := (-1)) hx hb hr (fun t ht _ => ⟨_, rfl, Option.some.inj h, ht⟩) (fun _ q => by cases q) dX13_byteAt_22
  · have h := ifF cd h
    refine lv_aload_n hx hb dX13_byteAt_8 rfl (lv_at hl 0 rfl) ?_
    refine va_get (D := D) (ci := 13) (C := RX13) (T := TX13) (N := 39) (v := .ref a_mo_tape) hx hb hX13 (fun _ q => q) hown hK hP 0 rfl rfl 5 (by decide) (hts (.fieldLink RX13 13 "ElephantLineModel" "tape" "[B") (by decide +kernel)) (fun _ h9 => h9) rfl dX13_byteAt_9 ?_
    refine lv_iload_n hx hb dX13_byteAt_12 rfl (lv_at hl 1 rfl) ?_
    obtain ⟨i_1, h⟩ := gIn_some h
    refine va_bald hx hb hK hP 1 0 rfl rfl i_1 dX13_byteAt_13 ?_
    refine lv_sipush (v := 255) hx hb dX13_byteAt_14 (by decide) ?_
    refine lv_iand hx hb dX13_byteAt_17 ?_
    refine lv_goto (tgt := 22) hx hb dX13_byteAt_18 (by decide) ?_
    exact W.iret (v := (mo_tape p1.toNatClampNeg) &&& 255) hx hb hr (fun t ht _ => ⟨_, rfl, Option.some.inj h, ht⟩) (fun _ q => by cases q) dX13_byteAt_22
noncomputable def f_X13_isLetter (p0 : Int32) : Option (Int32) :=
  (if p0 < 97 then
  some (0)
  else
  (if 122 < p0 then
  some (0)
  else
  some (1)))
theorem hd_X13_isLetter : yX13_isLetter.cls ≠ "java/lang/invoke/MethodHandle" ∧ yX13_isLetter.cls ≠ "java/lang/invoke/VarHandle" ∧ (parseMethodDescriptor yX13_isLetter.desc).map (fun d => d.parameters.length) = some 1 := by decide +kernel
set_option maxHeartbeats 4000000 in
set_option maxRecDepth 100000 in
theorem c_X13_isLetter (l : Launch) (D : va_G) (cy : Nat → ClassId) (p0 : Int32) (res : Int32) (h : f_X13_isLetter  p0 = some (res)) : Met l yX13_isLetter wo_X13_isLetter ({ frames := 0, cells := 0, slots := 0, locals := 0 }) (roPc D cy [.int p0] []) (vp_Si (fun r => r = res ∧ nbv r)) 0 0 (fun _ => False) := by
  refine Met.ofW (cc := cX13_isLetter) (maxL := 1) (ret := (some .boolean)) (by decide) rfl ?_
  intro p e s m args below meth c s₁ B hml hv
  obtain ⟨rfl, hP, hKN⟩ := hv
  have hK := hKN.1
  have hx := B.exec
  have hb := B.bytes
  have hr := B.returns
  have hts := wt_X13_isLetter hKN.2.2 (([.int p0] : List Value).toArray)
  have hown : s.vm.findClass RX13 = some m.cls := findClass_of_methodNamed B.named
  have hlocks := B.notSynchronized
  have hl := lv_entry ([.int p0]) (n := 1) (Nat.le_of_ble_eq_true rfl)
  rw [lg_entry_eq]
  generalize (lg_sl ([.int p0]) ++ List.replicate (1 - (lg_sl ([.int p0])).length) Slot.unset).toArray = ls at hl ⊢
  have hl : lv_has ls 1 [(0, .int p0)] := hl
  unfold f_X13_isLetter at h
  refine lv_iload_n hx hb dX13_isLetter_0 rfl (lv_at hl 0 rfl) ?_
  refine lv_bipush (v := 97) hx hb dX13_isLetter_1 (by decide) ?_
  refine lv_icmp_lt (tgt := 16) hx hb dX13_isLetter_3 (by decide) (fun cd => ?_) (fun cd => ?_)
  · have h := ifT cd h
    refine lv_iconst (v := 0) hx hb dX13_isLetter_16 (by decide) ?_
    exact W.zret (ty := .boolean) (v := 0) hx hb hr (nbv.n nbv_0) (fun t ht _ => ⟨_, rfl, ⟨Option.some.inj h, nbv_0⟩, ht⟩) (fun _ q => by cases q) dX13_isLetter_17
  · have h := ifF cd h
    refine lv_iload_n hx hb dX13_isLetter_6 rfl (lv_at hl 0 rfl) ?_
    refine lv_bipush (v := 122) hx hb dX13_isLetter_7 (by decide) ?_
    refine lv_icmp_gt (tgt := 16) hx hb dX13_isLetter_9 (by decide) (fun cd => ?_) (fun cd => ?_)
    · have h := ifT cd h
      refine lv_iconst (v := 0) hx hb dX13_isLetter_16 (by decide) ?_
      exact W.zret (ty := .boolean) (v := 0) hx hb hr (nbv.n nbv_0) (fun t ht _ => ⟨_, rfl, ⟨Option.some.inj h, nbv_0⟩, ht⟩) (fun _ q => by cases q) dX13_isLetter_17
    · have h := ifF cd h
      refine lv_iconst (v := 1) hx hb dX13_isLetter_12 (by decide) ?_
      refine lv_goto (tgt := 17) hx hb dX13_isLetter_13 (by decide) ?_
      exact W.zret (ty := .boolean) (v := 1) hx hb hr (nbv.n nbv_1) (fun t ht _ => ⟨_, rfl, ⟨Option.some.inj h, nbv_1⟩, ht⟩) (fun _ q => by cases q) dX13_isLetter_17
noncomputable def f_X13_isDigit (p0 : Int32) : Option (Int32) :=
  (if p0 < 48 then
  some (0)
  else
  (if 57 < p0 then
  some (0)
  else
  some (1)))
theorem hd_X13_isDigit : yX13_isDigit.cls ≠ "java/lang/invoke/MethodHandle" ∧ yX13_isDigit.cls ≠ "java/lang/invoke/VarHandle" ∧ (parseMethodDescriptor yX13_isDigit.desc).map (fun d => d.parameters.length) = some 1 := by decide +kernel
set_option maxHeartbeats 4000000 in
set_option maxRecDepth 100000 in
theorem c_X13_isDigit (l : Launch) (D : va_G) (cy : Nat → ClassId) (p0 : Int32) (res : Int32) (h : f_X13_isDigit  p0 = some (res)) : Met l yX13_isDigit wo_X13_isDigit ({ frames := 0, cells := 0, slots := 0, locals := 0 }) (roPc D cy [.int p0] []) (vp_Si (fun r => r = res ∧ nbv r)) 0 0 (fun _ => False) := by
  refine Met.ofW (cc := cX13_isDigit) (maxL := 1) (ret := (some .boolean)) (by decide) rfl ?_
  intro p e s m args below meth c s₁ B hml hv
  obtain ⟨rfl, hP, hKN⟩ := hv
  have hK := hKN.1
  have hx := B.exec
  have hb := B.bytes
  have hr := B.returns
  have hts := wt_X13_isDigit hKN.2.2 (([.int p0] : List Value).toArray)
  have hown : s.vm.findClass RX13 = some m.cls := findClass_of_methodNamed B.named
  have hlocks := B.notSynchronized
  have hl := lv_entry ([.int p0]) (n := 1) (Nat.le_of_ble_eq_true rfl)
  rw [lg_entry_eq]
  generalize (lg_sl ([.int p0]) ++ List.replicate (1 - (lg_sl ([.int p0])).length) Slot.unset).toArray = ls at hl ⊢
  have hl : lv_has ls 1 [(0, .int p0)] := hl
  unfold f_X13_isDigit at h
  refine lv_iload_n hx hb dX13_isDigit_0 rfl (lv_at hl 0 rfl) ?_
  refine lv_bipush (v := 48) hx hb dX13_isDigit_1 (by decide) ?_
  refine lv_icmp_lt (tgt := 16) hx hb dX13_isDigit_3 (by decide) (fun cd => ?_) (fun cd => ?_)
  · have h := ifT cd h
    refine lv_iconst (v := 0) hx hb dX13_isDigit_16 (by decide) ?_
    exact W.zret (ty := .boolean) (v := 0) hx hb hr (nbv.n nbv_0) (fun t ht _ => ⟨_, rfl, ⟨Option.some.inj h, nbv_0⟩, ht⟩) (fun _ q => by cases q) dX13_isDigit_17
  · have h := ifF cd h
    refine lv_iload_n hx hb dX13_isDigit_6 rfl (lv_at hl 0 rfl) ?_
    refine lv_bipush (v := 57) hx hb dX13_isDigit_7 (by decide) ?_
    refine lv_icmp_gt (tgt := 16) hx hb dX13_isDigit_9 (by decide) (fun cd => ?_) (fun cd => ?_)
    · have h := ifT cd h
      refine lv_iconst (v := 0) hx hb dX13_isDigit_16 (by decide) ?_
      exact W.zret (ty := .boolean) (v := 0) hx hb hr (nbv.n nbv_0) (fun t ht _ => ⟨_, rfl, ⟨Option.some.inj h, nbv_0⟩, ht⟩) (fun _ q => by cases q) dX13_isDigit_17
    · have h := ifF cd h
      refine lv_iconst (v := 1) hx hb dX13_isDigit_12 (by decide) ?_
      refine lv_goto (tgt := 17) hx hb dX13_isDigit_13 (by decide) ?_
      exact W.zret (ty := .boolean) (v := 1) hx hb hr (nbv.n nbv_1) (fun t ht _ => ⟨_, rfl, ⟨Option.some.inj h, nbv_1⟩, ht⟩) (fun _ q => by cases q) dX13_isDigit_17
noncomputable def f_X13_packed_b4 (p0 : Nat) (k4 : Int64 → Int32 → Option (Int64)) (x1 : Int64) (x3 : Int32) : Option (Int64) :=
  (if (nI (lenT.getD p0 0)) ≤ x3 then
  some (x1)
  else
  gIn x3 (lenT.getD p0 0) <|
  k4 ((32 * x1) + ((((sch p0 x3.toNatClampNeg) - 97) + 1).toInt64)) (x3 + 1))
noncomputable def f_X13_packed_L4 (p0 : Nat) : Nat → Int64 → Int32 → Option (Int64)
  | 0 => fun _ _ => none
  | n + 1 => f_X13_packed_b4 p0 (f_X13_packed_L4 p0 n)
noncomputable def f_X13_packed (p0 : Nat) : Option (Int64) :=
  f_X13_packed_L4 p0 fuelN 0 0
theorem hd_X13_packed : yX13_packed.cls ≠ "java/lang/invoke/MethodHandle" ∧ yX13_packed.cls ≠ "java/lang/invoke/VarHandle" ∧ (parseMethodDescriptor yX13_packed.desc).map (fun d => d.parameters.length) = some 1 := by decide +kernel
set_option maxHeartbeats 4000000 in
set_option maxRecDepth 100000 in
theorem c_X13_packed (l : Launch) (D : va_G) (cy : Nat → ClassId) (sa sv : Nat → Nat) (p0 : Nat) (hi_p0 : p0 < nT) (res : Int64) (h : f_X13_packed  p0 = some (res)) : Met l yX13_packed wo_X13_packed ({ frames := 4, cells := 0, slots := 0, locals := 91 }) (roPcS D cy sa sv [.ref (sa p0)] []) (vp_Sl (fun r => r = res)) 0 0 (fun _ => False) := by
  refine Met.ofW (cc := cX13_packed) (maxL := 4) (ret := (some .long)) (by decide) rfl ?_
  intro p e s m args below meth c s₁ B hml hv
  obtain ⟨rfl, hP, hKN, hSS⟩ := hv
  have hK := hKN.1
  have hx := B.exec
  have hb := B.bytes
  have hr := B.returns
  have hts := wt_X13_packed hKN.2.2 (([.ref (sa p0)] : List Value).toArray)
  have hown : s.vm.findClass RX13 = some m.cls := findClass_of_methodNamed B.named
  have hlocks := B.notSynchronized
  have hl := lv_entry ([.ref (sa p0)]) (n := 4) (Nat.le_of_ble_eq_true rfl)
  rw [lg_entry_eq]
  generalize (lg_sl ([.ref (sa p0)]) ++ List.replicate (4 - (lg_sl ([.ref (sa p0)])).length) Slot.unset).toArray = ls at hl ⊢
  have hl : lv_has ls 4 [(0, .ref (sa p0))] := hl
  unfold f_X13_packed at h
  refine lv_lconst (v := 0) hx hb dX13_packed_0 (by decide) ?_
  refine lv_lstore_n (lv' := [(1, .long 0), (0, .ref (sa p0))]) hx hb dX13_packed_1 rfl hl (by decide) rfl (fun ls hl => ?_)
  refine lv_iconst (v := 0) hx hb dX13_packed_2 (by decide) ?_
  refine lv_istore_n (lv' := [(3, .int 0), (1, .long 0), (0, .ref (sa p0))]) hx hb dX13_packed_3 rfl hl (by decide) rfl (fun ls hl => ?_)
  have lp4 : ∀ (n4 : Nat) (x1_1 : Int64) (x3_2 : Int32), f_X13_packed_L4 p0 n4 x1_1 x3_2 = some (res) → ∀ ls : Array Slot, lv_has ls 4 [(0, .ref (sa p0)), (1, .long x1_1), (3, .int x3_2)] → W p l e (headSpec wo_X13_packed ({ frames := 4, cells := 0, slots := 0, locals := 91 })).room s m (([.ref (sa p0)] : List Value).toArray) below meth c s.heap [] 0 0 (MQ below (vp_Sl (fun r => r = res)) (([.ref (sa p0)] : List Value).toArray) s 0 0 (fun _ => False)) (F0 m 4 ls []) := by
    intro n4
    induction n4 with
    | zero => intro x1_1 x3_2 h; exact absurd (show (none : Option (Int64)) = some _ from h) (by intro q; cases q)
    | succ n4 ih4 =>
      intro x1_1 x3_2 h ls hl
      have h : f_X13_packed_b4 p0 (f_X13_packed_L4 p0 n4) x1_1 x3_2 = some (res) := h
      unfold f_X13_packed_b4 at h
      refine lv_iload_n hx hb dX13_packed_4 rfl (lv_at hl 2 rfl) ?_
      refine lv_aload_n hx hb dX13_packed_5 rfl (lv_at hl 0 rfl) ?_
      refine kT (i := p0) [] [.int x3_2] ⟨hx, hb, hml, hown, hts⟩ (c_J0_length_8abf5 l D cy sa sv p0 hi_p0) gX13_packed_J0_length_8abf5 rfl hd_J0_length_8abf5 ⟨Nat.le_of_ble_eq_true rfl, Nat.le_of_ble_eq_true rfl⟩ rfl rfl hKN hSS hi_p0 rfl hl.1 rfl (Nat.le_of_ble_eq_true rfl) dX13_packed_6 ⟨Nat.le_of_ble_eq_true rfl, Nat.le_of_ble_eq_true rfl⟩ ?_
      refine lv_icmp_ge (tgt := 36) hx hb dX13_packed_9 (by decide) (fun cd => ?_) (fun cd => ?_)
      · have h := ifT cd h
        refine lv_lload_n hx hb dX13_packed_36 rfl (lv_at hl 1 rfl) ?_
        exact W.lret (v := x1_1) hx hb hr (fun t ht _ => ⟨_, rfl, Option.some.inj h, ht⟩) (fun _ q => by cases q) dX13_packed_37
      · have h := ifF cd h
        refine lv_ldc2 (v := 32) hx hb hown (hts (.constantLong RX13 76 (32)) (by decide +kernel)) dX13_packed_12 ?_
        refine lv_lload_n hx hb dX13_packed_15 rfl (lv_at hl 1 rfl) ?_
        refine lv_lmul hx hb dX13_packed_16 ?_
        refine lv_aload_n hx hb dX13_packed_17 rfl (lv_at hl 0 rfl) ?_
        refine lv_iload_n hx hb dX13_packed_18 rfl (lv_at hl 2 rfl) ?_
        obtain ⟨i_3, h⟩ := gIn_some h
        refine kT (i := p0) [.int x3_2] [.long (32 * x1_1)] ⟨hx, hb, hml, hown, hts⟩ (c_J0_charAt_5068e l D cy sa sv p0 hi_p0 x3_2 i_3) gX13_packed_J0_charAt_5068e rfl hd_J0_charAt_5068e ⟨Nat.le_of_ble_eq_true rfl, Nat.le_of_ble_eq_true rfl⟩ rfl rfl hKN hSS hi_p0 rfl hl.1 rfl (Nat.le_of_ble_eq_true rfl) dX13_packed_19 ⟨Nat.le_of_ble_eq_true rfl, Nat.le_of_ble_eq_true rfl⟩ ?_
        refine lv_bipush (v := 97) hx hb dX13_packed_22 (by decide) ?_
        refine lv_isub hx hb dX13_packed_24 ?_
        refine lv_iconst (v := 1) hx hb dX13_packed_25 (by decide) ?_
        refine lv_iadd hx hb dX13_packed_26 ?_
        refine lv_i2l hx hb dX13_packed_27 rfl ?_
        refine lv_ladd hx hb dX13_packed_28 ?_
        refine lv_lstore_n (lv' := [(1, .long ((32 * x1_1) + ((((sch p0 x3_2.toNatClampNeg) - 97) + 1).toInt64))), (0, .ref (sa p0)), (3, .int x3_2)]) hx hb dX13_packed_29 rfl hl (by decide) rfl (fun ls hl => ?_)
        refine lv_iinc (v := x3_2 + 1) (lv' := [(3, .int (x3_2 + 1)), (1, .long ((32 * x1_1) + ((((sch p0 x3_2.toNatClampNeg) - 97) + 1).toInt64))), (0, .ref (sa p0))]) hx hb dX13_packed_30 hl (k := 2) rfl (by first | rfl | decide) (by decide) rfl (fun ls hl => ?_)
        refine lv_goto (tgt := 4) hx hb dX13_packed_33 (by decide) ?_
        exact ih4 ((32 * x1_1) + ((((sch p0 x3_2.toNatClampNeg) - 97) + 1).toInt64)) (x3_2 + 1) h _ (lv_sub hl [2, 1, 0] rfl)
  exact lp4 fuelN (0 : Int64) (0 : Int32) h _ (lv_sub hl [2, 1, 0] rfl)
noncomputable def f_X13_goesOn_B231 (mo_size : Int32) (mo_tape : Nat → Int32) (x2 : Int32) (mo_spot : Int32) (mo_sort : Int32) (mo_place : Int32) (mo_number : Int32) (mo_word : Int64) : Option (Int32 × Int32 × Int32 × Int32 × Int64) :=
  (if 3 < x2 then
  some (mo_spot, mo_sort, mo_place, mo_number, mo_word)
  else
  some (mo_spot, 3, mo_place, mo_number, mo_word))
noncomputable def f_X13_goesOn_B215 (k173 : Int32 → Int32 → Int32 → Option (Int32 × Int32 × Int32 × Int32 × Int64)) (mo_size : Int32) (mo_tape : Nat → Int32) (x2 : Int32) (mo_spot : Int32) (mo_sort : Int32) (mo_place : Int32) (mo_number : Int32) (mo_word : Int64) : Option (Int32 × Int32 × Int32 × Int32 × Int64) :=
  k173 (x2 + 1) (mo_spot + 1) mo_number
noncomputable def f_X13_goesOn_b173 (mo_size : Int32) (mo_tape : Nat → Int32) (mo_sort : Int32) (mo_place : Int32) (mo_word : Int64) (k173 : Int32 → Int32 → Int32 → Option (Int32 × Int32 × Int32 × Int32 × Int64)) (x2 : Int32) (mo_spot : Int32) (mo_number : Int32) : Option (Int32 × Int32 × Int32 × Int32 × Int64) :=
  bd1 (f_X13_byteAt mo_size mo_tape mo_spot) fun r_11 =>
  bd1 (f_X13_isDigit  r_11) fun r_13 =>
  (if r_13 = 0 then
  f_X13_goesOn_B231 mo_size mo_tape x2 mo_spot mo_sort mo_place mo_number mo_word
  else
  (if 3 ≤ x2 then
  f_X13_goesOn_B215 k173 mo_size mo_tape x2 mo_spot mo_sort mo_place mo_number mo_word
  else
  bd1 (f_X13_byteAt mo_size mo_tape mo_spot) fun r_16 =>
  f_X13_goesOn_B215 k173 mo_size mo_tape x2 mo_spot mo_sort mo_place (((10 * mo_number) + r_16) - 48) mo_word))
noncomputable def f_X13_goesOn_L173 (mo_size : Int32) (mo_tape : Nat → Int32) (mo_sort : Int32) (mo_place : Int32) (mo_word : Int64) : Nat → Int32 → Int32 → Int32 → Option (Int32 × Int32 × Int32 × Int32 × Int64)
  | 0 => fun _ _ _ => none
  | n + 1 => f_X13_goesOn_b173 mo_size mo_tape mo_sort mo_place mo_word (f_X13_goesOn_L173 mo_size mo_tape mo_sort mo_place mo_word n)
noncomputable def f_X13_goesOn_B147 (mo_size : Int32) (mo_tape : Nat → Int32) (x2 : Int32) (mo_spot : Int32) (mo_sort : Int32) (mo_place : Int32) (mo_number : Int32) (mo_word : Int64) : Option (Int32 × Int32 × Int32 × Int32 × Int64) :=
  (if 8 < x2 then
  some (mo_spot, mo_sort, mo_place, mo_number, mo_word)
  else
  some (mo_spot, 2, mo_place, mo_number, mo_word))
noncomputable def f_X13_goesOn_B131 (k84 : Int32 → Int32 → Int64 → Option (Int32 × Int32 × Int32 × Int32 × Int64)) (mo_size : Int32) (mo_tape : Nat → Int32) (x2 : Int32) (mo_spot : Int32) (mo_sort : Int32) (mo_place : Int32) (mo_number : Int32) (mo_word : Int64) : Option (Int32 × Int32 × Int32 × Int32 × Int64) :=
  k84 (x2 + 1) (mo_spot + 1) mo_word
noncomputable def f_X13_goesOn_b84 (mo_size : Int32) (mo_tape : Nat → Int32) (mo_sort : Int32) (mo_place : Int32) (mo_number : Int32) (k84 : Int32 → Int32 → Int64 → Option (Int32 × Int32 × Int32 × Int32 × Int64)) (x2 : Int32) (mo_spot : Int32) (mo_word : Int64) : Option (Int32 × Int32 × Int32 × Int32 × Int64) :=
  bd1 (f_X13_byteAt mo_size mo_tape mo_spot) fun r_18 =>
  bd1 (f_X13_isLetter  r_18) fun r_20 =>
  (if r_20 = 0 then
  f_X13_goesOn_B147 mo_size mo_tape x2 mo_spot mo_sort mo_place mo_number mo_word
  else
  (if 8 ≤ x2 then
  f_X13_goesOn_B131 k84 mo_size mo_tape x2 mo_spot mo_sort mo_place mo_number mo_word
  else
  bd1 (f_X13_byteAt mo_size mo_tape mo_spot) fun r_23 =>
  f_X13_goesOn_B131 k84 mo_size mo_tape x2 mo_spot mo_sort mo_place mo_number ((32 * mo_word) + (((r_23 - 97) + 1).toInt64))))
noncomputable def f_X13_goesOn_L84 (mo_size : Int32) (mo_tape : Nat → Int32) (mo_sort : Int32) (mo_place : Int32) (mo_number : Int32) : Nat → Int32 → Int32 → Int64 → Option (Int32 × Int32 × Int32 × Int32 × Int64)
  | 0 => fun _ _ _ => none
  | n + 1 => f_X13_goesOn_b84 mo_size mo_tape mo_sort mo_place mo_number (f_X13_goesOn_L84 mo_size mo_tape mo_sort mo_place mo_number n)
noncomputable def f_X13_goesOn_B35 (mo_size : Int32) (mo_tape : Nat → Int32) (mo_spot : Int32) (mo_sort : Int32) (mo_place : Int32) (mo_number : Int32) (mo_word : Int64) : Option (Int32 × Int32 × Int32 × Int32 × Int64) :=
  bd1 (f_X13_byteAt mo_size mo_tape mo_spot) fun r_3 =>
  (if r_3 = (-1) then
  some (mo_spot, 1, mo_spot, mo_number, mo_word)
  else
  bd1 (f_X13_isLetter  r_3) fun r_5 =>
  (if r_5 = 0 then
  bd1 (f_X13_isDigit  r_3) fun r_8 =>
  (if r_8 = 0 then
  (if r_3 = 59 then
  some (mo_spot + 1, 4, mo_spot, mo_number, mo_word)
  else
  some (mo_spot, 0, mo_spot, mo_number, mo_word))
  else
  f_X13_goesOn_L173 mo_size mo_tape 0 mo_spot mo_word fuelN 0 mo_spot 0)
  else
  f_X13_goesOn_L84 mo_size mo_tape 0 mo_spot mo_number fuelN 0 mo_spot 0))
noncomputable def f_X13_goesOn_b9 (mo_size : Int32) (mo_tape : Nat → Int32) (mo_sort : Int32) (mo_place : Int32) (mo_number : Int32) (mo_word : Int64) (k9 : Int32 → Option (Int32 × Int32 × Int32 × Int32 × Int64)) (mo_spot : Int32) : Option (Int32 × Int32 × Int32 × Int32 × Int64) :=
  bd1 (f_X13_byteAt mo_size mo_tape mo_spot) fun r_1 =>
  (if r_1 = 32 then
  k9 (mo_spot + 1)
  else
  f_X13_goesOn_B35 mo_size mo_tape mo_spot mo_sort mo_place mo_number mo_word)
noncomputable def f_X13_goesOn_L9 (mo_size : Int32) (mo_tape : Nat → Int32) (mo_sort : Int32) (mo_place : Int32) (mo_number : Int32) (mo_word : Int64) : Nat → Int32 → Option (Int32 × Int32 × Int32 × Int32 × Int64)
  | 0 => fun _ => none
  | n + 1 => f_X13_goesOn_b9 mo_size mo_tape mo_sort mo_place mo_number mo_word (f_X13_goesOn_L9 mo_size mo_tape mo_sort mo_place mo_number mo_word n)
noncomputable def f_X13_goesOn (mo_size : Int32) (mo_spot : Int32) (mo_sort : Int32) (mo_place : Int32) (mo_number : Int32) (mo_word : Int64) (mo_tape : Nat → Int32) : Option (Int32 × Int32 × Int32 × Int32 × Int64) :=
  (if mo_sort = 5 then
  some (mo_spot, mo_sort, mo_place, mo_number, mo_word)
  else
  f_X13_goesOn_L9 mo_size mo_tape mo_sort mo_place mo_number mo_word fuelN mo_spot)
theorem hd_X13_goesOn : yX13_goesOn.cls = RX13 ∧ yX13_goesOn.cls ≠ "java/lang/invoke/MethodHandle" ∧ yX13_goesOn.cls ≠ "java/lang/invoke/VarHandle" ∧ (parseMethodDescriptor yX13_goesOn.desc).map (fun d => d.parameters.length) = some 0 := by decide +kernel
set_option maxHeartbeats 4000000 in
set_option maxRecDepth 100000 in
theorem c_X13_goesOn (l : Launch) (D : va_G) (cy : Nat → ClassId) (A : Nat → Prop) (X : va_W) (a_mo a_mo_tape : Nat) (mo_thrown : Int32) (mo_trouble : Int32) (mo_where : Int32) (mo_war : Value) (mo_read : Value) (mo_taped : Int32) (mo_size : Int32) (mo_spot : Int32) (mo_sort : Int32) (mo_place : Int32) (mo_number : Int32) (mo_fault : Int32) (mo_wrongAt : Int32) (mo_laneTold : Int32) (mo_word : Int64) (mo_v : Value) (mo_x : Value) (mo_past : Value) (mo_kept : Value) (mo_acts : Int32) (mo_marks : Int32) (mo_put : Value) (mo_bestPut : Value) (mo_bestSum : Int64) (mo_row : Value) (mo_best : Value) (mo_left : Value) (mo_bestSize : Int32) (mo_bestLeft : Int32) (mo_counts : Value) (mo_sets : Int32) (mo_foeHarm : Int32) (mo_ownHarm : Int32) (mo_across : Int32) (mo_sumFoe : Int32) (mo_sumOwn : Int32) (mo_sumWon : Int32) (mo_sumAcross : Int32) (mo_tape : Nat → Int32) (mo_spot' : Int32) (mo_sort' : Int32) (mo_place' : Int32) (mo_number' : Int32) (mo_word' : Int64) (h : f_X13_goesOn mo_size mo_spot mo_sort mo_place mo_number mo_word mo_tape = some (mo_spot', mo_sort', mo_place', mo_number', mo_word')) : Met l yX13_goesOn wo_X13_goesOn ({ frames := 1, cells := 0, slots := 0, locals := 21 }) (wrPc D cy A [.ref a_mo] ([(a_mo, .inr (13, [.int mo_thrown, .int mo_trouble, .int mo_where, mo_war, mo_read, .ref a_mo_tape, .int mo_taped, .int mo_size, .int mo_spot, .int mo_sort, .int mo_place, .int mo_number, .int mo_fault, .int mo_wrongAt, .int mo_laneTold, .long mo_word, mo_v, mo_x, mo_past, mo_kept, .int mo_acts, .int mo_marks, mo_put, mo_bestPut, .long mo_bestSum, mo_row, mo_best, mo_left, .int mo_bestSize, .int mo_bestLeft, mo_counts, .int mo_sets, .int mo_foeHarm, .int mo_ownHarm, .int mo_across, .int mo_sumFoe, .int mo_sumOwn, .int mo_sumWon, .int mo_sumAcross])), (a_mo_tape, .inl (cy 0, 900, .inl mo_tape))] ++ X)) (va_Qv (fun (_ : Unit) => True) (wB D A ([(a_mo, .inr (13, [.int mo_thrown, .int mo_trouble, .int mo_where, mo_war, mo_read, .ref a_mo_tape, .int mo_taped, .int mo_size, .int mo_spot', .int mo_sort', .int mo_place', .int mo_number', .int mo_fault, .int mo_wrongAt, .int mo_laneTold, .long mo_word', mo_v, mo_x, mo_past, mo_kept, .int mo_acts, .int mo_marks, mo_put, mo_bestPut, .long mo_bestSum, mo_row, mo_best, mo_left, .int mo_bestSize, .int mo_bestLeft, mo_counts, .int mo_sets, .int mo_foeHarm, .int mo_ownHarm, .int mo_across, .int mo_sumFoe, .int mo_sumOwn, .int mo_sumWon, .int mo_sumAcross])), (a_mo_tape, .inl (cy 0, 900, .inl mo_tape))] ++ X)) A) 0 0 A := by
  refine Met.ofW (cc := cX13_goesOn) (maxL := 3) (ret := none) (by decide) rfl ?_
  intro p e s m args below meth c s₁ B hml hv
  obtain ⟨rfl, hP, hKN, hD, hA⟩ := hv
  have hK := hKN.1
  have hx := B.exec
  have hb := B.bytes
  have hr := B.returns
  have hts := wt_X13_goesOn hKN.2.2 (([.ref a_mo] : List Value).toArray)
  have hown : s.vm.findClass RX13 = some m.cls := findClass_of_methodNamed B.named
  have hlocks := B.notSynchronized
  have hS : va_S A s.heap s.heap [] := va_S.rf
  have hX13 := wc_X13 hKN.2.2 (([.ref a_mo] : List Value).toArray)
  have hl := lv_entry ([.ref a_mo]) (n := 3) (Nat.le_of_ble_eq_true rfl)
  rw [lg_entry_eq]
  generalize (lg_sl ([.ref a_mo]) ++ List.replicate (3 - (lg_sl ([.ref a_mo])).length) Slot.unset).toArray = ls at hl ⊢
  have hl : lv_has ls 3 [(0, .ref a_mo)] := hl
  unfold f_X13_goesOn at h
  refine lv_aload_n hx hb dX13_goesOn_0 rfl (lv_at hl 0 rfl) ?_
  refine va_get (D := D) (ci := 13) (C := RX13) (T := TX13) (N := 39) (v := .int mo_sort) hx hb hX13 (fun _ q => q) hown hK hP 0 rfl rfl 9 (by decide) (hts (.fieldLink RX13 82 "ElephantLineModel" "sort" "I") (by decide +kernel)) (fun _ h9 => h9) rfl dX13_goesOn_1 ?_
  refine lv_iconst (v := 5) hx hb dX13_goesOn_4 (by decide) ?_
  refine lv_icmp_ne (tgt := 9) hx hb dX13_goesOn_5 (by decide) (fun cd => ?_) (fun cd => ?_)
  · have h := ifF cd h
    have jn35 : ∀ (mo_spot_1 : Int32), f_X13_goesOn_B35 mo_size mo_tape mo_spot_1 mo_sort mo_place mo_number mo_word = some (mo_spot', mo_sort', mo_place', mo_number', mo_word') → ∀ (H : Heap) (locs : List Loc), va_P D vwCl ([(a_mo, .inr (13, [.int mo_thrown, .int mo_trouble, .int mo_where, mo_war, mo_read, .ref a_mo_tape, .int mo_taped, .int mo_size, .int mo_spot_1, .int mo_sort, .int mo_place, .int mo_number, .int mo_fault, .int mo_wrongAt, .int mo_laneTold, .long mo_word, mo_v, mo_x, mo_past, mo_kept, .int mo_acts, .int mo_marks, mo_put, mo_bestPut, .long mo_bestSum, mo_row, mo_best, mo_left, .int mo_bestSize, .int mo_bestLeft, mo_counts, .int mo_sets, .int mo_foeHarm, .int mo_ownHarm, .int mo_across, .int mo_sumFoe, .int mo_sumOwn, .int mo_sumWon, .int mo_sumAcross])), (a_mo_tape, .inl (cy 0, 900, .inl mo_tape))] ++ X) H → va_D A ([(a_mo, .inr (13, [.int mo_thrown, .int mo_trouble, .int mo_where, mo_war, mo_read, .ref a_mo_tape, .int mo_taped, .int mo_size, .int mo_spot_1, .int mo_sort, .int mo_place, .int mo_number, .int mo_fault, .int mo_wrongAt, .int mo_laneTold, .long mo_word, mo_v, mo_x, mo_past, mo_kept, .int mo_acts, .int mo_marks, mo_put, mo_bestPut, .long mo_bestSum, mo_row, mo_best, mo_left, .int mo_bestSize, .int mo_bestLeft, mo_counts, .int mo_sets, .int mo_foeHarm, .int mo_ownHarm, .int mo_across, .int mo_sumFoe, .int mo_sumOwn, .int mo_sumWon, .int mo_sumAcross])), (a_mo_tape, .inl (cy 0, 900, .inl mo_tape))] ++ X) → va_S A s.heap H locs → ∀ ls : Array Slot, lv_has ls 3 [(0, .ref a_mo)] → W p l e (headSpec wo_X13_goesOn ({ frames := 1, cells := 0, slots := 0, locals := 21 })).room s m (([.ref a_mo] : List Value).toArray) below meth c H locs 0 0 (MQ below (va_Qv (fun (_ : Unit) => True) (wB D A ([(a_mo, .inr (13, [.int mo_thrown, .int mo_trouble, .int mo_where, mo_war, mo_read, .ref a_mo_tape, .int mo_taped, .int mo_size, .int mo_spot', .int mo_sort', .int mo_place', .int mo_number', .int mo_fault, .int mo_wrongAt, .int mo_laneTold, .long mo_word', mo_v, mo_x, mo_past, mo_kept, .int mo_acts, .int mo_marks, mo_put, mo_bestPut, .long mo_bestSum, mo_row, mo_best, mo_left, .int mo_bestSize, .int mo_bestLeft, mo_counts, .int mo_sets, .int mo_foeHarm, .int mo_ownHarm, .int mo_across, .int mo_sumFoe, .int mo_sumOwn, .int mo_sumWon, .int mo_sumAcross])), (a_mo_tape, .inl (cy 0, 900, .inl mo_tape))] ++ X)) A) (([.ref a_mo] : List Value).toArray) s 0 0 A) (F0 m 35 ls []) := by
      intro mo_spot_1 h H locs hP hD hS ls hl
      unfold f_X13_goesOn_B35 at h
      refine lv_aload_n hx hb dX13_goesOn_35 rfl (lv_at hl 0 rfl) ?_
      refine lv_aload_n hx hb dX13_goesOn_36 rfl (lv_at hl 0 rfl) ?_
      refine va_get (D := D) (ci := 13) (C := RX13) (T := TX13) (N := 39) (v := .int mo_spot_1) hx hb hX13 (fun _ q => q) hown hK hP 0 rfl rfl 8 (by decide) (hts (.fieldLink RX13 85 "ElephantLineModel" "spot" "I") (by decide +kernel)) (fun _ h9 => h9) rfl dX13_goesOn_37 ?_
      refine va_put (D := D) (ci := 13) (C := RX13) (T := TX13) (N := 39) (v := .int mo_spot_1) (ty := .int) hx hb hX13 (fun _ q => q) tyX13 tyX13_ok nmX13 hown hK hP hD hS 0 rfl rfl 10 (by decide) (hts (.fieldLink RX13 91 "ElephantLineModel" "place" "I") (by decide +kernel)) (fun _ h9 => h9) rfl (tyX13_ok 10 (by decide)) rfl rfl (Nat.le_of_ble_eq_true rfl) dX13_goesOn_40 (fun H locs hP hD hS => ?_)
      refine lv_aload_n hx hb dX13_goesOn_43 rfl (lv_at hl 0 rfl) ?_
      refine lv_iconst (v := 0) hx hb dX13_goesOn_44 (by decide) ?_
      refine va_put (D := D) (ci := 13) (C := RX13) (T := TX13) (N := 39) (v := .int 0) (ty := .int) hx hb hX13 (fun _ q => q) tyX13 tyX13_ok nmX13 hown hK hP hD hS 0 rfl rfl 9 (by decide) (hts (.fieldLink RX13 82 "ElephantLineModel" "sort" "I") (by decide +kernel)) (fun _ h9 => h9) rfl (tyX13_ok 9 (by decide)) rfl rfl (Nat.le_of_ble_eq_true rfl) dX13_goesOn_45 (fun H locs hP hD hS => ?_)
      refine lv_aload_n hx hb dX13_goesOn_48 rfl (lv_at hl 0 rfl) ?_
      refine lv_aload_n hx hb dX13_goesOn_49 rfl (lv_at hl 0 rfl) ?_
      refine va_get (D := D) (ci := 13) (C := RX13) (T := TX13) (N := 39) (v := .int mo_spot_1) hx hb hX13 (fun _ q => q) hown hK hP 0 rfl rfl 8 (by decide) (hts (.fieldLink RX13 85 "ElephantLineModel" "spot" "I") (by decide +kernel)) (fun _ h9 => h9) rfl dX13_goesOn_50 ?_
      have hP : va_P D vwCl ([(a_mo, .inr (13, [.int mo_thrown, .int mo_trouble, .int mo_where, mo_war, mo_read, .ref a_mo_tape, .int mo_taped, .int mo_size, .int mo_spot_1, .int 0, .int mo_spot_1, .int mo_number, .int mo_fault, .int mo_wrongAt, .int mo_laneTold, .long mo_word, mo_v, mo_x, mo_past, mo_kept, .int mo_acts, .int mo_marks, mo_put, mo_bestPut, .long mo_bestSum, mo_row, mo_best, mo_left, .int mo_bestSize, .int mo_bestLeft, mo_counts, .int mo_sets, .int mo_foeHarm, .int mo_ownHarm, .int mo_across, .int mo_sumFoe, .int mo_sumOwn, .int mo_sumWon, .int mo_sumAcross])), (a_mo_tape, .inl (cy 0, 900, .inl mo_tape))] ++ X) H := hP
      have hD : va_D A ([(a_mo, .inr (13, [.int mo_thrown, .int mo_trouble, .int mo_where, mo_war, mo_read, .ref a_mo_tape, .int mo_taped, .int mo_size, .int mo_spot_1, .int 0, .int mo_spot_1, .int mo_number, .int mo_fault, .int mo_wrongAt, .int mo_laneTold, .long mo_word, mo_v, mo_x, mo_past, mo_kept, .int mo_acts, .int mo_marks, mo_put, mo_bestPut, .long mo_bestSum, mo_row, mo_best, mo_left, .int mo_bestSize, .int mo_bestLeft, mo_counts, .int mo_sets, .int mo_foeHarm, .int mo_ownHarm, .int mo_across, .int mo_sumFoe, .int mo_sumOwn, .int mo_sumWon, .int mo_sumAcross])), (a_mo_tape, .inl (cy 0, 900, .inl mo_tape))] ++ X) := hD
      obtain ⟨r_2, hc_3, h⟩ := bd1_some h
      refine kVi [.int mo_spot_1] [] ⟨hx, hb, hml, hown, hts⟩ (c_X13_byteAt l D cy a_mo a_mo_tape mo_thrown mo_trouble mo_where (mo_war) (mo_read) mo_taped mo_size mo_spot_1 0 mo_spot_1 mo_number mo_fault mo_wrongAt mo_laneTold mo_word (mo_v) (mo_x) (mo_past) (mo_kept) mo_acts mo_marks (mo_put) (mo_bestPut) mo_bestSum (mo_row) (mo_best) (mo_left) mo_bestSize mo_bestLeft (mo_counts) mo_sets mo_foeHarm mo_ownHarm mo_across mo_sumFoe mo_sumOwn mo_sumWon mo_sumAcross mo_tape mo_spot_1 r_2 hc_3) gX13_goesOn_X13_byteAt rfl hd_X13_byteAt ⟨Nat.le_of_ble_eq_true rfl, Nat.le_of_ble_eq_true rfl⟩ rfl rfl hKN (pXc hP [0, 1] rfl) 13 0 rfl rfl rfl hl.1 rfl (Nat.le_of_ble_eq_true rfl) dX13_goesOn_53 ⟨Nat.le_of_ble_eq_true rfl, Nat.le_of_ble_eq_true rfl⟩ ?_
      refine lv_istore_n (lv' := [(1, .int r_2), (0, .ref a_mo)]) hx hb dX13_goesOn_56 rfl hl (by decide) rfl (fun ls hl => ?_)
      refine lv_iconst (v := 0) hx hb dX13_goesOn_57 (by decide) ?_
      refine lv_istore_n (lv' := [(2, .int 0), (1, .int r_2), (0, .ref a_mo)]) hx hb dX13_goesOn_58 rfl hl (by decide) rfl (fun ls hl => ?_)
      refine lv_iload_n hx hb dX13_goesOn_59 rfl (lv_at hl 1 rfl) ?_
      refine lv_iconst (v := (-1)) hx hb dX13_goesOn_60 (by decide) ?_
      refine lv_icmp_ne (tgt := 72) hx hb dX13_goesOn_61 (by decide) (fun cd => ?_) (fun cd => ?_)
      · have h := ifF cd h
        refine lv_iload_n hx hb dX13_goesOn_72 rfl (lv_at hl 1 rfl) ?_
        obtain ⟨r_4, hc_5, h⟩ := bd1_some h
        refine kSb [.int r_2] [] ⟨hx, hb, hml, hown, hts⟩ (c_X13_isLetter l D cy r_2 r_4 hc_5) gX13_goesOn_X13_isLetter rfl hd_X13_isLetter ⟨Nat.le_of_ble_eq_true rfl, Nat.le_of_ble_eq_true rfl⟩ rfl rfl hKN va_nil rfl hl.1 rfl (Nat.le_of_ble_eq_true rfl) dX13_goesOn_73 ⟨Nat.le_of_ble_eq_true rfl, Nat.le_of_ble_eq_true rfl⟩ (fun nb_6 => ?_)
        refine lv_if_eq (tgt := 161) hx hb dX13_goesOn_76 (by decide) (fun cd => ?_) (fun cd => ?_)
        · have h := ifT cd h
          refine lv_iload_n hx hb dX13_goesOn_161 rfl (lv_at hl 1 rfl) ?_
          obtain ⟨r_7, hc_8, h⟩ := bd1_some h
          refine kSb [.int r_2] [] ⟨hx, hb, hml, hown, hts⟩ (c_X13_isDigit l D cy r_2 r_7 hc_8) gX13_goesOn_X13_isDigit rfl hd_X13_isDigit ⟨Nat.le_of_ble_eq_true rfl, Nat.le_of_ble_eq_true rfl⟩ rfl rfl hKN va_nil rfl hl.1 rfl (Nat.le_of_ble_eq_true rfl) dX13_goesOn_162 ⟨Nat.le_of_ble_eq_true rfl, Nat.le_of_ble_eq_true rfl⟩ (fun nb_9 => ?_)
          refine lv_if_eq (tgt := 244) hx hb dX13_goesOn_165 (by decide) (fun cd => ?_) (fun cd => ?_)
          · have h := ifT cd h
            refine lv_iload_n hx hb dX13_goesOn_244 rfl (lv_at hl 1 rfl) ?_
            refine lv_bipush (v := 59) hx hb dX13_goesOn_245 (by decide) ?_
            refine lv_icmp_ne (tgt := 265) hx hb dX13_goesOn_247 (by decide) (fun cd => ?_) (fun cd => ?_)
            · have h := ifF cd h
              cases h
              exact W.vret hx hb hr (fun t ht _ => ⟨⟨(), rfl, trivial, by rw [ht]; exact hP, hD⟩, hS.F ht⟩) hS.2.2 dX13_goesOn_265
            · have h := ifT cd h
              refine lv_aload_n hx hb dX13_goesOn_250 rfl (lv_at hl 2 rfl) ?_
              refine lv_iconst (v := 4) hx hb dX13_goesOn_251 (by decide) ?_
              refine va_put (D := D) (ci := 13) (C := RX13) (T := TX13) (N := 39) (v := .int 4) (ty := .int) hx hb hX13 (fun _ q => q) tyX13 tyX13_ok nmX13 hown hK hP hD hS 0 rfl rfl 9 (by decide) (hts (.fieldLink RX13 82 "ElephantLineModel" "sort" "I") (by decide +kernel)) (fun _ h9 => h9) rfl (tyX13_ok 9 (by decide)) rfl rfl (Nat.le_of_ble_eq_true rfl) dX13_goesOn_252 (fun H locs hP hD hS => ?_)
              refine lv_aload_n hx hb dX13_goesOn_255 rfl (lv_at hl 2 rfl) ?_
              refine lv_dup hx hb dX13_goesOn_256 rfl ?_
              refine va_get (D := D) (ci := 13) (C := RX13) (T := TX13) (N := 39) (v := .int mo_spot_1) hx hb hX13 (fun _ q => q) hown hK hP 0 rfl rfl 8 (by decide) (hts (.fieldLink RX13 85 "ElephantLineModel" "spot" "I") (by decide +kernel)) (fun _ h9 => h9) rfl dX13_goesOn_257 ?_
              refine lv_iconst (v := 1) hx hb dX13_goesOn_260 (by decide) ?_
              refine lv_iadd hx hb dX13_goesOn_261 ?_
              refine va_put (D := D) (ci := 13) (C := RX13) (T := TX13) (N := 39) (v := .int (mo_spot_1 + 1)) (ty := .int) hx hb hX13 (fun _ q => q) tyX13 tyX13_ok nmX13 hown hK hP hD hS 0 rfl rfl 8 (by decide) (hts (.fieldLink RX13 85 "ElephantLineModel" "spot" "I") (by decide +kernel)) (fun _ h9 => h9) rfl (tyX13_ok 8 (by decide)) rfl rfl (Nat.le_of_ble_eq_true rfl) dX13_goesOn_262 (fun H locs hP hD hS => ?_)
              cases h
              exact W.vret hx hb hr (fun t ht _ => ⟨⟨(), rfl, trivial, by rw [ht]; exact hP, hD⟩, hS.F ht⟩) hS.2.2 dX13_goesOn_265
          · have h := ifF cd h
            refine lv_aload_n hx hb dX13_goesOn_168 rfl (lv_at hl 2 rfl) ?_
            refine lv_iconst (v := 0) hx hb dX13_goesOn_169 (by decide) ?_
            refine va_put (D := D) (ci := 13) (C := RX13) (T := TX13) (N := 39) (v := .int 0) (ty := .int) hx hb hX13 (fun _ q => q) tyX13 tyX13_ok nmX13 hown hK hP hD hS 0 rfl rfl 11 (by decide) (hts (.fieldLink RX13 105 "ElephantLineModel" "number" "I") (by decide +kernel)) (fun _ h9 => h9) rfl (tyX13_ok 11 (by decide)) rfl rfl (Nat.le_of_ble_eq_true rfl) dX13_goesOn_170 (fun H locs hP hD hS => ?_)
            have jn231 : ∀ (x2_10 : Int32) (mo_spot_11 : Int32) (mo_number_12 : Int32), f_X13_goesOn_B231 mo_size mo_tape x2_10 mo_spot_11 0 mo_spot_1 mo_number_12 mo_word = some (mo_spot', mo_sort', mo_place', mo_number', mo_word') → ∀ (H : Heap) (locs : List Loc), va_P D vwCl ([(a_mo, .inr (13, [.int mo_thrown, .int mo_trouble, .int mo_where, mo_war, mo_read, .ref a_mo_tape, .int mo_taped, .int mo_size, .int mo_spot_11, .int 0, .int mo_spot_1, .int mo_number_12, .int mo_fault, .int mo_wrongAt, .int mo_laneTold, .long mo_word, mo_v, mo_x, mo_past, mo_kept, .int mo_acts, .int mo_marks, mo_put, mo_bestPut, .long mo_bestSum, mo_row, mo_best, mo_left, .int mo_bestSize, .int mo_bestLeft, mo_counts, .int mo_sets, .int mo_foeHarm, .int mo_ownHarm, .int mo_across, .int mo_sumFoe, .int mo_sumOwn, .int mo_sumWon, .int mo_sumAcross])), (a_mo_tape, .inl (cy 0, 900, .inl mo_tape))] ++ X) H → va_D A ([(a_mo, .inr (13, [.int mo_thrown, .int mo_trouble, .int mo_where, mo_war, mo_read, .ref a_mo_tape, .int mo_taped, .int mo_size, .int mo_spot_11, .int 0, .int mo_spot_1, .int mo_number_12, .int mo_fault, .int mo_wrongAt, .int mo_laneTold, .long mo_word, mo_v, mo_x, mo_past, mo_kept, .int mo_acts, .int mo_marks, mo_put, mo_bestPut, .long mo_bestSum, mo_row, mo_best, mo_left, .int mo_bestSize, .int mo_bestLeft, mo_counts, .int mo_sets, .int mo_foeHarm, .int mo_ownHarm, .int mo_across, .int mo_sumFoe, .int mo_sumOwn, .int mo_sumWon, .int mo_sumAcross])), (a_mo_tape, .inl (cy 0, 900, .inl mo_tape))] ++ X) → va_S A s.heap H locs → ∀ ls : Array Slot, lv_has ls 3 [(0, .ref a_mo), (2, .int x2_10)] → W p l e (headSpec wo_X13_goesOn ({ frames := 1, cells := 0, slots := 0, locals := 21 })).room s m (([.ref a_mo] : List Value).toArray) below meth c H locs 0 0 (MQ below (va_Qv (fun (_ : Unit) => True) (wB D A ([(a_mo, .inr (13, [.int mo_thrown, .int mo_trouble, .int mo_where, mo_war, mo_read, .ref a_mo_tape, .int mo_taped, .int mo_size, .int mo_spot', .int mo_sort', .int mo_place', .int mo_number', .int mo_fault, .int mo_wrongAt, .int mo_laneTold, .long mo_word', mo_v, mo_x, mo_past, mo_kept, .int mo_acts, .int mo_marks, mo_put, mo_bestPut, .long mo_bestSum, mo_row, mo_best, mo_left, .int mo_bestSize, .int mo_bestLeft, mo_counts, .int mo_sets, .int mo_foeHarm, .int mo_ownHarm, .int mo_across, .int mo_sumFoe, .int mo_sumOwn, .int mo_sumWon, .int mo_sumAcross])), (a_mo_tape, .inl (cy 0, 900, .inl mo_tape))] ++ X)) A) (([.ref a_mo] : List Value).toArray) s 0 0 A) (F0 m 231 ls []) := by
              intro x2_10 mo_spot_11 mo_number_12 h H locs hP hD hS ls hl
              unfold f_X13_goesOn_B231 at h
              refine lv_iload_n hx hb dX13_goesOn_231 rfl (lv_at hl 1 rfl) ?_
              refine lv_iconst (v := 3) hx hb dX13_goesOn_232 (by decide) ?_
              refine lv_icmp_gt (tgt := 265) hx hb dX13_goesOn_233 (by decide) (fun cd => ?_) (fun cd => ?_)
              · have h := ifT cd h
                cases h
                exact W.vret hx hb hr (fun t ht _ => ⟨⟨(), rfl, trivial, by rw [ht]; exact hP, hD⟩, hS.F ht⟩) hS.2.2 dX13_goesOn_265
              · have h := ifF cd h
                refine lv_aload_n hx hb dX13_goesOn_236 rfl (lv_at hl 0 rfl) ?_
                refine lv_iconst (v := 3) hx hb dX13_goesOn_237 (by decide) ?_
                refine va_put (D := D) (ci := 13) (C := RX13) (T := TX13) (N := 39) (v := .int 3) (ty := .int) hx hb hX13 (fun _ q => q) tyX13 tyX13_ok nmX13 hown hK hP hD hS 0 rfl rfl 9 (by decide) (hts (.fieldLink RX13 82 "ElephantLineModel" "sort" "I") (by decide +kernel)) (fun _ h9 => h9) rfl (tyX13_ok 9 (by decide)) rfl rfl (Nat.le_of_ble_eq_true rfl) dX13_goesOn_238 (fun H locs hP hD hS => ?_)
                refine lv_goto (tgt := 265) hx hb dX13_goesOn_241 (by decide) ?_
                cases h
                exact W.vret hx hb hr (fun t ht _ => ⟨⟨(), rfl, trivial, by rw [ht]; exact hP, hD⟩, hS.F ht⟩) hS.2.2 dX13_goesOn_265
            have lp173 : ∀ (n173 : Nat) (x2_13 : Int32) (mo_spot_14 : Int32) (mo_number_15 : Int32), f_X13_goesOn_L173 mo_size mo_tape 0 mo_spot_1 mo_word n173 x2_13 mo_spot_14 mo_number_15 = some (mo_spot', mo_sort', mo_place', mo_number', mo_word') → ∀ (H : Heap) (locs : List Loc), va_P D vwCl ([(a_mo, .inr (13, [.int mo_thrown, .int mo_trouble, .int mo_where, mo_war, mo_read, .ref a_mo_tape, .int mo_taped, .int mo_size, .int mo_spot_14, .int 0, .int mo_spot_1, .int mo_number_15, .int mo_fault, .int mo_wrongAt, .int mo_laneTold, .long mo_word, mo_v, mo_x, mo_past, mo_kept, .int mo_acts, .int mo_marks, mo_put, mo_bestPut, .long mo_bestSum, mo_row, mo_best, mo_left, .int mo_bestSize, .int mo_bestLeft, mo_counts, .int mo_sets, .int mo_foeHarm, .int mo_ownHarm, .int mo_across, .int mo_sumFoe, .int mo_sumOwn, .int mo_sumWon, .int mo_sumAcross])), (a_mo_tape, .inl (cy 0, 900, .inl mo_tape))] ++ X) H → va_D A ([(a_mo, .inr (13, [.int mo_thrown, .int mo_trouble, .int mo_where, mo_war, mo_read, .ref a_mo_tape, .int mo_taped, .int mo_size, .int mo_spot_14, .int 0, .int mo_spot_1, .int mo_number_15, .int mo_fault, .int mo_wrongAt, .int mo_laneTold, .long mo_word, mo_v, mo_x, mo_past, mo_kept, .int mo_acts, .int mo_marks, mo_put, mo_bestPut, .long mo_bestSum, mo_row, mo_best, mo_left, .int mo_bestSize, .int mo_bestLeft, mo_counts, .int mo_sets, .int mo_foeHarm, .int mo_ownHarm, .int mo_across, .int mo_sumFoe, .int mo_sumOwn, .int mo_sumWon, .int mo_sumAcross])), (a_mo_tape, .inl (cy 0, 900, .inl mo_tape))] ++ X) → va_S A s.heap H locs → ∀ ls : Array Slot, lv_has ls 3 [(0, .ref a_mo), (2, .int x2_13)] → W p l e (headSpec wo_X13_goesOn ({ frames := 1, cells := 0, slots := 0, locals := 21 })).room s m (([.ref a_mo] : List Value).toArray) below meth c H locs 0 0 (MQ below (va_Qv (fun (_ : Unit) => True) (wB D A ([(a_mo, .inr (13, [.int mo_thrown, .int mo_trouble, .int mo_where, mo_war, mo_read, .ref a_mo_tape, .int mo_taped, .int mo_size, .int mo_spot', .int mo_sort', .int mo_place', .int mo_number', .int mo_fault, .int mo_wrongAt, .int mo_laneTold, .long mo_word', mo_v, mo_x, mo_past, mo_kept, .int mo_acts, .int mo_marks, mo_put, mo_bestPut, .long mo_bestSum, mo_row, mo_best, mo_left, .int mo_bestSize, .int mo_bestLeft, mo_counts, .int mo_sets, .int mo_foeHarm, .int mo_ownHarm, .int mo_across, .int mo_sumFoe, .int mo_sumOwn, .int mo_sumWon, .int mo_sumAcross])), (a_mo_tape, .inl (cy 0, 900, .inl mo_tape))] ++ X)) A) (([.ref a_mo] : List Value).toArray) s 0 0 A) (F0 m 173 ls []) := by
              intro n173
              induction n173 with
              | zero => intro x2_13 mo_spot_14 mo_number_15 h; exact absurd (show (none : Option (Int32 × Int32 × Int32 × Int32 × Int64)) = some _ from h) (by intro q; cases q)
              | succ n173 ih173 =>
                intro x2_13 mo_spot_14 mo_number_15 h H locs hP hD hS ls hl
                have h : f_X13_goesOn_b173 mo_size mo_tape 0 mo_spot_1 mo_word (f_X13_goesOn_L173 mo_size mo_tape 0 mo_spot_1 mo_word n173) x2_13 mo_spot_14 mo_number_15 = some (mo_spot', mo_sort', mo_place', mo_number', mo_word') := h
                unfold f_X13_goesOn_b173 at h
                refine lv_aload_n hx hb dX13_goesOn_173 rfl (lv_at hl 0 rfl) ?_
                refine lv_aload_n hx hb dX13_goesOn_174 rfl (lv_at hl 0 rfl) ?_
                refine va_get (D := D) (ci := 13) (C := RX13) (T := TX13) (N := 39) (v := .int mo_spot_14) hx hb hX13 (fun _ q => q) hown hK hP 0 rfl rfl 8 (by decide) (hts (.fieldLink RX13 85 "ElephantLineModel" "spot" "I") (by decide +kernel)) (fun _ h9 => h9) rfl dX13_goesOn_175 ?_
                obtain ⟨r_16, hc_17, h⟩ := bd1_some h
                refine kVi [.int mo_spot_14] [] ⟨hx, hb, hml, hown, hts⟩ (c_X13_byteAt l D cy a_mo a_mo_tape mo_thrown mo_trouble mo_where (mo_war) (mo_read) mo_taped mo_size mo_spot_14 0 mo_spot_1 mo_number_15 mo_fault mo_wrongAt mo_laneTold mo_word (mo_v) (mo_x) (mo_past) (mo_kept) mo_acts mo_marks (mo_put) (mo_bestPut) mo_bestSum (mo_row) (mo_best) (mo_left) mo_bestSize mo_bestLeft (mo_counts) mo_sets mo_foeHarm mo_ownHarm mo_across mo_sumFoe mo_sumOwn mo_sumWon mo_sumAcross mo_tape mo_spot_14 r_16 hc_17) gX13_goesOn_X13_byteAt rfl hd_X13_byteAt ⟨Nat.le_of_ble_eq_true rfl, Nat.le_of_ble_eq_true rfl⟩ rfl rfl hKN (pXc hP [0, 1] rfl) 13 0 rfl rfl rfl hl.1 rfl (Nat.le_of_ble_eq_true rfl) dX13_goesOn_178 ⟨Nat.le_of_ble_eq_true rfl, Nat.le_of_ble_eq_true rfl⟩ ?_
                obtain ⟨r_18, hc_19, h⟩ := bd1_some h
                refine kSb [.int r_16] [] ⟨hx, hb, hml, hown, hts⟩ (c_X13_isDigit l D cy r_16 r_18 hc_19) gX13_goesOn_X13_isDigit rfl hd_X13_isDigit ⟨Nat.le_of_ble_eq_true rfl, Nat.le_of_ble_eq_true rfl⟩ rfl rfl hKN va_nil rfl hl.1 rfl (Nat.le_of_ble_eq_true rfl) dX13_goesOn_181 ⟨Nat.le_of_ble_eq_true rfl, Nat.le_of_ble_eq_true rfl⟩ (fun nb_20 => ?_)
                refine lv_if_eq (tgt := 231) hx hb dX13_goesOn_184 (by decide) (fun cd => ?_) (fun cd => ?_)
                · have h := ifT cd h
                  exact jn231 x2_13 mo_spot_14 mo_number_15 h _ _ hP hD hS _ (lv_sub hl [0, 1] rfl)
                · have h := ifF cd h
                  refine lv_iload_n hx hb dX13_goesOn_187 rfl (lv_at hl 1 rfl) ?_
                  refine lv_iconst (v := 3) hx hb dX13_goesOn_188 (by decide) ?_
                  have jn215 : ∀ (mo_number_21 : Int32), f_X13_goesOn_B215 (f_X13_goesOn_L173 mo_size mo_tape 0 mo_spot_1 mo_word n173) mo_size mo_tape x2_13 mo_spot_14 0 mo_spot_1 mo_number_21 mo_word = some (mo_spot', mo_sort', mo_place', mo_number', mo_word') → ∀ (H : Heap) (locs : List Loc), va_P D vwCl ([(a_mo, .inr (13, [.int mo_thrown, .int mo_trouble, .int mo_where, mo_war, mo_read, .ref a_mo_tape, .int mo_taped, .int mo_size, .int mo_spot_14, .int 0, .int mo_spot_1, .int mo_number_21, .int mo_fault, .int mo_wrongAt, .int mo_laneTold, .long mo_word, mo_v, mo_x, mo_past, mo_kept, .int mo_acts, .int mo_marks, mo_put, mo_bestPut, .long mo_bestSum, mo_row, mo_best, mo_left, .int mo_bestSize, .int mo_bestLeft, mo_counts, .int mo_sets, .int mo_foeHarm, .int mo_ownHarm, .int mo_across, .int mo_sumFoe, .int mo_sumOwn, .int mo_sumWon, .int mo_sumAcross])), (a_mo_tape, .inl (cy 0, 900, .inl mo_tape))] ++ X) H → va_D A ([(a_mo, .inr (13, [.int mo_thrown, .int mo_trouble, .int mo_where, mo_war, mo_read, .ref a_mo_tape, .int mo_taped, .int mo_size, .int mo_spot_14, .int 0, .int mo_spot_1, .int mo_number_21, .int mo_fault, .int mo_wrongAt, .int mo_laneTold, .long mo_word, mo_v, mo_x, mo_past, mo_kept, .int mo_acts, .int mo_marks, mo_put, mo_bestPut, .long mo_bestSum, mo_row, mo_best, mo_left, .int mo_bestSize, .int mo_bestLeft, mo_counts, .int mo_sets, .int mo_foeHarm, .int mo_ownHarm, .int mo_across, .int mo_sumFoe, .int mo_sumOwn, .int mo_sumWon, .int mo_sumAcross])), (a_mo_tape, .inl (cy 0, 900, .inl mo_tape))] ++ X) → va_S A s.heap H locs → ∀ ls : Array Slot, lv_has ls 3 [(0, .ref a_mo), (2, .int x2_13)] → W p l e (headSpec wo_X13_goesOn ({ frames := 1, cells := 0, slots := 0, locals := 21 })).room s m (([.ref a_mo] : List Value).toArray) below meth c H locs 0 0 (MQ below (va_Qv (fun (_ : Unit) => True) (wB D A ([(a_mo, .inr (13, [.int mo_thrown, .int mo_trouble, .int mo_where, mo_war, mo_read, .ref a_mo_tape, .int mo_taped, .int mo_size, .int mo_spot', .int mo_sort', .int mo_place', .int mo_number', .int mo_fault, .int mo_wrongAt, .int mo_laneTold, .long mo_word', mo_v, mo_x, mo_past, mo_kept, .int mo_acts, .int mo_marks, mo_put, mo_bestPut, .long mo_bestSum, mo_row, mo_best, mo_left, .int mo_bestSize, .int mo_bestLeft, mo_counts, .int mo_sets, .int mo_foeHarm, .int mo_ownHarm, .int mo_across, .int mo_sumFoe, .int mo_sumOwn, .int mo_sumWon, .int mo_sumAcross])), (a_mo_tape, .inl (cy 0, 900, .inl mo_tape))] ++ X)) A) (([.ref a_mo] : List Value).toArray) s 0 0 A) (F0 m 215 ls []) := by
                    intro mo_number_21 h H locs hP hD hS ls hl
                    unfold f_X13_goesOn_B215 at h
                    refine lv_iinc (v := x2_13 + 1) (lv' := [(2, .int (x2_13 + 1)), (0, .ref a_mo)]) hx hb dX13_goesOn_215 hl (k := 1) rfl (by first | rfl | decide) (by decide) rfl (fun ls hl => ?_)
                    refine lv_aload_n hx hb dX13_goesOn_218 rfl (lv_at hl 1 rfl) ?_
                    refine lv_dup hx hb dX13_goesOn_219 rfl ?_
                    refine va_get (D := D) (ci := 13) (C := RX13) (T := TX13) (N := 39) (v := .int mo_spot_14) hx hb hX13 (fun _ q => q) hown hK hP 0 rfl rfl 8 (by decide) (hts (.fieldLink RX13 85 "ElephantLineModel" "spot" "I") (by decide +kernel)) (fun _ h9 => h9) rfl dX13_goesOn_220 ?_
                    refine lv_iconst (v := 1) hx hb dX13_goesOn_223 (by decide) ?_
                    refine lv_iadd hx hb dX13_goesOn_224 ?_
                    refine va_put (D := D) (ci := 13) (C := RX13) (T := TX13) (N := 39) (v := .int (mo_spot_14 + 1)) (ty := .int) hx hb hX13 (fun _ q => q) tyX13 tyX13_ok nmX13 hown hK hP hD hS 0 rfl rfl 8 (by decide) (hts (.fieldLink RX13 85 "ElephantLineModel" "spot" "I") (by decide +kernel)) (fun _ h9 => h9) rfl (tyX13_ok 8 (by decide)) rfl rfl (Nat.le_of_ble_eq_true rfl) dX13_goesOn_225 (fun H locs hP hD hS => ?_)
                    refine lv_goto (tgt := 173) hx hb dX13_goesOn_228 (by decide) ?_
                    exact ih173 (x2_13 + 1) (mo_spot_14 + 1) mo_number_21 h _ _ hP hD hS _ (lv_sub hl [1, 0] rfl)
                  refine lv_icmp_ge (tgt := 215) hx hb dX13_goesOn_189 (by decide) (fun cd => ?_) (fun cd => ?_)
                  · have h := ifT cd h
                    exact jn215 mo_number_15 h _ _ hP hD hS _ (lv_sub hl [0, 1] rfl)
                  · have h := ifF cd h
                    refine lv_aload_n hx hb dX13_goesOn_192 rfl (lv_at hl 0 rfl) ?_
                    refine lv_bipush (v := 10) hx hb dX13_goesOn_193 (by decide) ?_
                    refine lv_aload_n hx hb dX13_goesOn_195 rfl (lv_at hl 0 rfl) ?_
                    refine va_get (D := D) (ci := 13) (C := RX13) (T := TX13) (N := 39) (v := .int mo_number_15) hx hb hX13 (fun _ q => q) hown hK hP 0 rfl rfl 11 (by decide) (hts (.fieldLink RX13 105 "ElephantLineModel" "number" "I") (by decide +kernel)) (fun _ h9 => h9) rfl dX13_goesOn_196 ?_
                    refine lv_imul hx hb dX13_goesOn_199 ?_
                    refine lv_aload_n hx hb dX13_goesOn_200 rfl (lv_at hl 0 rfl) ?_
                    refine lv_aload_n hx hb dX13_goesOn_201 rfl (lv_at hl 0 rfl) ?_
                    refine va_get (D := D) (ci := 13) (C := RX13) (T := TX13) (N := 39) (v := .int mo_spot_14) hx hb hX13 (fun _ q => q) hown hK hP 0 rfl rfl 8 (by decide) (hts (.fieldLink RX13 85 "ElephantLineModel" "spot" "I") (by decide +kernel)) (fun _ h9 => h9) rfl dX13_goesOn_202 ?_
                    obtain ⟨r_22, hc_23, h⟩ := bd1_some h
                    refine kVi [.int mo_spot_14] [.int (10 * mo_number_15), .ref a_mo] ⟨hx, hb, hml, hown, hts⟩ (c_X13_byteAt l D cy a_mo a_mo_tape mo_thrown mo_trouble mo_where (mo_war) (mo_read) mo_taped mo_size mo_spot_14 0 mo_spot_1 mo_number_15 mo_fault mo_wrongAt mo_laneTold mo_word (mo_v) (mo_x) (mo_past) (mo_kept) mo_acts mo_marks (mo_put) (mo_bestPut) mo_bestSum (mo_row) (mo_best) (mo_left) mo_bestSize mo_bestLeft (mo_counts) mo_sets mo_foeHarm mo_ownHarm mo_across mo_sumFoe mo_sumOwn mo_sumWon mo_sumAcross mo_tape mo_spot_14 r_22 hc_23) gX13_goesOn_X13_byteAt rfl hd_X13_byteAt ⟨Nat.le_of_ble_eq_true rfl, Nat.le_of_ble_eq_true rfl⟩ rfl rfl hKN (pXc hP [0, 1] rfl) 13 0 rfl rfl rfl hl.1 rfl (Nat.le_of_ble_eq_true rfl) dX13_goesOn_205 ⟨Nat.le_of_ble_eq_true rfl, Nat.le_of_ble_eq_true rfl⟩ ?_
                    refine lv_iadd hx hb dX13_goesOn_208 ?_
                    refine lv_bipush (v := 48) hx hb dX13_goesOn_209 (by decide) ?_
                    refine lv_isub hx hb dX13_goesOn_211 ?_
                    refine va_put (D := D) (ci := 13) (C := RX13) (T := TX13) (N := 39) (v := .int (((10 * mo_number_15) + r_22) - 48)) (ty := .int) hx hb hX13 (fun _ q => q) tyX13 tyX13_ok nmX13 hown hK hP hD hS 0 rfl rfl 11 (by decide) (hts (.fieldLink RX13 105 "ElephantLineModel" "number" "I") (by decide +kernel)) (fun _ h9 => h9) rfl (tyX13_ok 11 (by decide)) rfl rfl (Nat.le_of_ble_eq_true rfl) dX13_goesOn_212 (fun H locs hP hD hS => ?_)
                    exact jn215 (((10 * mo_number_15) + r_22) - 48) h _ _ hP hD hS _ (lv_sub hl [0, 1] rfl)
            exact lp173 fuelN (0 : Int32) mo_spot_1 (0 : Int32) h _ _ hP hD hS _ (lv_sub hl [2, 0] rfl)
        · have h := ifF cd h
          refine lv_aload_n hx hb dX13_goesOn_79 rfl (lv_at hl 2 rfl) ?_
          refine lv_lconst (v := 0) hx hb dX13_goesOn_80 (by decide) ?_
          refine va_put (D := D) (ci := 13) (C := RX13) (T := TX13) (N := 39) (v := .long 0) (ty := .long) hx hb hX13 (fun _ q => q) tyX13 tyX13_ok nmX13 hown hK hP hD hS 0 rfl rfl 15 (by decide) (hts (.fieldLink RX13 98 "ElephantLineModel" "word" "J") (by decide +kernel)) (fun _ h9 => h9) rfl (tyX13_ok 15 (by decide)) rfl rfl (Nat.le_of_ble_eq_true rfl) dX13_goesOn_81 (fun H locs hP hD hS => ?_)
          have jn147 : ∀ (x2_24 : Int32) (mo_spot_25 : Int32) (mo_word_26 : Int64), f_X13_goesOn_B147 mo_size mo_tape x2_24 mo_spot_25 0 mo_spot_1 mo_number mo_word_26 = some (mo_spot', mo_sort', mo_place', mo_number', mo_word') → ∀ (H : Heap) (locs : List Loc), va_P D vwCl ([(a_mo, .inr (13, [.int mo_thrown, .int mo_trouble, .int mo_where, mo_war, mo_read, .ref a_mo_tape, .int mo_taped, .int mo_size, .int mo_spot_25, .int 0, .int mo_spot_1, .int mo_number, .int mo_fault, .int mo_wrongAt, .int mo_laneTold, .long mo_word_26, mo_v, mo_x, mo_past, mo_kept, .int mo_acts, .int mo_marks, mo_put, mo_bestPut, .long mo_bestSum, mo_row, mo_best, mo_left, .int mo_bestSize, .int mo_bestLeft, mo_counts, .int mo_sets, .int mo_foeHarm, .int mo_ownHarm, .int mo_across, .int mo_sumFoe, .int mo_sumOwn, .int mo_sumWon, .int mo_sumAcross])), (a_mo_tape, .inl (cy 0, 900, .inl mo_tape))] ++ X) H → va_D A ([(a_mo, .inr (13, [.int mo_thrown, .int mo_trouble, .int mo_where, mo_war, mo_read, .ref a_mo_tape, .int mo_taped, .int mo_size, .int mo_spot_25, .int 0, .int mo_spot_1, .int mo_number, .int mo_fault, .int mo_wrongAt, .int mo_laneTold, .long mo_word_26, mo_v, mo_x, mo_past, mo_kept, .int mo_acts, .int mo_marks, mo_put, mo_bestPut, .long mo_bestSum, mo_row, mo_best, mo_left, .int mo_bestSize, .int mo_bestLeft, mo_counts, .int mo_sets, .int mo_foeHarm, .int mo_ownHarm, .int mo_across, .int mo_sumFoe, .int mo_sumOwn, .int mo_sumWon, .int mo_sumAcross])), (a_mo_tape, .inl (cy 0, 900, .inl mo_tape))] ++ X) → va_S A s.heap H locs → ∀ ls : Array Slot, lv_has ls 3 [(0, .ref a_mo), (2, .int x2_24)] → W p l e (headSpec wo_X13_goesOn ({ frames := 1, cells := 0, slots := 0, locals := 21 })).room s m (([.ref a_mo] : List Value).toArray) below meth c H locs 0 0 (MQ below (va_Qv (fun (_ : Unit) => True) (wB D A ([(a_mo, .inr (13, [.int mo_thrown, .int mo_trouble, .int mo_where, mo_war, mo_read, .ref a_mo_tape, .int mo_taped, .int mo_size, .int mo_spot', .int mo_sort', .int mo_place', .int mo_number', .int mo_fault, .int mo_wrongAt, .int mo_laneTold, .long mo_word', mo_v, mo_x, mo_past, mo_kept, .int mo_acts, .int mo_marks, mo_put, mo_bestPut, .long mo_bestSum, mo_row, mo_best, mo_left, .int mo_bestSize, .int mo_bestLeft, mo_counts, .int mo_sets, .int mo_foeHarm, .int mo_ownHarm, .int mo_across, .int mo_sumFoe, .int mo_sumOwn, .int mo_sumWon, .int mo_sumAcross])), (a_mo_tape, .inl (cy 0, 900, .inl mo_tape))] ++ X)) A) (([.ref a_mo] : List Value).toArray) s 0 0 A) (F0 m 147 ls []) := by
            intro x2_24 mo_spot_25 mo_word_26 h H locs hP hD hS ls hl
            unfold f_X13_goesOn_B147 at h
            refine lv_iload_n hx hb dX13_goesOn_147 rfl (lv_at hl 1 rfl) ?_
            refine lv_bipush (v := 8) hx hb dX13_goesOn_148 (by decide) ?_
            refine lv_icmp_gt (tgt := 265) hx hb dX13_goesOn_150 (by decide) (fun cd => ?_) (fun cd => ?_)
            · have h := ifT cd h
              cases h
              exact W.vret hx hb hr (fun t ht _ => ⟨⟨(), rfl, trivial, by rw [ht]; exact hP, hD⟩, hS.F ht⟩) hS.2.2 dX13_goesOn_265
            · have h := ifF cd h
              refine lv_aload_n hx hb dX13_goesOn_153 rfl (lv_at hl 0 rfl) ?_
              refine lv_iconst (v := 2) hx hb dX13_goesOn_154 (by decide) ?_
              refine va_put (D := D) (ci := 13) (C := RX13) (T := TX13) (N := 39) (v := .int 2) (ty := .int) hx hb hX13 (fun _ q => q) tyX13 tyX13_ok nmX13 hown hK hP hD hS 0 rfl rfl 9 (by decide) (hts (.fieldLink RX13 82 "ElephantLineModel" "sort" "I") (by decide +kernel)) (fun _ h9 => h9) rfl (tyX13_ok 9 (by decide)) rfl rfl (Nat.le_of_ble_eq_true rfl) dX13_goesOn_155 (fun H locs hP hD hS => ?_)
              refine lv_goto (tgt := 265) hx hb dX13_goesOn_158 (by decide) ?_
              cases h
              exact W.vret hx hb hr (fun t ht _ => ⟨⟨(), rfl, trivial, by rw [ht]; exact hP, hD⟩, hS.F ht⟩) hS.2.2 dX13_goesOn_265
          have lp84 : ∀ (n84 : Nat) (x2_27 : Int32) (mo_spot_28 : Int32) (mo_word_29 : Int64), f_X13_goesOn_L84 mo_size mo_tape 0 mo_spot_1 mo_number n84 x2_27 mo_spot_28 mo_word_29 = some (mo_spot', mo_sort', mo_place', mo_number', mo_word') → ∀ (H : Heap) (locs : List Loc), va_P D vwCl ([(a_mo, .inr (13, [.int mo_thrown, .int mo_trouble, .int mo_where, mo_war, mo_read, .ref a_mo_tape, .int mo_taped, .int mo_size, .int mo_spot_28, .int 0, .int mo_spot_1, .int mo_number, .int mo_fault, .int mo_wrongAt, .int mo_laneTold, .long mo_word_29, mo_v, mo_x, mo_past, mo_kept, .int mo_acts, .int mo_marks, mo_put, mo_bestPut, .long mo_bestSum, mo_row, mo_best, mo_left, .int mo_bestSize, .int mo_bestLeft, mo_counts, .int mo_sets, .int mo_foeHarm, .int mo_ownHarm, .int mo_across, .int mo_sumFoe, .int mo_sumOwn, .int mo_sumWon, .int mo_sumAcross])), (a_mo_tape, .inl (cy 0, 900, .inl mo_tape))] ++ X) H → va_D A ([(a_mo, .inr (13, [.int mo_thrown, .int mo_trouble, .int mo_where, mo_war, mo_read, .ref a_mo_tape, .int mo_taped, .int mo_size, .int mo_spot_28, .int 0, .int mo_spot_1, .int mo_number, .int mo_fault, .int mo_wrongAt, .int mo_laneTold, .long mo_word_29, mo_v, mo_x, mo_past, mo_kept, .int mo_acts, .int mo_marks, mo_put, mo_bestPut, .long mo_bestSum, mo_row, mo_best, mo_left, .int mo_bestSize, .int mo_bestLeft, mo_counts, .int mo_sets, .int mo_foeHarm, .int mo_ownHarm, .int mo_across, .int mo_sumFoe, .int mo_sumOwn, .int mo_sumWon, .int mo_sumAcross])), (a_mo_tape, .inl (cy 0, 900, .inl mo_tape))] ++ X) → va_S A s.heap H locs → ∀ ls : Array Slot, lv_has ls 3 [(0, .ref a_mo), (2, .int x2_27)] → W p l e (headSpec wo_X13_goesOn ({ frames := 1, cells := 0, slots := 0, locals := 21 })).room s m (([.ref a_mo] : List Value).toArray) below meth c H locs 0 0 (MQ below (va_Qv (fun (_ : Unit) => True) (wB D A ([(a_mo, .inr (13, [.int mo_thrown, .int mo_trouble, .int mo_where, mo_war, mo_read, .ref a_mo_tape, .int mo_taped, .int mo_size, .int mo_spot', .int mo_sort', .int mo_place', .int mo_number', .int mo_fault, .int mo_wrongAt, .int mo_laneTold, .long mo_word', mo_v, mo_x, mo_past, mo_kept, .int mo_acts, .int mo_marks, mo_put, mo_bestPut, .long mo_bestSum, mo_row, mo_best, mo_left, .int mo_bestSize, .int mo_bestLeft, mo_counts, .int mo_sets, .int mo_foeHarm, .int mo_ownHarm, .int mo_across, .int mo_sumFoe, .int mo_sumOwn, .int mo_sumWon, .int mo_sumAcross])), (a_mo_tape, .inl (cy 0, 900, .inl mo_tape))] ++ X)) A) (([.ref a_mo] : List Value).toArray) s 0 0 A) (F0 m 84 ls []) := by
            intro n84
            induction n84 with
            | zero => intro x2_27 mo_spot_28 mo_word_29 h; exact absurd (show (none : Option (Int32 × Int32 × Int32 × Int32 × Int64)) = some _ from h) (by intro q; cases q)
            | succ n84 ih84 =>
              intro x2_27 mo_spot_28 mo_word_29 h H locs hP hD hS ls hl
              have h : f_X13_goesOn_b84 mo_size mo_tape 0 mo_spot_1 mo_number (f_X13_goesOn_L84 mo_size mo_tape 0 mo_spot_1 mo_number n84) x2_27 mo_spot_28 mo_word_29 = some (mo_spot', mo_sort', mo_place', mo_number', mo_word') := h
              unfold f_X13_goesOn_b84 at h
              refine lv_aload_n hx hb dX13_goesOn_84 rfl (lv_at hl 0 rfl) ?_
              refine lv_aload_n hx hb dX13_goesOn_85 rfl (lv_at hl 0 rfl) ?_
              refine va_get (D := D) (ci := 13) (C := RX13) (T := TX13) (N := 39) (v := .int mo_spot_28) hx hb hX13 (fun _ q => q) hown hK hP 0 rfl rfl 8 (by decide) (hts (.fieldLink RX13 85 "ElephantLineModel" "spot" "I") (by decide +kernel)) (fun _ h9 => h9) rfl dX13_goesOn_86 ?_
              obtain ⟨r_30, hc_31, h⟩ := bd1_some h
              refine kVi [.int mo_spot_28] [] ⟨hx, hb, hml, hown, hts⟩ (c_X13_byteAt l D cy a_mo a_mo_tape mo_thrown mo_trouble mo_where (mo_war) (mo_read) mo_taped mo_size mo_spot_28 0 mo_spot_1 mo_number mo_fault mo_wrongAt mo_laneTold mo_word_29 (mo_v) (mo_x) (mo_past) (mo_kept) mo_acts mo_marks (mo_put) (mo_bestPut) mo_bestSum (mo_row) (mo_best) (mo_left) mo_bestSize mo_bestLeft (mo_counts) mo_sets mo_foeHarm mo_ownHarm mo_across mo_sumFoe mo_sumOwn mo_sumWon mo_sumAcross mo_tape mo_spot_28 r_30 hc_31) gX13_goesOn_X13_byteAt rfl hd_X13_byteAt ⟨Nat.le_of_ble_eq_true rfl, Nat.le_of_ble_eq_true rfl⟩ rfl rfl hKN (pXc hP [0, 1] rfl) 13 0 rfl rfl rfl hl.1 rfl (Nat.le_of_ble_eq_true rfl) dX13_goesOn_89 ⟨Nat.le_of_ble_eq_true rfl, Nat.le_of_ble_eq_true rfl⟩ ?_
              obtain ⟨r_32, hc_33, h⟩ := bd1_some h
              refine kSb [.int r_30] [] ⟨hx, hb, hml, hown, hts⟩ (c_X13_isLetter l D cy r_30 r_32 hc_33) gX13_goesOn_X13_isLetter rfl hd_X13_isLetter ⟨Nat.le_of_ble_eq_true rfl, Nat.le_of_ble_eq_true rfl⟩ rfl rfl hKN va_nil rfl hl.1 rfl (Nat.le_of_ble_eq_true rfl) dX13_goesOn_92 ⟨Nat.le_of_ble_eq_true rfl, Nat.le_of_ble_eq_true rfl⟩ (fun nb_34 => ?_)
              refine lv_if_eq (tgt := 147) hx hb dX13_goesOn_95 (by decide) (fun cd => ?_) (fun cd => ?_)
              · have h := ifT cd h
                exact jn147 x2_27 mo_spot_28 mo_word_29 h _ _ hP hD hS _ (lv_sub hl [0, 1] rfl)
              · have h := ifF cd h
                refine lv_iload_n hx hb dX13_goesOn_98 rfl (lv_at hl 1 rfl) ?_
                refine lv_bipush (v := 8) hx hb dX13_goesOn_99 (by decide) ?_
                have jn131 : ∀ (mo_word_35 : Int64), f_X13_goesOn_B131 (f_X13_goesOn_L84 mo_size mo_tape 0 mo_spot_1 mo_number n84) mo_size mo_tape x2_27 mo_spot_28 0 mo_spot_1 mo_number mo_word_35 = some (mo_spot', mo_sort', mo_place', mo_number', mo_word') → ∀ (H : Heap) (locs : List Loc), va_P D vwCl ([(a_mo, .inr (13, [.int mo_thrown, .int mo_trouble, .int mo_where, mo_war, mo_read, .ref a_mo_tape, .int mo_taped, .int mo_size, .int mo_spot_28, .int 0, .int mo_spot_1, .int mo_number, .int mo_fault, .int mo_wrongAt, .int mo_laneTold, .long mo_word_35, mo_v, mo_x, mo_past, mo_kept, .int mo_acts, .int mo_marks, mo_put, mo_bestPut, .long mo_bestSum, mo_row, mo_best, mo_left, .int mo_bestSize, .int mo_bestLeft, mo_counts, .int mo_sets, .int mo_foeHarm, .int mo_ownHarm, .int mo_across, .int mo_sumFoe, .int mo_sumOwn, .int mo_sumWon, .int mo_sumAcross])), (a_mo_tape, .inl (cy 0, 900, .inl mo_tape))] ++ X) H → va_D A ([(a_mo, .inr (13, [.int mo_thrown, .int mo_trouble, .int mo_where, mo_war, mo_read, .ref a_mo_tape, .int mo_taped, .int mo_size, .int mo_spot_28, .int 0, .int mo_spot_1, .int mo_number, .int mo_fault, .int mo_wrongAt, .int mo_laneTold, .long mo_word_35, mo_v, mo_x, mo_past, mo_kept, .int mo_acts, .int mo_marks, mo_put, mo_bestPut, .long mo_bestSum, mo_row, mo_best, mo_left, .int mo_bestSize, .int mo_bestLeft, mo_counts, .int mo_sets, .int mo_foeHarm, .int mo_ownHarm, .int mo_across, .int mo_sumFoe, .int mo_sumOwn, .int mo_sumWon, .int mo_sumAcross])), (a_mo_tape, .inl (cy 0, 900, .inl mo_tape))] ++ X) → va_S A s.heap H locs → ∀ ls : Array Slot, lv_has ls 3 [(0, .ref a_mo), (2, .int x2_27)] → W p l e (headSpec wo_X13_goesOn ({ frames := 1, cells := 0, slots := 0, locals := 21 })).room s m (([.ref a_mo] : List Value).toArray) below meth c H locs 0 0 (MQ below (va_Qv (fun (_ : Unit) => True) (wB D A ([(a_mo, .inr (13, [.int mo_thrown, .int mo_trouble, .int mo_where, mo_war, mo_read, .ref a_mo_tape, .int mo_taped, .int mo_size, .int mo_spot', .int mo_sort', .int mo_place', .int mo_number', .int mo_fault, .int mo_wrongAt, .int mo_laneTold, .long mo_word', mo_v, mo_x, mo_past, mo_kept, .int mo_acts, .int mo_marks, mo_put, mo_bestPut, .long mo_bestSum, mo_row, mo_best, mo_left, .int mo_bestSize, .int mo_bestLeft, mo_counts, .int mo_sets, .int mo_foeHarm, .int mo_ownHarm, .int mo_across, .int mo_sumFoe, .int mo_sumOwn, .int mo_sumWon, .int mo_sumAcross])), (a_mo_tape, .inl (cy 0, 900, .inl mo_tape))] ++ X)) A) (([.ref a_mo] : List Value).toArray) s 0 0 A) (F0 m 131 ls []) := by
                  intro mo_word_35 h H locs hP hD hS ls hl
                  unfold f_X13_goesOn_B131 at h
                  refine lv_iinc (v := x2_27 + 1) (lv' := [(2, .int (x2_27 + 1)), (0, .ref a_mo)]) hx hb dX13_goesOn_131 hl (k := 1) rfl (by first | rfl | decide) (by decide) rfl (fun ls hl => ?_)
                  refine lv_aload_n hx hb dX13_goesOn_134 rfl (lv_at hl 1 rfl) ?_
                  refine lv_dup hx hb dX13_goesOn_135 rfl ?_
                  refine va_get (D := D) (ci := 13) (C := RX13) (T := TX13) (N := 39) (v := .int mo_spot_28) hx hb hX13 (fun _ q => q) hown hK hP 0 rfl rfl 8 (by decide) (hts (.fieldLink RX13 85 "ElephantLineModel" "spot" "I") (by decide +kernel)) (fun _ h9 => h9) rfl dX13_goesOn_136 ?_
                  refine lv_iconst (v := 1) hx hb dX13_goesOn_139 (by decide) ?_
                  refine lv_iadd hx hb dX13_goesOn_140 ?_
                  refine va_put (D := D) (ci := 13) (C := RX13) (T := TX13) (N := 39) (v := .int (mo_spot_28 + 1)) (ty := .int) hx hb hX13 (fun _ q => q) tyX13 tyX13_ok nmX13 hown hK hP hD hS 0 rfl rfl 8 (by decide) (hts (.fieldLink RX13 85 "ElephantLineModel" "spot" "I") (by decide +kernel)) (fun _ h9 => h9) rfl (tyX13_ok 8 (by decide)) rfl rfl (Nat.le_of_ble_eq_true rfl) dX13_goesOn_141 (fun H locs hP hD hS => ?_)
                  refine lv_goto (tgt := 84) hx hb dX13_goesOn_144 (by decide) ?_
                  exact ih84 (x2_27 + 1) (mo_spot_28 + 1) mo_word_35 h _ _ hP hD hS _ (lv_sub hl [1, 0] rfl)
                refine lv_icmp_ge (tgt := 131) hx hb dX13_goesOn_101 (by decide) (fun cd => ?_) (fun cd => ?_)
                · have h := ifT cd h
                  exact jn131 mo_word_29 h _ _ hP hD hS _ (lv_sub hl [0, 1] rfl)
                · have h := ifF cd h
                  refine lv_aload_n hx hb dX13_goesOn_104 rfl (lv_at hl 0 rfl) ?_
                  refine lv_ldc2 (v := 32) hx hb hown (hts (.constantLong RX13 76 (32)) (by decide +kernel)) dX13_goesOn_105 ?_
                  refine lv_aload_n hx hb dX13_goesOn_108 rfl (lv_at hl 0 rfl) ?_
                  refine va_get (D := D) (ci := 13) (C := RX13) (T := TX13) (N := 39) (v := .long mo_word_29) hx hb hX13 (fun _ q => q) hown hK hP 0 rfl rfl 15 (by decide) (hts (.fieldLink RX13 98 "ElephantLineModel" "word" "J") (by decide +kernel)) (fun _ h9 => h9) rfl dX13_goesOn_109 ?_
                  refine lv_lmul hx hb dX13_goesOn_112 ?_
                  refine lv_aload_n hx hb dX13_goesOn_113 rfl (lv_at hl 0 rfl) ?_
                  refine lv_aload_n hx hb dX13_goesOn_114 rfl (lv_at hl 0 rfl) ?_
                  refine va_get (D := D) (ci := 13) (C := RX13) (T := TX13) (N := 39) (v := .int mo_spot_28) hx hb hX13 (fun _ q => q) hown hK hP 0 rfl rfl 8 (by decide) (hts (.fieldLink RX13 85 "ElephantLineModel" "spot" "I") (by decide +kernel)) (fun _ h9 => h9) rfl dX13_goesOn_115 ?_
                  obtain ⟨r_36, hc_37, h⟩ := bd1_some h
                  refine kVi [.int mo_spot_28] [.long (32 * mo_word_29), .ref a_mo] ⟨hx, hb, hml, hown, hts⟩ (c_X13_byteAt l D cy a_mo a_mo_tape mo_thrown mo_trouble mo_where (mo_war) (mo_read) mo_taped mo_size mo_spot_28 0 mo_spot_1 mo_number mo_fault mo_wrongAt mo_laneTold mo_word_29 (mo_v) (mo_x) (mo_past) (mo_kept) mo_acts mo_marks (mo_put) (mo_bestPut) mo_bestSum (mo_row) (mo_best) (mo_left) mo_bestSize mo_bestLeft (mo_counts) mo_sets mo_foeHarm mo_ownHarm mo_across mo_sumFoe mo_sumOwn mo_sumWon mo_sumAcross mo_tape mo_spot_28 r_36 hc_37) gX13_goesOn_X13_byteAt rfl hd_X13_byteAt ⟨Nat.le_of_ble_eq_true rfl, Nat.le_of_ble_eq_true rfl⟩ rfl rfl hKN (pXc hP [0, 1] rfl) 13 0 rfl rfl rfl hl.1 rfl (Nat.le_of_ble_eq_true rfl) dX13_goesOn_118 ⟨Nat.le_of_ble_eq_true rfl, Nat.le_of_ble_eq_true rfl⟩ ?_
                  refine lv_bipush (v := 97) hx hb dX13_goesOn_121 (by decide) ?_
                  refine lv_isub hx hb dX13_goesOn_123 ?_
                  refine lv_iconst (v := 1) hx hb dX13_goesOn_124 (by decide) ?_
                  refine lv_iadd hx hb dX13_goesOn_125 ?_
                  refine lv_i2l hx hb dX13_goesOn_126 rfl ?_
                  refine lv_ladd hx hb dX13_goesOn_127 ?_
                  refine va_put (D := D) (ci := 13) (C := RX13) (T := TX13) (N := 39) (v := .long ((32 * mo_word_29) + (((r_36 - 97) + 1).toInt64))) (ty := .long) hx hb hX13 (fun _ q => q) tyX13 tyX13_ok nmX13 hown hK hP hD hS 0 rfl rfl 15 (by decide) (hts (.fieldLink RX13 98 "ElephantLineModel" "word" "J") (by decide +kernel)) (fun _ h9 => h9) rfl (tyX13_ok 15 (by decide)) rfl rfl (Nat.le_of_ble_eq_true rfl) dX13_goesOn_128 (fun H locs hP hD hS => ?_)
                  exact jn131 ((32 * mo_word_29) + (((r_36 - 97) + 1).toInt64)) h _ _ hP hD hS _ (lv_sub hl [0, 1] rfl)
          exact lp84 fuelN (0 : Int32) mo_spot_1 (0 : Int64) h _ _ hP hD hS _ (lv_sub hl [2, 0] rfl)
      · have h := ifT cd h
        refine lv_aload_n hx hb dX13_goesOn_64 rfl (lv_at hl 2 rfl) ?_
        refine lv_iconst (v := 1) hx hb dX13_goesOn_65 (by decide) ?_
        refine va_put (D := D) (ci := 13) (C := RX13) (T := TX13) (N := 39) (v := .int 1) (ty := .int) hx hb hX13 (fun _ q => q) tyX13 tyX13_ok nmX13 hown hK hP hD hS 0 rfl rfl 9 (by decide) (hts (.fieldLink RX13 82 "ElephantLineModel" "sort" "I") (by decide +kernel)) (fun _ h9 => h9) rfl (tyX13_ok 9 (by decide)) rfl rfl (Nat.le_of_ble_eq_true rfl) dX13_goesOn_66 (fun H locs hP hD hS => ?_)
        refine lv_goto (tgt := 265) hx hb dX13_goesOn_69 (by decide) ?_
        cases h
        exact W.vret hx hb hr (fun t ht _ => ⟨⟨(), rfl, trivial, by rw [ht]; exact hP, hD⟩, hS.F ht⟩) hS.2.2 dX13_goesOn_265
    have lp9 : ∀ (n9 : Nat) (mo_spot_38 : Int32), f_X13_goesOn_L9 mo_size mo_tape mo_sort mo_place mo_number mo_word n9 mo_spot_38 = some (mo_spot', mo_sort', mo_place', mo_number', mo_word') → ∀ (H : Heap) (locs : List Loc), va_P D vwCl ([(a_mo, .inr (13, [.int mo_thrown, .int mo_trouble, .int mo_where, mo_war, mo_read, .ref a_mo_tape, .int mo_taped, .int mo_size, .int mo_spot_38, .int mo_sort, .int mo_place, .int mo_number, .int mo_fault, .int mo_wrongAt, .int mo_laneTold, .long mo_word, mo_v, mo_x, mo_past, mo_kept, .int mo_acts, .int mo_marks, mo_put, mo_bestPut, .long mo_bestSum, mo_row, mo_best, mo_left, .int mo_bestSize, .int mo_bestLeft, mo_counts, .int mo_sets, .int mo_foeHarm, .int mo_ownHarm, .int mo_across, .int mo_sumFoe, .int mo_sumOwn, .int mo_sumWon, .int mo_sumAcross])), (a_mo_tape, .inl (cy 0, 900, .inl mo_tape))] ++ X) H → va_D A ([(a_mo, .inr (13, [.int mo_thrown, .int mo_trouble, .int mo_where, mo_war, mo_read, .ref a_mo_tape, .int mo_taped, .int mo_size, .int mo_spot_38, .int mo_sort, .int mo_place, .int mo_number, .int mo_fault, .int mo_wrongAt, .int mo_laneTold, .long mo_word, mo_v, mo_x, mo_past, mo_kept, .int mo_acts, .int mo_marks, mo_put, mo_bestPut, .long mo_bestSum, mo_row, mo_best, mo_left, .int mo_bestSize, .int mo_bestLeft, mo_counts, .int mo_sets, .int mo_foeHarm, .int mo_ownHarm, .int mo_across, .int mo_sumFoe, .int mo_sumOwn, .int mo_sumWon, .int mo_sumAcross])), (a_mo_tape, .inl (cy 0, 900, .inl mo_tape))] ++ X) → va_S A s.heap H locs → ∀ ls : Array Slot, lv_has ls 3 [(0, .ref a_mo)] → W p l e (headSpec wo_X13_goesOn ({ frames := 1, cells := 0, slots := 0, locals := 21 })).room s m (([.ref a_mo] : List Value).toArray) below meth c H locs 0 0 (MQ below (va_Qv (fun (_ : Unit) => True) (wB D A ([(a_mo, .inr (13, [.int mo_thrown, .int mo_trouble, .int mo_where, mo_war, mo_read, .ref a_mo_tape, .int mo_taped, .int mo_size, .int mo_spot', .int mo_sort', .int mo_place', .int mo_number', .int mo_fault, .int mo_wrongAt, .int mo_laneTold, .long mo_word', mo_v, mo_x, mo_past, mo_kept, .int mo_acts, .int mo_marks, mo_put, mo_bestPut, .long mo_bestSum, mo_row, mo_best, mo_left, .int mo_bestSize, .int mo_bestLeft, mo_counts, .int mo_sets, .int mo_foeHarm, .int mo_ownHarm, .int mo_across, .int mo_sumFoe, .int mo_sumOwn, .int mo_sumWon, .int mo_sumAcross])), (a_mo_tape, .inl (cy 0, 900, .inl mo_tape))] ++ X)) A) (([.ref a_mo] : List Value).toArray) s 0 0 A) (F0 m 9 ls []) := by
      intro n9
      induction n9 with
      | zero => intro mo_spot_38 h; exact absurd (show (none : Option (Int32 × Int32 × Int32 × Int32 × Int64)) = some _ from h) (by intro q; cases q)
      | succ n9 ih9 =>
        intro mo_spot_38 h H locs hP hD hS ls hl
        have h : f_X13_goesOn_b9 mo_size mo_tape mo_sort mo_place mo_number mo_word (f_X13_goesOn_L9 mo_size mo_tape mo_sort mo_place mo_number mo_word n9) mo_spot_38 = some (mo_spot', mo_sort', mo_place', mo_number', mo_word') := h
        unfold f_X13_goesOn_b9 at h
        refine lv_aload_n hx hb dX13_goesOn_9 rfl (lv_at hl 0 rfl) ?_
        refine lv_aload_n hx hb dX13_goesOn_10 rfl (lv_at hl 0 rfl) ?_
        refine va_get (D := D) (ci := 13) (C := RX13) (T := TX13) (N := 39) (v := .int mo_spot_38) hx hb hX13 (fun _ q => q) hown hK hP 0 rfl rfl 8 (by decide) (hts (.fieldLink RX13 85 "ElephantLineModel" "spot" "I") (by decide +kernel)) (fun _ h9 => h9) rfl dX13_goesOn_11 ?_
        obtain ⟨r_39, hc_40, h⟩ := bd1_some h
        refine kVi [.int mo_spot_38] [] ⟨hx, hb, hml, hown, hts⟩ (c_X13_byteAt l D cy a_mo a_mo_tape mo_thrown mo_trouble mo_where (mo_war) (mo_read) mo_taped mo_size mo_spot_38 mo_sort mo_place mo_number mo_fault mo_wrongAt mo_laneTold mo_word (mo_v) (mo_x) (mo_past) (mo_kept) mo_acts mo_marks (mo_put) (mo_bestPut) mo_bestSum (mo_row) (mo_best) (mo_left) mo_bestSize mo_bestLeft (mo_counts) mo_sets mo_foeHarm mo_ownHarm mo_across mo_sumFoe mo_sumOwn mo_sumWon mo_sumAcross mo_tape mo_spot_38 r_39 hc_40) gX13_goesOn_X13_byteAt rfl hd_X13_byteAt ⟨Nat.le_of_ble_eq_true rfl, Nat.le_of_ble_eq_true rfl⟩ rfl rfl hKN (pXc hP [0, 1] rfl) 13 0 rfl rfl rfl hl.1 rfl (Nat.le_of_ble_eq_true rfl) dX13_goesOn_14 ⟨Nat.le_of_ble_eq_true rfl, Nat.le_of_ble_eq_true rfl⟩ ?_
        refine lv_bipush (v := 32) hx hb dX13_goesOn_17 (by decide) ?_
        refine lv_icmp_ne (tgt := 35) hx hb dX13_goesOn_19 (by decide) (fun cd => ?_) (fun cd => ?_)
        · have h := ifF cd h
          exact jn35 mo_spot_38 h _ _ hP hD hS _ (lv_sub hl [0] rfl)
        · have h := ifT cd h
          refine lv_aload_n hx hb dX13_goesOn_22 rfl (lv_at hl 0 rfl) ?_
          refine lv_dup hx hb dX13_goesOn_23 rfl ?_
          refine va_get (D := D) (ci := 13) (C := RX13) (T := TX13) (N := 39) (v := .int mo_spot_38) hx hb hX13 (fun _ q => q) hown hK hP 0 rfl rfl 8 (by decide) (hts (.fieldLink RX13 85 "ElephantLineModel" "spot" "I") (by decide +kernel)) (fun _ h9 => h9) rfl dX13_goesOn_24 ?_
          refine lv_iconst (v := 1) hx hb dX13_goesOn_27 (by decide) ?_
          refine lv_iadd hx hb dX13_goesOn_28 ?_
          refine va_put (D := D) (ci := 13) (C := RX13) (T := TX13) (N := 39) (v := .int (mo_spot_38 + 1)) (ty := .int) hx hb hX13 (fun _ q => q) tyX13 tyX13_ok nmX13 hown hK hP hD hS 0 rfl rfl 8 (by decide) (hts (.fieldLink RX13 85 "ElephantLineModel" "spot" "I") (by decide +kernel)) (fun _ h9 => h9) rfl (tyX13_ok 8 (by decide)) rfl rfl (Nat.le_of_ble_eq_true rfl) dX13_goesOn_29 (fun H locs hP hD hS => ?_)
          refine lv_goto (tgt := 9) hx hb dX13_goesOn_32 (by decide) ?_
          exact ih9 (mo_spot_38 + 1) h _ _ hP hD hS _ (lv_sub hl [0] rfl)
    exact lp9 fuelN mo_spot h _ _ hP hD hS _ (lv_sub hl [0] rfl)
  · have h := ifT cd h
    cases h
    exact W.vret hx hb hr (fun t ht _ => ⟨⟨(), rfl, trivial, by rw [ht]; exact hP, hD⟩, hS.F ht⟩) hS.2.2 dX13_goesOn_8
noncomputable def f_X13_flaw (mo_sort : Int32) (mo_place : Int32) (mo_fault : Int32) (mo_wrongAt : Int32) (p1 : Int32) : Option (Int32 × Int32 × Int32) :=
  (if mo_sort = 5 then
  some (mo_sort, mo_fault, mo_wrongAt)
  else
  some (5, p1, mo_place))
theorem hd_X13_flaw : yX13_flaw.cls = RX13 ∧ yX13_flaw.cls ≠ "java/lang/invoke/MethodHandle" ∧ yX13_flaw.cls ≠ "java/lang/invoke/VarHandle" ∧ (parseMethodDescriptor yX13_flaw.desc).map (fun d => d.parameters.length) = some 1 := by decide +kernel
set_option maxHeartbeats 4000000 in
set_option maxRecDepth 100000 in
theorem c_X13_flaw (l : Launch) (D : va_G) (cy : Nat → ClassId) (A : Nat → Prop) (X : va_W) (a_mo : Nat) (mo_thrown : Int32) (mo_trouble : Int32) (mo_where : Int32) (mo_war : Value) (mo_read : Value) (mo_tape : Value) (mo_taped : Int32) (mo_size : Int32) (mo_spot : Int32) (mo_sort : Int32) (mo_place : Int32) (mo_number : Int32) (mo_fault : Int32) (mo_wrongAt : Int32) (mo_laneTold : Int32) (mo_word : Int64) (mo_v : Value) (mo_x : Value) (mo_past : Value) (mo_kept : Value) (mo_acts : Int32) (mo_marks : Int32) (mo_put : Value) (mo_bestPut : Value) (mo_bestSum : Int64) (mo_row : Value) (mo_best : Value) (mo_left : Value) (mo_bestSize : Int32) (mo_bestLeft : Int32) (mo_counts : Value) (mo_sets : Int32) (mo_foeHarm : Int32) (mo_ownHarm : Int32) (mo_across : Int32) (mo_sumFoe : Int32) (mo_sumOwn : Int32) (mo_sumWon : Int32) (mo_sumAcross : Int32) (p1 : Int32) (mo_sort' : Int32) (mo_fault' : Int32) (mo_wrongAt' : Int32) (h : f_X13_flaw mo_sort mo_place mo_fault mo_wrongAt p1 = some (mo_sort', mo_fault', mo_wrongAt')) : Met l yX13_flaw wo_X13_flaw ({ frames := 0, cells := 0, slots := 0, locals := 0 }) (wrPc D cy A [.ref a_mo, .int p1] ([(a_mo, .inr (13, [.int mo_thrown, .int mo_trouble, .int mo_where, mo_war, mo_read, mo_tape, .int mo_taped, .int mo_size, .int mo_spot, .int mo_sort, .int mo_place, .int mo_number, .int mo_fault, .int mo_wrongAt, .int mo_laneTold, .long mo_word, mo_v, mo_x, mo_past, mo_kept, .int mo_acts, .int mo_marks, mo_put, mo_bestPut, .long mo_bestSum, mo_row, mo_best, mo_left, .int mo_bestSize, .int mo_bestLeft, mo_counts, .int mo_sets, .int mo_foeHarm, .int mo_ownHarm, .int mo_across, .int mo_sumFoe, .int mo_sumOwn, .int mo_sumWon, .int mo_sumAcross]))] ++ X)) (va_Qv (fun (_ : Unit) => True) (wB D A ([(a_mo, .inr (13, [.int mo_thrown, .int mo_trouble, .int mo_where, mo_war, mo_read, mo_tape, .int mo_taped, .int mo_size, .int mo_spot, .int mo_sort', .int mo_place, .int mo_number, .int mo_fault', .int mo_wrongAt', .int mo_laneTold, .long mo_word, mo_v, mo_x, mo_past, mo_kept, .int mo_acts, .int mo_marks, mo_put, mo_bestPut, .long mo_bestSum, mo_row, mo_best, mo_left, .int mo_bestSize, .int mo_bestLeft, mo_counts, .int mo_sets, .int mo_foeHarm, .int mo_ownHarm, .int mo_across, .int mo_sumFoe, .int mo_sumOwn, .int mo_sumWon, .int mo_sumAcross]))] ++ X)) A) 0 0 A := by
  refine Met.ofW (cc := cX13_flaw) (maxL := 2) (ret := none) (by decide) rfl ?_
  intro p e s m args below meth c s₁ B hml hv
  obtain ⟨rfl, hP, hKN, hD, hA⟩ := hv
  have hK := hKN.1
  have hx := B.exec
  have hb := B.bytes
  have hr := B.returns
  have hts := wt_X13_flaw hKN.2.2 (([.ref a_mo, .int p1] : List Value).toArray)
  have hown : s.vm.findClass RX13 = some m.cls := findClass_of_methodNamed B.named
  have hlocks := B.notSynchronized
  have hS : va_S A s.heap s.heap [] := va_S.rf
  have hX13 := wc_X13 hKN.2.2 (([.ref a_mo, .int p1] : List Value).toArray)
  have hl := lv_entry ([.ref a_mo, .int p1]) (n := 2) (Nat.le_of_ble_eq_true rfl)
  rw [lg_entry_eq]
  generalize (lg_sl ([.ref a_mo, .int p1]) ++ List.replicate (2 - (lg_sl ([.ref a_mo, .int p1])).length) Slot.unset).toArray = ls at hl ⊢
  have hl : lv_has ls 2 [(0, .ref a_mo), (1, .int p1)] := hl
  unfold f_X13_flaw at h
  refine lv_aload_n hx hb dX13_flaw_0 rfl (lv_at hl 0 rfl) ?_
  refine va_get (D := D) (ci := 13) (C := RX13) (T := TX13) (N := 39) (v := .int mo_sort) hx hb hX13 (fun _ q => q) hown hK hP 0 rfl rfl 9 (by decide) (hts (.fieldLink RX13 82 "ElephantLineModel" "sort" "I") (by decide +kernel)) (fun _ h9 => h9) rfl dX13_flaw_1 ?_
  refine lv_iconst (v := 5) hx hb dX13_flaw_4 (by decide) ?_
  refine lv_icmp_ne (tgt := 9) hx hb dX13_flaw_5 (by decide) (fun cd => ?_) (fun cd => ?_)
  · have h := ifF cd h
    refine lv_aload_n hx hb dX13_flaw_9 rfl (lv_at hl 0 rfl) ?_
    refine lv_iload_n hx hb dX13_flaw_10 rfl (lv_at hl 1 rfl) ?_
    refine va_put (D := D) (ci := 13) (C := RX13) (T := TX13) (N := 39) (v := .int p1) (ty := .int) hx hb hX13 (fun _ q => q) tyX13 tyX13_ok nmX13 hown hK hP hD hS 0 rfl rfl 12 (by decide) (hts (.fieldLink RX13 108 "ElephantLineModel" "fault" "I") (by decide +kernel)) (fun _ h9 => h9) rfl (tyX13_ok 12 (by decide)) rfl rfl (Nat.le_of_ble_eq_true rfl) dX13_flaw_11 (fun H locs hP hD hS => ?_)
    refine lv_aload_n hx hb dX13_flaw_14 rfl (lv_at hl 0 rfl) ?_
    refine lv_aload_n hx hb dX13_flaw_15 rfl (lv_at hl 0 rfl) ?_
    refine va_get (D := D) (ci := 13) (C := RX13) (T := TX13) (N := 39) (v := .int mo_place) hx hb hX13 (fun _ q => q) hown hK hP 0 rfl rfl 10 (by decide) (hts (.fieldLink RX13 91 "ElephantLineModel" "place" "I") (by decide +kernel)) (fun _ h9 => h9) rfl dX13_flaw_16 ?_
    refine va_put (D := D) (ci := 13) (C := RX13) (T := TX13) (N := 39) (v := .int mo_place) (ty := .int) hx hb hX13 (fun _ q => q) tyX13 tyX13_ok nmX13 hown hK hP hD hS 0 rfl rfl 13 (by decide) (hts (.fieldLink RX13 111 "ElephantLineModel" "wrongAt" "I") (by decide +kernel)) (fun _ h9 => h9) rfl (tyX13_ok 13 (by decide)) rfl rfl (Nat.le_of_ble_eq_true rfl) dX13_flaw_19 (fun H locs hP hD hS => ?_)
    refine lv_aload_n hx hb dX13_flaw_22 rfl (lv_at hl 0 rfl) ?_
    refine lv_iconst (v := 5) hx hb dX13_flaw_23 (by decide) ?_
    refine va_put (D := D) (ci := 13) (C := RX13) (T := TX13) (N := 39) (v := .int 5) (ty := .int) hx hb hX13 (fun _ q => q) tyX13 tyX13_ok nmX13 hown hK hP hD hS 0 rfl rfl 9 (by decide) (hts (.fieldLink RX13 82 "ElephantLineModel" "sort" "I") (by decide +kernel)) (fun _ h9 => h9) rfl (tyX13_ok 9 (by decide)) rfl rfl (Nat.le_of_ble_eq_true rfl) dX13_flaw_24 (fun H locs hP hD hS => ?_)
    cases h
    exact W.vret hx hb hr (fun t ht _ => ⟨⟨(), rfl, trivial, by rw [ht]; exact hP, hD⟩, hS.F ht⟩) hS.2.2 dX13_flaw_27
  · have h := ifT cd h
    cases h
    exact W.vret hx hb hr (fun t ht _ => ⟨⟨(), rfl, trivial, by rw [ht]; exact hP, hD⟩, hS.F ht⟩) hS.2.2 dX13_flaw_8
noncomputable def f_X13_isWord (mo_sort : Int32) (mo_word : Int64) (p1 : Nat) : Option (Int32) :=
  (if mo_sort = 2 then
  bd1 (f_X13_packed  p1) fun r_1 =>
  (if mo_word = r_1 then
  some (1)
  else
  some (0))
  else
  some (0))
theorem hd_X13_isWord : yX13_isWord.cls = RX13 ∧ yX13_isWord.cls ≠ "java/lang/invoke/MethodHandle" ∧ yX13_isWord.cls ≠ "java/lang/invoke/VarHandle" ∧ (parseMethodDescriptor yX13_isWord.desc).map (fun d => d.parameters.length) = some 1 := by decide +kernel
set_option maxHeartbeats 4000000 in
set_option maxRecDepth 100000 in
theorem c_X13_isWord (l : Launch) (D : va_G) (cy : Nat → ClassId) (sa sv : Nat → Nat) (a_mo : Nat) (mo_thrown : Int32) (mo_trouble : Int32) (mo_where : Int32) (mo_war : Value) (mo_read : Value) (mo_tape : Value) (mo_taped : Int32) (mo_size : Int32) (mo_spot : Int32) (mo_sort : Int32) (mo_place : Int32) (mo_number : Int32) (mo_fault : Int32) (mo_wrongAt : Int32) (mo_laneTold : Int32) (mo_word : Int64) (mo_v : Value) (mo_x : Value) (mo_past : Value) (mo_kept : Value) (mo_acts : Int32) (mo_marks : Int32) (mo_put : Value) (mo_bestPut : Value) (mo_bestSum : Int64) (mo_row : Value) (mo_best : Value) (mo_left : Value) (mo_bestSize : Int32) (mo_bestLeft : Int32) (mo_counts : Value) (mo_sets : Int32) (mo_foeHarm : Int32) (mo_ownHarm : Int32) (mo_across : Int32) (mo_sumFoe : Int32) (mo_sumOwn : Int32) (mo_sumWon : Int32) (mo_sumAcross : Int32) (p1 : Nat) (hi_p1 : p1 < nT) (res : Int32) (h : f_X13_isWord mo_sort mo_word p1 = some (res)) : Met l yX13_isWord wo_X13_isWord ({ frames := 5, cells := 0, slots := 0, locals := 114 }) (roPcS D cy sa sv [.ref a_mo, .ref (sa p1)] [(a_mo, .inr (13, [.int mo_thrown, .int mo_trouble, .int mo_where, mo_war, mo_read, mo_tape, .int mo_taped, .int mo_size, .int mo_spot, .int mo_sort, .int mo_place, .int mo_number, .int mo_fault, .int mo_wrongAt, .int mo_laneTold, .long mo_word, mo_v, mo_x, mo_past, mo_kept, .int mo_acts, .int mo_marks, mo_put, mo_bestPut, .long mo_bestSum, mo_row, mo_best, mo_left, .int mo_bestSize, .int mo_bestLeft, mo_counts, .int mo_sets, .int mo_foeHarm, .int mo_ownHarm, .int mo_across, .int mo_sumFoe, .int mo_sumOwn, .int mo_sumWon, .int mo_sumAcross]))]) (vp_Si (fun r => r = res ∧ nbv r)) 0 0 (fun _ => False) := by
  refine Met.ofW (cc := cX13_isWord) (maxL := 2) (ret := (some .boolean)) (by decide) rfl ?_
  intro p e s m args below meth c s₁ B hml hv
  obtain ⟨rfl, hP, hKN, hSS⟩ := hv
  have hK := hKN.1
  have hx := B.exec
  have hb := B.bytes
  have hr := B.returns
  have hts := wt_X13_isWord hKN.2.2 (([.ref a_mo, .ref (sa p1)] : List Value).toArray)
  have hown : s.vm.findClass RX13 = some m.cls := findClass_of_methodNamed B.named
  have hlocks := B.notSynchronized
  have hX13 := wc_X13 hKN.2.2 (([.ref a_mo, .ref (sa p1)] : List Value).toArray)
  have hl := lv_entry ([.ref a_mo, .ref (sa p1)]) (n := 2) (Nat.le_of_ble_eq_true rfl)
  rw [lg_entry_eq]
  generalize (lg_sl ([.ref a_mo, .ref (sa p1)]) ++ List.replicate (2 - (lg_sl ([.ref a_mo, .ref (sa p1)])).length) Slot.unset).toArray = ls at hl ⊢
  have hl : lv_has ls 2 [(0, .ref a_mo), (1, .ref (sa p1))] := hl
  unfold f_X13_isWord at h
  refine lv_aload_n hx hb dX13_isWord_0 rfl (lv_at hl 0 rfl) ?_
  refine va_get (D := D) (ci := 13) (C := RX13) (T := TX13) (N := 39) (v := .int mo_sort) hx hb hX13 (fun _ q => q) hown hK hP 0 rfl rfl 9 (by decide) (hts (.fieldLink RX13 82 "ElephantLineModel" "sort" "I") (by decide +kernel)) (fun _ h9 => h9) rfl dX13_isWord_1 ?_
  refine lv_iconst (v := 2) hx hb dX13_isWord_4 (by decide) ?_
  refine lv_icmp_ne (tgt := 24) hx hb dX13_isWord_5 (by decide) (fun cd => ?_) (fun cd => ?_)
  · have h := ifF cd h
    refine lv_iconst (v := 0) hx hb dX13_isWord_24 (by decide) ?_
    exact W.zret (ty := .boolean) (v := 0) hx hb hr (nbv.n nbv_0) (fun t ht _ => ⟨_, rfl, ⟨Option.some.inj h, nbv_0⟩, ht⟩) (fun _ q => by cases q) dX13_isWord_25
  · have h := ifT cd h
    refine lv_aload_n hx hb dX13_isWord_8 rfl (lv_at hl 0 rfl) ?_
    refine va_get (D := D) (ci := 13) (C := RX13) (T := TX13) (N := 39) (v := .long mo_word) hx hb hX13 (fun _ q => q) hown hK hP 0 rfl rfl 15 (by decide) (hts (.fieldLink RX13 98 "ElephantLineModel" "word" "J") (by decide +kernel)) (fun _ h9 => h9) rfl dX13_isWord_9 ?_
    refine lv_aload_n hx hb dX13_isWord_12 rfl (lv_at hl 1 rfl) ?_
    obtain ⟨r_1, hc_2, h⟩ := bd1_some h
    refine kSlS [.ref (sa p1)] [.long mo_word] ⟨hx, hb, hml, hown, hts⟩ (c_X13_packed l D cy sa sv p1 hi_p1 r_1 hc_2) gX13_isWord_X13_packed rfl hd_X13_packed ⟨Nat.le_of_ble_eq_true rfl, Nat.le_of_ble_eq_true rfl⟩ rfl rfl hKN va_nil hSS rfl hl.1 rfl (Nat.le_of_ble_eq_true rfl) dX13_isWord_13 ⟨Nat.le_of_ble_eq_true rfl, Nat.le_of_ble_eq_true rfl⟩ ?_
    refine W.lcmp hx hb dX13_isWord_16 ?_
    refine lv_if_ne (tgt := 24) hx hb dX13_isWord_17 (by decide) (fun cd => ?_) (fun cd => ?_)
    · have cd := fun q => cd ((lgc_eq _ _).mpr q)
      have h := ifF cd h
      refine lv_iconst (v := 0) hx hb dX13_isWord_24 (by decide) ?_
      exact W.zret (ty := .boolean) (v := 0) hx hb hr (nbv.n nbv_0) (fun t ht _ => ⟨_, rfl, ⟨Option.some.inj h, nbv_0⟩, ht⟩) (fun _ q => by cases q) dX13_isWord_25
    · have cd := (lgc_eq _ _).mp cd
      have h := ifT cd h
      refine lv_iconst (v := 1) hx hb dX13_isWord_20 (by decide) ?_
      refine lv_goto (tgt := 25) hx hb dX13_isWord_21 (by decide) ?_
      exact W.zret (ty := .boolean) (v := 1) hx hb hr (nbv.n nbv_1) (fun t ht _ => ⟨_, rfl, ⟨Option.some.inj h, nbv_1⟩, ht⟩) (fun _ q => by cases q) dX13_isWord_25
noncomputable def f_X13_eatsSemicolon_B13 (mo_size : Int32) (mo_tape : Nat → Int32) (t0 : Int32) (mo_spot : Int32) (mo_sort : Int32) (mo_place : Int32) (mo_number : Int32) (mo_word : Int64) : Option (Int32 × Int32 × Int32 × Int32 × Int32 × Int64) :=
  (if t0 = 0 then
  some (t0, mo_spot, mo_sort, mo_place, mo_number, mo_word)
  else
  bd5 (f_X13_goesOn mo_size mo_spot mo_sort mo_place mo_number mo_word mo_tape) fun mo_spot_1 mo_sort_2 mo_place_3 mo_number_4 mo_word_5 =>
  some (t0, mo_spot_1, mo_sort_2, mo_place_3, mo_number_4, mo_word_5))
noncomputable def f_X13_eatsSemicolon (mo_size : Int32) (mo_spot : Int32) (mo_sort : Int32) (mo_place : Int32) (mo_number : Int32) (mo_word : Int64) (mo_tape : Nat → Int32) : Option (Int32 × Int32 × Int32 × Int32 × Int32 × Int64) :=
  (if mo_sort = 4 then
  f_X13_eatsSemicolon_B13 mo_size mo_tape 1 mo_spot mo_sort mo_place mo_number mo_word
  else
  f_X13_eatsSemicolon_B13 mo_size mo_tape 0 mo_spot mo_sort mo_place mo_number mo_word)
theorem hd_X13_eatsSemicolon : yX13_eatsSemicolon.cls = RX13 ∧ yX13_eatsSemicolon.cls ≠ "java/lang/invoke/MethodHandle" ∧ yX13_eatsSemicolon.cls ≠ "java/lang/invoke/VarHandle" ∧ (parseMethodDescriptor yX13_eatsSemicolon.desc).map (fun d => d.parameters.length) = some 0 := by decide +kernel
set_option maxHeartbeats 4000000 in
set_option maxRecDepth 100000 in
theorem c_X13_eatsSemicolon (l : Launch) (D : va_G) (cy : Nat → ClassId) (A : Nat → Prop) (X : va_W) (a_mo a_mo_tape : Nat) (mo_thrown : Int32) (mo_trouble : Int32) (mo_where : Int32) (mo_war : Value) (mo_read : Value) (mo_taped : Int32) (mo_size : Int32) (mo_spot : Int32) (mo_sort : Int32) (mo_place : Int32) (mo_number : Int32) (mo_fault : Int32) (mo_wrongAt : Int32) (mo_laneTold : Int32) (mo_word : Int64) (mo_v : Value) (mo_x : Value) (mo_past : Value) (mo_kept : Value) (mo_acts : Int32) (mo_marks : Int32) (mo_put : Value) (mo_bestPut : Value) (mo_bestSum : Int64) (mo_row : Value) (mo_best : Value) (mo_left : Value) (mo_bestSize : Int32) (mo_bestLeft : Int32) (mo_counts : Value) (mo_sets : Int32) (mo_foeHarm : Int32) (mo_ownHarm : Int32) (mo_across : Int32) (mo_sumFoe : Int32) (mo_sumOwn : Int32) (mo_sumWon : Int32) (mo_sumAcross : Int32) (mo_tape : Nat → Int32) (res : Int32) (mo_spot' : Int32) (mo_sort' : Int32) (mo_place' : Int32) (mo_number' : Int32) (mo_word' : Int64) (h : f_X13_eatsSemicolon mo_size mo_spot mo_sort mo_place mo_number mo_word mo_tape = some (res, mo_spot', mo_sort', mo_place', mo_number', mo_word')) : Met l yX13_eatsSemicolon wo_X13_eatsSemicolon ({ frames := 2, cells := 0, slots := 0, locals := 43 }) (wrPc D cy A [.ref a_mo] ([(a_mo, .inr (13, [.int mo_thrown, .int mo_trouble, .int mo_where, mo_war, mo_read, .ref a_mo_tape, .int mo_taped, .int mo_size, .int mo_spot, .int mo_sort, .int mo_place, .int mo_number, .int mo_fault, .int mo_wrongAt, .int mo_laneTold, .long mo_word, mo_v, mo_x, mo_past, mo_kept, .int mo_acts, .int mo_marks, mo_put, mo_bestPut, .long mo_bestSum, mo_row, mo_best, mo_left, .int mo_bestSize, .int mo_bestLeft, mo_counts, .int mo_sets, .int mo_foeHarm, .int mo_ownHarm, .int mo_across, .int mo_sumFoe, .int mo_sumOwn, .int mo_sumWon, .int mo_sumAcross])), (a_mo_tape, .inl (cy 0, 900, .inl mo_tape))] ++ X)) (va_Qi (fun (r : Int32) (_ : Unit) => r = res ∧ nbv r) (wB D A ([(a_mo, .inr (13, [.int mo_thrown, .int mo_trouble, .int mo_where, mo_war, mo_read, .ref a_mo_tape, .int mo_taped, .int mo_size, .int mo_spot', .int mo_sort', .int mo_place', .int mo_number', .int mo_fault, .int mo_wrongAt, .int mo_laneTold, .long mo_word', mo_v, mo_x, mo_past, mo_kept, .int mo_acts, .int mo_marks, mo_put, mo_bestPut, .long mo_bestSum, mo_row, mo_best, mo_left, .int mo_bestSize, .int mo_bestLeft, mo_counts, .int mo_sets, .int mo_foeHarm, .int mo_ownHarm, .int mo_across, .int mo_sumFoe, .int mo_sumOwn, .int mo_sumWon, .int mo_sumAcross])), (a_mo_tape, .inl (cy 0, 900, .inl mo_tape))] ++ X)) A) 0 0 A := by
  refine Met.ofW (cc := cX13_eatsSemicolon) (maxL := 2) (ret := (some .boolean)) (by decide) rfl ?_
  intro p e s m args below meth c s₁ B hml hv
  obtain ⟨rfl, hP, hKN, hD, hA⟩ := hv
  have hK := hKN.1
  have hx := B.exec
  have hb := B.bytes
  have hr := B.returns
  have hts := wt_X13_eatsSemicolon hKN.2.2 (([.ref a_mo] : List Value).toArray)
  have hown : s.vm.findClass RX13 = some m.cls := findClass_of_methodNamed B.named
  have hlocks := B.notSynchronized
  have hS : va_S A s.heap s.heap [] := va_S.rf
  have hX13 := wc_X13 hKN.2.2 (([.ref a_mo] : List Value).toArray)
  have hl := lv_entry ([.ref a_mo]) (n := 2) (Nat.le_of_ble_eq_true rfl)
  rw [lg_entry_eq]
  generalize (lg_sl ([.ref a_mo]) ++ List.replicate (2 - (lg_sl ([.ref a_mo])).length) Slot.unset).toArray = ls at hl ⊢
  have hl : lv_has ls 2 [(0, .ref a_mo)] := hl
  unfold f_X13_eatsSemicolon at h
  refine lv_aload_n hx hb dX13_eatsSemicolon_0 rfl (lv_at hl 0 rfl) ?_
  refine va_get (D := D) (ci := 13) (C := RX13) (T := TX13) (N := 39) (v := .int mo_sort) hx hb hX13 (fun _ q => q) hown hK hP 0 rfl rfl 9 (by decide) (hts (.fieldLink RX13 82 "ElephantLineModel" "sort" "I") (by decide +kernel)) (fun _ h9 => h9) rfl dX13_eatsSemicolon_1 ?_
  refine lv_iconst (v := 4) hx hb dX13_eatsSemicolon_4 (by decide) ?_
  have jn13 : ∀ (t0_1 : Int32), nbv t0_1 → f_X13_eatsSemicolon_B13 mo_size mo_tape t0_1 mo_spot mo_sort mo_place mo_number mo_word = some (res, mo_spot', mo_sort', mo_place', mo_number', mo_word') → ∀ (H : Heap) (locs : List Loc), va_P D vwCl ([(a_mo, .inr (13, [.int mo_thrown, .int mo_trouble, .int mo_where, mo_war, mo_read, .ref a_mo_tape, .int mo_taped, .int mo_size, .int mo_spot, .int mo_sort, .int mo_place, .int mo_number, .int mo_fault, .int mo_wrongAt, .int mo_laneTold, .long mo_word, mo_v, mo_x, mo_past, mo_kept, .int mo_acts, .int mo_marks, mo_put, mo_bestPut, .long mo_bestSum, mo_row, mo_best, mo_left, .int mo_bestSize, .int mo_bestLeft, mo_counts, .int mo_sets, .int mo_foeHarm, .int mo_ownHarm, .int mo_across, .int mo_sumFoe, .int mo_sumOwn, .int mo_sumWon, .int mo_sumAcross])), (a_mo_tape, .inl (cy 0, 900, .inl mo_tape))] ++ X) H → va_D A ([(a_mo, .inr (13, [.int mo_thrown, .int mo_trouble, .int mo_where, mo_war, mo_read, .ref a_mo_tape, .int mo_taped, .int mo_size, .int mo_spot, .int mo_sort, .int mo_place, .int mo_number, .int mo_fault, .int mo_wrongAt, .int mo_laneTold, .long mo_word, mo_v, mo_x, mo_past, mo_kept, .int mo_acts, .int mo_marks, mo_put, mo_bestPut, .long mo_bestSum, mo_row, mo_best, mo_left, .int mo_bestSize, .int mo_bestLeft, mo_counts, .int mo_sets, .int mo_foeHarm, .int mo_ownHarm, .int mo_across, .int mo_sumFoe, .int mo_sumOwn, .int mo_sumWon, .int mo_sumAcross])), (a_mo_tape, .inl (cy 0, 900, .inl mo_tape))] ++ X) → va_S A s.heap H locs → ∀ ls : Array Slot, lv_has ls 2 [(0, .ref a_mo)] → W p l e (headSpec wo_X13_eatsSemicolon ({ frames := 2, cells := 0, slots := 0, locals := 43 })).room s m (([.ref a_mo] : List Value).toArray) below meth c H locs 0 0 (MQ below (va_Qi (fun (r : Int32) (_ : Unit) => r = res ∧ nbv r) (wB D A ([(a_mo, .inr (13, [.int mo_thrown, .int mo_trouble, .int mo_where, mo_war, mo_read, .ref a_mo_tape, .int mo_taped, .int mo_size, .int mo_spot', .int mo_sort', .int mo_place', .int mo_number', .int mo_fault, .int mo_wrongAt, .int mo_laneTold, .long mo_word', mo_v, mo_x, mo_past, mo_kept, .int mo_acts, .int mo_marks, mo_put, mo_bestPut, .long mo_bestSum, mo_row, mo_best, mo_left, .int mo_bestSize, .int mo_bestLeft, mo_counts, .int mo_sets, .int mo_foeHarm, .int mo_ownHarm, .int mo_across, .int mo_sumFoe, .int mo_sumOwn, .int mo_sumWon, .int mo_sumAcross])), (a_mo_tape, .inl (cy 0, 900, .inl mo_tape))] ++ X)) A) (([.ref a_mo] : List Value).toArray) s 0 0 A) (F0 m 13 ls [.int t0_1]) := by
    intro t0_1 hnb_t0_1 h H locs hP hD hS ls hl
    unfold f_X13_eatsSemicolon_B13 at h
    refine lv_istore_n (lv' := [(1, .int t0_1), (0, .ref a_mo)]) hx hb dX13_eatsSemicolon_13 rfl hl (by decide) rfl (fun ls hl => ?_)
    refine lv_iload_n hx hb dX13_eatsSemicolon_14 rfl (lv_at hl 0 rfl) ?_
    refine lv_if_eq (tgt := 22) hx hb dX13_eatsSemicolon_15 (by decide) (fun cd => ?_) (fun cd => ?_)
    · have h := ifT cd h
      refine lv_iload_n hx hb dX13_eatsSemicolon_22 rfl (lv_at hl 0 rfl) ?_
      cases h
      exact W.zret (ty := .boolean) hx hb hr (nbv.n hnb_t0_1) (fun t ht _ => ⟨⟨_, (), rfl, ⟨rfl, hnb_t0_1⟩, by rw [ht]; exact hP, hD⟩, hS.F ht⟩) hS.2.2 dX13_eatsSemicolon_23
    · have h := ifF cd h
      refine lv_aload_n hx hb dX13_eatsSemicolon_18 rfl (lv_at hl 1 rfl) ?_
      obtain ⟨mo_spot_2, mo_sort_3, mo_place_4, mo_number_5, mo_word_6, hc_7, h⟩ := bd5_some h
      refine wVv [] [] ⟨hx, hb, hml, hown, hts⟩ (c_X13_goesOn l D cy A X a_mo a_mo_tape mo_thrown mo_trouble mo_where (mo_war) (mo_read) mo_taped mo_size mo_spot mo_sort mo_place mo_number mo_fault mo_wrongAt mo_laneTold mo_word (mo_v) (mo_x) (mo_past) (mo_kept) mo_acts mo_marks (mo_put) (mo_bestPut) mo_bestSum (mo_row) (mo_best) (mo_left) mo_bestSize mo_bestLeft (mo_counts) mo_sets mo_foeHarm mo_ownHarm mo_across mo_sumFoe mo_sumOwn mo_sumWon mo_sumAcross mo_tape mo_spot_2 mo_sort_3 mo_place_4 mo_number_5 mo_word_6 hc_7) gX13_eatsSemicolon_X13_goesOn rfl hd_X13_goesOn ⟨Nat.le_of_ble_eq_true rfl, Nat.le_of_ble_eq_true rfl⟩ rfl rfl hKN hP hD hS hA 13 0 rfl rfl rfl hl.1 rfl (Nat.le_of_ble_eq_true rfl) dX13_eatsSemicolon_19 ⟨Nat.le_of_ble_eq_true rfl, Nat.le_of_ble_eq_true rfl⟩ (fun H locs hP hD hS => ?_)
      refine lv_iload_n hx hb dX13_eatsSemicolon_22 rfl (lv_at hl 0 rfl) ?_
      cases h
      exact W.zret (ty := .boolean) hx hb hr (nbv.n hnb_t0_1) (fun t ht _ => ⟨⟨_, (), rfl, ⟨rfl, hnb_t0_1⟩, by rw [ht]; exact hP, hD⟩, hS.F ht⟩) hS.2.2 dX13_eatsSemicolon_23
  refine lv_icmp_ne (tgt := 12) hx hb dX13_eatsSemicolon_5 (by decide) (fun cd => ?_) (fun cd => ?_)
  · have h := ifF cd h
    refine lv_iconst (v := 0) hx hb dX13_eatsSemicolon_12 (by decide) ?_
    exact jn13 (0 : Int32) nbv_0 h _ _ hP hD hS _ (lv_sub hl [0] rfl)
  · have h := ifT cd h
    refine lv_iconst (v := 1) hx hb dX13_eatsSemicolon_8 (by decide) ?_
    refine lv_goto (tgt := 13) hx hb dX13_eatsSemicolon_9 (by decide) ?_
    exact jn13 (1 : Int32) nbv_1 h _ _ hP hD hS _ (lv_sub hl [0] rfl)
noncomputable def f_X13_needs_B13 (p1 : Nat) (mo_size : Int32) (mo_tape : Nat → Int32) (mo_spot : Int32) (mo_sort : Int32) (mo_place : Int32) (mo_number : Int32) (mo_fault : Int32) (mo_wrongAt : Int32) (mo_word : Int64) : Option (Int32 × Int32 × Int32 × Int32 × Int32 × Int32 × Int64) :=
  bd5 (f_X13_goesOn mo_size mo_spot mo_sort mo_place mo_number mo_word mo_tape) fun mo_spot_4 mo_sort_5 mo_place_6 mo_number_7 mo_word_8 =>
  some (mo_spot_4, mo_sort_5, mo_place_6, mo_number_7, mo_fault, mo_wrongAt, mo_word_8)
noncomputable def f_X13_needs (mo_size : Int32) (mo_spot : Int32) (mo_sort : Int32) (mo_place : Int32) (mo_number : Int32) (mo_fault : Int32) (mo_wrongAt : Int32) (mo_word : Int64) (mo_tape : Nat → Int32) (p1 : Nat) : Option (Int32 × Int32 × Int32 × Int32 × Int32 × Int32 × Int64) :=
  bd1 (f_X13_isWord mo_sort mo_word p1) fun r_1 =>
  (if r_1 = 0 then
  bd3 (f_X13_flaw mo_sort mo_place mo_fault mo_wrongAt (1 : Int32)) fun mo_sort_10 mo_fault_11 mo_wrongAt_12 =>
  f_X13_needs_B13 p1 mo_size mo_tape mo_spot mo_sort_10 mo_place mo_number mo_fault_11 mo_wrongAt_12 mo_word
  else
  f_X13_needs_B13 p1 mo_size mo_tape mo_spot mo_sort mo_place mo_number mo_fault mo_wrongAt mo_word)
theorem hd_X13_needs : yX13_needs.cls = RX13 ∧ yX13_needs.cls ≠ "java/lang/invoke/MethodHandle" ∧ yX13_needs.cls ≠ "java/lang/invoke/VarHandle" ∧ (parseMethodDescriptor yX13_needs.desc).map (fun d => d.parameters.length) = some 1 := by decide +kernel
set_option maxHeartbeats 4000000 in
set_option maxRecDepth 100000 in
theorem c_X13_needs (l : Launch) (D : va_G) (cy : Nat → ClassId) (sa sv : Nat → Nat) (A : Nat → Prop) (X : va_W) (a_mo a_mo_tape : Nat) (mo_thrown : Int32) (mo_trouble : Int32) (mo_where : Int32) (mo_war : Value) (mo_read : Value) (mo_taped : Int32) (mo_size : Int32) (mo_spot : Int32) (mo_sort : Int32) (mo_place : Int32) (mo_number : Int32) (mo_fault : Int32) (mo_wrongAt : Int32) (mo_laneTold : Int32) (mo_word : Int64) (mo_v : Value) (mo_x : Value) (mo_past : Value) (mo_kept : Value) (mo_acts : Int32) (mo_marks : Int32) (mo_put : Value) (mo_bestPut : Value) (mo_bestSum : Int64) (mo_row : Value) (mo_best : Value) (mo_left : Value) (mo_bestSize : Int32) (mo_bestLeft : Int32) (mo_counts : Value) (mo_sets : Int32) (mo_foeHarm : Int32) (mo_ownHarm : Int32) (mo_across : Int32) (mo_sumFoe : Int32) (mo_sumOwn : Int32) (mo_sumWon : Int32) (mo_sumAcross : Int32) (mo_tape : Nat → Int32) (p1 : Nat) (hi_p1 : p1 < nT) (mo_spot' : Int32) (mo_sort' : Int32) (mo_place' : Int32) (mo_number' : Int32) (mo_fault' : Int32) (mo_wrongAt' : Int32) (mo_word' : Int64) (h : f_X13_needs mo_size mo_spot mo_sort mo_place mo_number mo_fault mo_wrongAt mo_word mo_tape p1 = some (mo_spot', mo_sort', mo_place', mo_number', mo_fault', mo_wrongAt', mo_word')) : Met l yX13_needs wo_X13_needs ({ frames := 6, cells := 0, slots := 0, locals := 135 }) (wrPcS D cy sa sv A [.ref a_mo, .ref (sa p1)] ([(a_mo, .inr (13, [.int mo_thrown, .int mo_trouble, .int mo_where, mo_war, mo_read, .ref a_mo_tape, .int mo_taped, .int mo_size, .int mo_spot, .int mo_sort, .int mo_place, .int mo_number, .int mo_fault, .int mo_wrongAt, .int mo_laneTold, .long mo_word, mo_v, mo_x, mo_past, mo_kept, .int mo_acts, .int mo_marks, mo_put, mo_bestPut, .long mo_bestSum, mo_row, mo_best, mo_left, .int mo_bestSize, .int mo_bestLeft, mo_counts, .int mo_sets, .int mo_foeHarm, .int mo_ownHarm, .int mo_across, .int mo_sumFoe, .int mo_sumOwn, .int mo_sumWon, .int mo_sumAcross])), (a_mo_tape, .inl (cy 0, 900, .inl mo_tape))] ++ X)) (va_Qv (fun (_ : Unit) => True) (wB D A ([(a_mo, .inr (13, [.int mo_thrown, .int mo_trouble, .int mo_where, mo_war, mo_read, .ref a_mo_tape, .int mo_taped, .int mo_size, .int mo_spot', .int mo_sort', .int mo_place', .int mo_number', .int mo_fault', .int mo_wrongAt', .int mo_laneTold, .long mo_word', mo_v, mo_x, mo_past, mo_kept, .int mo_acts, .int mo_marks, mo_put, mo_bestPut, .long mo_bestSum, mo_row, mo_best, mo_left, .int mo_bestSize, .int mo_bestLeft, mo_counts, .int mo_sets, .int mo_foeHarm, .int mo_ownHarm, .int mo_across, .int mo_sumFoe, .int mo_sumOwn, .int mo_sumWon, .int mo_sumAcross])), (a_mo_tape, .inl (cy 0, 900, .inl mo_tape))] ++ X)) A) 0 0 A := by
  refine Met.ofW (cc := cX13_needs) (maxL := 2) (ret := none) (by decide) rfl ?_
  intro p e s m args below meth c s₁ B hml hv
  obtain ⟨rfl, hP, hKN, hD, hA, hSS⟩ := hv
  have hK := hKN.1
  have hx := B.exec
  have hb := B.bytes
  have hr := B.returns
  have hts := wt_X13_needs hKN.2.2 (([.ref a_mo, .ref (sa p1)] : List Value).toArray)
  have hown : s.vm.findClass RX13 = some m.cls := findClass_of_methodNamed B.named
  have hlocks := B.notSynchronized
  have hS : va_S A s.heap s.heap [] := va_S.rf
  have hl := lv_entry ([.ref a_mo, .ref (sa p1)]) (n := 2) (Nat.le_of_ble_eq_true rfl)
  rw [lg_entry_eq]
  generalize (lg_sl ([.ref a_mo, .ref (sa p1)]) ++ List.replicate (2 - (lg_sl ([.ref a_mo, .ref (sa p1)])).length) Slot.unset).toArray = ls at hl ⊢
  have hl : lv_has ls 2 [(0, .ref a_mo), (1, .ref (sa p1))] := hl
  unfold f_X13_needs at h
  refine lv_aload_n hx hb dX13_needs_0 rfl (lv_at hl 0 rfl) ?_
  refine lv_aload_n hx hb dX13_needs_1 rfl (lv_at hl 1 rfl) ?_
  obtain ⟨r_1, hc_2, h⟩ := bd1_some h
  refine kVbS [.ref (sa p1)] [] ⟨hx, hb, hml, hown, hts⟩ (c_X13_isWord l D cy sa sv a_mo mo_thrown mo_trouble mo_where (mo_war) (mo_read) (.ref a_mo_tape) mo_taped mo_size mo_spot mo_sort mo_place mo_number mo_fault mo_wrongAt mo_laneTold mo_word (mo_v) (mo_x) (mo_past) (mo_kept) mo_acts mo_marks (mo_put) (mo_bestPut) mo_bestSum (mo_row) (mo_best) (mo_left) mo_bestSize mo_bestLeft (mo_counts) mo_sets mo_foeHarm mo_ownHarm mo_across mo_sumFoe mo_sumOwn mo_sumWon mo_sumAcross p1 hi_p1 r_1 hc_2) gX13_needs_X13_isWord rfl hd_X13_isWord ⟨Nat.le_of_ble_eq_true rfl, Nat.le_of_ble_eq_true rfl⟩ rfl rfl hKN (pXc hP [0] rfl) (hSS.kept hS).narrow 13 0 rfl rfl rfl hl.1 rfl (Nat.le_of_ble_eq_true rfl) dX13_needs_2 ⟨Nat.le_of_ble_eq_true rfl, Nat.le_of_ble_eq_true rfl⟩ (fun nb_3 => ?_)
  have jn13 : ∀ (mo_sort_4 : Int32) (mo_fault_5 : Int32) (mo_wrongAt_6 : Int32), f_X13_needs_B13 p1 mo_size mo_tape mo_spot mo_sort_4 mo_place mo_number mo_fault_5 mo_wrongAt_6 mo_word = some (mo_spot', mo_sort', mo_place', mo_number', mo_fault', mo_wrongAt', mo_word') → ∀ (H : Heap) (locs : List Loc), va_P D vwCl ([(a_mo, .inr (13, [.int mo_thrown, .int mo_trouble, .int mo_where, mo_war, mo_read, .ref a_mo_tape, .int mo_taped, .int mo_size, .int mo_spot, .int mo_sort_4, .int mo_place, .int mo_number, .int mo_fault_5, .int mo_wrongAt_6, .int mo_laneTold, .long mo_word, mo_v, mo_x, mo_past, mo_kept, .int mo_acts, .int mo_marks, mo_put, mo_bestPut, .long mo_bestSum, mo_row, mo_best, mo_left, .int mo_bestSize, .int mo_bestLeft, mo_counts, .int mo_sets, .int mo_foeHarm, .int mo_ownHarm, .int mo_across, .int mo_sumFoe, .int mo_sumOwn, .int mo_sumWon, .int mo_sumAcross])), (a_mo_tape, .inl (cy 0, 900, .inl mo_tape))] ++ X) H → va_D A ([(a_mo, .inr (13, [.int mo_thrown, .int mo_trouble, .int mo_where, mo_war, mo_read, .ref a_mo_tape, .int mo_taped, .int mo_size, .int mo_spot, .int mo_sort_4, .int mo_place, .int mo_number, .int mo_fault_5, .int mo_wrongAt_6, .int mo_laneTold, .long mo_word, mo_v, mo_x, mo_past, mo_kept, .int mo_acts, .int mo_marks, mo_put, mo_bestPut, .long mo_bestSum, mo_row, mo_best, mo_left, .int mo_bestSize, .int mo_bestLeft, mo_counts, .int mo_sets, .int mo_foeHarm, .int mo_ownHarm, .int mo_across, .int mo_sumFoe, .int mo_sumOwn, .int mo_sumWon, .int mo_sumAcross])), (a_mo_tape, .inl (cy 0, 900, .inl mo_tape))] ++ X) → va_S A s.heap H locs → ∀ ls : Array Slot, lv_has ls 2 [(0, .ref a_mo)] → W p l e (headSpec wo_X13_needs ({ frames := 6, cells := 0, slots := 0, locals := 135 })).room s m (([.ref a_mo, .ref (sa p1)] : List Value).toArray) below meth c H locs 0 0 (MQ below (va_Qv (fun (_ : Unit) => True) (wB D A ([(a_mo, .inr (13, [.int mo_thrown, .int mo_trouble, .int mo_where, mo_war, mo_read, .ref a_mo_tape, .int mo_taped, .int mo_size, .int mo_spot', .int mo_sort', .int mo_place', .int mo_number', .int mo_fault', .int mo_wrongAt', .int mo_laneTold, .long mo_word', mo_v, mo_x, mo_past, mo_kept, .int mo_acts, .int mo_marks, mo_put, mo_bestPut, .long mo_bestSum, mo_row, mo_best, mo_left, .int mo_bestSize, .int mo_bestLeft, mo_counts, .int mo_sets, .int mo_foeHarm, .int mo_ownHarm, .int mo_across, .int mo_sumFoe, .int mo_sumOwn, .int mo_sumWon, .int mo_sumAcross])), (a_mo_tape, .inl (cy 0, 900, .inl mo_tape))] ++ X)) A) (([.ref a_mo, .ref (sa p1)] : List Value).toArray) s 0 0 A) (F0 m 13 ls []) := by
    intro mo_sort_4 mo_fault_5 mo_wrongAt_6 h H locs hP hD hS ls hl
    unfold f_X13_needs_B13 at h
    refine lv_aload_n hx hb dX13_needs_13 rfl (lv_at hl 0 rfl) ?_
    obtain ⟨mo_spot_7, mo_sort_8, mo_place_9, mo_number_10, mo_word_11, hc_12, h⟩ := bd5_some h
    refine wVv [] [] ⟨hx, hb, hml, hown, hts⟩ (c_X13_goesOn l D cy A X a_mo a_mo_tape mo_thrown mo_trouble mo_where (mo_war) (mo_read) mo_taped mo_size mo_spot mo_sort_4 mo_place mo_number mo_fault_5 mo_wrongAt_6 mo_laneTold mo_word (mo_v) (mo_x) (mo_past) (mo_kept) mo_acts mo_marks (mo_put) (mo_bestPut) mo_bestSum (mo_row) (mo_best) (mo_left) mo_bestSize mo_bestLeft (mo_counts) mo_sets mo_foeHarm mo_ownHarm mo_across mo_sumFoe mo_sumOwn mo_sumWon mo_sumAcross mo_tape mo_spot_7 mo_sort_8 mo_place_9 mo_number_10 mo_word_11 hc_12) gX13_needs_X13_goesOn rfl hd_X13_goesOn ⟨Nat.le_of_ble_eq_true rfl, Nat.le_of_ble_eq_true rfl⟩ rfl rfl hKN hP hD hS hA 13 0 rfl rfl rfl hl.1 rfl (Nat.le_of_ble_eq_true rfl) dX13_needs_14 ⟨Nat.le_of_ble_eq_true rfl, Nat.le_of_ble_eq_true rfl⟩ (fun H locs hP hD hS => ?_)
    cases h
    exact W.vret hx hb hr (fun t ht _ => ⟨⟨(), rfl, trivial, by rw [ht]; exact hP, hD⟩, hS.F ht⟩) hS.2.2 dX13_needs_17
  refine lv_if_ne (tgt := 13) hx hb dX13_needs_5 (by decide) (fun cd => ?_) (fun cd => ?_)
  · have h := ifF cd h
    exact jn13 mo_sort mo_fault mo_wrongAt h _ _ hP hD hS _ (lv_sub hl [0] rfl)
  · have h := ifT cd h
    refine lv_aload_n hx hb dX13_needs_8 rfl (lv_at hl 0 rfl) ?_
    refine lv_iconst (v := 1) hx hb dX13_needs_9 (by decide) ?_
    obtain ⟨mo_sort_13, mo_fault_14, mo_wrongAt_15, hc_16, h⟩ := bd3_some h
    refine wVv [.int 1] [] ⟨hx, hb, hml, hown, hts⟩ (c_X13_flaw l D cy A ([(a_mo_tape, .inl (cy 0, 900, .inl mo_tape))] ++ X) a_mo mo_thrown mo_trouble mo_where (mo_war) (mo_read) (.ref a_mo_tape) mo_taped mo_size mo_spot mo_sort mo_place mo_number mo_fault mo_wrongAt mo_laneTold mo_word (mo_v) (mo_x) (mo_past) (mo_kept) mo_acts mo_marks (mo_put) (mo_bestPut) mo_bestSum (mo_row) (mo_best) (mo_left) mo_bestSize mo_bestLeft (mo_counts) mo_sets mo_foeHarm mo_ownHarm mo_across mo_sumFoe mo_sumOwn mo_sumWon mo_sumAcross (1 : Int32) mo_sort_13 mo_fault_14 mo_wrongAt_15 hc_16) gX13_needs_X13_flaw rfl hd_X13_flaw ⟨Nat.le_of_ble_eq_true rfl, Nat.le_of_ble_eq_true rfl⟩ rfl rfl hKN (pX3 hP [0, 1] rfl) (dX3 hD [0, 1] rfl rfl) hS hA 13 0 rfl rfl rfl hl.1 rfl (Nat.le_of_ble_eq_true rfl) dX13_needs_10 ⟨Nat.le_of_ble_eq_true rfl, Nat.le_of_ble_eq_true rfl⟩ (fun H locs hP hD hS => ?_)
    have hP := pX4 (L1 := [(a_mo, .inr (13, [.int mo_thrown, .int mo_trouble, .int mo_where, mo_war, mo_read, .ref a_mo_tape, .int mo_taped, .int mo_size, .int mo_spot, .int mo_sort_13, .int mo_place, .int mo_number, .int mo_fault_14, .int mo_wrongAt_15, .int mo_laneTold, .long mo_word, mo_v, mo_x, mo_past, mo_kept, .int mo_acts, .int mo_marks, mo_put, mo_bestPut, .long mo_bestSum, mo_row, mo_best, mo_left, .int mo_bestSize, .int mo_bestLeft, mo_counts, .int mo_sets, .int mo_foeHarm, .int mo_ownHarm, .int mo_across, .int mo_sumFoe, .int mo_sumOwn, .int mo_sumWon, .int mo_sumAcross])), (a_mo_tape, .inl (cy 0, 900, .inl mo_tape))]) hP [0, 1] rfl
    have hD := dX4 (L1 := [(a_mo, .inr (13, [.int mo_thrown, .int mo_trouble, .int mo_where, mo_war, mo_read, .ref a_mo_tape, .int mo_taped, .int mo_size, .int mo_spot, .int mo_sort_13, .int mo_place, .int mo_number, .int mo_fault_14, .int mo_wrongAt_15, .int mo_laneTold, .long mo_word, mo_v, mo_x, mo_past, mo_kept, .int mo_acts, .int mo_marks, mo_put, mo_bestPut, .long mo_bestSum, mo_row, mo_best, mo_left, .int mo_bestSize, .int mo_bestLeft, mo_counts, .int mo_sets, .int mo_foeHarm, .int mo_ownHarm, .int mo_across, .int mo_sumFoe, .int mo_sumOwn, .int mo_sumWon, .int mo_sumAcross])), (a_mo_tape, .inl (cy 0, 900, .inl mo_tape))]) hD [0, 1] rfl rfl
    exact jn13 mo_sort_13 mo_fault_14 mo_wrongAt_15 h _ _ hP hD hS _ (lv_sub hl [0] rfl)
noncomputable def f_X13_bounded_B33 (mo_place : Int32) (mo_number : Int32) (x1 : Int32) (mo_sort : Int32) (mo_fault : Int32) (mo_wrongAt : Int32) : Option (Int32 × Int32 × Int32 × Int32) :=
  (if mo_sort = 5 then
  some (x1, mo_sort, mo_fault, mo_wrongAt)
  else
  some (mo_number, mo_sort, mo_fault, mo_wrongAt))
noncomputable def f_X13_bounded (mo_sort : Int32) (mo_place : Int32) (mo_number : Int32) (mo_fault : Int32) (mo_wrongAt : Int32) (p1 : Int32) (p2 : Int32) : Option (Int32 × Int32 × Int32 × Int32) :=
  (if mo_sort = 3 then
  bd1 (f_X13_in  mo_number p1 p2) fun r_1 =>
  (if r_1 = 0 then
  bd3 (f_X13_flaw mo_sort mo_place mo_fault mo_wrongAt (4 : Int32)) fun mo_sort_4 mo_fault_5 mo_wrongAt_6 =>
  f_X13_bounded_B33 mo_place mo_number p1 mo_sort_4 mo_fault_5 mo_wrongAt_6
  else
  f_X13_bounded_B33 mo_place mo_number p1 mo_sort mo_fault mo_wrongAt)
  else
  bd3 (f_X13_flaw mo_sort mo_place mo_fault mo_wrongAt (1 : Int32)) fun mo_sort_8 mo_fault_9 mo_wrongAt_10 =>
  f_X13_bounded_B33 mo_place mo_number p1 mo_sort_8 mo_fault_9 mo_wrongAt_10)
theorem hd_X13_bounded : yX13_bounded.cls = RX13 ∧ yX13_bounded.cls ≠ "java/lang/invoke/MethodHandle" ∧ yX13_bounded.cls ≠ "java/lang/invoke/VarHandle" ∧ (parseMethodDescriptor yX13_bounded.desc).map (fun d => d.parameters.length) = some 2 := by decide +kernel
set_option maxHeartbeats 4000000 in
set_option maxRecDepth 100000 in
theorem c_X13_bounded (l : Launch) (D : va_G) (cy : Nat → ClassId) (A : Nat → Prop) (X : va_W) (a_mo : Nat) (mo_thrown : Int32) (mo_trouble : Int32) (mo_where : Int32) (mo_war : Value) (mo_read : Value) (mo_tape : Value) (mo_taped : Int32) (mo_size : Int32) (mo_spot : Int32) (mo_sort : Int32) (mo_place : Int32) (mo_number : Int32) (mo_fault : Int32) (mo_wrongAt : Int32) (mo_laneTold : Int32) (mo_word : Int64) (mo_v : Value) (mo_x : Value) (mo_past : Value) (mo_kept : Value) (mo_acts : Int32) (mo_marks : Int32) (mo_put : Value) (mo_bestPut : Value) (mo_bestSum : Int64) (mo_row : Value) (mo_best : Value) (mo_left : Value) (mo_bestSize : Int32) (mo_bestLeft : Int32) (mo_counts : Value) (mo_sets : Int32) (mo_foeHarm : Int32) (mo_ownHarm : Int32) (mo_across : Int32) (mo_sumFoe : Int32) (mo_sumOwn : Int32) (mo_sumWon : Int32) (mo_sumAcross : Int32) (p1 : Int32) (p2 : Int32) (res : Int32) (mo_sort' : Int32) (mo_fault' : Int32) (mo_wrongAt' : Int32) (h : f_X13_bounded mo_sort mo_place mo_number mo_fault mo_wrongAt p1 p2 = some (res, mo_sort', mo_fault', mo_wrongAt')) : Met l yX13_bounded wo_X13_bounded ({ frames := 1, cells := 0, slots := 0, locals := 22 }) (wrPc D cy A [.ref a_mo, .int p1, .int p2] ([(a_mo, .inr (13, [.int mo_thrown, .int mo_trouble, .int mo_where, mo_war, mo_read, mo_tape, .int mo_taped, .int mo_size, .int mo_spot, .int mo_sort, .int mo_place, .int mo_number, .int mo_fault, .int mo_wrongAt, .int mo_laneTold, .long mo_word, mo_v, mo_x, mo_past, mo_kept, .int mo_acts, .int mo_marks, mo_put, mo_bestPut, .long mo_bestSum, mo_row, mo_best, mo_left, .int mo_bestSize, .int mo_bestLeft, mo_counts, .int mo_sets, .int mo_foeHarm, .int mo_ownHarm, .int mo_across, .int mo_sumFoe, .int mo_sumOwn, .int mo_sumWon, .int mo_sumAcross]))] ++ X)) (va_Qi (fun (r : Int32) (_ : Unit) => r = res) (wB D A ([(a_mo, .inr (13, [.int mo_thrown, .int mo_trouble, .int mo_where, mo_war, mo_read, mo_tape, .int mo_taped, .int mo_size, .int mo_spot, .int mo_sort', .int mo_place, .int mo_number, .int mo_fault', .int mo_wrongAt', .int mo_laneTold, .long mo_word, mo_v, mo_x, mo_past, mo_kept, .int mo_acts, .int mo_marks, mo_put, mo_bestPut, .long mo_bestSum, mo_row, mo_best, mo_left, .int mo_bestSize, .int mo_bestLeft, mo_counts, .int mo_sets, .int mo_foeHarm, .int mo_ownHarm, .int mo_across, .int mo_sumFoe, .int mo_sumOwn, .int mo_sumWon, .int mo_sumAcross]))] ++ X)) A) 0 0 A := by
  refine Met.ofW (cc := cX13_bounded) (maxL := 3) (ret := (some .int)) (by decide) rfl ?_
  intro p e s m args below meth c s₁ B hml hv
  obtain ⟨rfl, hP, hKN, hD, hA⟩ := hv
  have hK := hKN.1
  have hx := B.exec
  have hb := B.bytes
  have hr := B.returns
  have hts := wt_X13_bounded hKN.2.2 (([.ref a_mo, .int p1, .int p2] : List Value).toArray)
  have hown : s.vm.findClass RX13 = some m.cls := findClass_of_methodNamed B.named
  have hlocks := B.notSynchronized
  have hS : va_S A s.heap s.heap [] := va_S.rf
  have hX13 := wc_X13 hKN.2.2 (([.ref a_mo, .int p1, .int p2] : List Value).toArray)
  have hl := lv_entry ([.ref a_mo, .int p1, .int p2]) (n := 3) (Nat.le_of_ble_eq_true rfl)
  rw [lg_entry_eq]
  generalize (lg_sl ([.ref a_mo, .int p1, .int p2]) ++ List.replicate (3 - (lg_sl ([.ref a_mo, .int p1, .int p2])).length) Slot.unset).toArray = ls at hl ⊢
  have hl : lv_has ls 3 [(0, .ref a_mo), (1, .int p1), (2, .int p2)] := hl
  unfold f_X13_bounded at h
  refine lv_aload_n hx hb dX13_bounded_0 rfl (lv_at hl 0 rfl) ?_
  refine va_get (D := D) (ci := 13) (C := RX13) (T := TX13) (N := 39) (v := .int mo_sort) hx hb hX13 (fun _ q => q) hown hK hP 0 rfl rfl 9 (by decide) (hts (.fieldLink RX13 82 "ElephantLineModel" "sort" "I") (by decide +kernel)) (fun _ h9 => h9) rfl dX13_bounded_1 ?_
  refine lv_iconst (v := 3) hx hb dX13_bounded_4 (by decide) ?_
  have jn33 : ∀ (mo_sort_1 : Int32) (mo_fault_2 : Int32) (mo_wrongAt_3 : Int32), f_X13_bounded_B33 mo_place mo_number p1 mo_sort_1 mo_fault_2 mo_wrongAt_3 = some (res, mo_sort', mo_fault', mo_wrongAt') → ∀ (H : Heap) (locs : List Loc), va_P D vwCl ([(a_mo, .inr (13, [.int mo_thrown, .int mo_trouble, .int mo_where, mo_war, mo_read, mo_tape, .int mo_taped, .int mo_size, .int mo_spot, .int mo_sort_1, .int mo_place, .int mo_number, .int mo_fault_2, .int mo_wrongAt_3, .int mo_laneTold, .long mo_word, mo_v, mo_x, mo_past, mo_kept, .int mo_acts, .int mo_marks, mo_put, mo_bestPut, .long mo_bestSum, mo_row, mo_best, mo_left, .int mo_bestSize, .int mo_bestLeft, mo_counts, .int mo_sets, .int mo_foeHarm, .int mo_ownHarm, .int mo_across, .int mo_sumFoe, .int mo_sumOwn, .int mo_sumWon, .int mo_sumAcross]))] ++ X) H → va_D A ([(a_mo, .inr (13, [.int mo_thrown, .int mo_trouble, .int mo_where, mo_war, mo_read, mo_tape, .int mo_taped, .int mo_size, .int mo_spot, .int mo_sort_1, .int mo_place, .int mo_number, .int mo_fault_2, .int mo_wrongAt_3, .int mo_laneTold, .long mo_word, mo_v, mo_x, mo_past, mo_kept, .int mo_acts, .int mo_marks, mo_put, mo_bestPut, .long mo_bestSum, mo_row, mo_best, mo_left, .int mo_bestSize, .int mo_bestLeft, mo_counts, .int mo_sets, .int mo_foeHarm, .int mo_ownHarm, .int mo_across, .int mo_sumFoe, .int mo_sumOwn, .int mo_sumWon, .int mo_sumAcross]))] ++ X) → va_S A s.heap H locs → ∀ ls : Array Slot, lv_has ls 3 [(0, .ref a_mo), (1, .int p1)] → W p l e (headSpec wo_X13_bounded ({ frames := 1, cells := 0, slots := 0, locals := 22 })).room s m (([.ref a_mo, .int p1, .int p2] : List Value).toArray) below meth c H locs 0 0 (MQ below (va_Qi (fun (r : Int32) (_ : Unit) => r = res) (wB D A ([(a_mo, .inr (13, [.int mo_thrown, .int mo_trouble, .int mo_where, mo_war, mo_read, mo_tape, .int mo_taped, .int mo_size, .int mo_spot, .int mo_sort', .int mo_place, .int mo_number, .int mo_fault', .int mo_wrongAt', .int mo_laneTold, .long mo_word, mo_v, mo_x, mo_past, mo_kept, .int mo_acts, .int mo_marks, mo_put, mo_bestPut, .long mo_bestSum, mo_row, mo_best, mo_left, .int mo_bestSize, .int mo_bestLeft, mo_counts, .int mo_sets, .int mo_foeHarm, .int mo_ownHarm, .int mo_across, .int mo_sumFoe, .int mo_sumOwn, .int mo_sumWon, .int mo_sumAcross]))] ++ X)) A) (([.ref a_mo, .int p1, .int p2] : List Value).toArray) s 0 0 A) (F0 m 33 ls []) := by
    intro mo_sort_1 mo_fault_2 mo_wrongAt_3 h H locs hP hD hS ls hl
    unfold f_X13_bounded_B33 at h
    refine lv_aload_n hx hb dX13_bounded_33 rfl (lv_at hl 0 rfl) ?_
    refine va_get (D := D) (ci := 13) (C := RX13) (T := TX13) (N := 39) (v := .int mo_sort_1) hx hb hX13 (fun _ q => q) hown hK hP 0 rfl rfl 9 (by decide) (hts (.fieldLink RX13 82 "ElephantLineModel" "sort" "I") (by decide +kernel)) (fun _ h9 => h9) rfl dX13_bounded_34 ?_
    refine lv_iconst (v := 5) hx hb dX13_bounded_37 (by decide) ?_
    refine lv_icmp_ne (tgt := 45) hx hb dX13_bounded_38 (by decide) (fun cd => ?_) (fun cd => ?_)
    · have h := ifF cd h
      refine lv_aload_n hx hb dX13_bounded_45 rfl (lv_at hl 0 rfl) ?_
      refine va_get (D := D) (ci := 13) (C := RX13) (T := TX13) (N := 39) (v := .int mo_number) hx hb hX13 (fun _ q => q) hown hK hP 0 rfl rfl 11 (by decide) (hts (.fieldLink RX13 105 "ElephantLineModel" "number" "I") (by decide +kernel)) (fun _ h9 => h9) rfl dX13_bounded_46 ?_
      cases h
      exact W.iret hx hb hr (fun t ht _ => ⟨⟨_, (), rfl, rfl, by rw [ht]; exact hP, hD⟩, hS.F ht⟩) hS.2.2 dX13_bounded_49
    · have h := ifT cd h
      refine lv_iload_n hx hb dX13_bounded_41 rfl (lv_at hl 1 rfl) ?_
      refine lv_goto (tgt := 49) hx hb dX13_bounded_42 (by decide) ?_
      cases h
      exact W.iret hx hb hr (fun t ht _ => ⟨⟨_, (), rfl, rfl, by rw [ht]; exact hP, hD⟩, hS.F ht⟩) hS.2.2 dX13_bounded_49
  refine lv_icmp_eq (tgt := 16) hx hb dX13_bounded_5 (by decide) (fun cd => ?_) (fun cd => ?_)
  · have h := ifT cd h
    refine lv_aload_n hx hb dX13_bounded_16 rfl (lv_at hl 0 rfl) ?_
    refine va_get (D := D) (ci := 13) (C := RX13) (T := TX13) (N := 39) (v := .int mo_number) hx hb hX13 (fun _ q => q) hown hK hP 0 rfl rfl 11 (by decide) (hts (.fieldLink RX13 105 "ElephantLineModel" "number" "I") (by decide +kernel)) (fun _ h9 => h9) rfl dX13_bounded_17 ?_
    refine lv_iload_n hx hb dX13_bounded_20 rfl (lv_at hl 1 rfl) ?_
    refine lv_iload_n hx hb dX13_bounded_21 rfl (lv_at hl 2 rfl) ?_
    obtain ⟨r_4, hc_5, h⟩ := bd1_some h
    refine kSb [.int mo_number, .int p1, .int p2] [] ⟨hx, hb, hml, hown, hts⟩ (c_X13_in l D cy mo_number p1 p2 r_4 hc_5) gX13_bounded_X13_in rfl hd_X13_in ⟨Nat.le_of_ble_eq_true rfl, Nat.le_of_ble_eq_true rfl⟩ rfl rfl hKN va_nil rfl hl.1 rfl (Nat.le_of_ble_eq_true rfl) dX13_bounded_22 ⟨Nat.le_of_ble_eq_true rfl, Nat.le_of_ble_eq_true rfl⟩ (fun nb_6 => ?_)
    refine lv_if_ne (tgt := 33) hx hb dX13_bounded_25 (by decide) (fun cd => ?_) (fun cd => ?_)
    · have h := ifF cd h
      exact jn33 mo_sort mo_fault mo_wrongAt h _ _ hP hD hS _ (lv_sub hl [0, 1] rfl)
    · have h := ifT cd h
      refine lv_aload_n hx hb dX13_bounded_28 rfl (lv_at hl 0 rfl) ?_
      refine lv_iconst (v := 4) hx hb dX13_bounded_29 (by decide) ?_
      obtain ⟨mo_sort_7, mo_fault_8, mo_wrongAt_9, hc_10, h⟩ := bd3_some h
      refine wVv [.int 4] [] ⟨hx, hb, hml, hown, hts⟩ (c_X13_flaw l D cy A X a_mo mo_thrown mo_trouble mo_where (mo_war) (mo_read) (mo_tape) mo_taped mo_size mo_spot mo_sort mo_place mo_number mo_fault mo_wrongAt mo_laneTold mo_word (mo_v) (mo_x) (mo_past) (mo_kept) mo_acts mo_marks (mo_put) (mo_bestPut) mo_bestSum (mo_row) (mo_best) (mo_left) mo_bestSize mo_bestLeft (mo_counts) mo_sets mo_foeHarm mo_ownHarm mo_across mo_sumFoe mo_sumOwn mo_sumWon mo_sumAcross (4 : Int32) mo_sort_7 mo_fault_8 mo_wrongAt_9 hc_10) gX13_bounded_X13_flaw rfl hd_X13_flaw ⟨Nat.le_of_ble_eq_true rfl, Nat.le_of_ble_eq_true rfl⟩ rfl rfl hKN hP hD hS hA 13 0 rfl rfl rfl hl.1 rfl (Nat.le_of_ble_eq_true rfl) dX13_bounded_30 ⟨Nat.le_of_ble_eq_true rfl, Nat.le_of_ble_eq_true rfl⟩ (fun H locs hP hD hS => ?_)
      exact jn33 mo_sort_7 mo_fault_8 mo_wrongAt_9 h _ _ hP hD hS _ (lv_sub hl [0, 1] rfl)
  · have h := ifF cd h
    refine lv_aload_n hx hb dX13_bounded_8 rfl (lv_at hl 0 rfl) ?_
    refine lv_iconst (v := 1) hx hb dX13_bounded_9 (by decide) ?_
    obtain ⟨mo_sort_11, mo_fault_12, mo_wrongAt_13, hc_14, h⟩ := bd3_some h
    refine wVv [.int 1] [] ⟨hx, hb, hml, hown, hts⟩ (c_X13_flaw l D cy A X a_mo mo_thrown mo_trouble mo_where (mo_war) (mo_read) (mo_tape) mo_taped mo_size mo_spot mo_sort mo_place mo_number mo_fault mo_wrongAt mo_laneTold mo_word (mo_v) (mo_x) (mo_past) (mo_kept) mo_acts mo_marks (mo_put) (mo_bestPut) mo_bestSum (mo_row) (mo_best) (mo_left) mo_bestSize mo_bestLeft (mo_counts) mo_sets mo_foeHarm mo_ownHarm mo_across mo_sumFoe mo_sumOwn mo_sumWon mo_sumAcross (1 : Int32) mo_sort_11 mo_fault_12 mo_wrongAt_13 hc_14) gX13_bounded_X13_flaw rfl hd_X13_flaw ⟨Nat.le_of_ble_eq_true rfl, Nat.le_of_ble_eq_true rfl⟩ rfl rfl hKN hP hD hS hA 13 0 rfl rfl rfl hl.1 rfl (Nat.le_of_ble_eq_true rfl) dX13_bounded_10 ⟨Nat.le_of_ble_eq_true rfl, Nat.le_of_ble_eq_true rfl⟩ (fun H locs hP hD hS => ?_)
    refine lv_goto (tgt := 33) hx hb dX13_bounded_13 (by decide) ?_
    exact jn33 mo_sort_11 mo_fault_12 mo_wrongAt_13 h _ _ hP hD hS _ (lv_sub hl [0, 1] rfl)
noncomputable def f_X13_readWhole (mo_size : Int32) (mo_spot : Int32) (mo_sort : Int32) (mo_place : Int32) (mo_number : Int32) (mo_fault : Int32) (mo_wrongAt : Int32) (mo_word : Int64) (mo_tape : Nat → Int32) (p1 : Int32) (p2 : Int32) : Option (Int32 × Int32 × Int32 × Int32 × Int32 × Int32 × Int32 × Int64) :=
  bd4 (f_X13_bounded mo_sort mo_place mo_number mo_fault mo_wrongAt p1 p2) fun r_1 mo_sort_2 mo_fault_3 mo_wrongAt_4 =>
  bd5 (f_X13_goesOn mo_size mo_spot mo_sort_2 mo_place mo_number mo_word mo_tape) fun mo_spot_6 mo_sort_7 mo_place_8 mo_number_9 mo_word_10 =>
  some (r_1, mo_spot_6, mo_sort_7, mo_place_8, mo_number_9, mo_fault_3, mo_wrongAt_4, mo_word_10)
theorem hd_X13_readWhole : yX13_readWhole.cls = RX13 ∧ yX13_readWhole.cls ≠ "java/lang/invoke/MethodHandle" ∧ yX13_readWhole.cls ≠ "java/lang/invoke/VarHandle" ∧ (parseMethodDescriptor yX13_readWhole.desc).map (fun d => d.parameters.length) = some 2 := by decide +kernel
set_option maxHeartbeats 4000000 in
set_option maxRecDepth 100000 in
theorem c_X13_readWhole (l : Launch) (D : va_G) (cy : Nat → ClassId) (A : Nat → Prop) (X : va_W) (a_mo a_mo_tape : Nat) (mo_thrown : Int32) (mo_trouble : Int32) (mo_where : Int32) (mo_war : Value) (mo_read : Value) (mo_taped : Int32) (mo_size : Int32) (mo_spot : Int32) (mo_sort : Int32) (mo_place : Int32) (mo_number : Int32) (mo_fault : Int32) (mo_wrongAt : Int32) (mo_laneTold : Int32) (mo_word : Int64) (mo_v : Value) (mo_x : Value) (mo_past : Value) (mo_kept : Value) (mo_acts : Int32) (mo_marks : Int32) (mo_put : Value) (mo_bestPut : Value) (mo_bestSum : Int64) (mo_row : Value) (mo_best : Value) (mo_left : Value) (mo_bestSize : Int32) (mo_bestLeft : Int32) (mo_counts : Value) (mo_sets : Int32) (mo_foeHarm : Int32) (mo_ownHarm : Int32) (mo_across : Int32) (mo_sumFoe : Int32) (mo_sumOwn : Int32) (mo_sumWon : Int32) (mo_sumAcross : Int32) (mo_tape : Nat → Int32) (p1 : Int32) (p2 : Int32) (res : Int32) (mo_spot' : Int32) (mo_sort' : Int32) (mo_place' : Int32) (mo_number' : Int32) (mo_fault' : Int32) (mo_wrongAt' : Int32) (mo_word' : Int64) (h : f_X13_readWhole mo_size mo_spot mo_sort mo_place mo_number mo_fault mo_wrongAt mo_word mo_tape p1 p2 = some (res, mo_spot', mo_sort', mo_place', mo_number', mo_fault', mo_wrongAt', mo_word')) : Met l yX13_readWhole wo_X13_readWhole ({ frames := 2, cells := 0, slots := 0, locals := 44 }) (wrPc D cy A [.ref a_mo, .int p1, .int p2] ([(a_mo, .inr (13, [.int mo_thrown, .int mo_trouble, .int mo_where, mo_war, mo_read, .ref a_mo_tape, .int mo_taped, .int mo_size, .int mo_spot, .int mo_sort, .int mo_place, .int mo_number, .int mo_fault, .int mo_wrongAt, .int mo_laneTold, .long mo_word, mo_v, mo_x, mo_past, mo_kept, .int mo_acts, .int mo_marks, mo_put, mo_bestPut, .long mo_bestSum, mo_row, mo_best, mo_left, .int mo_bestSize, .int mo_bestLeft, mo_counts, .int mo_sets, .int mo_foeHarm, .int mo_ownHarm, .int mo_across, .int mo_sumFoe, .int mo_sumOwn, .int mo_sumWon, .int mo_sumAcross])), (a_mo_tape, .inl (cy 0, 900, .inl mo_tape))] ++ X)) (va_Qi (fun (r : Int32) (_ : Unit) => r = res) (wB D A ([(a_mo, .inr (13, [.int mo_thrown, .int mo_trouble, .int mo_where, mo_war, mo_read, .ref a_mo_tape, .int mo_taped, .int mo_size, .int mo_spot', .int mo_sort', .int mo_place', .int mo_number', .int mo_fault', .int mo_wrongAt', .int mo_laneTold, .long mo_word', mo_v, mo_x, mo_past, mo_kept, .int mo_acts, .int mo_marks, mo_put, mo_bestPut, .long mo_bestSum, mo_row, mo_best, mo_left, .int mo_bestSize, .int mo_bestLeft, mo_counts, .int mo_sets, .int mo_foeHarm, .int mo_ownHarm, .int mo_across, .int mo_sumFoe, .int mo_sumOwn, .int mo_sumWon, .int mo_sumAcross])), (a_mo_tape, .inl (cy 0, 900, .inl mo_tape))] ++ X)) A) 0 0 A := by
  refine Met.ofW (cc := cX13_readWhole) (maxL := 4) (ret := (some .int)) (by decide) rfl ?_
  intro p e s m args below meth c s₁ B hml hv
  obtain ⟨rfl, hP, hKN, hD, hA⟩ := hv
  have hK := hKN.1
  have hx := B.exec
  have hb := B.bytes
  have hr := B.returns
  have hts := wt_X13_readWhole hKN.2.2 (([.ref a_mo, .int p1, .int p2] : List Value).toArray)
  have hown : s.vm.findClass RX13 = some m.cls := findClass_of_methodNamed B.named
  have hlocks := B.notSynchronized
  have hS : va_S A s.heap s.heap [] := va_S.rf
  have hl := lv_entry ([.ref a_mo, .int p1, .int p2]) (n := 4) (Nat.le_of_ble_eq_true rfl)
  rw [lg_entry_eq]
  generalize (lg_sl ([.ref a_mo, .int p1, .int p2]) ++ List.replicate (4 - (lg_sl ([.ref a_mo, .int p1, .int p2])).length) Slot.unset).toArray = ls at hl ⊢
  have hl : lv_has ls 4 [(0, .ref a_mo), (1, .int p1), (2, .int p2)] := hl
  unfold f_X13_readWhole at h
  refine lv_aload_n hx hb dX13_readWhole_0 rfl (lv_at hl 0 rfl) ?_
  refine lv_iload_n hx hb dX13_readWhole_1 rfl (lv_at hl 1 rfl) ?_
  refine lv_iload_n hx hb dX13_readWhole_2 rfl (lv_at hl 2 rfl) ?_
  obtain ⟨r_1, mo_sort_2, mo_fault_3, mo_wrongAt_4, hc_5, h⟩ := bd4_some h
  refine wVi [.int p1, .int p2] [] ⟨hx, hb, hml, hown, hts⟩ (c_X13_bounded l D cy A ([(a_mo_tape, .inl (cy 0, 900, .inl mo_tape))] ++ X) a_mo mo_thrown mo_trouble mo_where (mo_war) (mo_read) (.ref a_mo_tape) mo_taped mo_size mo_spot mo_sort mo_place mo_number mo_fault mo_wrongAt mo_laneTold mo_word (mo_v) (mo_x) (mo_past) (mo_kept) mo_acts mo_marks (mo_put) (mo_bestPut) mo_bestSum (mo_row) (mo_best) (mo_left) mo_bestSize mo_bestLeft (mo_counts) mo_sets mo_foeHarm mo_ownHarm mo_across mo_sumFoe mo_sumOwn mo_sumWon mo_sumAcross p1 p2 r_1 mo_sort_2 mo_fault_3 mo_wrongAt_4 hc_5) gX13_readWhole_X13_bounded rfl hd_X13_bounded ⟨Nat.le_of_ble_eq_true rfl, Nat.le_of_ble_eq_true rfl⟩ rfl rfl hKN (pX3 hP [0, 1] rfl) (dX3 hD [0, 1] rfl rfl) hS hA 13 0 rfl rfl rfl hl.1 rfl (Nat.le_of_ble_eq_true rfl) dX13_readWhole_3 ⟨Nat.le_of_ble_eq_true rfl, Nat.le_of_ble_eq_true rfl⟩ (fun H locs hP hD hS => ?_)
  have hP := pX4 (L1 := [(a_mo, .inr (13, [.int mo_thrown, .int mo_trouble, .int mo_where, mo_war, mo_read, .ref a_mo_tape, .int mo_taped, .int mo_size, .int mo_spot, .int mo_sort_2, .int mo_place, .int mo_number, .int mo_fault_3, .int mo_wrongAt_4, .int mo_laneTold, .long mo_word, mo_v, mo_x, mo_past, mo_kept, .int mo_acts, .int mo_marks, mo_put, mo_bestPut, .long mo_bestSum, mo_row, mo_best, mo_left, .int mo_bestSize, .int mo_bestLeft, mo_counts, .int mo_sets, .int mo_foeHarm, .int mo_ownHarm, .int mo_across, .int mo_sumFoe, .int mo_sumOwn, .int mo_sumWon, .int mo_sumAcross])), (a_mo_tape, .inl (cy 0, 900, .inl mo_tape))]) hP [0, 1] rfl
  have hD := dX4 (L1 := [(a_mo, .inr (13, [.int mo_thrown, .int mo_trouble, .int mo_where, mo_war, mo_read, .ref a_mo_tape, .int mo_taped, .int mo_size, .int mo_spot, .int mo_sort_2, .int mo_place, .int mo_number, .int mo_fault_3, .int mo_wrongAt_4, .int mo_laneTold, .long mo_word, mo_v, mo_x, mo_past, mo_kept, .int mo_acts, .int mo_marks, mo_put, mo_bestPut, .long mo_bestSum, mo_row, mo_best, mo_left, .int mo_bestSize, .int mo_bestLeft, mo_counts, .int mo_sets, .int mo_foeHarm, .int mo_ownHarm, .int mo_across, .int mo_sumFoe, .int mo_sumOwn, .int mo_sumWon, .int mo_sumAcross])), (a_mo_tape, .inl (cy 0, 900, .inl mo_tape))]) hD [0, 1] rfl rfl
  refine lv_istore_n (lv' := [(3, .int r_1), (0, .ref a_mo), (1, .int p1), (2, .int p2)]) hx hb dX13_readWhole_6 rfl hl (by decide) rfl (fun ls hl => ?_)
  refine lv_aload_n hx hb dX13_readWhole_7 rfl (lv_at hl 1 rfl) ?_
  obtain ⟨mo_spot_6, mo_sort_7, mo_place_8, mo_number_9, mo_word_10, hc_11, h⟩ := bd5_some h
  refine wVv [] [] ⟨hx, hb, hml, hown, hts⟩ (c_X13_goesOn l D cy A X a_mo a_mo_tape mo_thrown mo_trouble mo_where (mo_war) (mo_read) mo_taped mo_size mo_spot mo_sort_2 mo_place mo_number mo_fault_3 mo_wrongAt_4 mo_laneTold mo_word (mo_v) (mo_x) (mo_past) (mo_kept) mo_acts mo_marks (mo_put) (mo_bestPut) mo_bestSum (mo_row) (mo_best) (mo_left) mo_bestSize mo_bestLeft (mo_counts) mo_sets mo_foeHarm mo_ownHarm mo_across mo_sumFoe mo_sumOwn mo_sumWon mo_sumAcross mo_tape mo_spot_6 mo_sort_7 mo_place_8 mo_number_9 mo_word_10 hc_11) gX13_readWhole_X13_goesOn rfl hd_X13_goesOn ⟨Nat.le_of_ble_eq_true rfl, Nat.le_of_ble_eq_true rfl⟩ rfl rfl hKN hP hD hS hA 13 0 rfl rfl rfl hl.1 rfl (Nat.le_of_ble_eq_true rfl) dX13_readWhole_8 ⟨Nat.le_of_ble_eq_true rfl, Nat.le_of_ble_eq_true rfl⟩ (fun H locs hP hD hS => ?_)
  refine lv_iload_n hx hb dX13_readWhole_11 rfl (lv_at hl 0 rfl) ?_
  cases h
  exact W.iret hx hb hr (fun t ht _ => ⟨⟨_, (), rfl, rfl, by rw [ht]; exact hP, hD⟩, hS.F ht⟩) hS.2.2 dX13_readWhole_12
noncomputable def f_X13_readPart (mo_size : Int32) (mo_spot : Int32) (mo_sort : Int32) (mo_place : Int32) (mo_number : Int32) (mo_fault : Int32) (mo_wrongAt : Int32) (mo_word : Int64) (mo_tape : Nat → Int32) (p1 : Nat) (p2 : Int32) (p3 : Int32) : Option (Int32 × Int32 × Int32 × Int32 × Int32 × Int32 × Int32 × Int64) :=
  bd7 (f_X13_needs mo_size mo_spot mo_sort mo_place mo_number mo_fault mo_wrongAt mo_word mo_tape p1) fun mo_spot_1 mo_sort_2 mo_place_3 mo_number_4 mo_fault_5 mo_wrongAt_6 mo_word_7 =>
  bd8 (f_X13_readWhole mo_size mo_spot_1 mo_sort_2 mo_place_3 mo_number_4 mo_fault_5 mo_wrongAt_6 mo_word_7 mo_tape p2 p3) fun r_9 mo_spot_10 mo_sort_11 mo_place_12 mo_number_13 mo_fault_14 mo_wrongAt_15 mo_word_16 =>
  some (r_9, mo_spot_10, mo_sort_11, mo_place_12, mo_number_13, mo_fault_14, mo_wrongAt_15, mo_word_16)
theorem hd_X13_readPart : yX13_readPart.cls = RX13 ∧ yX13_readPart.cls ≠ "java/lang/invoke/MethodHandle" ∧ yX13_readPart.cls ≠ "java/lang/invoke/VarHandle" ∧ (parseMethodDescriptor yX13_readPart.desc).map (fun d => d.parameters.length) = some 3 := by decide +kernel
set_option maxHeartbeats 4000000 in
set_option maxRecDepth 100000 in
theorem c_X13_readPart (l : Launch) (D : va_G) (cy : Nat → ClassId) (sa sv : Nat → Nat) (A : Nat → Prop) (X : va_W) (a_mo a_mo_tape : Nat) (mo_thrown : Int32) (mo_trouble : Int32) (mo_where : Int32) (mo_war : Value) (mo_read : Value) (mo_taped : Int32) (mo_size : Int32) (mo_spot : Int32) (mo_sort : Int32) (mo_place : Int32) (mo_number : Int32) (mo_fault : Int32) (mo_wrongAt : Int32) (mo_laneTold : Int32) (mo_word : Int64) (mo_v : Value) (mo_x : Value) (mo_past : Value) (mo_kept : Value) (mo_acts : Int32) (mo_marks : Int32) (mo_put : Value) (mo_bestPut : Value) (mo_bestSum : Int64) (mo_row : Value) (mo_best : Value) (mo_left : Value) (mo_bestSize : Int32) (mo_bestLeft : Int32) (mo_counts : Value) (mo_sets : Int32) (mo_foeHarm : Int32) (mo_ownHarm : Int32) (mo_across : Int32) (mo_sumFoe : Int32) (mo_sumOwn : Int32) (mo_sumWon : Int32) (mo_sumAcross : Int32) (mo_tape : Nat → Int32) (p1 : Nat) (hi_p1 : p1 < nT) (p2 : Int32) (p3 : Int32) (res : Int32) (mo_spot' : Int32) (mo_sort' : Int32) (mo_place' : Int32) (mo_number' : Int32) (mo_fault' : Int32) (mo_wrongAt' : Int32) (mo_word' : Int64) (h : f_X13_readPart mo_size mo_spot mo_sort mo_place mo_number mo_fault mo_wrongAt mo_word mo_tape p1 p2 p3 = some (res, mo_spot', mo_sort', mo_place', mo_number', mo_fault', mo_wrongAt', mo_word')) : Met l yX13_readPart wo_X13_readPart ({ frames := 7, cells := 0, slots := 0, locals := 156 }) (wrPcS D cy sa sv A [.ref a_mo, .ref (sa p1), .int p2, .int p3] ([(a_mo, .inr (13, [.int mo_thrown, .int mo_trouble, .int mo_where, mo_war, mo_read, .ref a_mo_tape, .int mo_taped, .int mo_size, .int mo_spot, .int mo_sort, .int mo_place, .int mo_number, .int mo_fault, .int mo_wrongAt, .int mo_laneTold, .long mo_word, mo_v, mo_x, mo_past, mo_kept, .int mo_acts, .int mo_marks, mo_put, mo_bestPut, .long mo_bestSum, mo_row, mo_best, mo_left, .int mo_bestSize, .int mo_bestLeft, mo_counts, .int mo_sets, .int mo_foeHarm, .int mo_ownHarm, .int mo_across, .int mo_sumFoe, .int mo_sumOwn, .int mo_sumWon, .int mo_sumAcross])), (a_mo_tape, .inl (cy 0, 900, .inl mo_tape))] ++ X)) (va_Qi (fun (r : Int32) (_ : Unit) => r = res) (wB D A ([(a_mo, .inr (13, [.int mo_thrown, .int mo_trouble, .int mo_where, mo_war, mo_read, .ref a_mo_tape, .int mo_taped, .int mo_size, .int mo_spot', .int mo_sort', .int mo_place', .int mo_number', .int mo_fault', .int mo_wrongAt', .int mo_laneTold, .long mo_word', mo_v, mo_x, mo_past, mo_kept, .int mo_acts, .int mo_marks, mo_put, mo_bestPut, .long mo_bestSum, mo_row, mo_best, mo_left, .int mo_bestSize, .int mo_bestLeft, mo_counts, .int mo_sets, .int mo_foeHarm, .int mo_ownHarm, .int mo_across, .int mo_sumFoe, .int mo_sumOwn, .int mo_sumWon, .int mo_sumAcross])), (a_mo_tape, .inl (cy 0, 900, .inl mo_tape))] ++ X)) A) 0 0 A := by
  refine Met.ofW (cc := cX13_readPart) (maxL := 4) (ret := (some .int)) (by decide) rfl ?_
  intro p e s m args below meth c s₁ B hml hv
  obtain ⟨rfl, hP, hKN, hD, hA, hSS⟩ := hv
  have hK := hKN.1
  have hx := B.exec
  have hb := B.bytes
  have hr := B.returns
  have hts := wt_X13_readPart hKN.2.2 (([.ref a_mo, .ref (sa p1), .int p2, .int p3] : List Value).toArray)
  have hown : s.vm.findClass RX13 = some m.cls := findClass_of_methodNamed B.named
  have hlocks := B.notSynchronized
  have hS : va_S A s.heap s.heap [] := va_S.rf
  have hl := lv_entry ([.ref a_mo, .ref (sa p1), .int p2, .int p3]) (n := 4) (Nat.le_of_ble_eq_true rfl)
  rw [lg_entry_eq]
  generalize (lg_sl ([.ref a_mo, .ref (sa p1), .int p2, .int p3]) ++ List.replicate (4 - (lg_sl ([.ref a_mo, .ref (sa p1), .int p2, .int p3])).length) Slot.unset).toArray = ls at hl ⊢
  have hl : lv_has ls 4 [(0, .ref a_mo), (1, .ref (sa p1)), (2, .int p2), (3, .int p3)] := hl
  unfold f_X13_readPart at h
  refine lv_aload_n hx hb dX13_readPart_0 rfl (lv_at hl 0 rfl) ?_
  refine lv_aload_n hx hb dX13_readPart_1 rfl (lv_at hl 1 rfl) ?_
  obtain ⟨mo_spot_1, mo_sort_2, mo_place_3, mo_number_4, mo_fault_5, mo_wrongAt_6, mo_word_7, hc_8, h⟩ := bd7_some h
  refine wVvS [.ref (sa p1)] [] ⟨hx, hb, hml, hown, hts⟩ (c_X13_needs l D cy sa sv A X a_mo a_mo_tape mo_thrown mo_trouble mo_where (mo_war) (mo_read) mo_taped mo_size mo_spot mo_sort mo_place mo_number mo_fault mo_wrongAt mo_laneTold mo_word (mo_v) (mo_x) (mo_past) (mo_kept) mo_acts mo_marks (mo_put) (mo_bestPut) mo_bestSum (mo_row) (mo_best) (mo_left) mo_bestSize mo_bestLeft (mo_counts) mo_sets mo_foeHarm mo_ownHarm mo_across mo_sumFoe mo_sumOwn mo_sumWon mo_sumAcross mo_tape p1 hi_p1 mo_spot_1 mo_sort_2 mo_place_3 mo_number_4 mo_fault_5 mo_wrongAt_6 mo_word_7 hc_8) gX13_readPart_X13_needs rfl hd_X13_needs ⟨Nat.le_of_ble_eq_true rfl, Nat.le_of_ble_eq_true rfl⟩ rfl rfl hKN hP (hSS.kept hS) hD hS hA 13 0 rfl rfl rfl hl.1 rfl (Nat.le_of_ble_eq_true rfl) dX13_readPart_2 ⟨Nat.le_of_ble_eq_true rfl, Nat.le_of_ble_eq_true rfl⟩ (fun H locs hP hD hS => ?_)
  refine lv_aload_n hx hb dX13_readPart_5 rfl (lv_at hl 0 rfl) ?_
  refine lv_iload_n hx hb dX13_readPart_6 rfl (lv_at hl 2 rfl) ?_
  refine lv_iload_n hx hb dX13_readPart_7 rfl (lv_at hl 3 rfl) ?_
  obtain ⟨r_9, mo_spot_10, mo_sort_11, mo_place_12, mo_number_13, mo_fault_14, mo_wrongAt_15, mo_word_16, hc_17, h⟩ := bd8_some h
  refine wVi [.int p2, .int p3] [] ⟨hx, hb, hml, hown, hts⟩ (c_X13_readWhole l D cy A X a_mo a_mo_tape mo_thrown mo_trouble mo_where (mo_war) (mo_read) mo_taped mo_size mo_spot_1 mo_sort_2 mo_place_3 mo_number_4 mo_fault_5 mo_wrongAt_6 mo_laneTold mo_word_7 (mo_v) (mo_x) (mo_past) (mo_kept) mo_acts mo_marks (mo_put) (mo_bestPut) mo_bestSum (mo_row) (mo_best) (mo_left) mo_bestSize mo_bestLeft (mo_counts) mo_sets mo_foeHarm mo_ownHarm mo_across mo_sumFoe mo_sumOwn mo_sumWon mo_sumAcross mo_tape p2 p3 r_9 mo_spot_10 mo_sort_11 mo_place_12 mo_number_13 mo_fault_14 mo_wrongAt_15 mo_word_16 hc_17) gX13_readPart_X13_readWhole rfl hd_X13_readWhole ⟨Nat.le_of_ble_eq_true rfl, Nat.le_of_ble_eq_true rfl⟩ rfl rfl hKN hP hD hS hA 13 0 rfl rfl rfl hl.1 rfl (Nat.le_of_ble_eq_true rfl) dX13_readPart_8 ⟨Nat.le_of_ble_eq_true rfl, Nat.le_of_ble_eq_true rfl⟩ (fun H locs hP hD hS => ?_)
  cases h
  exact W.iret hx hb hr (fun t ht _ => ⟨⟨_, (), rfl, rfl, by rw [ht]; exact hP, hD⟩, hS.F ht⟩) hS.2.2 dX13_readPart_11
noncomputable def f_X13_isName (mo_sort : Int32) (mo_word : Int64) : Option (Int32) :=
  (if mo_sort = 2 then
  bd1 (f_X13_isWord mo_sort mo_word 1) fun r_1 =>
  (if r_1 = 0 then
  bd1 (f_X13_isWord mo_sort mo_word 2) fun r_4 =>
  (if r_4 = 0 then
  bd1 (f_X13_isWord mo_sort mo_word 3) fun r_7 =>
  (if r_7 = 0 then
  bd1 (f_X13_isWord mo_sort mo_word 4) fun r_10 =>
  (if r_10 = 0 then
  bd1 (f_X13_isWord mo_sort mo_word 5) fun r_13 =>
  (if r_13 = 0 then
  bd1 (f_X13_isWord mo_sort mo_word 6) fun r_16 =>
  (if r_16 = 0 then
  some (1)
  else
  some (0))
  else
  some (0))
  else
  some (0))
  else
  some (0))
  else
  some (0))
  else
  some (0))
  else
  some (0))
theorem hd_X13_isName : yX13_isName.cls = RX13 ∧ yX13_isName.cls ≠ "java/lang/invoke/MethodHandle" ∧ yX13_isName.cls ≠ "java/lang/invoke/VarHandle" ∧ (parseMethodDescriptor yX13_isName.desc).map (fun d => d.parameters.length) = some 0 := by decide +kernel
set_option maxHeartbeats 4000000 in
set_option maxRecDepth 100000 in
theorem c_X13_isName (l : Launch) (D : va_G) (cy : Nat → ClassId) (sa sv : Nat → Nat) (a_mo : Nat) (mo_thrown : Int32) (mo_trouble : Int32) (mo_where : Int32) (mo_war : Value) (mo_read : Value) (mo_tape : Value) (mo_taped : Int32) (mo_size : Int32) (mo_spot : Int32) (mo_sort : Int32) (mo_place : Int32) (mo_number : Int32) (mo_fault : Int32) (mo_wrongAt : Int32) (mo_laneTold : Int32) (mo_word : Int64) (mo_v : Value) (mo_x : Value) (mo_past : Value) (mo_kept : Value) (mo_acts : Int32) (mo_marks : Int32) (mo_put : Value) (mo_bestPut : Value) (mo_bestSum : Int64) (mo_row : Value) (mo_best : Value) (mo_left : Value) (mo_bestSize : Int32) (mo_bestLeft : Int32) (mo_counts : Value) (mo_sets : Int32) (mo_foeHarm : Int32) (mo_ownHarm : Int32) (mo_across : Int32) (mo_sumFoe : Int32) (mo_sumOwn : Int32) (mo_sumWon : Int32) (mo_sumAcross : Int32) (res : Int32) (h : f_X13_isName mo_sort mo_word = some (res)) : Met l yX13_isName wo_X13_isName ({ frames := 6, cells := 0, slots := 0, locals := 135 }) (roPcS D cy sa sv [.ref a_mo] [(a_mo, .inr (13, [.int mo_thrown, .int mo_trouble, .int mo_where, mo_war, mo_read, mo_tape, .int mo_taped, .int mo_size, .int mo_spot, .int mo_sort, .int mo_place, .int mo_number, .int mo_fault, .int mo_wrongAt, .int mo_laneTold, .long mo_word, mo_v, mo_x, mo_past, mo_kept, .int mo_acts, .int mo_marks, mo_put, mo_bestPut, .long mo_bestSum, mo_row, mo_best, mo_left, .int mo_bestSize, .int mo_bestLeft, mo_counts, .int mo_sets, .int mo_foeHarm, .int mo_ownHarm, .int mo_across, .int mo_sumFoe, .int mo_sumOwn, .int mo_sumWon, .int mo_sumAcross]))]) (vp_Si (fun r => r = res ∧ nbv r)) 0 0 (fun _ => False) := by
  refine Met.ofW (cc := cX13_isName) (maxL := 1) (ret := (some .boolean)) (by decide) rfl ?_
  intro p e s m args below meth c s₁ B hml hv
  obtain ⟨rfl, hP, hKN, hSS⟩ := hv
  have hK := hKN.1
  have hx := B.exec
  have hb := B.bytes
  have hr := B.returns
  have hts := wt_X13_isName hKN.2.2 (([.ref a_mo] : List Value).toArray)
  have hown : s.vm.findClass RX13 = some m.cls := findClass_of_methodNamed B.named
  have hlocks := B.notSynchronized
  have hX13 := wc_X13 hKN.2.2 (([.ref a_mo] : List Value).toArray)
  have hl := lv_entry ([.ref a_mo]) (n := 1) (Nat.le_of_ble_eq_true rfl)
  rw [lg_entry_eq]
  generalize (lg_sl ([.ref a_mo]) ++ List.replicate (1 - (lg_sl ([.ref a_mo])).length) Slot.unset).toArray = ls at hl ⊢
  have hl : lv_has ls 1 [(0, .ref a_mo)] := hl
  unfold f_X13_isName at h
  refine lv_aload_n hx hb dX13_isName_0 rfl (lv_at hl 0 rfl) ?_
  refine va_get (D := D) (ci := 13) (C := RX13) (T := TX13) (N := 39) (v := .int mo_sort) hx hb hX13 (fun _ q => q) hown hK hP 0 rfl rfl 9 (by decide) (hts (.fieldLink RX13 82 "ElephantLineModel" "sort" "I") (by decide +kernel)) (fun _ h9 => h9) rfl dX13_isName_1 ?_
  refine lv_iconst (v := 2) hx hb dX13_isName_4 (by decide) ?_
  refine lv_icmp_ne (tgt := 35) hx hb dX13_isName_5 (by decide) (fun cd => ?_) (fun cd => ?_)
  · have h := ifF cd h
    refine lv_iconst (v := 0) hx hb dX13_isName_35 (by decide) ?_
    exact W.zret (ty := .boolean) (v := 0) hx hb hr (nbv.n nbv_0) (fun t ht _ => ⟨_, rfl, ⟨Option.some.inj h, nbv_0⟩, ht⟩) (fun _ q => by cases q) dX13_isName_36
  · have h := ifT cd h
    refine lv_aload_n hx hb dX13_isName_8 rfl (lv_at hl 0 rfl) ?_
    refine va_ldcS hx hb hown (hSS.2.2.2 ("ElephantLineModel", 144, "field", 1) (List.mem_of_getElem? (i := 1) rfl)) dX13_isName_9 ?_
    obtain ⟨r_1, hc_2, h⟩ := bd1_some h
    refine kVbS [.ref (sa 1)] [] ⟨hx, hb, hml, hown, hts⟩ (c_X13_isWord l D cy sa sv a_mo mo_thrown mo_trouble mo_where (mo_war) (mo_read) (mo_tape) mo_taped mo_size mo_spot mo_sort mo_place mo_number mo_fault mo_wrongAt mo_laneTold mo_word (mo_v) (mo_x) (mo_past) (mo_kept) mo_acts mo_marks (mo_put) (mo_bestPut) mo_bestSum (mo_row) (mo_best) (mo_left) mo_bestSize mo_bestLeft (mo_counts) mo_sets mo_foeHarm mo_ownHarm mo_across mo_sumFoe mo_sumOwn mo_sumWon mo_sumAcross 1 (by decide) r_1 hc_2) gX13_isName_X13_isWord rfl hd_X13_isWord ⟨Nat.le_of_ble_eq_true rfl, Nat.le_of_ble_eq_true rfl⟩ rfl rfl hKN (hP.sub [0] rfl) hSS 13 0 rfl rfl rfl hl.1 rfl (Nat.le_of_ble_eq_true rfl) dX13_isName_11 ⟨Nat.le_of_ble_eq_true rfl, Nat.le_of_ble_eq_true rfl⟩ (fun nb_3 => ?_)
    refine lv_if_ne (tgt := 35) hx hb dX13_isName_14 (by decide) (fun cd => ?_) (fun cd => ?_)
    · have h := ifF cd h
      refine lv_iconst (v := 0) hx hb dX13_isName_35 (by decide) ?_
      exact W.zret (ty := .boolean) (v := 0) hx hb hr (nbv.n nbv_0) (fun t ht _ => ⟨_, rfl, ⟨Option.some.inj h, nbv_0⟩, ht⟩) (fun _ q => by cases q) dX13_isName_36
    · have h := ifT cd h
      refine lv_aload_n hx hb dX13_isName_17 rfl (lv_at hl 0 rfl) ?_
      refine va_ldcS hx hb hown (hSS.2.2.2 ("ElephantLineModel", 146, "lane", 2) (List.mem_of_getElem? (i := 2) rfl)) dX13_isName_18 ?_
      obtain ⟨r_4, hc_5, h⟩ := bd1_some h
      refine kVbS [.ref (sa 2)] [] ⟨hx, hb, hml, hown, hts⟩ (c_X13_isWord l D cy sa sv a_mo mo_thrown mo_trouble mo_where (mo_war) (mo_read) (mo_tape) mo_taped mo_size mo_spot mo_sort mo_place mo_number mo_fault mo_wrongAt mo_laneTold mo_word (mo_v) (mo_x) (mo_past) (mo_kept) mo_acts mo_marks (mo_put) (mo_bestPut) mo_bestSum (mo_row) (mo_best) (mo_left) mo_bestSize mo_bestLeft (mo_counts) mo_sets mo_foeHarm mo_ownHarm mo_across mo_sumFoe mo_sumOwn mo_sumWon mo_sumAcross 2 (by decide) r_4 hc_5) gX13_isName_X13_isWord rfl hd_X13_isWord ⟨Nat.le_of_ble_eq_true rfl, Nat.le_of_ble_eq_true rfl⟩ rfl rfl hKN (hP.sub [0] rfl) hSS 13 0 rfl rfl rfl hl.1 rfl (Nat.le_of_ble_eq_true rfl) dX13_isName_20 ⟨Nat.le_of_ble_eq_true rfl, Nat.le_of_ble_eq_true rfl⟩ (fun nb_6 => ?_)
      refine lv_if_ne (tgt := 35) hx hb dX13_isName_23 (by decide) (fun cd => ?_) (fun cd => ?_)
      · have h := ifF cd h
        refine lv_iconst (v := 0) hx hb dX13_isName_35 (by decide) ?_
        exact W.zret (ty := .boolean) (v := 0) hx hb hr (nbv.n nbv_0) (fun t ht _ => ⟨_, rfl, ⟨Option.some.inj h, nbv_0⟩, ht⟩) (fun _ q => by cases q) dX13_isName_36
      · have h := ifT cd h
        refine lv_aload_n hx hb dX13_isName_26 rfl (lv_at hl 0 rfl) ?_
        refine va_ldcS hx hb hown (hSS.2.2.2 ("ElephantLineModel", 148, "beast", 3) (List.mem_of_getElem? (i := 3) rfl)) dX13_isName_27 ?_
        obtain ⟨r_7, hc_8, h⟩ := bd1_some h
        refine kVbS [.ref (sa 3)] [] ⟨hx, hb, hml, hown, hts⟩ (c_X13_isWord l D cy sa sv a_mo mo_thrown mo_trouble mo_where (mo_war) (mo_read) (mo_tape) mo_taped mo_size mo_spot mo_sort mo_place mo_number mo_fault mo_wrongAt mo_laneTold mo_word (mo_v) (mo_x) (mo_past) (mo_kept) mo_acts mo_marks (mo_put) (mo_bestPut) mo_bestSum (mo_row) (mo_best) (mo_left) mo_bestSize mo_bestLeft (mo_counts) mo_sets mo_foeHarm mo_ownHarm mo_across mo_sumFoe mo_sumOwn mo_sumWon mo_sumAcross 3 (by decide) r_7 hc_8) gX13_isName_X13_isWord rfl hd_X13_isWord ⟨Nat.le_of_ble_eq_true rfl, Nat.le_of_ble_eq_true rfl⟩ rfl rfl hKN (hP.sub [0] rfl) hSS 13 0 rfl rfl rfl hl.1 rfl (Nat.le_of_ble_eq_true rfl) dX13_isName_29 ⟨Nat.le_of_ble_eq_true rfl, Nat.le_of_ble_eq_true rfl⟩ (fun nb_9 => ?_)
        refine lv_if_eq (tgt := 37) hx hb dX13_isName_32 (by decide) (fun cd => ?_) (fun cd => ?_)
        · have h := ifT cd h
          refine lv_aload_n hx hb dX13_isName_37 rfl (lv_at hl 0 rfl) ?_
          refine va_ldcS hx hb hown (hSS.2.2.2 ("ElephantLineModel", 150, "city", 4) (List.mem_of_getElem? (i := 4) rfl)) dX13_isName_38 ?_
          obtain ⟨r_10, hc_11, h⟩ := bd1_some h
          refine kVbS [.ref (sa 4)] [] ⟨hx, hb, hml, hown, hts⟩ (c_X13_isWord l D cy sa sv a_mo mo_thrown mo_trouble mo_where (mo_war) (mo_read) (mo_tape) mo_taped mo_size mo_spot mo_sort mo_place mo_number mo_fault mo_wrongAt mo_laneTold mo_word (mo_v) (mo_x) (mo_past) (mo_kept) mo_acts mo_marks (mo_put) (mo_bestPut) mo_bestSum (mo_row) (mo_best) (mo_left) mo_bestSize mo_bestLeft (mo_counts) mo_sets mo_foeHarm mo_ownHarm mo_across mo_sumFoe mo_sumOwn mo_sumWon mo_sumAcross 4 (by decide) r_10 hc_11) gX13_isName_X13_isWord rfl hd_X13_isWord ⟨Nat.le_of_ble_eq_true rfl, Nat.le_of_ble_eq_true rfl⟩ rfl rfl hKN (hP.sub [0] rfl) hSS 13 0 rfl rfl rfl hl.1 rfl (Nat.le_of_ble_eq_true rfl) dX13_isName_40 ⟨Nat.le_of_ble_eq_true rfl, Nat.le_of_ble_eq_true rfl⟩ (fun nb_12 => ?_)
          refine lv_if_ne (tgt := 68) hx hb dX13_isName_43 (by decide) (fun cd => ?_) (fun cd => ?_)
          · have h := ifF cd h
            refine lv_iconst (v := 0) hx hb dX13_isName_68 (by decide) ?_
            exact W.zret (ty := .boolean) (v := 0) hx hb hr (nbv.n nbv_0) (fun t ht _ => ⟨_, rfl, ⟨Option.some.inj h, nbv_0⟩, ht⟩) (fun _ q => by cases q) dX13_isName_69
          · have h := ifT cd h
            refine lv_aload_n hx hb dX13_isName_46 rfl (lv_at hl 0 rfl) ?_
            refine va_ldcS hx hb hown (hSS.2.2.2 ("ElephantLineModel", 152, "pass", 5) (List.mem_of_getElem? (i := 5) rfl)) dX13_isName_47 ?_
            obtain ⟨r_13, hc_14, h⟩ := bd1_some h
            refine kVbS [.ref (sa 5)] [] ⟨hx, hb, hml, hown, hts⟩ (c_X13_isWord l D cy sa sv a_mo mo_thrown mo_trouble mo_where (mo_war) (mo_read) (mo_tape) mo_taped mo_size mo_spot mo_sort mo_place mo_number mo_fault mo_wrongAt mo_laneTold mo_word (mo_v) (mo_x) (mo_past) (mo_kept) mo_acts mo_marks (mo_put) (mo_bestPut) mo_bestSum (mo_row) (mo_best) (mo_left) mo_bestSize mo_bestLeft (mo_counts) mo_sets mo_foeHarm mo_ownHarm mo_across mo_sumFoe mo_sumOwn mo_sumWon mo_sumAcross 5 (by decide) r_13 hc_14) gX13_isName_X13_isWord rfl hd_X13_isWord ⟨Nat.le_of_ble_eq_true rfl, Nat.le_of_ble_eq_true rfl⟩ rfl rfl hKN (hP.sub [0] rfl) hSS 13 0 rfl rfl rfl hl.1 rfl (Nat.le_of_ble_eq_true rfl) dX13_isName_49 ⟨Nat.le_of_ble_eq_true rfl, Nat.le_of_ble_eq_true rfl⟩ (fun nb_15 => ?_)
            refine lv_if_ne (tgt := 68) hx hb dX13_isName_52 (by decide) (fun cd => ?_) (fun cd => ?_)
            · have h := ifF cd h
              refine lv_iconst (v := 0) hx hb dX13_isName_68 (by decide) ?_
              exact W.zret (ty := .boolean) (v := 0) hx hb hr (nbv.n nbv_0) (fun t ht _ => ⟨_, rfl, ⟨Option.some.inj h, nbv_0⟩, ht⟩) (fun _ q => by cases q) dX13_isName_69
            · have h := ifT cd h
              refine lv_aload_n hx hb dX13_isName_55 rfl (lv_at hl 0 rfl) ?_
              refine va_ldcS hx hb hown (hSS.2.2.2 ("ElephantLineModel", 154, "turned", 6) (List.mem_of_getElem? (i := 6) rfl)) dX13_isName_56 ?_
              obtain ⟨r_16, hc_17, h⟩ := bd1_some h
              refine kVbS [.ref (sa 6)] [] ⟨hx, hb, hml, hown, hts⟩ (c_X13_isWord l D cy sa sv a_mo mo_thrown mo_trouble mo_where (mo_war) (mo_read) (mo_tape) mo_taped mo_size mo_spot mo_sort mo_place mo_number mo_fault mo_wrongAt mo_laneTold mo_word (mo_v) (mo_x) (mo_past) (mo_kept) mo_acts mo_marks (mo_put) (mo_bestPut) mo_bestSum (mo_row) (mo_best) (mo_left) mo_bestSize mo_bestLeft (mo_counts) mo_sets mo_foeHarm mo_ownHarm mo_across mo_sumFoe mo_sumOwn mo_sumWon mo_sumAcross 6 (by decide) r_16 hc_17) gX13_isName_X13_isWord rfl hd_X13_isWord ⟨Nat.le_of_ble_eq_true rfl, Nat.le_of_ble_eq_true rfl⟩ rfl rfl hKN (hP.sub [0] rfl) hSS 13 0 rfl rfl rfl hl.1 rfl (Nat.le_of_ble_eq_true rfl) dX13_isName_58 ⟨Nat.le_of_ble_eq_true rfl, Nat.le_of_ble_eq_true rfl⟩ (fun nb_18 => ?_)
              refine lv_if_ne (tgt := 68) hx hb dX13_isName_61 (by decide) (fun cd => ?_) (fun cd => ?_)
              · have h := ifF cd h
                refine lv_iconst (v := 0) hx hb dX13_isName_68 (by decide) ?_
                exact W.zret (ty := .boolean) (v := 0) hx hb hr (nbv.n nbv_0) (fun t ht _ => ⟨_, rfl, ⟨Option.some.inj h, nbv_0⟩, ht⟩) (fun _ q => by cases q) dX13_isName_69
              · have h := ifT cd h
                refine lv_iconst (v := 1) hx hb dX13_isName_64 (by decide) ?_
                refine lv_goto (tgt := 69) hx hb dX13_isName_65 (by decide) ?_
                exact W.zret (ty := .boolean) (v := 1) hx hb hr (nbv.n nbv_1) (fun t ht _ => ⟨_, rfl, ⟨Option.some.inj h, nbv_1⟩, ht⟩) (fun _ q => by cases q) dX13_isName_69
        · have h := ifF cd h
          refine lv_iconst (v := 0) hx hb dX13_isName_35 (by decide) ?_
          exact W.zret (ty := .boolean) (v := 0) hx hb hr (nbv.n nbv_0) (fun t ht _ => ⟨_, rfl, ⟨Option.some.inj h, nbv_0⟩, ht⟩) (fun _ q => by cases q) dX13_isName_36
noncomputable def f_X13_lineBegins_B26 (mo_size : Int32) (mo_tape : Nat → Int32) (re_lanes : Int32) (mo_spot : Int32) (mo_sort : Int32) (mo_place : Int32) (mo_number : Int32) (mo_fault : Int32) (mo_wrongAt : Int32) (mo_word : Int64) : Option (Int32 × Int32 × Int32 × Int32 × Int32 × Int32 × Int64) :=
  bd5 (f_X13_goesOn mo_size mo_spot mo_sort mo_place mo_number mo_word mo_tape) fun mo_spot_1 mo_sort_2 mo_place_3 mo_number_4 mo_word_5 =>
  some (mo_spot_1, mo_sort_2, mo_place_3, mo_number_4, mo_fault, mo_wrongAt, mo_word_5)
noncomputable def f_X13_lineBegins_B10 (mo_size : Int32) (mo_tape : Nat → Int32) (re_lanes : Int32) (mo_spot : Int32) (mo_sort : Int32) (mo_place : Int32) (mo_number : Int32) (mo_fault : Int32) (mo_wrongAt : Int32) (mo_word : Int64) : Option (Int32 × Int32 × Int32 × Int32 × Int32 × Int32 × Int64) :=
  (if re_lanes = 0 then
  bd3 (f_X13_flaw mo_sort mo_place mo_fault mo_wrongAt (6 : Int32)) fun mo_sort_7 mo_fault_8 mo_wrongAt_9 =>
  f_X13_lineBegins_B26 mo_size mo_tape re_lanes mo_spot mo_sort_7 mo_place mo_number mo_fault_8 mo_wrongAt_9 mo_word
  else
  f_X13_lineBegins_B26 mo_size mo_tape re_lanes mo_spot mo_sort mo_place mo_number mo_fault mo_wrongAt mo_word)
noncomputable def f_X13_lineBegins (mo_size : Int32) (mo_spot : Int32) (mo_sort : Int32) (mo_place : Int32) (mo_number : Int32) (mo_fault : Int32) (mo_wrongAt : Int32) (mo_word : Int64) (mo_tape : Nat → Int32) (re_lanes : Int32) (p1 : Int32) (p2 : Int32) : Option (Int32 × Int32 × Int32 × Int32 × Int32 × Int32 × Int64) :=
  (if p1 = p2 then
  bd3 (f_X13_flaw mo_sort mo_place mo_fault mo_wrongAt (5 : Int32)) fun mo_sort_11 mo_fault_12 mo_wrongAt_13 =>
  f_X13_lineBegins_B10 mo_size mo_tape re_lanes mo_spot mo_sort_11 mo_place mo_number mo_fault_12 mo_wrongAt_13 mo_word
  else
  f_X13_lineBegins_B10 mo_size mo_tape re_lanes mo_spot mo_sort mo_place mo_number mo_fault mo_wrongAt mo_word)
theorem hd_X13_lineBegins : yX13_lineBegins.cls = RX13 ∧ yX13_lineBegins.cls ≠ "java/lang/invoke/MethodHandle" ∧ yX13_lineBegins.cls ≠ "java/lang/invoke/VarHandle" ∧ (parseMethodDescriptor yX13_lineBegins.desc).map (fun d => d.parameters.length) = some 2 := by decide +kernel
set_option maxHeartbeats 4000000 in
set_option maxRecDepth 100000 in
theorem c_X13_lineBegins (l : Launch) (D : va_G) (cy : Nat → ClassId) (A : Nat → Prop) (X : va_W) (a_mo a_mo_tape a_re : Nat) (mo_thrown : Int32) (mo_trouble : Int32) (mo_where : Int32) (mo_war : Value) (mo_taped : Int32) (mo_size : Int32) (mo_spot : Int32) (mo_sort : Int32) (mo_place : Int32) (mo_number : Int32) (mo_fault : Int32) (mo_wrongAt : Int32) (mo_laneTold : Int32) (mo_word : Int64) (mo_v : Value) (mo_x : Value) (mo_past : Value) (mo_kept : Value) (mo_acts : Int32) (mo_marks : Int32) (mo_put : Value) (mo_bestPut : Value) (mo_bestSum : Int64) (mo_row : Value) (mo_best : Value) (mo_left : Value) (mo_bestSize : Int32) (mo_bestLeft : Int32) (mo_counts : Value) (mo_sets : Int32) (mo_foeHarm : Int32) (mo_ownHarm : Int32) (mo_across : Int32) (mo_sumFoe : Int32) (mo_sumOwn : Int32) (mo_sumWon : Int32) (mo_sumAcross : Int32) (mo_tape : Nat → Int32) (re_lanes : Int32) (re_deep : Int32) (re_told : Int32) (re_beasts : Int32) (re_cities : Int32) (re_passes : Int32) (re_turned : Int32) (re_names : Int32) (re_who : Value) (re_strong : Value) (re_kind : Value) (re_lane : Value) (re_mood : Value) (re_price : Value) (re_loses : Value) (re_name : Value) (re_nameSort : Value) (re_numberOf : Value) (p1 : Int32) (p2 : Int32) (mo_spot' : Int32) (mo_sort' : Int32) (mo_place' : Int32) (mo_number' : Int32) (mo_fault' : Int32) (mo_wrongAt' : Int32) (mo_word' : Int64) (h : f_X13_lineBegins mo_size mo_spot mo_sort mo_place mo_number mo_fault mo_wrongAt mo_word mo_tape re_lanes p1 p2 = some (mo_spot', mo_sort', mo_place', mo_number', mo_fault', mo_wrongAt', mo_word')) : Met l yX13_lineBegins wo_X13_lineBegins ({ frames := 2, cells := 0, slots := 0, locals := 43 }) (wrPc D cy A [.ref a_mo, .int p1, .int p2] ([(a_mo, .inr (13, [.int mo_thrown, .int mo_trouble, .int mo_where, mo_war, .ref a_re, .ref a_mo_tape, .int mo_taped, .int mo_size, .int mo_spot, .int mo_sort, .int mo_place, .int mo_number, .int mo_fault, .int mo_wrongAt, .int mo_laneTold, .long mo_word, mo_v, mo_x, mo_past, mo_kept, .int mo_acts, .int mo_marks, mo_put, mo_bestPut, .long mo_bestSum, mo_row, mo_best, mo_left, .int mo_bestSize, .int mo_bestLeft, mo_counts, .int mo_sets, .int mo_foeHarm, .int mo_ownHarm, .int mo_across, .int mo_sumFoe, .int mo_sumOwn, .int mo_sumWon, .int mo_sumAcross])), (a_mo_tape, .inl (cy 0, 900, .inl mo_tape)), (a_re, .inr (12, [.int re_lanes, .int re_deep, .int re_told, .int re_beasts, .int re_cities, .int re_passes, .int re_turned, .int re_names, re_who, re_strong, re_kind, re_lane, re_mood, re_price, re_loses, re_name, re_nameSort, re_numberOf]))] ++ X)) (va_Qv (fun (_ : Unit) => True) (wB D A ([(a_mo, .inr (13, [.int mo_thrown, .int mo_trouble, .int mo_where, mo_war, .ref a_re, .ref a_mo_tape, .int mo_taped, .int mo_size, .int mo_spot', .int mo_sort', .int mo_place', .int mo_number', .int mo_fault', .int mo_wrongAt', .int mo_laneTold, .long mo_word', mo_v, mo_x, mo_past, mo_kept, .int mo_acts, .int mo_marks, mo_put, mo_bestPut, .long mo_bestSum, mo_row, mo_best, mo_left, .int mo_bestSize, .int mo_bestLeft, mo_counts, .int mo_sets, .int mo_foeHarm, .int mo_ownHarm, .int mo_across, .int mo_sumFoe, .int mo_sumOwn, .int mo_sumWon, .int mo_sumAcross])), (a_mo_tape, .inl (cy 0, 900, .inl mo_tape)), (a_re, .inr (12, [.int re_lanes, .int re_deep, .int re_told, .int re_beasts, .int re_cities, .int re_passes, .int re_turned, .int re_names, re_who, re_strong, re_kind, re_lane, re_mood, re_price, re_loses, re_name, re_nameSort, re_numberOf]))] ++ X)) A) 0 0 A := by
  refine Met.ofW (cc := cX13_lineBegins) (maxL := 3) (ret := none) (by decide) rfl ?_
  intro p e s m args below meth c s₁ B hml hv
  obtain ⟨rfl, hP, hKN, hD, hA⟩ := hv
  have hK := hKN.1
  have hx := B.exec
  have hb := B.bytes
  have hr := B.returns
  have hts := wt_X13_lineBegins hKN.2.2 (([.ref a_mo, .int p1, .int p2] : List Value).toArray)
  have hown : s.vm.findClass RX13 = some m.cls := findClass_of_methodNamed B.named
  have hlocks := B.notSynchronized
  have hS : va_S A s.heap s.heap [] := va_S.rf
  have hX12 := wc_X12 hKN.2.2 (([.ref a_mo, .int p1, .int p2] : List Value).toArray)
  have hX13 := wc_X13 hKN.2.2 (([.ref a_mo, .int p1, .int p2] : List Value).toArray)
  have hl := lv_entry ([.ref a_mo, .int p1, .int p2]) (n := 3) (Nat.le_of_ble_eq_true rfl)
  rw [lg_entry_eq]
  generalize (lg_sl ([.ref a_mo, .int p1, .int p2]) ++ List.replicate (3 - (lg_sl ([.ref a_mo, .int p1, .int p2])).length) Slot.unset).toArray = ls at hl ⊢
  have hl : lv_has ls 3 [(0, .ref a_mo), (1, .int p1), (2, .int p2)] := hl
  unfold f_X13_lineBegins at h
  refine lv_iload_n hx hb dX13_lineBegins_0 rfl (lv_at hl 1 rfl) ?_
  refine lv_iload_n hx hb dX13_lineBegins_1 rfl (lv_at hl 2 rfl) ?_
  have jn10 : ∀ (mo_sort_1 : Int32) (mo_fault_2 : Int32) (mo_wrongAt_3 : Int32), f_X13_lineBegins_B10 mo_size mo_tape re_lanes mo_spot mo_sort_1 mo_place mo_number mo_fault_2 mo_wrongAt_3 mo_word = some (mo_spot', mo_sort', mo_place', mo_number', mo_fault', mo_wrongAt', mo_word') → ∀ (H : Heap) (locs : List Loc), va_P D vwCl ([(a_mo, .inr (13, [.int mo_thrown, .int mo_trouble, .int mo_where, mo_war, .ref a_re, .ref a_mo_tape, .int mo_taped, .int mo_size, .int mo_spot, .int mo_sort_1, .int mo_place, .int mo_number, .int mo_fault_2, .int mo_wrongAt_3, .int mo_laneTold, .long mo_word, mo_v, mo_x, mo_past, mo_kept, .int mo_acts, .int mo_marks, mo_put, mo_bestPut, .long mo_bestSum, mo_row, mo_best, mo_left, .int mo_bestSize, .int mo_bestLeft, mo_counts, .int mo_sets, .int mo_foeHarm, .int mo_ownHarm, .int mo_across, .int mo_sumFoe, .int mo_sumOwn, .int mo_sumWon, .int mo_sumAcross])), (a_mo_tape, .inl (cy 0, 900, .inl mo_tape)), (a_re, .inr (12, [.int re_lanes, .int re_deep, .int re_told, .int re_beasts, .int re_cities, .int re_passes, .int re_turned, .int re_names, re_who, re_strong, re_kind, re_lane, re_mood, re_price, re_loses, re_name, re_nameSort, re_numberOf]))] ++ X) H → va_D A ([(a_mo, .inr (13, [.int mo_thrown, .int mo_trouble, .int mo_where, mo_war, .ref a_re, .ref a_mo_tape, .int mo_taped, .int mo_size, .int mo_spot, .int mo_sort_1, .int mo_place, .int mo_number, .int mo_fault_2, .int mo_wrongAt_3, .int mo_laneTold, .long mo_word, mo_v, mo_x, mo_past, mo_kept, .int mo_acts, .int mo_marks, mo_put, mo_bestPut, .long mo_bestSum, mo_row, mo_best, mo_left, .int mo_bestSize, .int mo_bestLeft, mo_counts, .int mo_sets, .int mo_foeHarm, .int mo_ownHarm, .int mo_across, .int mo_sumFoe, .int mo_sumOwn, .int mo_sumWon, .int mo_sumAcross])), (a_mo_tape, .inl (cy 0, 900, .inl mo_tape)), (a_re, .inr (12, [.int re_lanes, .int re_deep, .int re_told, .int re_beasts, .int re_cities, .int re_passes, .int re_turned, .int re_names, re_who, re_strong, re_kind, re_lane, re_mood, re_price, re_loses, re_name, re_nameSort, re_numberOf]))] ++ X) → va_S A s.heap H locs → ∀ ls : Array Slot, lv_has ls 3 [(0, .ref a_mo)] → W p l e (headSpec wo_X13_lineBegins ({ frames := 2, cells := 0, slots := 0, locals := 43 })).room s m (([.ref a_mo, .int p1, .int p2] : List Value).toArray) below meth c H locs 0 0 (MQ below (va_Qv (fun (_ : Unit) => True) (wB D A ([(a_mo, .inr (13, [.int mo_thrown, .int mo_trouble, .int mo_where, mo_war, .ref a_re, .ref a_mo_tape, .int mo_taped, .int mo_size, .int mo_spot', .int mo_sort', .int mo_place', .int mo_number', .int mo_fault', .int mo_wrongAt', .int mo_laneTold, .long mo_word', mo_v, mo_x, mo_past, mo_kept, .int mo_acts, .int mo_marks, mo_put, mo_bestPut, .long mo_bestSum, mo_row, mo_best, mo_left, .int mo_bestSize, .int mo_bestLeft, mo_counts, .int mo_sets, .int mo_foeHarm, .int mo_ownHarm, .int mo_across, .int mo_sumFoe, .int mo_sumOwn, .int mo_sumWon, .int mo_sumAcross])), (a_mo_tape, .inl (cy 0, 900, .inl mo_tape)), (a_re, .inr (12, [.int re_lanes, .int re_deep, .int re_told, .int re_beasts, .int re_cities, .int re_passes, .int re_turned, .int re_names, re_who, re_strong, re_kind, re_lane, re_mood, re_price, re_loses, re_name, re_nameSort, re_numberOf]))] ++ X)) A) (([.ref a_mo, .int p1, .int p2] : List Value).toArray) s 0 0 A) (F0 m 10 ls []) := by
    intro mo_sort_1 mo_fault_2 mo_wrongAt_3 h H locs hP hD hS ls hl
    unfold f_X13_lineBegins_B10 at h
    refine lv_aload_n hx hb dX13_lineBegins_10 rfl (lv_at hl 0 rfl) ?_
    refine va_get (D := D) (ci := 13) (C := RX13) (T := TX13) (N := 39) (v := .ref a_re) hx hb hX13 (fun _ q => q) hown hK hP 0 rfl rfl 4 (by decide) (hts (.fieldLink RX13 156 "ElephantLineModel" "read" "LElephantLineModel$War;") (by decide +kernel)) (fun _ h9 => h9) rfl dX13_lineBegins_11 ?_
    refine va_getN (D := D) (ci := 12) (C := RX12) (T := TX12) (N := 18) (v := .int re_lanes) hx hb hX12 (fun _ q => q) hown hK hP 2 rfl rfl 0 (by decide) (va_Nw.use rfl (hKN.2.1.1 ("ElephantLineModel", 160, "ElephantLineModel$War", "lanes", "I", "ElephantLineModel") (List.mem_of_getElem? (i := 67) rfl))) (fun _ h9 => h9) rfl dX13_lineBegins_14 ?_
    have jn26 : ∀ (mo_sort_4 : Int32) (mo_fault_5 : Int32) (mo_wrongAt_6 : Int32), f_X13_lineBegins_B26 mo_size mo_tape re_lanes mo_spot mo_sort_4 mo_place mo_number mo_fault_5 mo_wrongAt_6 mo_word = some (mo_spot', mo_sort', mo_place', mo_number', mo_fault', mo_wrongAt', mo_word') → ∀ (H : Heap) (locs : List Loc), va_P D vwCl ([(a_mo, .inr (13, [.int mo_thrown, .int mo_trouble, .int mo_where, mo_war, .ref a_re, .ref a_mo_tape, .int mo_taped, .int mo_size, .int mo_spot, .int mo_sort_4, .int mo_place, .int mo_number, .int mo_fault_5, .int mo_wrongAt_6, .int mo_laneTold, .long mo_word, mo_v, mo_x, mo_past, mo_kept, .int mo_acts, .int mo_marks, mo_put, mo_bestPut, .long mo_bestSum, mo_row, mo_best, mo_left, .int mo_bestSize, .int mo_bestLeft, mo_counts, .int mo_sets, .int mo_foeHarm, .int mo_ownHarm, .int mo_across, .int mo_sumFoe, .int mo_sumOwn, .int mo_sumWon, .int mo_sumAcross])), (a_mo_tape, .inl (cy 0, 900, .inl mo_tape)), (a_re, .inr (12, [.int re_lanes, .int re_deep, .int re_told, .int re_beasts, .int re_cities, .int re_passes, .int re_turned, .int re_names, re_who, re_strong, re_kind, re_lane, re_mood, re_price, re_loses, re_name, re_nameSort, re_numberOf]))] ++ X) H → va_D A ([(a_mo, .inr (13, [.int mo_thrown, .int mo_trouble, .int mo_where, mo_war, .ref a_re, .ref a_mo_tape, .int mo_taped, .int mo_size, .int mo_spot, .int mo_sort_4, .int mo_place, .int mo_number, .int mo_fault_5, .int mo_wrongAt_6, .int mo_laneTold, .long mo_word, mo_v, mo_x, mo_past, mo_kept, .int mo_acts, .int mo_marks, mo_put, mo_bestPut, .long mo_bestSum, mo_row, mo_best, mo_left, .int mo_bestSize, .int mo_bestLeft, mo_counts, .int mo_sets, .int mo_foeHarm, .int mo_ownHarm, .int mo_across, .int mo_sumFoe, .int mo_sumOwn, .int mo_sumWon, .int mo_sumAcross])), (a_mo_tape, .inl (cy 0, 900, .inl mo_tape)), (a_re, .inr (12, [.int re_lanes, .int re_deep, .int re_told, .int re_beasts, .int re_cities, .int re_passes, .int re_turned, .int re_names, re_who, re_strong, re_kind, re_lane, re_mood, re_price, re_loses, re_name, re_nameSort, re_numberOf]))] ++ X) → va_S A s.heap H locs → ∀ ls : Array Slot, lv_has ls 3 [(0, .ref a_mo)] → W p l e (headSpec wo_X13_lineBegins ({ frames := 2, cells := 0, slots := 0, locals := 43 })).room s m (([.ref a_mo, .int p1, .int p2] : List Value).toArray) below meth c H locs 0 0 (MQ below (va_Qv (fun (_ : Unit) => True) (wB D A ([(a_mo, .inr (13, [.int mo_thrown, .int mo_trouble, .int mo_where, mo_war, .ref a_re, .ref a_mo_tape, .int mo_taped, .int mo_size, .int mo_spot', .int mo_sort', .int mo_place', .int mo_number', .int mo_fault', .int mo_wrongAt', .int mo_laneTold, .long mo_word', mo_v, mo_x, mo_past, mo_kept, .int mo_acts, .int mo_marks, mo_put, mo_bestPut, .long mo_bestSum, mo_row, mo_best, mo_left, .int mo_bestSize, .int mo_bestLeft, mo_counts, .int mo_sets, .int mo_foeHarm, .int mo_ownHarm, .int mo_across, .int mo_sumFoe, .int mo_sumOwn, .int mo_sumWon, .int mo_sumAcross])), (a_mo_tape, .inl (cy 0, 900, .inl mo_tape)), (a_re, .inr (12, [.int re_lanes, .int re_deep, .int re_told, .int re_beasts, .int re_cities, .int re_passes, .int re_turned, .int re_names, re_who, re_strong, re_kind, re_lane, re_mood, re_price, re_loses, re_name, re_nameSort, re_numberOf]))] ++ X)) A) (([.ref a_mo, .int p1, .int p2] : List Value).toArray) s 0 0 A) (F0 m 26 ls []) := by
      intro mo_sort_4 mo_fault_5 mo_wrongAt_6 h H locs hP hD hS ls hl
      unfold f_X13_lineBegins_B26 at h
      refine lv_aload_n hx hb dX13_lineBegins_26 rfl (lv_at hl 0 rfl) ?_
      obtain ⟨mo_spot_7, mo_sort_8, mo_place_9, mo_number_10, mo_word_11, hc_12, h⟩ := bd5_some h
      refine wVv [] [] ⟨hx, hb, hml, hown, hts⟩ (c_X13_goesOn l D cy A ([(a_re, .inr (12, [.int re_lanes, .int re_deep, .int re_told, .int re_beasts, .int re_cities, .int re_passes, .int re_turned, .int re_names, re_who, re_strong, re_kind, re_lane, re_mood, re_price, re_loses, re_name, re_nameSort, re_numberOf]))] ++ X) a_mo a_mo_tape mo_thrown mo_trouble mo_where (mo_war) (.ref a_re) mo_taped mo_size mo_spot mo_sort_4 mo_place mo_number mo_fault_5 mo_wrongAt_6 mo_laneTold mo_word (mo_v) (mo_x) (mo_past) (mo_kept) mo_acts mo_marks (mo_put) (mo_bestPut) mo_bestSum (mo_row) (mo_best) (mo_left) mo_bestSize mo_bestLeft (mo_counts) mo_sets mo_foeHarm mo_ownHarm mo_across mo_sumFoe mo_sumOwn mo_sumWon mo_sumAcross mo_tape mo_spot_7 mo_sort_8 mo_place_9 mo_number_10 mo_word_11 hc_12) gX13_lineBegins_X13_goesOn rfl hd_X13_goesOn ⟨Nat.le_of_ble_eq_true rfl, Nat.le_of_ble_eq_true rfl⟩ rfl rfl hKN (pX3 hP [0, 1, 2] rfl) (dX3 hD [0, 1, 2] rfl rfl) hS hA 13 0 rfl rfl rfl hl.1 rfl (Nat.le_of_ble_eq_true rfl) dX13_lineBegins_27 ⟨Nat.le_of_ble_eq_true rfl, Nat.le_of_ble_eq_true rfl⟩ (fun H locs hP hD hS => ?_)
      have hP := pX4 (L1 := [(a_mo, .inr (13, [.int mo_thrown, .int mo_trouble, .int mo_where, mo_war, .ref a_re, .ref a_mo_tape, .int mo_taped, .int mo_size, .int mo_spot_7, .int mo_sort_8, .int mo_place_9, .int mo_number_10, .int mo_fault_5, .int mo_wrongAt_6, .int mo_laneTold, .long mo_word_11, mo_v, mo_x, mo_past, mo_kept, .int mo_acts, .int mo_marks, mo_put, mo_bestPut, .long mo_bestSum, mo_row, mo_best, mo_left, .int mo_bestSize, .int mo_bestLeft, mo_counts, .int mo_sets, .int mo_foeHarm, .int mo_ownHarm, .int mo_across, .int mo_sumFoe, .int mo_sumOwn, .int mo_sumWon, .int mo_sumAcross])), (a_mo_tape, .inl (cy 0, 900, .inl mo_tape)), (a_re, .inr (12, [.int re_lanes, .int re_deep, .int re_told, .int re_beasts, .int re_cities, .int re_passes, .int re_turned, .int re_names, re_who, re_strong, re_kind, re_lane, re_mood, re_price, re_loses, re_name, re_nameSort, re_numberOf]))]) hP [0, 1, 2] rfl
      have hD := dX4 (L1 := [(a_mo, .inr (13, [.int mo_thrown, .int mo_trouble, .int mo_where, mo_war, .ref a_re, .ref a_mo_tape, .int mo_taped, .int mo_size, .int mo_spot_7, .int mo_sort_8, .int mo_place_9, .int mo_number_10, .int mo_fault_5, .int mo_wrongAt_6, .int mo_laneTold, .long mo_word_11, mo_v, mo_x, mo_past, mo_kept, .int mo_acts, .int mo_marks, mo_put, mo_bestPut, .long mo_bestSum, mo_row, mo_best, mo_left, .int mo_bestSize, .int mo_bestLeft, mo_counts, .int mo_sets, .int mo_foeHarm, .int mo_ownHarm, .int mo_across, .int mo_sumFoe, .int mo_sumOwn, .int mo_sumWon, .int mo_sumAcross])), (a_mo_tape, .inl (cy 0, 900, .inl mo_tape)), (a_re, .inr (12, [.int re_lanes, .int re_deep, .int re_told, .int re_beasts, .int re_cities, .int re_passes, .int re_turned, .int re_names, re_who, re_strong, re_kind, re_lane, re_mood, re_price, re_loses, re_name, re_nameSort, re_numberOf]))]) hD [0, 1, 2] rfl rfl
      cases h
      exact W.vret hx hb hr (fun t ht _ => ⟨⟨(), rfl, trivial, by rw [ht]; exact hP, hD⟩, hS.F ht⟩) hS.2.2 dX13_lineBegins_30
    refine lv_if_ne (tgt := 26) hx hb dX13_lineBegins_17 (by decide) (fun cd => ?_) (fun cd => ?_)
    · have h := ifF cd h
      exact jn26 mo_sort_1 mo_fault_2 mo_wrongAt_3 h _ _ hP hD hS _ (lv_sub hl [0] rfl)
    · have h := ifT cd h
      refine lv_aload_n hx hb dX13_lineBegins_20 rfl (lv_at hl 0 rfl) ?_
      refine lv_bipush (v := 6) hx hb dX13_lineBegins_21 (by decide) ?_
      obtain ⟨mo_sort_13, mo_fault_14, mo_wrongAt_15, hc_16, h⟩ := bd3_some h
      refine wVv [.int 6] [] ⟨hx, hb, hml, hown, hts⟩ (c_X13_flaw l D cy A ([(a_mo_tape, .inl (cy 0, 900, .inl mo_tape)), (a_re, .inr (12, [.int re_lanes, .int re_deep, .int re_told, .int re_beasts, .int re_cities, .int re_passes, .int re_turned, .int re_names, re_who, re_strong, re_kind, re_lane, re_mood, re_price, re_loses, re_name, re_nameSort, re_numberOf]))] ++ X) a_mo mo_thrown mo_trouble mo_where (mo_war) (.ref a_re) (.ref a_mo_tape) mo_taped mo_size mo_spot mo_sort_1 mo_place mo_number mo_fault_2 mo_wrongAt_3 mo_laneTold mo_word (mo_v) (mo_x) (mo_past) (mo_kept) mo_acts mo_marks (mo_put) (mo_bestPut) mo_bestSum (mo_row) (mo_best) (mo_left) mo_bestSize mo_bestLeft (mo_counts) mo_sets mo_foeHarm mo_ownHarm mo_across mo_sumFoe mo_sumOwn mo_sumWon mo_sumAcross (6 : Int32) mo_sort_13 mo_fault_14 mo_wrongAt_15 hc_16) gX13_lineBegins_X13_flaw rfl hd_X13_flaw ⟨Nat.le_of_ble_eq_true rfl, Nat.le_of_ble_eq_true rfl⟩ rfl rfl hKN (pX3 hP [0, 1, 2] rfl) (dX3 hD [0, 1, 2] rfl rfl) hS hA 13 0 rfl rfl rfl hl.1 rfl (Nat.le_of_ble_eq_true rfl) dX13_lineBegins_23 ⟨Nat.le_of_ble_eq_true rfl, Nat.le_of_ble_eq_true rfl⟩ (fun H locs hP hD hS => ?_)
      have hP := pX4 (L1 := [(a_mo, .inr (13, [.int mo_thrown, .int mo_trouble, .int mo_where, mo_war, .ref a_re, .ref a_mo_tape, .int mo_taped, .int mo_size, .int mo_spot, .int mo_sort_13, .int mo_place, .int mo_number, .int mo_fault_14, .int mo_wrongAt_15, .int mo_laneTold, .long mo_word, mo_v, mo_x, mo_past, mo_kept, .int mo_acts, .int mo_marks, mo_put, mo_bestPut, .long mo_bestSum, mo_row, mo_best, mo_left, .int mo_bestSize, .int mo_bestLeft, mo_counts, .int mo_sets, .int mo_foeHarm, .int mo_ownHarm, .int mo_across, .int mo_sumFoe, .int mo_sumOwn, .int mo_sumWon, .int mo_sumAcross])), (a_mo_tape, .inl (cy 0, 900, .inl mo_tape)), (a_re, .inr (12, [.int re_lanes, .int re_deep, .int re_told, .int re_beasts, .int re_cities, .int re_passes, .int re_turned, .int re_names, re_who, re_strong, re_kind, re_lane, re_mood, re_price, re_loses, re_name, re_nameSort, re_numberOf]))]) hP [0, 1, 2] rfl
      have hD := dX4 (L1 := [(a_mo, .inr (13, [.int mo_thrown, .int mo_trouble, .int mo_where, mo_war, .ref a_re, .ref a_mo_tape, .int mo_taped, .int mo_size, .int mo_spot, .int mo_sort_13, .int mo_place, .int mo_number, .int mo_fault_14, .int mo_wrongAt_15, .int mo_laneTold, .long mo_word, mo_v, mo_x, mo_past, mo_kept, .int mo_acts, .int mo_marks, mo_put, mo_bestPut, .long mo_bestSum, mo_row, mo_best, mo_left, .int mo_bestSize, .int mo_bestLeft, mo_counts, .int mo_sets, .int mo_foeHarm, .int mo_ownHarm, .int mo_across, .int mo_sumFoe, .int mo_sumOwn, .int mo_sumWon, .int mo_sumAcross])), (a_mo_tape, .inl (cy 0, 900, .inl mo_tape)), (a_re, .inr (12, [.int re_lanes, .int re_deep, .int re_told, .int re_beasts, .int re_cities, .int re_passes, .int re_turned, .int re_names, re_who, re_strong, re_kind, re_lane, re_mood, re_price, re_loses, re_name, re_nameSort, re_numberOf]))]) hD [0, 1, 2] rfl rfl
      exact jn26 mo_sort_13 mo_fault_14 mo_wrongAt_15 h _ _ hP hD hS _ (lv_sub hl [0] rfl)
  refine lv_icmp_ne (tgt := 10) hx hb dX13_lineBegins_2 (by decide) (fun cd => ?_) (fun cd => ?_)
  · have h := ifF cd h
    exact jn10 mo_sort mo_fault mo_wrongAt h _ _ hP hD hS _ (lv_sub hl [0] rfl)
  · have h := ifT cd h
    refine lv_aload_n hx hb dX13_lineBegins_5 rfl (lv_at hl 0 rfl) ?_
    refine lv_iconst (v := 5) hx hb dX13_lineBegins_6 (by decide) ?_
    obtain ⟨mo_sort_17, mo_fault_18, mo_wrongAt_19, hc_20, h⟩ := bd3_some h
    refine wVv [.int 5] [] ⟨hx, hb, hml, hown, hts⟩ (c_X13_flaw l D cy A ([(a_mo_tape, .inl (cy 0, 900, .inl mo_tape)), (a_re, .inr (12, [.int re_lanes, .int re_deep, .int re_told, .int re_beasts, .int re_cities, .int re_passes, .int re_turned, .int re_names, re_who, re_strong, re_kind, re_lane, re_mood, re_price, re_loses, re_name, re_nameSort, re_numberOf]))] ++ X) a_mo mo_thrown mo_trouble mo_where (mo_war) (.ref a_re) (.ref a_mo_tape) mo_taped mo_size mo_spot mo_sort mo_place mo_number mo_fault mo_wrongAt mo_laneTold mo_word (mo_v) (mo_x) (mo_past) (mo_kept) mo_acts mo_marks (mo_put) (mo_bestPut) mo_bestSum (mo_row) (mo_best) (mo_left) mo_bestSize mo_bestLeft (mo_counts) mo_sets mo_foeHarm mo_ownHarm mo_across mo_sumFoe mo_sumOwn mo_sumWon mo_sumAcross (5 : Int32) mo_sort_17 mo_fault_18 mo_wrongAt_19 hc_20) gX13_lineBegins_X13_flaw rfl hd_X13_flaw ⟨Nat.le_of_ble_eq_true rfl, Nat.le_of_ble_eq_true rfl⟩ rfl rfl hKN (pX3 hP [0, 1, 2] rfl) (dX3 hD [0, 1, 2] rfl rfl) hS hA 13 0 rfl rfl rfl hl.1 rfl (Nat.le_of_ble_eq_true rfl) dX13_lineBegins_7 ⟨Nat.le_of_ble_eq_true rfl, Nat.le_of_ble_eq_true rfl⟩ (fun H locs hP hD hS => ?_)
    have hP := pX4 (L1 := [(a_mo, .inr (13, [.int mo_thrown, .int mo_trouble, .int mo_where, mo_war, .ref a_re, .ref a_mo_tape, .int mo_taped, .int mo_size, .int mo_spot, .int mo_sort_17, .int mo_place, .int mo_number, .int mo_fault_18, .int mo_wrongAt_19, .int mo_laneTold, .long mo_word, mo_v, mo_x, mo_past, mo_kept, .int mo_acts, .int mo_marks, mo_put, mo_bestPut, .long mo_bestSum, mo_row, mo_best, mo_left, .int mo_bestSize, .int mo_bestLeft, mo_counts, .int mo_sets, .int mo_foeHarm, .int mo_ownHarm, .int mo_across, .int mo_sumFoe, .int mo_sumOwn, .int mo_sumWon, .int mo_sumAcross])), (a_mo_tape, .inl (cy 0, 900, .inl mo_tape)), (a_re, .inr (12, [.int re_lanes, .int re_deep, .int re_told, .int re_beasts, .int re_cities, .int re_passes, .int re_turned, .int re_names, re_who, re_strong, re_kind, re_lane, re_mood, re_price, re_loses, re_name, re_nameSort, re_numberOf]))]) hP [0, 1, 2] rfl
    have hD := dX4 (L1 := [(a_mo, .inr (13, [.int mo_thrown, .int mo_trouble, .int mo_where, mo_war, .ref a_re, .ref a_mo_tape, .int mo_taped, .int mo_size, .int mo_spot, .int mo_sort_17, .int mo_place, .int mo_number, .int mo_fault_18, .int mo_wrongAt_19, .int mo_laneTold, .long mo_word, mo_v, mo_x, mo_past, mo_kept, .int mo_acts, .int mo_marks, mo_put, mo_bestPut, .long mo_bestSum, mo_row, mo_best, mo_left, .int mo_bestSize, .int mo_bestLeft, mo_counts, .int mo_sets, .int mo_foeHarm, .int mo_ownHarm, .int mo_across, .int mo_sumFoe, .int mo_sumOwn, .int mo_sumWon, .int mo_sumAcross])), (a_mo_tape, .inl (cy 0, 900, .inl mo_tape)), (a_re, .inr (12, [.int re_lanes, .int re_deep, .int re_told, .int re_beasts, .int re_cities, .int re_passes, .int re_turned, .int re_names, re_who, re_strong, re_kind, re_lane, re_mood, re_price, re_loses, re_name, re_nameSort, re_numberOf]))]) hD [0, 1, 2] rfl rfl
    exact jn10 mo_sort_17 mo_fault_18 mo_wrongAt_19 h _ _ hP hD hS _ (lv_sub hl [0] rfl)
noncomputable def f_X13_readFresh_B32 (mo_size : Int32) (mo_tape : Nat → Int32) (re_names : Int32) (re_name : Nat → Int64) (mo_spot : Int32) (mo_sort : Int32) (mo_place : Int32) (mo_number : Int32) (mo_fault : Int32) (mo_wrongAt : Int32) (mo_word : Int64) : Option (Int64 × Int32 × Int32 × Int32 × Int32 × Int32 × Int32 × Int64) :=
  bd5 (f_X13_goesOn mo_size mo_spot mo_sort mo_place mo_number mo_word mo_tape) fun mo_spot_6 mo_sort_7 mo_place_8 mo_number_9 mo_word_10 =>
  some (mo_word, mo_spot_6, mo_sort_7, mo_place_8, mo_number_9, mo_fault, mo_wrongAt, mo_word_10)
noncomputable def f_X13_readFresh_B12 (mo_size : Int32) (mo_tape : Nat → Int32) (re_names : Int32) (re_name : Nat → Int64) (mo_spot : Int32) (mo_sort : Int32) (mo_place : Int32) (mo_number : Int32) (mo_fault : Int32) (mo_wrongAt : Int32) (mo_word : Int64) : Option (Int64 × Int32 × Int32 × Int32 × Int32 × Int32 × Int32 × Int64) :=
  bd1 (f_X12_find re_names re_name mo_word) fun r_4 =>
  (if r_4 = (-1) then
  f_X13_readFresh_B32 mo_size mo_tape re_names re_name mo_spot mo_sort mo_place mo_number mo_fault mo_wrongAt mo_word
  else
  bd3 (f_X13_flaw mo_sort mo_place mo_fault mo_wrongAt (3 : Int32)) fun mo_sort_12 mo_fault_13 mo_wrongAt_14 =>
  f_X13_readFresh_B32 mo_size mo_tape re_names re_name mo_spot mo_sort_12 mo_place mo_number mo_fault_13 mo_wrongAt_14 mo_word)
noncomputable def f_X13_readFresh (mo_size : Int32) (mo_spot : Int32) (mo_sort : Int32) (mo_place : Int32) (mo_number : Int32) (mo_fault : Int32) (mo_wrongAt : Int32) (mo_word : Int64) (mo_tape : Nat → Int32) (re_names : Int32) (re_name : Nat → Int64) : Option (Int64 × Int32 × Int32 × Int32 × Int32 × Int32 × Int32 × Int64) :=
  bd1 (f_X13_isName mo_sort mo_word) fun r_1 =>
  (if r_1 = 0 then
  bd3 (f_X13_flaw mo_sort mo_place mo_fault mo_wrongAt (1 : Int32)) fun mo_sort_16 mo_fault_17 mo_wrongAt_18 =>
  f_X13_readFresh_B12 mo_size mo_tape re_names re_name mo_spot mo_sort_16 mo_place mo_number mo_fault_17 mo_wrongAt_18 mo_word
  else
  f_X13_readFresh_B12 mo_size mo_tape re_names re_name mo_spot mo_sort mo_place mo_number mo_fault mo_wrongAt mo_word)
theorem hd_X13_readFresh : yX13_readFresh.cls = RX13 ∧ yX13_readFresh.cls ≠ "java/lang/invoke/MethodHandle" ∧ yX13_readFresh.cls ≠ "java/lang/invoke/VarHandle" ∧ (parseMethodDescriptor yX13_readFresh.desc).map (fun d => d.parameters.length) = some 0 := by decide +kernel
set_option maxHeartbeats 4000000 in
set_option maxRecDepth 100000 in
theorem c_X13_readFresh (l : Launch) (D : va_G) (cy : Nat → ClassId) (sa sv : Nat → Nat) (A : Nat → Prop) (X : va_W) (a_mo a_mo_tape a_re a_re_name : Nat) (mo_thrown : Int32) (mo_trouble : Int32) (mo_where : Int32) (mo_war : Value) (mo_taped : Int32) (mo_size : Int32) (mo_spot : Int32) (mo_sort : Int32) (mo_place : Int32) (mo_number : Int32) (mo_fault : Int32) (mo_wrongAt : Int32) (mo_laneTold : Int32) (mo_word : Int64) (mo_v : Value) (mo_x : Value) (mo_past : Value) (mo_kept : Value) (mo_acts : Int32) (mo_marks : Int32) (mo_put : Value) (mo_bestPut : Value) (mo_bestSum : Int64) (mo_row : Value) (mo_best : Value) (mo_left : Value) (mo_bestSize : Int32) (mo_bestLeft : Int32) (mo_counts : Value) (mo_sets : Int32) (mo_foeHarm : Int32) (mo_ownHarm : Int32) (mo_across : Int32) (mo_sumFoe : Int32) (mo_sumOwn : Int32) (mo_sumWon : Int32) (mo_sumAcross : Int32) (mo_tape : Nat → Int32) (re_lanes : Int32) (re_deep : Int32) (re_told : Int32) (re_beasts : Int32) (re_cities : Int32) (re_passes : Int32) (re_turned : Int32) (re_names : Int32) (re_who : Value) (re_strong : Value) (re_kind : Value) (re_lane : Value) (re_mood : Value) (re_price : Value) (re_loses : Value) (re_nameSort : Value) (re_numberOf : Value) (re_name : Nat → Int64) (res : Int64) (mo_spot' : Int32) (mo_sort' : Int32) (mo_place' : Int32) (mo_number' : Int32) (mo_fault' : Int32) (mo_wrongAt' : Int32) (mo_word' : Int64) (h : f_X13_readFresh mo_size mo_spot mo_sort mo_place mo_number mo_fault mo_wrongAt mo_word mo_tape re_names re_name = some (res, mo_spot', mo_sort', mo_place', mo_number', mo_fault', mo_wrongAt', mo_word')) : Met l yX13_readFresh wo_X13_readFresh ({ frames := 7, cells := 0, slots := 0, locals := 155 }) (wrPcS D cy sa sv A [.ref a_mo] ([(a_mo, .inr (13, [.int mo_thrown, .int mo_trouble, .int mo_where, mo_war, .ref a_re, .ref a_mo_tape, .int mo_taped, .int mo_size, .int mo_spot, .int mo_sort, .int mo_place, .int mo_number, .int mo_fault, .int mo_wrongAt, .int mo_laneTold, .long mo_word, mo_v, mo_x, mo_past, mo_kept, .int mo_acts, .int mo_marks, mo_put, mo_bestPut, .long mo_bestSum, mo_row, mo_best, mo_left, .int mo_bestSize, .int mo_bestLeft, mo_counts, .int mo_sets, .int mo_foeHarm, .int mo_ownHarm, .int mo_across, .int mo_sumFoe, .int mo_sumOwn, .int mo_sumWon, .int mo_sumAcross])), (a_mo_tape, .inl (cy 0, 900, .inl mo_tape)), (a_re, .inr (12, [.int re_lanes, .int re_deep, .int re_told, .int re_beasts, .int re_cities, .int re_passes, .int re_turned, .int re_names, re_who, re_strong, re_kind, re_lane, re_mood, re_price, re_loses, .ref a_re_name, re_nameSort, re_numberOf])), (a_re_name, .inl (cy 2, 11, .inr (.inl re_name)))] ++ X)) (va_Ql (fun (r : Int64) (_ : Unit) => r = res) (wB D A ([(a_mo, .inr (13, [.int mo_thrown, .int mo_trouble, .int mo_where, mo_war, .ref a_re, .ref a_mo_tape, .int mo_taped, .int mo_size, .int mo_spot', .int mo_sort', .int mo_place', .int mo_number', .int mo_fault', .int mo_wrongAt', .int mo_laneTold, .long mo_word', mo_v, mo_x, mo_past, mo_kept, .int mo_acts, .int mo_marks, mo_put, mo_bestPut, .long mo_bestSum, mo_row, mo_best, mo_left, .int mo_bestSize, .int mo_bestLeft, mo_counts, .int mo_sets, .int mo_foeHarm, .int mo_ownHarm, .int mo_across, .int mo_sumFoe, .int mo_sumOwn, .int mo_sumWon, .int mo_sumAcross])), (a_mo_tape, .inl (cy 0, 900, .inl mo_tape)), (a_re, .inr (12, [.int re_lanes, .int re_deep, .int re_told, .int re_beasts, .int re_cities, .int re_passes, .int re_turned, .int re_names, re_who, re_strong, re_kind, re_lane, re_mood, re_price, re_loses, .ref a_re_name, re_nameSort, re_numberOf])), (a_re_name, .inl (cy 2, 11, .inr (.inl re_name)))] ++ X)) A) 0 0 A := by
  refine Met.ofW (cc := cX13_readFresh) (maxL := 3) (ret := (some .long)) (by decide) rfl ?_
  intro p e s m args below meth c s₁ B hml hv
  obtain ⟨rfl, hP, hKN, hD, hA, hSS⟩ := hv
  have hK := hKN.1
  have hx := B.exec
  have hb := B.bytes
  have hr := B.returns
  have hts := wt_X13_readFresh hKN.2.2 (([.ref a_mo] : List Value).toArray)
  have hown : s.vm.findClass RX13 = some m.cls := findClass_of_methodNamed B.named
  have hlocks := B.notSynchronized
  have hS : va_S A s.heap s.heap [] := va_S.rf
  have hX13 := wc_X13 hKN.2.2 (([.ref a_mo] : List Value).toArray)
  have hl := lv_entry ([.ref a_mo]) (n := 3) (Nat.le_of_ble_eq_true rfl)
  rw [lg_entry_eq]
  generalize (lg_sl ([.ref a_mo]) ++ List.replicate (3 - (lg_sl ([.ref a_mo])).length) Slot.unset).toArray = ls at hl ⊢
  have hl : lv_has ls 3 [(0, .ref a_mo)] := hl
  unfold f_X13_readFresh at h
  refine lv_aload_n hx hb dX13_readFresh_0 rfl (lv_at hl 0 rfl) ?_
  obtain ⟨r_1, hc_2, h⟩ := bd1_some h
  refine kVbS [] [] ⟨hx, hb, hml, hown, hts⟩ (c_X13_isName l D cy sa sv a_mo mo_thrown mo_trouble mo_where (mo_war) (.ref a_re) (.ref a_mo_tape) mo_taped mo_size mo_spot mo_sort mo_place mo_number mo_fault mo_wrongAt mo_laneTold mo_word (mo_v) (mo_x) (mo_past) (mo_kept) mo_acts mo_marks (mo_put) (mo_bestPut) mo_bestSum (mo_row) (mo_best) (mo_left) mo_bestSize mo_bestLeft (mo_counts) mo_sets mo_foeHarm mo_ownHarm mo_across mo_sumFoe mo_sumOwn mo_sumWon mo_sumAcross r_1 hc_2) gX13_readFresh_X13_isName rfl hd_X13_isName ⟨Nat.le_of_ble_eq_true rfl, Nat.le_of_ble_eq_true rfl⟩ rfl rfl hKN (pXc hP [0] rfl) (hSS.kept hS).narrow 13 0 rfl rfl rfl hl.1 rfl (Nat.le_of_ble_eq_true rfl) dX13_readFresh_1 ⟨Nat.le_of_ble_eq_true rfl, Nat.le_of_ble_eq_true rfl⟩ (fun nb_3 => ?_)
  have jn12 : ∀ (mo_sort_4 : Int32) (mo_fault_5 : Int32) (mo_wrongAt_6 : Int32), f_X13_readFresh_B12 mo_size mo_tape re_names re_name mo_spot mo_sort_4 mo_place mo_number mo_fault_5 mo_wrongAt_6 mo_word = some (res, mo_spot', mo_sort', mo_place', mo_number', mo_fault', mo_wrongAt', mo_word') → ∀ (H : Heap) (locs : List Loc), va_P D vwCl ([(a_mo, .inr (13, [.int mo_thrown, .int mo_trouble, .int mo_where, mo_war, .ref a_re, .ref a_mo_tape, .int mo_taped, .int mo_size, .int mo_spot, .int mo_sort_4, .int mo_place, .int mo_number, .int mo_fault_5, .int mo_wrongAt_6, .int mo_laneTold, .long mo_word, mo_v, mo_x, mo_past, mo_kept, .int mo_acts, .int mo_marks, mo_put, mo_bestPut, .long mo_bestSum, mo_row, mo_best, mo_left, .int mo_bestSize, .int mo_bestLeft, mo_counts, .int mo_sets, .int mo_foeHarm, .int mo_ownHarm, .int mo_across, .int mo_sumFoe, .int mo_sumOwn, .int mo_sumWon, .int mo_sumAcross])), (a_mo_tape, .inl (cy 0, 900, .inl mo_tape)), (a_re, .inr (12, [.int re_lanes, .int re_deep, .int re_told, .int re_beasts, .int re_cities, .int re_passes, .int re_turned, .int re_names, re_who, re_strong, re_kind, re_lane, re_mood, re_price, re_loses, .ref a_re_name, re_nameSort, re_numberOf])), (a_re_name, .inl (cy 2, 11, .inr (.inl re_name)))] ++ X) H → va_D A ([(a_mo, .inr (13, [.int mo_thrown, .int mo_trouble, .int mo_where, mo_war, .ref a_re, .ref a_mo_tape, .int mo_taped, .int mo_size, .int mo_spot, .int mo_sort_4, .int mo_place, .int mo_number, .int mo_fault_5, .int mo_wrongAt_6, .int mo_laneTold, .long mo_word, mo_v, mo_x, mo_past, mo_kept, .int mo_acts, .int mo_marks, mo_put, mo_bestPut, .long mo_bestSum, mo_row, mo_best, mo_left, .int mo_bestSize, .int mo_bestLeft, mo_counts, .int mo_sets, .int mo_foeHarm, .int mo_ownHarm, .int mo_across, .int mo_sumFoe, .int mo_sumOwn, .int mo_sumWon, .int mo_sumAcross])), (a_mo_tape, .inl (cy 0, 900, .inl mo_tape)), (a_re, .inr (12, [.int re_lanes, .int re_deep, .int re_told, .int re_beasts, .int re_cities, .int re_passes, .int re_turned, .int re_names, re_who, re_strong, re_kind, re_lane, re_mood, re_price, re_loses, .ref a_re_name, re_nameSort, re_numberOf])), (a_re_name, .inl (cy 2, 11, .inr (.inl re_name)))] ++ X) → va_S A s.heap H locs → ∀ ls : Array Slot, lv_has ls 3 [(0, .ref a_mo)] → W p l e (headSpec wo_X13_readFresh ({ frames := 7, cells := 0, slots := 0, locals := 155 })).room s m (([.ref a_mo] : List Value).toArray) below meth c H locs 0 0 (MQ below (va_Ql (fun (r : Int64) (_ : Unit) => r = res) (wB D A ([(a_mo, .inr (13, [.int mo_thrown, .int mo_trouble, .int mo_where, mo_war, .ref a_re, .ref a_mo_tape, .int mo_taped, .int mo_size, .int mo_spot', .int mo_sort', .int mo_place', .int mo_number', .int mo_fault', .int mo_wrongAt', .int mo_laneTold, .long mo_word', mo_v, mo_x, mo_past, mo_kept, .int mo_acts, .int mo_marks, mo_put, mo_bestPut, .long mo_bestSum, mo_row, mo_best, mo_left, .int mo_bestSize, .int mo_bestLeft, mo_counts, .int mo_sets, .int mo_foeHarm, .int mo_ownHarm, .int mo_across, .int mo_sumFoe, .int mo_sumOwn, .int mo_sumWon, .int mo_sumAcross])), (a_mo_tape, .inl (cy 0, 900, .inl mo_tape)), (a_re, .inr (12, [.int re_lanes, .int re_deep, .int re_told, .int re_beasts, .int re_cities, .int re_passes, .int re_turned, .int re_names, re_who, re_strong, re_kind, re_lane, re_mood, re_price, re_loses, .ref a_re_name, re_nameSort, re_numberOf])), (a_re_name, .inl (cy 2, 11, .inr (.inl re_name)))] ++ X)) A) (([.ref a_mo] : List Value).toArray) s 0 0 A) (F0 m 12 ls []) := by
    intro mo_sort_4 mo_fault_5 mo_wrongAt_6 h H locs hP hD hS ls hl
    unfold f_X13_readFresh_B12 at h
    refine lv_aload_n hx hb dX13_readFresh_12 rfl (lv_at hl 0 rfl) ?_
    refine va_get (D := D) (ci := 13) (C := RX13) (T := TX13) (N := 39) (v := .ref a_re) hx hb hX13 (fun _ q => q) hown hK hP 0 rfl rfl 4 (by decide) (hts (.fieldLink RX13 156 "ElephantLineModel" "read" "LElephantLineModel$War;") (by decide +kernel)) (fun _ h9 => h9) rfl dX13_readFresh_13 ?_
    refine lv_aload_n hx hb dX13_readFresh_16 rfl (lv_at hl 0 rfl) ?_
    refine va_get (D := D) (ci := 13) (C := RX13) (T := TX13) (N := 39) (v := .long mo_word) hx hb hX13 (fun _ q => q) hown hK hP 0 rfl rfl 15 (by decide) (hts (.fieldLink RX13 98 "ElephantLineModel" "word" "J") (by decide +kernel)) (fun _ h9 => h9) rfl dX13_readFresh_17 ?_
    obtain ⟨r_7, hc_8, h⟩ := bd1_some h
    refine kVi [.long mo_word] [] ⟨hx, hb, hml, hown, hts⟩ (c_X12_find l D cy a_re a_re_name re_lanes re_deep re_told re_beasts re_cities re_passes re_turned re_names (re_who) (re_strong) (re_kind) (re_lane) (re_mood) (re_price) (re_loses) (re_nameSort) (re_numberOf) re_name mo_word r_7 hc_8) gX13_readFresh_X12_find rfl hd_X12_find ⟨Nat.le_of_ble_eq_true rfl, Nat.le_of_ble_eq_true rfl⟩ rfl rfl hKN (pXc hP [2, 3] rfl) 12 0 rfl rfl rfl hl.1 rfl (Nat.le_of_ble_eq_true rfl) dX13_readFresh_20 ⟨Nat.le_of_ble_eq_true rfl, Nat.le_of_ble_eq_true rfl⟩ ?_
    refine lv_iconst (v := (-1)) hx hb dX13_readFresh_23 (by decide) ?_
    have jn32 : ∀ (mo_sort_9 : Int32) (mo_fault_10 : Int32) (mo_wrongAt_11 : Int32), f_X13_readFresh_B32 mo_size mo_tape re_names re_name mo_spot mo_sort_9 mo_place mo_number mo_fault_10 mo_wrongAt_11 mo_word = some (res, mo_spot', mo_sort', mo_place', mo_number', mo_fault', mo_wrongAt', mo_word') → ∀ (H : Heap) (locs : List Loc), va_P D vwCl ([(a_mo, .inr (13, [.int mo_thrown, .int mo_trouble, .int mo_where, mo_war, .ref a_re, .ref a_mo_tape, .int mo_taped, .int mo_size, .int mo_spot, .int mo_sort_9, .int mo_place, .int mo_number, .int mo_fault_10, .int mo_wrongAt_11, .int mo_laneTold, .long mo_word, mo_v, mo_x, mo_past, mo_kept, .int mo_acts, .int mo_marks, mo_put, mo_bestPut, .long mo_bestSum, mo_row, mo_best, mo_left, .int mo_bestSize, .int mo_bestLeft, mo_counts, .int mo_sets, .int mo_foeHarm, .int mo_ownHarm, .int mo_across, .int mo_sumFoe, .int mo_sumOwn, .int mo_sumWon, .int mo_sumAcross])), (a_mo_tape, .inl (cy 0, 900, .inl mo_tape)), (a_re, .inr (12, [.int re_lanes, .int re_deep, .int re_told, .int re_beasts, .int re_cities, .int re_passes, .int re_turned, .int re_names, re_who, re_strong, re_kind, re_lane, re_mood, re_price, re_loses, .ref a_re_name, re_nameSort, re_numberOf])), (a_re_name, .inl (cy 2, 11, .inr (.inl re_name)))] ++ X) H → va_D A ([(a_mo, .inr (13, [.int mo_thrown, .int mo_trouble, .int mo_where, mo_war, .ref a_re, .ref a_mo_tape, .int mo_taped, .int mo_size, .int mo_spot, .int mo_sort_9, .int mo_place, .int mo_number, .int mo_fault_10, .int mo_wrongAt_11, .int mo_laneTold, .long mo_word, mo_v, mo_x, mo_past, mo_kept, .int mo_acts, .int mo_marks, mo_put, mo_bestPut, .long mo_bestSum, mo_row, mo_best, mo_left, .int mo_bestSize, .int mo_bestLeft, mo_counts, .int mo_sets, .int mo_foeHarm, .int mo_ownHarm, .int mo_across, .int mo_sumFoe, .int mo_sumOwn, .int mo_sumWon, .int mo_sumAcross])), (a_mo_tape, .inl (cy 0, 900, .inl mo_tape)), (a_re, .inr (12, [.int re_lanes, .int re_deep, .int re_told, .int re_beasts, .int re_cities, .int re_passes, .int re_turned, .int re_names, re_who, re_strong, re_kind, re_lane, re_mood, re_price, re_loses, .ref a_re_name, re_nameSort, re_numberOf])), (a_re_name, .inl (cy 2, 11, .inr (.inl re_name)))] ++ X) → va_S A s.heap H locs → ∀ ls : Array Slot, lv_has ls 3 [(0, .ref a_mo)] → W p l e (headSpec wo_X13_readFresh ({ frames := 7, cells := 0, slots := 0, locals := 155 })).room s m (([.ref a_mo] : List Value).toArray) below meth c H locs 0 0 (MQ below (va_Ql (fun (r : Int64) (_ : Unit) => r = res) (wB D A ([(a_mo, .inr (13, [.int mo_thrown, .int mo_trouble, .int mo_where, mo_war, .ref a_re, .ref a_mo_tape, .int mo_taped, .int mo_size, .int mo_spot', .int mo_sort', .int mo_place', .int mo_number', .int mo_fault', .int mo_wrongAt', .int mo_laneTold, .long mo_word', mo_v, mo_x, mo_past, mo_kept, .int mo_acts, .int mo_marks, mo_put, mo_bestPut, .long mo_bestSum, mo_row, mo_best, mo_left, .int mo_bestSize, .int mo_bestLeft, mo_counts, .int mo_sets, .int mo_foeHarm, .int mo_ownHarm, .int mo_across, .int mo_sumFoe, .int mo_sumOwn, .int mo_sumWon, .int mo_sumAcross])), (a_mo_tape, .inl (cy 0, 900, .inl mo_tape)), (a_re, .inr (12, [.int re_lanes, .int re_deep, .int re_told, .int re_beasts, .int re_cities, .int re_passes, .int re_turned, .int re_names, re_who, re_strong, re_kind, re_lane, re_mood, re_price, re_loses, .ref a_re_name, re_nameSort, re_numberOf])), (a_re_name, .inl (cy 2, 11, .inr (.inl re_name)))] ++ X)) A) (([.ref a_mo] : List Value).toArray) s 0 0 A) (F0 m 32 ls []) := by
      intro mo_sort_9 mo_fault_10 mo_wrongAt_11 h H locs hP hD hS ls hl
      unfold f_X13_readFresh_B32 at h
      refine lv_aload_n hx hb dX13_readFresh_32 rfl (lv_at hl 0 rfl) ?_
      refine va_get (D := D) (ci := 13) (C := RX13) (T := TX13) (N := 39) (v := .long mo_word) hx hb hX13 (fun _ q => q) hown hK hP 0 rfl rfl 15 (by decide) (hts (.fieldLink RX13 98 "ElephantLineModel" "word" "J") (by decide +kernel)) (fun _ h9 => h9) rfl dX13_readFresh_33 ?_
      refine lv_lstore_n (lv' := [(1, .long mo_word), (0, .ref a_mo)]) hx hb dX13_readFresh_36 rfl hl (by decide) rfl (fun ls hl => ?_)
      refine lv_aload_n hx hb dX13_readFresh_37 rfl (lv_at hl 1 rfl) ?_
      obtain ⟨mo_spot_12, mo_sort_13, mo_place_14, mo_number_15, mo_word_16, hc_17, h⟩ := bd5_some h
      refine wVv [] [] ⟨hx, hb, hml, hown, hts⟩ (c_X13_goesOn l D cy A ([(a_re, .inr (12, [.int re_lanes, .int re_deep, .int re_told, .int re_beasts, .int re_cities, .int re_passes, .int re_turned, .int re_names, re_who, re_strong, re_kind, re_lane, re_mood, re_price, re_loses, .ref a_re_name, re_nameSort, re_numberOf])), (a_re_name, .inl (cy 2, 11, .inr (.inl re_name)))] ++ X) a_mo a_mo_tape mo_thrown mo_trouble mo_where (mo_war) (.ref a_re) mo_taped mo_size mo_spot mo_sort_9 mo_place mo_number mo_fault_10 mo_wrongAt_11 mo_laneTold mo_word (mo_v) (mo_x) (mo_past) (mo_kept) mo_acts mo_marks (mo_put) (mo_bestPut) mo_bestSum (mo_row) (mo_best) (mo_left) mo_bestSize mo_bestLeft (mo_counts) mo_sets mo_foeHarm mo_ownHarm mo_across mo_sumFoe mo_sumOwn mo_sumWon mo_sumAcross mo_tape mo_spot_12 mo_sort_13 mo_place_14 mo_number_15 mo_word_16 hc_17) gX13_readFresh_X13_goesOn rfl hd_X13_goesOn ⟨Nat.le_of_ble_eq_true rfl, Nat.le_of_ble_eq_true rfl⟩ rfl rfl hKN (pX3 hP [0, 1, 2, 3] rfl) (dX3 hD [0, 1, 2, 3] rfl rfl) hS hA 13 0 rfl rfl rfl hl.1 rfl (Nat.le_of_ble_eq_true rfl) dX13_readFresh_38 ⟨Nat.le_of_ble_eq_true rfl, Nat.le_of_ble_eq_true rfl⟩ (fun H locs hP hD hS => ?_)
      have hP := pX4 (L1 := [(a_mo, .inr (13, [.int mo_thrown, .int mo_trouble, .int mo_where, mo_war, .ref a_re, .ref a_mo_tape, .int mo_taped, .int mo_size, .int mo_spot_12, .int mo_sort_13, .int mo_place_14, .int mo_number_15, .int mo_fault_10, .int mo_wrongAt_11, .int mo_laneTold, .long mo_word_16, mo_v, mo_x, mo_past, mo_kept, .int mo_acts, .int mo_marks, mo_put, mo_bestPut, .long mo_bestSum, mo_row, mo_best, mo_left, .int mo_bestSize, .int mo_bestLeft, mo_counts, .int mo_sets, .int mo_foeHarm, .int mo_ownHarm, .int mo_across, .int mo_sumFoe, .int mo_sumOwn, .int mo_sumWon, .int mo_sumAcross])), (a_mo_tape, .inl (cy 0, 900, .inl mo_tape)), (a_re, .inr (12, [.int re_lanes, .int re_deep, .int re_told, .int re_beasts, .int re_cities, .int re_passes, .int re_turned, .int re_names, re_who, re_strong, re_kind, re_lane, re_mood, re_price, re_loses, .ref a_re_name, re_nameSort, re_numberOf])), (a_re_name, .inl (cy 2, 11, .inr (.inl re_name)))]) hP [0, 1, 2, 3] rfl
      have hD := dX4 (L1 := [(a_mo, .inr (13, [.int mo_thrown, .int mo_trouble, .int mo_where, mo_war, .ref a_re, .ref a_mo_tape, .int mo_taped, .int mo_size, .int mo_spot_12, .int mo_sort_13, .int mo_place_14, .int mo_number_15, .int mo_fault_10, .int mo_wrongAt_11, .int mo_laneTold, .long mo_word_16, mo_v, mo_x, mo_past, mo_kept, .int mo_acts, .int mo_marks, mo_put, mo_bestPut, .long mo_bestSum, mo_row, mo_best, mo_left, .int mo_bestSize, .int mo_bestLeft, mo_counts, .int mo_sets, .int mo_foeHarm, .int mo_ownHarm, .int mo_across, .int mo_sumFoe, .int mo_sumOwn, .int mo_sumWon, .int mo_sumAcross])), (a_mo_tape, .inl (cy 0, 900, .inl mo_tape)), (a_re, .inr (12, [.int re_lanes, .int re_deep, .int re_told, .int re_beasts, .int re_cities, .int re_passes, .int re_turned, .int re_names, re_who, re_strong, re_kind, re_lane, re_mood, re_price, re_loses, .ref a_re_name, re_nameSort, re_numberOf])), (a_re_name, .inl (cy 2, 11, .inr (.inl re_name)))]) hD [0, 1, 2, 3] rfl rfl
      refine lv_lload_n hx hb dX13_readFresh_41 rfl (lv_at hl 0 rfl) ?_
      cases h
      exact W.lret hx hb hr (fun t ht _ => ⟨⟨_, (), rfl, rfl, by rw [ht]; exact hP, hD⟩, hS.F ht⟩) hS.2.2 dX13_readFresh_42
    refine lv_icmp_eq (tgt := 32) hx hb dX13_readFresh_24 (by decide) (fun cd => ?_) (fun cd => ?_)
    · have h := ifT cd h
      exact jn32 mo_sort_4 mo_fault_5 mo_wrongAt_6 h _ _ hP hD hS _ (lv_sub hl [0] rfl)
    · have h := ifF cd h
      refine lv_aload_n hx hb dX13_readFresh_27 rfl (lv_at hl 0 rfl) ?_
      refine lv_iconst (v := 3) hx hb dX13_readFresh_28 (by decide) ?_
      obtain ⟨mo_sort_18, mo_fault_19, mo_wrongAt_20, hc_21, h⟩ := bd3_some h
      refine wVv [.int 3] [] ⟨hx, hb, hml, hown, hts⟩ (c_X13_flaw l D cy A ([(a_mo_tape, .inl (cy 0, 900, .inl mo_tape)), (a_re, .inr (12, [.int re_lanes, .int re_deep, .int re_told, .int re_beasts, .int re_cities, .int re_passes, .int re_turned, .int re_names, re_who, re_strong, re_kind, re_lane, re_mood, re_price, re_loses, .ref a_re_name, re_nameSort, re_numberOf])), (a_re_name, .inl (cy 2, 11, .inr (.inl re_name)))] ++ X) a_mo mo_thrown mo_trouble mo_where (mo_war) (.ref a_re) (.ref a_mo_tape) mo_taped mo_size mo_spot mo_sort_4 mo_place mo_number mo_fault_5 mo_wrongAt_6 mo_laneTold mo_word (mo_v) (mo_x) (mo_past) (mo_kept) mo_acts mo_marks (mo_put) (mo_bestPut) mo_bestSum (mo_row) (mo_best) (mo_left) mo_bestSize mo_bestLeft (mo_counts) mo_sets mo_foeHarm mo_ownHarm mo_across mo_sumFoe mo_sumOwn mo_sumWon mo_sumAcross (3 : Int32) mo_sort_18 mo_fault_19 mo_wrongAt_20 hc_21) gX13_readFresh_X13_flaw rfl hd_X13_flaw ⟨Nat.le_of_ble_eq_true rfl, Nat.le_of_ble_eq_true rfl⟩ rfl rfl hKN (pX3 hP [0, 1, 2, 3] rfl) (dX3 hD [0, 1, 2, 3] rfl rfl) hS hA 13 0 rfl rfl rfl hl.1 rfl (Nat.le_of_ble_eq_true rfl) dX13_readFresh_29 ⟨Nat.le_of_ble_eq_true rfl, Nat.le_of_ble_eq_true rfl⟩ (fun H locs hP hD hS => ?_)
      have hP := pX4 (L1 := [(a_mo, .inr (13, [.int mo_thrown, .int mo_trouble, .int mo_where, mo_war, .ref a_re, .ref a_mo_tape, .int mo_taped, .int mo_size, .int mo_spot, .int mo_sort_18, .int mo_place, .int mo_number, .int mo_fault_19, .int mo_wrongAt_20, .int mo_laneTold, .long mo_word, mo_v, mo_x, mo_past, mo_kept, .int mo_acts, .int mo_marks, mo_put, mo_bestPut, .long mo_bestSum, mo_row, mo_best, mo_left, .int mo_bestSize, .int mo_bestLeft, mo_counts, .int mo_sets, .int mo_foeHarm, .int mo_ownHarm, .int mo_across, .int mo_sumFoe, .int mo_sumOwn, .int mo_sumWon, .int mo_sumAcross])), (a_mo_tape, .inl (cy 0, 900, .inl mo_tape)), (a_re, .inr (12, [.int re_lanes, .int re_deep, .int re_told, .int re_beasts, .int re_cities, .int re_passes, .int re_turned, .int re_names, re_who, re_strong, re_kind, re_lane, re_mood, re_price, re_loses, .ref a_re_name, re_nameSort, re_numberOf])), (a_re_name, .inl (cy 2, 11, .inr (.inl re_name)))]) hP [0, 1, 2, 3] rfl
      have hD := dX4 (L1 := [(a_mo, .inr (13, [.int mo_thrown, .int mo_trouble, .int mo_where, mo_war, .ref a_re, .ref a_mo_tape, .int mo_taped, .int mo_size, .int mo_spot, .int mo_sort_18, .int mo_place, .int mo_number, .int mo_fault_19, .int mo_wrongAt_20, .int mo_laneTold, .long mo_word, mo_v, mo_x, mo_past, mo_kept, .int mo_acts, .int mo_marks, mo_put, mo_bestPut, .long mo_bestSum, mo_row, mo_best, mo_left, .int mo_bestSize, .int mo_bestLeft, mo_counts, .int mo_sets, .int mo_foeHarm, .int mo_ownHarm, .int mo_across, .int mo_sumFoe, .int mo_sumOwn, .int mo_sumWon, .int mo_sumAcross])), (a_mo_tape, .inl (cy 0, 900, .inl mo_tape)), (a_re, .inr (12, [.int re_lanes, .int re_deep, .int re_told, .int re_beasts, .int re_cities, .int re_passes, .int re_turned, .int re_names, re_who, re_strong, re_kind, re_lane, re_mood, re_price, re_loses, .ref a_re_name, re_nameSort, re_numberOf])), (a_re_name, .inl (cy 2, 11, .inr (.inl re_name)))]) hD [0, 1, 2, 3] rfl rfl
      exact jn32 mo_sort_18 mo_fault_19 mo_wrongAt_20 h _ _ hP hD hS _ (lv_sub hl [0] rfl)
  refine lv_if_ne (tgt := 12) hx hb dX13_readFresh_4 (by decide) (fun cd => ?_) (fun cd => ?_)
  · have h := ifF cd h
    exact jn12 mo_sort mo_fault mo_wrongAt h _ _ hP hD hS _ (lv_sub hl [0] rfl)
  · have h := ifT cd h
    refine lv_aload_n hx hb dX13_readFresh_7 rfl (lv_at hl 0 rfl) ?_
    refine lv_iconst (v := 1) hx hb dX13_readFresh_8 (by decide) ?_
    obtain ⟨mo_sort_22, mo_fault_23, mo_wrongAt_24, hc_25, h⟩ := bd3_some h
    refine wVv [.int 1] [] ⟨hx, hb, hml, hown, hts⟩ (c_X13_flaw l D cy A ([(a_mo_tape, .inl (cy 0, 900, .inl mo_tape)), (a_re, .inr (12, [.int re_lanes, .int re_deep, .int re_told, .int re_beasts, .int re_cities, .int re_passes, .int re_turned, .int re_names, re_who, re_strong, re_kind, re_lane, re_mood, re_price, re_loses, .ref a_re_name, re_nameSort, re_numberOf])), (a_re_name, .inl (cy 2, 11, .inr (.inl re_name)))] ++ X) a_mo mo_thrown mo_trouble mo_where (mo_war) (.ref a_re) (.ref a_mo_tape) mo_taped mo_size mo_spot mo_sort mo_place mo_number mo_fault mo_wrongAt mo_laneTold mo_word (mo_v) (mo_x) (mo_past) (mo_kept) mo_acts mo_marks (mo_put) (mo_bestPut) mo_bestSum (mo_row) (mo_best) (mo_left) mo_bestSize mo_bestLeft (mo_counts) mo_sets mo_foeHarm mo_ownHarm mo_across mo_sumFoe mo_sumOwn mo_sumWon mo_sumAcross (1 : Int32) mo_sort_22 mo_fault_23 mo_wrongAt_24 hc_25) gX13_readFresh_X13_flaw rfl hd_X13_flaw ⟨Nat.le_of_ble_eq_true rfl, Nat.le_of_ble_eq_true rfl⟩ rfl rfl hKN (pX3 hP [0, 1, 2, 3] rfl) (dX3 hD [0, 1, 2, 3] rfl rfl) hS hA 13 0 rfl rfl rfl hl.1 rfl (Nat.le_of_ble_eq_true rfl) dX13_readFresh_9 ⟨Nat.le_of_ble_eq_true rfl, Nat.le_of_ble_eq_true rfl⟩ (fun H locs hP hD hS => ?_)
    have hP := pX4 (L1 := [(a_mo, .inr (13, [.int mo_thrown, .int mo_trouble, .int mo_where, mo_war, .ref a_re, .ref a_mo_tape, .int mo_taped, .int mo_size, .int mo_spot, .int mo_sort_22, .int mo_place, .int mo_number, .int mo_fault_23, .int mo_wrongAt_24, .int mo_laneTold, .long mo_word, mo_v, mo_x, mo_past, mo_kept, .int mo_acts, .int mo_marks, mo_put, mo_bestPut, .long mo_bestSum, mo_row, mo_best, mo_left, .int mo_bestSize, .int mo_bestLeft, mo_counts, .int mo_sets, .int mo_foeHarm, .int mo_ownHarm, .int mo_across, .int mo_sumFoe, .int mo_sumOwn, .int mo_sumWon, .int mo_sumAcross])), (a_mo_tape, .inl (cy 0, 900, .inl mo_tape)), (a_re, .inr (12, [.int re_lanes, .int re_deep, .int re_told, .int re_beasts, .int re_cities, .int re_passes, .int re_turned, .int re_names, re_who, re_strong, re_kind, re_lane, re_mood, re_price, re_loses, .ref a_re_name, re_nameSort, re_numberOf])), (a_re_name, .inl (cy 2, 11, .inr (.inl re_name)))]) hP [0, 1, 2, 3] rfl
    have hD := dX4 (L1 := [(a_mo, .inr (13, [.int mo_thrown, .int mo_trouble, .int mo_where, mo_war, .ref a_re, .ref a_mo_tape, .int mo_taped, .int mo_size, .int mo_spot, .int mo_sort_22, .int mo_place, .int mo_number, .int mo_fault_23, .int mo_wrongAt_24, .int mo_laneTold, .long mo_word, mo_v, mo_x, mo_past, mo_kept, .int mo_acts, .int mo_marks, mo_put, mo_bestPut, .long mo_bestSum, mo_row, mo_best, mo_left, .int mo_bestSize, .int mo_bestLeft, mo_counts, .int mo_sets, .int mo_foeHarm, .int mo_ownHarm, .int mo_across, .int mo_sumFoe, .int mo_sumOwn, .int mo_sumWon, .int mo_sumAcross])), (a_mo_tape, .inl (cy 0, 900, .inl mo_tape)), (a_re, .inr (12, [.int re_lanes, .int re_deep, .int re_told, .int re_beasts, .int re_cities, .int re_passes, .int re_turned, .int re_names, re_who, re_strong, re_kind, re_lane, re_mood, re_price, re_loses, .ref a_re_name, re_nameSort, re_numberOf])), (a_re_name, .inl (cy 2, 11, .inr (.inl re_name)))]) hD [0, 1, 2, 3] rfl rfl
    exact jn12 mo_sort_22 mo_fault_23 mo_wrongAt_24 h _ _ hP hD hS _ (lv_sub hl [0] rfl)
noncomputable def f_X13_names (re_names : Int32) (re_name : Nat → Int64) (re_nameSort : Nat → Int32) (re_numberOf : Nat → Int32) (p1 : Int64) (p3 : Int32) (p4 : Int32) : Option (Int32 × (Nat → Int64) × (Nat → Int32) × (Nat → Int32)) :=
  gIn re_names 11 <|
  gIn re_names 11 <|
  gIn re_names 11 <|
  some (re_names + 1, vp_updL re_name re_names.toNatClampNeg p1, upd re_nameSort re_names.toNatClampNeg p3, upd re_numberOf re_names.toNatClampNeg p4)
theorem hd_X13_names : yX13_names.cls = RX13 ∧ yX13_names.cls ≠ "java/lang/invoke/MethodHandle" ∧ yX13_names.cls ≠ "java/lang/invoke/VarHandle" ∧ (parseMethodDescriptor yX13_names.desc).map (fun d => d.parameters.length) = some 3 := by decide +kernel
set_option maxHeartbeats 4000000 in
set_option maxRecDepth 100000 in
theorem c_X13_names (l : Launch) (D : va_G) (cy : Nat → ClassId) (A : Nat → Prop) (X : va_W) (a_mo a_re a_re_name a_re_nameSort a_re_numberOf : Nat) (mo_thrown : Int32) (mo_trouble : Int32) (mo_where : Int32) (mo_war : Value) (mo_tape : Value) (mo_taped : Int32) (mo_size : Int32) (mo_spot : Int32) (mo_sort : Int32) (mo_place : Int32) (mo_number : Int32) (mo_fault : Int32) (mo_wrongAt : Int32) (mo_laneTold : Int32) (mo_word : Int64) (mo_v : Value) (mo_x : Value) (mo_past : Value) (mo_kept : Value) (mo_acts : Int32) (mo_marks : Int32) (mo_put : Value) (mo_bestPut : Value) (mo_bestSum : Int64) (mo_row : Value) (mo_best : Value) (mo_left : Value) (mo_bestSize : Int32) (mo_bestLeft : Int32) (mo_counts : Value) (mo_sets : Int32) (mo_foeHarm : Int32) (mo_ownHarm : Int32) (mo_across : Int32) (mo_sumFoe : Int32) (mo_sumOwn : Int32) (mo_sumWon : Int32) (mo_sumAcross : Int32) (re_lanes : Int32) (re_deep : Int32) (re_told : Int32) (re_beasts : Int32) (re_cities : Int32) (re_passes : Int32) (re_turned : Int32) (re_names : Int32) (re_who : Value) (re_strong : Value) (re_kind : Value) (re_lane : Value) (re_mood : Value) (re_price : Value) (re_loses : Value) (re_name : Nat → Int64) (re_nameSort : Nat → Int32) (re_numberOf : Nat → Int32) (p1 : Int64) (p3 : Int32) (p4 : Int32) (re_names' : Int32) (re_name' : Nat → Int64) (re_nameSort' : Nat → Int32) (re_numberOf' : Nat → Int32) (h : f_X13_names re_names re_name re_nameSort re_numberOf p1 p3 p4 = some (re_names', re_name', re_nameSort', re_numberOf')) : Met l yX13_names wo_X13_names ({ frames := 0, cells := 0, slots := 0, locals := 0 }) (wrPc D cy A [.ref a_mo, .long p1, .int p3, .int p4] ([(a_mo, .inr (13, [.int mo_thrown, .int mo_trouble, .int mo_where, mo_war, .ref a_re, mo_tape, .int mo_taped, .int mo_size, .int mo_spot, .int mo_sort, .int mo_place, .int mo_number, .int mo_fault, .int mo_wrongAt, .int mo_laneTold, .long mo_word, mo_v, mo_x, mo_past, mo_kept, .int mo_acts, .int mo_marks, mo_put, mo_bestPut, .long mo_bestSum, mo_row, mo_best, mo_left, .int mo_bestSize, .int mo_bestLeft, mo_counts, .int mo_sets, .int mo_foeHarm, .int mo_ownHarm, .int mo_across, .int mo_sumFoe, .int mo_sumOwn, .int mo_sumWon, .int mo_sumAcross])), (a_re, .inr (12, [.int re_lanes, .int re_deep, .int re_told, .int re_beasts, .int re_cities, .int re_passes, .int re_turned, .int re_names, re_who, re_strong, re_kind, re_lane, re_mood, re_price, re_loses, .ref a_re_name, .ref a_re_nameSort, .ref a_re_numberOf])), (a_re_name, .inl (cy 2, 11, .inr (.inl re_name))), (a_re_nameSort, .inl (cy 1, 11, .inl re_nameSort)), (a_re_numberOf, .inl (cy 1, 11, .inl re_numberOf))] ++ X)) (va_Qv (fun (_ : Unit) => True) (wB D A ([(a_mo, .inr (13, [.int mo_thrown, .int mo_trouble, .int mo_where, mo_war, .ref a_re, mo_tape, .int mo_taped, .int mo_size, .int mo_spot, .int mo_sort, .int mo_place, .int mo_number, .int mo_fault, .int mo_wrongAt, .int mo_laneTold, .long mo_word, mo_v, mo_x, mo_past, mo_kept, .int mo_acts, .int mo_marks, mo_put, mo_bestPut, .long mo_bestSum, mo_row, mo_best, mo_left, .int mo_bestSize, .int mo_bestLeft, mo_counts, .int mo_sets, .int mo_foeHarm, .int mo_ownHarm, .int mo_across, .int mo_sumFoe, .int mo_sumOwn, .int mo_sumWon, .int mo_sumAcross])), (a_re, .inr (12, [.int re_lanes, .int re_deep, .int re_told, .int re_beasts, .int re_cities, .int re_passes, .int re_turned, .int re_names', re_who, re_strong, re_kind, re_lane, re_mood, re_price, re_loses, .ref a_re_name, .ref a_re_nameSort, .ref a_re_numberOf])), (a_re_name, .inl (cy 2, 11, .inr (.inl re_name'))), (a_re_nameSort, .inl (cy 1, 11, .inl re_nameSort')), (a_re_numberOf, .inl (cy 1, 11, .inl re_numberOf'))] ++ X)) A) 0 0 A := by
  refine Met.ofW (cc := cX13_names) (maxL := 5) (ret := none) (by decide) rfl ?_
  intro p e s m args below meth c s₁ B hml hv
  obtain ⟨rfl, hP, hKN, hD, hA⟩ := hv
  have hK := hKN.1
  have hx := B.exec
  have hb := B.bytes
  have hr := B.returns
  have hts := wt_X13_names hKN.2.2 (([.ref a_mo, .long p1, .int p3, .int p4] : List Value).toArray)
  have hown : s.vm.findClass RX13 = some m.cls := findClass_of_methodNamed B.named
  have hlocks := B.notSynchronized
  have hS : va_S A s.heap s.heap [] := va_S.rf
  have hX12 := wc_X12 hKN.2.2 (([.ref a_mo, .long p1, .int p3, .int p4] : List Value).toArray)
  have hX13 := wc_X13 hKN.2.2 (([.ref a_mo, .long p1, .int p3, .int p4] : List Value).toArray)
  have hl := lv_entry ([.ref a_mo, .long p1, .int p3, .int p4]) (n := 5) (Nat.le_of_ble_eq_true rfl)
  rw [lg_entry_eq]
  generalize (lg_sl ([.ref a_mo, .long p1, .int p3, .int p4]) ++ List.replicate (5 - (lg_sl ([.ref a_mo, .long p1, .int p3, .int p4])).length) Slot.unset).toArray = ls at hl ⊢
  have hl : lv_has ls 5 [(0, .ref a_mo), (1, .long p1), (3, .int p3), (4, .int p4)] := hl
  unfold f_X13_names at h
  refine lv_aload_n hx hb dX13_names_0 rfl (lv_at hl 0 rfl) ?_
  refine va_get (D := D) (ci := 13) (C := RX13) (T := TX13) (N := 39) (v := .ref a_re) hx hb hX13 (fun _ q => q) hown hK hP 0 rfl rfl 4 (by decide) (hts (.fieldLink RX13 156 "ElephantLineModel" "read" "LElephantLineModel$War;") (by decide +kernel)) (fun _ h9 => h9) rfl dX13_names_1 ?_
  refine va_getN (D := D) (ci := 12) (C := RX12) (T := TX12) (N := 18) (v := .ref a_re_name) hx hb hX12 (fun _ q => q) hown hK hP 1 rfl rfl 15 (by decide) (va_Nw.use rfl (hKN.2.1.1 ("ElephantLineModel", 173, "ElephantLineModel$War", "name", "[J", "ElephantLineModel") (List.mem_of_getElem? (i := 82) rfl))) (fun _ h9 => h9) rfl dX13_names_4 ?_
  refine lv_aload_n hx hb dX13_names_7 rfl (lv_at hl 0 rfl) ?_
  refine va_get (D := D) (ci := 13) (C := RX13) (T := TX13) (N := 39) (v := .ref a_re) hx hb hX13 (fun _ q => q) hown hK hP 0 rfl rfl 4 (by decide) (hts (.fieldLink RX13 156 "ElephantLineModel" "read" "LElephantLineModel$War;") (by decide +kernel)) (fun _ h9 => h9) rfl dX13_names_8 ?_
  refine va_getN (D := D) (ci := 12) (C := RX12) (T := TX12) (N := 18) (v := .int re_names) hx hb hX12 (fun _ q => q) hown hK hP 1 rfl rfl 7 (by decide) (va_Nw.use rfl (hKN.2.1.1 ("ElephantLineModel", 177, "ElephantLineModel$War", "names", "I", "ElephantLineModel") (List.mem_of_getElem? (i := 74) rfl))) (fun _ h9 => h9) rfl dX13_names_11 ?_
  refine lv_lload_n hx hb dX13_names_14 rfl (lv_at hl 1 rfl) ?_
  obtain ⟨i_1, h⟩ := gIn_some h
  refine va_last hx hb hK hP hD hS 2 2 rfl rfl i_1 dX13_names_15 (fun H locs hP hD hS => ?_)
  refine lv_aload_n hx hb dX13_names_16 rfl (lv_at hl 0 rfl) ?_
  refine va_get (D := D) (ci := 13) (C := RX13) (T := TX13) (N := 39) (v := .ref a_re) hx hb hX13 (fun _ q => q) hown hK hP 0 rfl rfl 4 (by decide) (hts (.fieldLink RX13 156 "ElephantLineModel" "read" "LElephantLineModel$War;") (by decide +kernel)) (fun _ h9 => h9) rfl dX13_names_17 ?_
  refine va_getN (D := D) (ci := 12) (C := RX12) (T := TX12) (N := 18) (v := .ref a_re_nameSort) hx hb hX12 (fun _ q => q) hown hK hP 1 rfl rfl 16 (by decide) (va_Nw.use rfl (hKN.2.1.1 ("ElephantLineModel", 180, "ElephantLineModel$War", "nameSort", "[I", "ElephantLineModel") (List.mem_of_getElem? (i := 83) rfl))) (fun _ h9 => h9) rfl dX13_names_20 ?_
  refine lv_aload_n hx hb dX13_names_23 rfl (lv_at hl 0 rfl) ?_
  refine va_get (D := D) (ci := 13) (C := RX13) (T := TX13) (N := 39) (v := .ref a_re) hx hb hX13 (fun _ q => q) hown hK hP 0 rfl rfl 4 (by decide) (hts (.fieldLink RX13 156 "ElephantLineModel" "read" "LElephantLineModel$War;") (by decide +kernel)) (fun _ h9 => h9) rfl dX13_names_24 ?_
  refine va_getN (D := D) (ci := 12) (C := RX12) (T := TX12) (N := 18) (v := .int re_names) hx hb hX12 (fun _ q => q) hown hK hP 1 rfl rfl 7 (by decide) (va_Nw.use rfl (hKN.2.1.1 ("ElephantLineModel", 177, "ElephantLineModel$War", "names", "I", "ElephantLineModel") (List.mem_of_getElem? (i := 74) rfl))) (fun _ h9 => h9) rfl dX13_names_27 ?_
  refine lv_iload_n hx hb dX13_names_30 rfl (lv_at hl 2 rfl) ?_
  obtain ⟨i_2, h⟩ := gIn_some h
  refine va_iast hx hb hK hP hD hS 3 1 rfl rfl i_2 dX13_names_31 (fun H locs hP hD hS => ?_)
  refine lv_aload_n hx hb dX13_names_32 rfl (lv_at hl 0 rfl) ?_
  refine va_get (D := D) (ci := 13) (C := RX13) (T := TX13) (N := 39) (v := .ref a_re) hx hb hX13 (fun _ q => q) hown hK hP 0 rfl rfl 4 (by decide) (hts (.fieldLink RX13 156 "ElephantLineModel" "read" "LElephantLineModel$War;") (by decide +kernel)) (fun _ h9 => h9) rfl dX13_names_33 ?_
  refine va_getN (D := D) (ci := 12) (C := RX12) (T := TX12) (N := 18) (v := .ref a_re_numberOf) hx hb hX12 (fun _ q => q) hown hK hP 1 rfl rfl 17 (by decide) (va_Nw.use rfl (hKN.2.1.1 ("ElephantLineModel", 183, "ElephantLineModel$War", "numberOf", "[I", "ElephantLineModel") (List.mem_of_getElem? (i := 84) rfl))) (fun _ h9 => h9) rfl dX13_names_36 ?_
  refine lv_aload_n hx hb dX13_names_39 rfl (lv_at hl 0 rfl) ?_
  refine va_get (D := D) (ci := 13) (C := RX13) (T := TX13) (N := 39) (v := .ref a_re) hx hb hX13 (fun _ q => q) hown hK hP 0 rfl rfl 4 (by decide) (hts (.fieldLink RX13 156 "ElephantLineModel" "read" "LElephantLineModel$War;") (by decide +kernel)) (fun _ h9 => h9) rfl dX13_names_40 ?_
  refine va_getN (D := D) (ci := 12) (C := RX12) (T := TX12) (N := 18) (v := .int re_names) hx hb hX12 (fun _ q => q) hown hK hP 1 rfl rfl 7 (by decide) (va_Nw.use rfl (hKN.2.1.1 ("ElephantLineModel", 177, "ElephantLineModel$War", "names", "I", "ElephantLineModel") (List.mem_of_getElem? (i := 74) rfl))) (fun _ h9 => h9) rfl dX13_names_43 ?_
  refine lv_iload hx hb dX13_names_46 (lv_at hl 3 rfl) ?_
  obtain ⟨i_3, h⟩ := gIn_some h
  refine va_iast hx hb hK hP hD hS 4 1 rfl rfl i_3 dX13_names_48 (fun H locs hP hD hS => ?_)
  refine lv_aload_n hx hb dX13_names_49 rfl (lv_at hl 0 rfl) ?_
  refine va_get (D := D) (ci := 13) (C := RX13) (T := TX13) (N := 39) (v := .ref a_re) hx hb hX13 (fun _ q => q) hown hK hP 0 rfl rfl 4 (by decide) (hts (.fieldLink RX13 156 "ElephantLineModel" "read" "LElephantLineModel$War;") (by decide +kernel)) (fun _ h9 => h9) rfl dX13_names_50 ?_
  refine lv_dup hx hb dX13_names_53 rfl ?_
  refine va_getN (D := D) (ci := 12) (C := RX12) (T := TX12) (N := 18) (v := .int re_names) hx hb hX12 (fun _ q => q) hown hK hP 1 rfl rfl 7 (by decide) (va_Nw.use rfl (hKN.2.1.1 ("ElephantLineModel", 177, "ElephantLineModel$War", "names", "I", "ElephantLineModel") (List.mem_of_getElem? (i := 74) rfl))) (fun _ h9 => h9) rfl dX13_names_54 ?_
  refine lv_iconst (v := 1) hx hb dX13_names_57 (by decide) ?_
  refine lv_iadd hx hb dX13_names_58 ?_
  refine va_putN (D := D) (ci := 12) (C := RX12) (T := TX12) (N := 18) (v := .int (re_names + 1)) (ty := .int) hx hb hX12 (fun _ q => q) tyX12 tyX12_ok nmX12 hown hK hP hD hS 1 rfl rfl 7 (by decide) (va_Nw.use rfl (hKN.2.1.1 ("ElephantLineModel", 177, "ElephantLineModel$War", "names", "I", "ElephantLineModel") (List.mem_of_getElem? (i := 74) rfl))) (fun _ h9 => h9) rfl (tyX12_ok 7 (by decide)) rfl rfl (Nat.le_of_ble_eq_true rfl) dX13_names_59 (fun H locs hP hD hS => ?_)
  cases h
  exact W.vret hx hb hr (fun t ht _ => ⟨⟨(), rfl, trivial, by rw [ht]; exact hP, hD⟩, hS.F ht⟩) hS.2.2 dX13_names_62
noncomputable def f_X13_knownOne_B47 (mo_place : Int32) (mo_word : Int64) (re_names : Int32) (re_name : Nat → Int64) (re_nameSort : Nat → Int32) (re_numberOf : Nat → Int32) (x2 : Int32) (mo_sort : Int32) (mo_fault : Int32) (mo_wrongAt : Int32) : Option (Int32 × Int32 × Int32 × Int32) :=
  (if mo_sort = 5 then
  some (0, mo_sort, mo_fault, mo_wrongAt)
  else
  gIn x2 11 <|
  some (re_numberOf x2.toNatClampNeg, mo_sort, mo_fault, mo_wrongAt))
noncomputable def f_X13_knownOne_B42 (mo_place : Int32) (mo_word : Int64) (re_names : Int32) (re_name : Nat → Int64) (re_nameSort : Nat → Int32) (re_numberOf : Nat → Int32) (x2 : Int32) (mo_sort : Int32) (mo_fault : Int32) (mo_wrongAt : Int32) : Option (Int32 × Int32 × Int32 × Int32) :=
  bd3 (f_X13_flaw mo_sort mo_place mo_fault mo_wrongAt (2 : Int32)) fun mo_sort_6 mo_fault_7 mo_wrongAt_8 =>
  f_X13_knownOne_B47 mo_place mo_word re_names re_name re_nameSort re_numberOf x2 mo_sort_6 mo_fault_7 mo_wrongAt_8
noncomputable def f_X13_knownOne_B12 (mo_place : Int32) (mo_word : Int64) (re_names : Int32) (re_name : Nat → Int64) (re_nameSort : Nat → Int32) (re_numberOf : Nat → Int32) (x1 : Int32) (mo_sort : Int32) (mo_fault : Int32) (mo_wrongAt : Int32) : Option (Int32 × Int32 × Int32 × Int32) :=
  bd1 (f_X12_find re_names re_name mo_word) fun r_4 =>
  (if r_4 = (-1) then
  f_X13_knownOne_B42 mo_place mo_word re_names re_name re_nameSort re_numberOf r_4 mo_sort mo_fault mo_wrongAt
  else
  gIn r_4 11 <|
  (if (re_nameSort r_4.toNatClampNeg) = x1 then
  f_X13_knownOne_B47 mo_place mo_word re_names re_name re_nameSort re_numberOf r_4 mo_sort mo_fault mo_wrongAt
  else
  f_X13_knownOne_B42 mo_place mo_word re_names re_name re_nameSort re_numberOf r_4 mo_sort mo_fault mo_wrongAt))
noncomputable def f_X13_knownOne (mo_sort : Int32) (mo_place : Int32) (mo_fault : Int32) (mo_wrongAt : Int32) (mo_word : Int64) (re_names : Int32) (re_name : Nat → Int64) (re_nameSort : Nat → Int32) (re_numberOf : Nat → Int32) (p1 : Int32) : Option (Int32 × Int32 × Int32 × Int32) :=
  bd1 (f_X13_isName mo_sort mo_word) fun r_1 =>
  (if r_1 = 0 then
  bd3 (f_X13_flaw mo_sort mo_place mo_fault mo_wrongAt (1 : Int32)) fun mo_sort_12 mo_fault_13 mo_wrongAt_14 =>
  f_X13_knownOne_B12 mo_place mo_word re_names re_name re_nameSort re_numberOf p1 mo_sort_12 mo_fault_13 mo_wrongAt_14
  else
  f_X13_knownOne_B12 mo_place mo_word re_names re_name re_nameSort re_numberOf p1 mo_sort mo_fault mo_wrongAt)
theorem hd_X13_knownOne : yX13_knownOne.cls = RX13 ∧ yX13_knownOne.cls ≠ "java/lang/invoke/MethodHandle" ∧ yX13_knownOne.cls ≠ "java/lang/invoke/VarHandle" ∧ (parseMethodDescriptor yX13_knownOne.desc).map (fun d => d.parameters.length) = some 1 := by decide +kernel
set_option maxHeartbeats 4000000 in
set_option maxRecDepth 100000 in
theorem c_X13_knownOne (l : Launch) (D : va_G) (cy : Nat → ClassId) (sa sv : Nat → Nat) (A : Nat → Prop) (X : va_W) (a_mo a_re a_re_name a_re_nameSort a_re_numberOf : Nat) (mo_thrown : Int32) (mo_trouble : Int32) (mo_where : Int32) (mo_war : Value) (mo_tape : Value) (mo_taped : Int32) (mo_size : Int32) (mo_spot : Int32) (mo_sort : Int32) (mo_place : Int32) (mo_number : Int32) (mo_fault : Int32) (mo_wrongAt : Int32) (mo_laneTold : Int32) (mo_word : Int64) (mo_v : Value) (mo_x : Value) (mo_past : Value) (mo_kept : Value) (mo_acts : Int32) (mo_marks : Int32) (mo_put : Value) (mo_bestPut : Value) (mo_bestSum : Int64) (mo_row : Value) (mo_best : Value) (mo_left : Value) (mo_bestSize : Int32) (mo_bestLeft : Int32) (mo_counts : Value) (mo_sets : Int32) (mo_foeHarm : Int32) (mo_ownHarm : Int32) (mo_across : Int32) (mo_sumFoe : Int32) (mo_sumOwn : Int32) (mo_sumWon : Int32) (mo_sumAcross : Int32) (re_lanes : Int32) (re_deep : Int32) (re_told : Int32) (re_beasts : Int32) (re_cities : Int32) (re_passes : Int32) (re_turned : Int32) (re_names : Int32) (re_who : Value) (re_strong : Value) (re_kind : Value) (re_lane : Value) (re_mood : Value) (re_price : Value) (re_loses : Value) (re_name : Nat → Int64) (re_nameSort : Nat → Int32) (re_numberOf : Nat → Int32) (p1 : Int32) (res : Int32) (mo_sort' : Int32) (mo_fault' : Int32) (mo_wrongAt' : Int32) (h : f_X13_knownOne mo_sort mo_place mo_fault mo_wrongAt mo_word re_names re_name re_nameSort re_numberOf p1 = some (res, mo_sort', mo_fault', mo_wrongAt')) : Met l yX13_knownOne wo_X13_knownOne ({ frames := 7, cells := 0, slots := 0, locals := 155 }) (wrPcS D cy sa sv A [.ref a_mo, .int p1] ([(a_mo, .inr (13, [.int mo_thrown, .int mo_trouble, .int mo_where, mo_war, .ref a_re, mo_tape, .int mo_taped, .int mo_size, .int mo_spot, .int mo_sort, .int mo_place, .int mo_number, .int mo_fault, .int mo_wrongAt, .int mo_laneTold, .long mo_word, mo_v, mo_x, mo_past, mo_kept, .int mo_acts, .int mo_marks, mo_put, mo_bestPut, .long mo_bestSum, mo_row, mo_best, mo_left, .int mo_bestSize, .int mo_bestLeft, mo_counts, .int mo_sets, .int mo_foeHarm, .int mo_ownHarm, .int mo_across, .int mo_sumFoe, .int mo_sumOwn, .int mo_sumWon, .int mo_sumAcross])), (a_re, .inr (12, [.int re_lanes, .int re_deep, .int re_told, .int re_beasts, .int re_cities, .int re_passes, .int re_turned, .int re_names, re_who, re_strong, re_kind, re_lane, re_mood, re_price, re_loses, .ref a_re_name, .ref a_re_nameSort, .ref a_re_numberOf])), (a_re_name, .inl (cy 2, 11, .inr (.inl re_name))), (a_re_nameSort, .inl (cy 1, 11, .inl re_nameSort)), (a_re_numberOf, .inl (cy 1, 11, .inl re_numberOf))] ++ X)) (va_Qi (fun (r : Int32) (_ : Unit) => r = res) (wB D A ([(a_mo, .inr (13, [.int mo_thrown, .int mo_trouble, .int mo_where, mo_war, .ref a_re, mo_tape, .int mo_taped, .int mo_size, .int mo_spot, .int mo_sort', .int mo_place, .int mo_number, .int mo_fault', .int mo_wrongAt', .int mo_laneTold, .long mo_word, mo_v, mo_x, mo_past, mo_kept, .int mo_acts, .int mo_marks, mo_put, mo_bestPut, .long mo_bestSum, mo_row, mo_best, mo_left, .int mo_bestSize, .int mo_bestLeft, mo_counts, .int mo_sets, .int mo_foeHarm, .int mo_ownHarm, .int mo_across, .int mo_sumFoe, .int mo_sumOwn, .int mo_sumWon, .int mo_sumAcross])), (a_re, .inr (12, [.int re_lanes, .int re_deep, .int re_told, .int re_beasts, .int re_cities, .int re_passes, .int re_turned, .int re_names, re_who, re_strong, re_kind, re_lane, re_mood, re_price, re_loses, .ref a_re_name, .ref a_re_nameSort, .ref a_re_numberOf])), (a_re_name, .inl (cy 2, 11, .inr (.inl re_name))), (a_re_nameSort, .inl (cy 1, 11, .inl re_nameSort)), (a_re_numberOf, .inl (cy 1, 11, .inl re_numberOf))] ++ X)) A) 0 0 A := by
  refine Met.ofW (cc := cX13_knownOne) (maxL := 3) (ret := (some .int)) (by decide) rfl ?_
  intro p e s m args below meth c s₁ B hml hv
  obtain ⟨rfl, hP, hKN, hD, hA, hSS⟩ := hv
  have hK := hKN.1
  have hx := B.exec
  have hb := B.bytes
  have hr := B.returns
  have hts := wt_X13_knownOne hKN.2.2 (([.ref a_mo, .int p1] : List Value).toArray)
  have hown : s.vm.findClass RX13 = some m.cls := findClass_of_methodNamed B.named
  have hlocks := B.notSynchronized
  have hS : va_S A s.heap s.heap [] := va_S.rf
  have hX12 := wc_X12 hKN.2.2 (([.ref a_mo, .int p1] : List Value).toArray)
  have hX13 := wc_X13 hKN.2.2 (([.ref a_mo, .int p1] : List Value).toArray)
  have hl := lv_entry ([.ref a_mo, .int p1]) (n := 3) (Nat.le_of_ble_eq_true rfl)
  rw [lg_entry_eq]
  generalize (lg_sl ([.ref a_mo, .int p1]) ++ List.replicate (3 - (lg_sl ([.ref a_mo, .int p1])).length) Slot.unset).toArray = ls at hl ⊢
  have hl : lv_has ls 3 [(0, .ref a_mo), (1, .int p1)] := hl
  unfold f_X13_knownOne at h
  refine lv_aload_n hx hb dX13_knownOne_0 rfl (lv_at hl 0 rfl) ?_
  obtain ⟨r_1, hc_2, h⟩ := bd1_some h
  refine kVbS [] [] ⟨hx, hb, hml, hown, hts⟩ (c_X13_isName l D cy sa sv a_mo mo_thrown mo_trouble mo_where (mo_war) (.ref a_re) (mo_tape) mo_taped mo_size mo_spot mo_sort mo_place mo_number mo_fault mo_wrongAt mo_laneTold mo_word (mo_v) (mo_x) (mo_past) (mo_kept) mo_acts mo_marks (mo_put) (mo_bestPut) mo_bestSum (mo_row) (mo_best) (mo_left) mo_bestSize mo_bestLeft (mo_counts) mo_sets mo_foeHarm mo_ownHarm mo_across mo_sumFoe mo_sumOwn mo_sumWon mo_sumAcross r_1 hc_2) gX13_knownOne_X13_isName rfl hd_X13_isName ⟨Nat.le_of_ble_eq_true rfl, Nat.le_of_ble_eq_true rfl⟩ rfl rfl hKN (pXc hP [0] rfl) (hSS.kept hS).narrow 13 0 rfl rfl rfl hl.1 rfl (Nat.le_of_ble_eq_true rfl) dX13_knownOne_1 ⟨Nat.le_of_ble_eq_true rfl, Nat.le_of_ble_eq_true rfl⟩ (fun nb_3 => ?_)
  have jn12 : ∀ (mo_sort_4 : Int32) (mo_fault_5 : Int32) (mo_wrongAt_6 : Int32), f_X13_knownOne_B12 mo_place mo_word re_names re_name re_nameSort re_numberOf p1 mo_sort_4 mo_fault_5 mo_wrongAt_6 = some (res, mo_sort', mo_fault', mo_wrongAt') → ∀ (H : Heap) (locs : List Loc), va_P D vwCl ([(a_mo, .inr (13, [.int mo_thrown, .int mo_trouble, .int mo_where, mo_war, .ref a_re, mo_tape, .int mo_taped, .int mo_size, .int mo_spot, .int mo_sort_4, .int mo_place, .int mo_number, .int mo_fault_5, .int mo_wrongAt_6, .int mo_laneTold, .long mo_word, mo_v, mo_x, mo_past, mo_kept, .int mo_acts, .int mo_marks, mo_put, mo_bestPut, .long mo_bestSum, mo_row, mo_best, mo_left, .int mo_bestSize, .int mo_bestLeft, mo_counts, .int mo_sets, .int mo_foeHarm, .int mo_ownHarm, .int mo_across, .int mo_sumFoe, .int mo_sumOwn, .int mo_sumWon, .int mo_sumAcross])), (a_re, .inr (12, [.int re_lanes, .int re_deep, .int re_told, .int re_beasts, .int re_cities, .int re_passes, .int re_turned, .int re_names, re_who, re_strong, re_kind, re_lane, re_mood, re_price, re_loses, .ref a_re_name, .ref a_re_nameSort, .ref a_re_numberOf])), (a_re_name, .inl (cy 2, 11, .inr (.inl re_name))), (a_re_nameSort, .inl (cy 1, 11, .inl re_nameSort)), (a_re_numberOf, .inl (cy 1, 11, .inl re_numberOf))] ++ X) H → va_D A ([(a_mo, .inr (13, [.int mo_thrown, .int mo_trouble, .int mo_where, mo_war, .ref a_re, mo_tape, .int mo_taped, .int mo_size, .int mo_spot, .int mo_sort_4, .int mo_place, .int mo_number, .int mo_fault_5, .int mo_wrongAt_6, .int mo_laneTold, .long mo_word, mo_v, mo_x, mo_past, mo_kept, .int mo_acts, .int mo_marks, mo_put, mo_bestPut, .long mo_bestSum, mo_row, mo_best, mo_left, .int mo_bestSize, .int mo_bestLeft, mo_counts, .int mo_sets, .int mo_foeHarm, .int mo_ownHarm, .int mo_across, .int mo_sumFoe, .int mo_sumOwn, .int mo_sumWon, .int mo_sumAcross])), (a_re, .inr (12, [.int re_lanes, .int re_deep, .int re_told, .int re_beasts, .int re_cities, .int re_passes, .int re_turned, .int re_names, re_who, re_strong, re_kind, re_lane, re_mood, re_price, re_loses, .ref a_re_name, .ref a_re_nameSort, .ref a_re_numberOf])), (a_re_name, .inl (cy 2, 11, .inr (.inl re_name))), (a_re_nameSort, .inl (cy 1, 11, .inl re_nameSort)), (a_re_numberOf, .inl (cy 1, 11, .inl re_numberOf))] ++ X) → va_S A s.heap H locs → ∀ ls : Array Slot, lv_has ls 3 [(0, .ref a_mo), (1, .int p1)] → W p l e (headSpec wo_X13_knownOne ({ frames := 7, cells := 0, slots := 0, locals := 155 })).room s m (([.ref a_mo, .int p1] : List Value).toArray) below meth c H locs 0 0 (MQ below (va_Qi (fun (r : Int32) (_ : Unit) => r = res) (wB D A ([(a_mo, .inr (13, [.int mo_thrown, .int mo_trouble, .int mo_where, mo_war, .ref a_re, mo_tape, .int mo_taped, .int mo_size, .int mo_spot, .int mo_sort', .int mo_place, .int mo_number, .int mo_fault', .int mo_wrongAt', .int mo_laneTold, .long mo_word, mo_v, mo_x, mo_past, mo_kept, .int mo_acts, .int mo_marks, mo_put, mo_bestPut, .long mo_bestSum, mo_row, mo_best, mo_left, .int mo_bestSize, .int mo_bestLeft, mo_counts, .int mo_sets, .int mo_foeHarm, .int mo_ownHarm, .int mo_across, .int mo_sumFoe, .int mo_sumOwn, .int mo_sumWon, .int mo_sumAcross])), (a_re, .inr (12, [.int re_lanes, .int re_deep, .int re_told, .int re_beasts, .int re_cities, .int re_passes, .int re_turned, .int re_names, re_who, re_strong, re_kind, re_lane, re_mood, re_price, re_loses, .ref a_re_name, .ref a_re_nameSort, .ref a_re_numberOf])), (a_re_name, .inl (cy 2, 11, .inr (.inl re_name))), (a_re_nameSort, .inl (cy 1, 11, .inl re_nameSort)), (a_re_numberOf, .inl (cy 1, 11, .inl re_numberOf))] ++ X)) A) (([.ref a_mo, .int p1] : List Value).toArray) s 0 0 A) (F0 m 12 ls []) := by
    intro mo_sort_4 mo_fault_5 mo_wrongAt_6 h H locs hP hD hS ls hl
    unfold f_X13_knownOne_B12 at h
    refine lv_aload_n hx hb dX13_knownOne_12 rfl (lv_at hl 0 rfl) ?_
    refine va_get (D := D) (ci := 13) (C := RX13) (T := TX13) (N := 39) (v := .ref a_re) hx hb hX13 (fun _ q => q) hown hK hP 0 rfl rfl 4 (by decide) (hts (.fieldLink RX13 156 "ElephantLineModel" "read" "LElephantLineModel$War;") (by decide +kernel)) (fun _ h9 => h9) rfl dX13_knownOne_13 ?_
    refine lv_aload_n hx hb dX13_knownOne_16 rfl (lv_at hl 0 rfl) ?_
    refine va_get (D := D) (ci := 13) (C := RX13) (T := TX13) (N := 39) (v := .long mo_word) hx hb hX13 (fun _ q => q) hown hK hP 0 rfl rfl 15 (by decide) (hts (.fieldLink RX13 98 "ElephantLineModel" "word" "J") (by decide +kernel)) (fun _ h9 => h9) rfl dX13_knownOne_17 ?_
    obtain ⟨r_7, hc_8, h⟩ := bd1_some h
    refine kVi [.long mo_word] [] ⟨hx, hb, hml, hown, hts⟩ (c_X12_find l D cy a_re a_re_name re_lanes re_deep re_told re_beasts re_cities re_passes re_turned re_names (re_who) (re_strong) (re_kind) (re_lane) (re_mood) (re_price) (re_loses) (.ref a_re_nameSort) (.ref a_re_numberOf) re_name mo_word r_7 hc_8) gX13_knownOne_X12_find rfl hd_X12_find ⟨Nat.le_of_ble_eq_true rfl, Nat.le_of_ble_eq_true rfl⟩ rfl rfl hKN (pXc hP [1, 2] rfl) 12 0 rfl rfl rfl hl.1 rfl (Nat.le_of_ble_eq_true rfl) dX13_knownOne_20 ⟨Nat.le_of_ble_eq_true rfl, Nat.le_of_ble_eq_true rfl⟩ ?_
    refine lv_istore_n (lv' := [(2, .int r_7), (0, .ref a_mo), (1, .int p1)]) hx hb dX13_knownOne_23 rfl hl (by decide) rfl (fun ls hl => ?_)
    refine lv_iload_n hx hb dX13_knownOne_24 rfl (lv_at hl 0 rfl) ?_
    refine lv_iconst (v := (-1)) hx hb dX13_knownOne_25 (by decide) ?_
    have jn47 : ∀ (mo_sort_9 : Int32) (mo_fault_10 : Int32) (mo_wrongAt_11 : Int32), f_X13_knownOne_B47 mo_place mo_word re_names re_name re_nameSort re_numberOf r_7 mo_sort_9 mo_fault_10 mo_wrongAt_11 = some (res, mo_sort', mo_fault', mo_wrongAt') → ∀ (H : Heap) (locs : List Loc), va_P D vwCl ([(a_mo, .inr (13, [.int mo_thrown, .int mo_trouble, .int mo_where, mo_war, .ref a_re, mo_tape, .int mo_taped, .int mo_size, .int mo_spot, .int mo_sort_9, .int mo_place, .int mo_number, .int mo_fault_10, .int mo_wrongAt_11, .int mo_laneTold, .long mo_word, mo_v, mo_x, mo_past, mo_kept, .int mo_acts, .int mo_marks, mo_put, mo_bestPut, .long mo_bestSum, mo_row, mo_best, mo_left, .int mo_bestSize, .int mo_bestLeft, mo_counts, .int mo_sets, .int mo_foeHarm, .int mo_ownHarm, .int mo_across, .int mo_sumFoe, .int mo_sumOwn, .int mo_sumWon, .int mo_sumAcross])), (a_re, .inr (12, [.int re_lanes, .int re_deep, .int re_told, .int re_beasts, .int re_cities, .int re_passes, .int re_turned, .int re_names, re_who, re_strong, re_kind, re_lane, re_mood, re_price, re_loses, .ref a_re_name, .ref a_re_nameSort, .ref a_re_numberOf])), (a_re_name, .inl (cy 2, 11, .inr (.inl re_name))), (a_re_nameSort, .inl (cy 1, 11, .inl re_nameSort)), (a_re_numberOf, .inl (cy 1, 11, .inl re_numberOf))] ++ X) H → va_D A ([(a_mo, .inr (13, [.int mo_thrown, .int mo_trouble, .int mo_where, mo_war, .ref a_re, mo_tape, .int mo_taped, .int mo_size, .int mo_spot, .int mo_sort_9, .int mo_place, .int mo_number, .int mo_fault_10, .int mo_wrongAt_11, .int mo_laneTold, .long mo_word, mo_v, mo_x, mo_past, mo_kept, .int mo_acts, .int mo_marks, mo_put, mo_bestPut, .long mo_bestSum, mo_row, mo_best, mo_left, .int mo_bestSize, .int mo_bestLeft, mo_counts, .int mo_sets, .int mo_foeHarm, .int mo_ownHarm, .int mo_across, .int mo_sumFoe, .int mo_sumOwn, .int mo_sumWon, .int mo_sumAcross])), (a_re, .inr (12, [.int re_lanes, .int re_deep, .int re_told, .int re_beasts, .int re_cities, .int re_passes, .int re_turned, .int re_names, re_who, re_strong, re_kind, re_lane, re_mood, re_price, re_loses, .ref a_re_name, .ref a_re_nameSort, .ref a_re_numberOf])), (a_re_name, .inl (cy 2, 11, .inr (.inl re_name))), (a_re_nameSort, .inl (cy 1, 11, .inl re_nameSort)), (a_re_numberOf, .inl (cy 1, 11, .inl re_numberOf))] ++ X) → va_S A s.heap H locs → ∀ ls : Array Slot, lv_has ls 3 [(0, .ref a_mo), (2, .int r_7)] → W p l e (headSpec wo_X13_knownOne ({ frames := 7, cells := 0, slots := 0, locals := 155 })).room s m (([.ref a_mo, .int p1] : List Value).toArray) below meth c H locs 0 0 (MQ below (va_Qi (fun (r : Int32) (_ : Unit) => r = res) (wB D A ([(a_mo, .inr (13, [.int mo_thrown, .int mo_trouble, .int mo_where, mo_war, .ref a_re, mo_tape, .int mo_taped, .int mo_size, .int mo_spot, .int mo_sort', .int mo_place, .int mo_number, .int mo_fault', .int mo_wrongAt', .int mo_laneTold, .long mo_word, mo_v, mo_x, mo_past, mo_kept, .int mo_acts, .int mo_marks, mo_put, mo_bestPut, .long mo_bestSum, mo_row, mo_best, mo_left, .int mo_bestSize, .int mo_bestLeft, mo_counts, .int mo_sets, .int mo_foeHarm, .int mo_ownHarm, .int mo_across, .int mo_sumFoe, .int mo_sumOwn, .int mo_sumWon, .int mo_sumAcross])), (a_re, .inr (12, [.int re_lanes, .int re_deep, .int re_told, .int re_beasts, .int re_cities, .int re_passes, .int re_turned, .int re_names, re_who, re_strong, re_kind, re_lane, re_mood, re_price, re_loses, .ref a_re_name, .ref a_re_nameSort, .ref a_re_numberOf])), (a_re_name, .inl (cy 2, 11, .inr (.inl re_name))), (a_re_nameSort, .inl (cy 1, 11, .inl re_nameSort)), (a_re_numberOf, .inl (cy 1, 11, .inl re_numberOf))] ++ X)) A) (([.ref a_mo, .int p1] : List Value).toArray) s 0 0 A) (F0 m 47 ls []) := by
      intro mo_sort_9 mo_fault_10 mo_wrongAt_11 h H locs hP hD hS ls hl
      unfold f_X13_knownOne_B47 at h
      refine lv_aload_n hx hb dX13_knownOne_47 rfl (lv_at hl 0 rfl) ?_
      refine va_get (D := D) (ci := 13) (C := RX13) (T := TX13) (N := 39) (v := .int mo_sort_9) hx hb hX13 (fun _ q => q) hown hK hP 0 rfl rfl 9 (by decide) (hts (.fieldLink RX13 82 "ElephantLineModel" "sort" "I") (by decide +kernel)) (fun _ h9 => h9) rfl dX13_knownOne_48 ?_
      refine lv_iconst (v := 5) hx hb dX13_knownOne_51 (by decide) ?_
      refine lv_icmp_ne (tgt := 59) hx hb dX13_knownOne_52 (by decide) (fun cd => ?_) (fun cd => ?_)
      · have h := ifF cd h
        refine lv_aload_n hx hb dX13_knownOne_59 rfl (lv_at hl 0 rfl) ?_
        refine va_get (D := D) (ci := 13) (C := RX13) (T := TX13) (N := 39) (v := .ref a_re) hx hb hX13 (fun _ q => q) hown hK hP 0 rfl rfl 4 (by decide) (hts (.fieldLink RX13 156 "ElephantLineModel" "read" "LElephantLineModel$War;") (by decide +kernel)) (fun _ h9 => h9) rfl dX13_knownOne_60 ?_
        refine va_getN (D := D) (ci := 12) (C := RX12) (T := TX12) (N := 18) (v := .ref a_re_numberOf) hx hb hX12 (fun _ q => q) hown hK hP 1 rfl rfl 17 (by decide) (va_Nw.use rfl (hKN.2.1.1 ("ElephantLineModel", 183, "ElephantLineModel$War", "numberOf", "[I", "ElephantLineModel") (List.mem_of_getElem? (i := 84) rfl))) (fun _ h9 => h9) rfl dX13_knownOne_63 ?_
        refine lv_iload_n hx hb dX13_knownOne_66 rfl (lv_at hl 1 rfl) ?_
        obtain ⟨i_12, h⟩ := gIn_some h
        refine va_iald hx hb hK hP 4 1 rfl rfl i_12 dX13_knownOne_67 ?_
        cases h
        exact W.iret hx hb hr (fun t ht _ => ⟨⟨_, (), rfl, rfl, by rw [ht]; exact hP, hD⟩, hS.F ht⟩) hS.2.2 dX13_knownOne_68
      · have h := ifT cd h
        refine lv_iconst (v := 0) hx hb dX13_knownOne_55 (by decide) ?_
        refine lv_goto (tgt := 68) hx hb dX13_knownOne_56 (by decide) ?_
        cases h
        exact W.iret hx hb hr (fun t ht _ => ⟨⟨_, (), rfl, rfl, by rw [ht]; exact hP, hD⟩, hS.F ht⟩) hS.2.2 dX13_knownOne_68
    have jn42 : f_X13_knownOne_B42 mo_place mo_word re_names re_name re_nameSort re_numberOf r_7 mo_sort_4 mo_fault_5 mo_wrongAt_6 = some (res, mo_sort', mo_fault', mo_wrongAt') → ∀ (H : Heap) (locs : List Loc), va_P D vwCl ([(a_mo, .inr (13, [.int mo_thrown, .int mo_trouble, .int mo_where, mo_war, .ref a_re, mo_tape, .int mo_taped, .int mo_size, .int mo_spot, .int mo_sort_4, .int mo_place, .int mo_number, .int mo_fault_5, .int mo_wrongAt_6, .int mo_laneTold, .long mo_word, mo_v, mo_x, mo_past, mo_kept, .int mo_acts, .int mo_marks, mo_put, mo_bestPut, .long mo_bestSum, mo_row, mo_best, mo_left, .int mo_bestSize, .int mo_bestLeft, mo_counts, .int mo_sets, .int mo_foeHarm, .int mo_ownHarm, .int mo_across, .int mo_sumFoe, .int mo_sumOwn, .int mo_sumWon, .int mo_sumAcross])), (a_re, .inr (12, [.int re_lanes, .int re_deep, .int re_told, .int re_beasts, .int re_cities, .int re_passes, .int re_turned, .int re_names, re_who, re_strong, re_kind, re_lane, re_mood, re_price, re_loses, .ref a_re_name, .ref a_re_nameSort, .ref a_re_numberOf])), (a_re_name, .inl (cy 2, 11, .inr (.inl re_name))), (a_re_nameSort, .inl (cy 1, 11, .inl re_nameSort)), (a_re_numberOf, .inl (cy 1, 11, .inl re_numberOf))] ++ X) H → va_D A ([(a_mo, .inr (13, [.int mo_thrown, .int mo_trouble, .int mo_where, mo_war, .ref a_re, mo_tape, .int mo_taped, .int mo_size, .int mo_spot, .int mo_sort_4, .int mo_place, .int mo_number, .int mo_fault_5, .int mo_wrongAt_6, .int mo_laneTold, .long mo_word, mo_v, mo_x, mo_past, mo_kept, .int mo_acts, .int mo_marks, mo_put, mo_bestPut, .long mo_bestSum, mo_row, mo_best, mo_left, .int mo_bestSize, .int mo_bestLeft, mo_counts, .int mo_sets, .int mo_foeHarm, .int mo_ownHarm, .int mo_across, .int mo_sumFoe, .int mo_sumOwn, .int mo_sumWon, .int mo_sumAcross])), (a_re, .inr (12, [.int re_lanes, .int re_deep, .int re_told, .int re_beasts, .int re_cities, .int re_passes, .int re_turned, .int re_names, re_who, re_strong, re_kind, re_lane, re_mood, re_price, re_loses, .ref a_re_name, .ref a_re_nameSort, .ref a_re_numberOf])), (a_re_name, .inl (cy 2, 11, .inr (.inl re_name))), (a_re_nameSort, .inl (cy 1, 11, .inl re_nameSort)), (a_re_numberOf, .inl (cy 1, 11, .inl re_numberOf))] ++ X) → va_S A s.heap H locs → ∀ ls : Array Slot, lv_has ls 3 [(0, .ref a_mo), (2, .int r_7)] → W p l e (headSpec wo_X13_knownOne ({ frames := 7, cells := 0, slots := 0, locals := 155 })).room s m (([.ref a_mo, .int p1] : List Value).toArray) below meth c H locs 0 0 (MQ below (va_Qi (fun (r : Int32) (_ : Unit) => r = res) (wB D A ([(a_mo, .inr (13, [.int mo_thrown, .int mo_trouble, .int mo_where, mo_war, .ref a_re, mo_tape, .int mo_taped, .int mo_size, .int mo_spot, .int mo_sort', .int mo_place, .int mo_number, .int mo_fault', .int mo_wrongAt', .int mo_laneTold, .long mo_word, mo_v, mo_x, mo_past, mo_kept, .int mo_acts, .int mo_marks, mo_put, mo_bestPut, .long mo_bestSum, mo_row, mo_best, mo_left, .int mo_bestSize, .int mo_bestLeft, mo_counts, .int mo_sets, .int mo_foeHarm, .int mo_ownHarm, .int mo_across, .int mo_sumFoe, .int mo_sumOwn, .int mo_sumWon, .int mo_sumAcross])), (a_re, .inr (12, [.int re_lanes, .int re_deep, .int re_told, .int re_beasts, .int re_cities, .int re_passes, .int re_turned, .int re_names, re_who, re_strong, re_kind, re_lane, re_mood, re_price, re_loses, .ref a_re_name, .ref a_re_nameSort, .ref a_re_numberOf])), (a_re_name, .inl (cy 2, 11, .inr (.inl re_name))), (a_re_nameSort, .inl (cy 1, 11, .inl re_nameSort)), (a_re_numberOf, .inl (cy 1, 11, .inl re_numberOf))] ++ X)) A) (([.ref a_mo, .int p1] : List Value).toArray) s 0 0 A) (F0 m 42 ls []) := by
      intro h H locs hP hD hS ls hl
      unfold f_X13_knownOne_B42 at h
      refine lv_aload_n hx hb dX13_knownOne_42 rfl (lv_at hl 0 rfl) ?_
      refine lv_iconst (v := 2) hx hb dX13_knownOne_43 (by decide) ?_
      obtain ⟨mo_sort_13, mo_fault_14, mo_wrongAt_15, hc_16, h⟩ := bd3_some h
      refine wVv [.int 2] [] ⟨hx, hb, hml, hown, hts⟩ (c_X13_flaw l D cy A ([(a_re, .inr (12, [.int re_lanes, .int re_deep, .int re_told, .int re_beasts, .int re_cities, .int re_passes, .int re_turned, .int re_names, re_who, re_strong, re_kind, re_lane, re_mood, re_price, re_loses, .ref a_re_name, .ref a_re_nameSort, .ref a_re_numberOf])), (a_re_name, .inl (cy 2, 11, .inr (.inl re_name))), (a_re_nameSort, .inl (cy 1, 11, .inl re_nameSort)), (a_re_numberOf, .inl (cy 1, 11, .inl re_numberOf))] ++ X) a_mo mo_thrown mo_trouble mo_where (mo_war) (.ref a_re) (mo_tape) mo_taped mo_size mo_spot mo_sort_4 mo_place mo_number mo_fault_5 mo_wrongAt_6 mo_laneTold mo_word (mo_v) (mo_x) (mo_past) (mo_kept) mo_acts mo_marks (mo_put) (mo_bestPut) mo_bestSum (mo_row) (mo_best) (mo_left) mo_bestSize mo_bestLeft (mo_counts) mo_sets mo_foeHarm mo_ownHarm mo_across mo_sumFoe mo_sumOwn mo_sumWon mo_sumAcross (2 : Int32) mo_sort_13 mo_fault_14 mo_wrongAt_15 hc_16) gX13_knownOne_X13_flaw rfl hd_X13_flaw ⟨Nat.le_of_ble_eq_true rfl, Nat.le_of_ble_eq_true rfl⟩ rfl rfl hKN (pX3 hP [0, 1, 2, 3, 4] rfl) (dX3 hD [0, 1, 2, 3, 4] rfl rfl) hS hA 13 0 rfl rfl rfl hl.1 rfl (Nat.le_of_ble_eq_true rfl) dX13_knownOne_44 ⟨Nat.le_of_ble_eq_true rfl, Nat.le_of_ble_eq_true rfl⟩ (fun H locs hP hD hS => ?_)
      have hP := pX4 (L1 := [(a_mo, .inr (13, [.int mo_thrown, .int mo_trouble, .int mo_where, mo_war, .ref a_re, mo_tape, .int mo_taped, .int mo_size, .int mo_spot, .int mo_sort_13, .int mo_place, .int mo_number, .int mo_fault_14, .int mo_wrongAt_15, .int mo_laneTold, .long mo_word, mo_v, mo_x, mo_past, mo_kept, .int mo_acts, .int mo_marks, mo_put, mo_bestPut, .long mo_bestSum, mo_row, mo_best, mo_left, .int mo_bestSize, .int mo_bestLeft, mo_counts, .int mo_sets, .int mo_foeHarm, .int mo_ownHarm, .int mo_across, .int mo_sumFoe, .int mo_sumOwn, .int mo_sumWon, .int mo_sumAcross])), (a_re, .inr (12, [.int re_lanes, .int re_deep, .int re_told, .int re_beasts, .int re_cities, .int re_passes, .int re_turned, .int re_names, re_who, re_strong, re_kind, re_lane, re_mood, re_price, re_loses, .ref a_re_name, .ref a_re_nameSort, .ref a_re_numberOf])), (a_re_name, .inl (cy 2, 11, .inr (.inl re_name))), (a_re_nameSort, .inl (cy 1, 11, .inl re_nameSort)), (a_re_numberOf, .inl (cy 1, 11, .inl re_numberOf))]) hP [0, 1, 2, 3, 4] rfl
      have hD := dX4 (L1 := [(a_mo, .inr (13, [.int mo_thrown, .int mo_trouble, .int mo_where, mo_war, .ref a_re, mo_tape, .int mo_taped, .int mo_size, .int mo_spot, .int mo_sort_13, .int mo_place, .int mo_number, .int mo_fault_14, .int mo_wrongAt_15, .int mo_laneTold, .long mo_word, mo_v, mo_x, mo_past, mo_kept, .int mo_acts, .int mo_marks, mo_put, mo_bestPut, .long mo_bestSum, mo_row, mo_best, mo_left, .int mo_bestSize, .int mo_bestLeft, mo_counts, .int mo_sets, .int mo_foeHarm, .int mo_ownHarm, .int mo_across, .int mo_sumFoe, .int mo_sumOwn, .int mo_sumWon, .int mo_sumAcross])), (a_re, .inr (12, [.int re_lanes, .int re_deep, .int re_told, .int re_beasts, .int re_cities, .int re_passes, .int re_turned, .int re_names, re_who, re_strong, re_kind, re_lane, re_mood, re_price, re_loses, .ref a_re_name, .ref a_re_nameSort, .ref a_re_numberOf])), (a_re_name, .inl (cy 2, 11, .inr (.inl re_name))), (a_re_nameSort, .inl (cy 1, 11, .inl re_nameSort)), (a_re_numberOf, .inl (cy 1, 11, .inl re_numberOf))]) hD [0, 1, 2, 3, 4] rfl rfl
      exact jn47 mo_sort_13 mo_fault_14 mo_wrongAt_15 h _ _ hP hD hS _ (lv_sub hl [0, 1] rfl)
    refine lv_icmp_eq (tgt := 42) hx hb dX13_knownOne_26 (by decide) (fun cd => ?_) (fun cd => ?_)
    · have h := ifT cd h
      exact jn42 h _ _ hP hD hS _ (lv_sub hl [1, 0] rfl)
    · have h := ifF cd h
      refine lv_aload_n hx hb dX13_knownOne_29 rfl (lv_at hl 1 rfl) ?_
      refine va_get (D := D) (ci := 13) (C := RX13) (T := TX13) (N := 39) (v := .ref a_re) hx hb hX13 (fun _ q => q) hown hK hP 0 rfl rfl 4 (by decide) (hts (.fieldLink RX13 156 "ElephantLineModel" "read" "LElephantLineModel$War;") (by decide +kernel)) (fun _ h9 => h9) rfl dX13_knownOne_30 ?_
      refine va_getN (D := D) (ci := 12) (C := RX12) (T := TX12) (N := 18) (v := .ref a_re_nameSort) hx hb hX12 (fun _ q => q) hown hK hP 1 rfl rfl 16 (by decide) (va_Nw.use rfl (hKN.2.1.1 ("ElephantLineModel", 180, "ElephantLineModel$War", "nameSort", "[I", "ElephantLineModel") (List.mem_of_getElem? (i := 83) rfl))) (fun _ h9 => h9) rfl dX13_knownOne_33 ?_
      refine lv_iload_n hx hb dX13_knownOne_36 rfl (lv_at hl 0 rfl) ?_
      obtain ⟨i_17, h⟩ := gIn_some h
      refine va_iald hx hb hK hP 3 1 rfl rfl i_17 dX13_knownOne_37 ?_
      refine lv_iload_n hx hb dX13_knownOne_38 rfl (lv_at hl 2 rfl) ?_
      refine lv_icmp_eq (tgt := 47) hx hb dX13_knownOne_39 (by decide) (fun cd => ?_) (fun cd => ?_)
      · have h := ifT cd h
        exact jn47 mo_sort_4 mo_fault_5 mo_wrongAt_6 h _ _ hP hD hS _ (lv_sub hl [1, 0] rfl)
      · have h := ifF cd h
        exact jn42 h _ _ hP hD hS _ (lv_sub hl [1, 0] rfl)
  refine lv_if_ne (tgt := 12) hx hb dX13_knownOne_4 (by decide) (fun cd => ?_) (fun cd => ?_)
  · have h := ifF cd h
    exact jn12 mo_sort mo_fault mo_wrongAt h _ _ hP hD hS _ (lv_sub hl [0, 1] rfl)
  · have h := ifT cd h
    refine lv_aload_n hx hb dX13_knownOne_7 rfl (lv_at hl 0 rfl) ?_
    refine lv_iconst (v := 1) hx hb dX13_knownOne_8 (by decide) ?_
    obtain ⟨mo_sort_18, mo_fault_19, mo_wrongAt_20, hc_21, h⟩ := bd3_some h
    refine wVv [.int 1] [] ⟨hx, hb, hml, hown, hts⟩ (c_X13_flaw l D cy A ([(a_re, .inr (12, [.int re_lanes, .int re_deep, .int re_told, .int re_beasts, .int re_cities, .int re_passes, .int re_turned, .int re_names, re_who, re_strong, re_kind, re_lane, re_mood, re_price, re_loses, .ref a_re_name, .ref a_re_nameSort, .ref a_re_numberOf])), (a_re_name, .inl (cy 2, 11, .inr (.inl re_name))), (a_re_nameSort, .inl (cy 1, 11, .inl re_nameSort)), (a_re_numberOf, .inl (cy 1, 11, .inl re_numberOf))] ++ X) a_mo mo_thrown mo_trouble mo_where (mo_war) (.ref a_re) (mo_tape) mo_taped mo_size mo_spot mo_sort mo_place mo_number mo_fault mo_wrongAt mo_laneTold mo_word (mo_v) (mo_x) (mo_past) (mo_kept) mo_acts mo_marks (mo_put) (mo_bestPut) mo_bestSum (mo_row) (mo_best) (mo_left) mo_bestSize mo_bestLeft (mo_counts) mo_sets mo_foeHarm mo_ownHarm mo_across mo_sumFoe mo_sumOwn mo_sumWon mo_sumAcross (1 : Int32) mo_sort_18 mo_fault_19 mo_wrongAt_20 hc_21) gX13_knownOne_X13_flaw rfl hd_X13_flaw ⟨Nat.le_of_ble_eq_true rfl, Nat.le_of_ble_eq_true rfl⟩ rfl rfl hKN (pX3 hP [0, 1, 2, 3, 4] rfl) (dX3 hD [0, 1, 2, 3, 4] rfl rfl) hS hA 13 0 rfl rfl rfl hl.1 rfl (Nat.le_of_ble_eq_true rfl) dX13_knownOne_9 ⟨Nat.le_of_ble_eq_true rfl, Nat.le_of_ble_eq_true rfl⟩ (fun H locs hP hD hS => ?_)
    have hP := pX4 (L1 := [(a_mo, .inr (13, [.int mo_thrown, .int mo_trouble, .int mo_where, mo_war, .ref a_re, mo_tape, .int mo_taped, .int mo_size, .int mo_spot, .int mo_sort_18, .int mo_place, .int mo_number, .int mo_fault_19, .int mo_wrongAt_20, .int mo_laneTold, .long mo_word, mo_v, mo_x, mo_past, mo_kept, .int mo_acts, .int mo_marks, mo_put, mo_bestPut, .long mo_bestSum, mo_row, mo_best, mo_left, .int mo_bestSize, .int mo_bestLeft, mo_counts, .int mo_sets, .int mo_foeHarm, .int mo_ownHarm, .int mo_across, .int mo_sumFoe, .int mo_sumOwn, .int mo_sumWon, .int mo_sumAcross])), (a_re, .inr (12, [.int re_lanes, .int re_deep, .int re_told, .int re_beasts, .int re_cities, .int re_passes, .int re_turned, .int re_names, re_who, re_strong, re_kind, re_lane, re_mood, re_price, re_loses, .ref a_re_name, .ref a_re_nameSort, .ref a_re_numberOf])), (a_re_name, .inl (cy 2, 11, .inr (.inl re_name))), (a_re_nameSort, .inl (cy 1, 11, .inl re_nameSort)), (a_re_numberOf, .inl (cy 1, 11, .inl re_numberOf))]) hP [0, 1, 2, 3, 4] rfl
    have hD := dX4 (L1 := [(a_mo, .inr (13, [.int mo_thrown, .int mo_trouble, .int mo_where, mo_war, .ref a_re, mo_tape, .int mo_taped, .int mo_size, .int mo_spot, .int mo_sort_18, .int mo_place, .int mo_number, .int mo_fault_19, .int mo_wrongAt_20, .int mo_laneTold, .long mo_word, mo_v, mo_x, mo_past, mo_kept, .int mo_acts, .int mo_marks, mo_put, mo_bestPut, .long mo_bestSum, mo_row, mo_best, mo_left, .int mo_bestSize, .int mo_bestLeft, mo_counts, .int mo_sets, .int mo_foeHarm, .int mo_ownHarm, .int mo_across, .int mo_sumFoe, .int mo_sumOwn, .int mo_sumWon, .int mo_sumAcross])), (a_re, .inr (12, [.int re_lanes, .int re_deep, .int re_told, .int re_beasts, .int re_cities, .int re_passes, .int re_turned, .int re_names, re_who, re_strong, re_kind, re_lane, re_mood, re_price, re_loses, .ref a_re_name, .ref a_re_nameSort, .ref a_re_numberOf])), (a_re_name, .inl (cy 2, 11, .inr (.inl re_name))), (a_re_nameSort, .inl (cy 1, 11, .inl re_nameSort)), (a_re_numberOf, .inl (cy 1, 11, .inl re_numberOf))]) hD [0, 1, 2, 3, 4] rfl rfl
    exact jn12 mo_sort_18 mo_fault_19 mo_wrongAt_20 h _ _ hP hD hS _ (lv_sub hl [0, 1] rfl)
noncomputable def f_X13_readField_B15 (mo_size : Int32) (mo_tape : Nat → Int32) (mo_spot : Int32) (mo_sort : Int32) (mo_place : Int32) (mo_number : Int32) (mo_fault : Int32) (mo_wrongAt : Int32) (mo_word : Int64) (re_lanes : Int32) (re_deep : Int32) : Option (Int32 × Int32 × Int32 × Int32 × Int32 × Int32 × Int64 × Int32 × Int32) :=
  bd5 (f_X13_goesOn mo_size mo_spot mo_sort mo_place mo_number mo_word mo_tape) fun mo_spot_1 mo_sort_2 mo_place_3 mo_number_4 mo_word_5 =>
  bd8 (f_X13_readPart mo_size mo_spot_1 mo_sort_2 mo_place_3 mo_number_4 mo_fault mo_wrongAt mo_word_5 mo_tape 7 (2 : Int32) (6 : Int32)) fun r_7 mo_spot_8 mo_sort_9 mo_place_10 mo_number_11 mo_fault_12 mo_wrongAt_13 mo_word_14 =>
  bd8 (f_X13_readPart mo_size mo_spot_8 mo_sort_9 mo_place_10 mo_number_11 mo_fault_12 mo_wrongAt_13 mo_word_14 mo_tape 8 (1 : Int32) (5 : Int32)) fun r_16 mo_spot_17 mo_sort_18 mo_place_19 mo_number_20 mo_fault_21 mo_wrongAt_22 mo_word_23 =>
  (if mo_sort_18 = 5 then
  some (mo_spot_17, mo_sort_18, mo_place_19, mo_number_20, mo_fault_21, mo_wrongAt_22, mo_word_23, re_lanes, re_deep)
  else
  some (mo_spot_17, mo_sort_18, mo_place_19, mo_number_20, mo_fault_21, mo_wrongAt_22, mo_word_23, r_7, r_16))
noncomputable def f_X13_readField (mo_size : Int32) (mo_spot : Int32) (mo_sort : Int32) (mo_place : Int32) (mo_number : Int32) (mo_fault : Int32) (mo_wrongAt : Int32) (mo_word : Int64) (mo_tape : Nat → Int32) (re_lanes : Int32) (re_deep : Int32) : Option (Int32 × Int32 × Int32 × Int32 × Int32 × Int32 × Int64 × Int32 × Int32) :=
  (if re_lanes ≤ 0 then
  f_X13_readField_B15 mo_size mo_tape mo_spot mo_sort mo_place mo_number mo_fault mo_wrongAt mo_word re_lanes re_deep
  else
  bd3 (f_X13_flaw mo_sort mo_place mo_fault mo_wrongAt (3 : Int32)) fun mo_sort_25 mo_fault_26 mo_wrongAt_27 =>
  f_X13_readField_B15 mo_size mo_tape mo_spot mo_sort_25 mo_place mo_number mo_fault_26 mo_wrongAt_27 mo_word re_lanes re_deep)
theorem hd_X13_readField : yX13_readField.cls = RX13 ∧ yX13_readField.cls ≠ "java/lang/invoke/MethodHandle" ∧ yX13_readField.cls ≠ "java/lang/invoke/VarHandle" ∧ (parseMethodDescriptor yX13_readField.desc).map (fun d => d.parameters.length) = some 0 := by decide +kernel
set_option maxHeartbeats 4000000 in
set_option maxRecDepth 100000 in
theorem c_X13_readField (l : Launch) (D : va_G) (cy : Nat → ClassId) (sa sv : Nat → Nat) (A : Nat → Prop) (X : va_W) (a_mo a_mo_tape a_re : Nat) (mo_thrown : Int32) (mo_trouble : Int32) (mo_where : Int32) (mo_war : Value) (mo_taped : Int32) (mo_size : Int32) (mo_spot : Int32) (mo_sort : Int32) (mo_place : Int32) (mo_number : Int32) (mo_fault : Int32) (mo_wrongAt : Int32) (mo_laneTold : Int32) (mo_word : Int64) (mo_v : Value) (mo_x : Value) (mo_past : Value) (mo_kept : Value) (mo_acts : Int32) (mo_marks : Int32) (mo_put : Value) (mo_bestPut : Value) (mo_bestSum : Int64) (mo_row : Value) (mo_best : Value) (mo_left : Value) (mo_bestSize : Int32) (mo_bestLeft : Int32) (mo_counts : Value) (mo_sets : Int32) (mo_foeHarm : Int32) (mo_ownHarm : Int32) (mo_across : Int32) (mo_sumFoe : Int32) (mo_sumOwn : Int32) (mo_sumWon : Int32) (mo_sumAcross : Int32) (mo_tape : Nat → Int32) (re_lanes : Int32) (re_deep : Int32) (re_told : Int32) (re_beasts : Int32) (re_cities : Int32) (re_passes : Int32) (re_turned : Int32) (re_names : Int32) (re_who : Value) (re_strong : Value) (re_kind : Value) (re_lane : Value) (re_mood : Value) (re_price : Value) (re_loses : Value) (re_name : Value) (re_nameSort : Value) (re_numberOf : Value) (mo_spot' : Int32) (mo_sort' : Int32) (mo_place' : Int32) (mo_number' : Int32) (mo_fault' : Int32) (mo_wrongAt' : Int32) (mo_word' : Int64) (re_lanes' : Int32) (re_deep' : Int32) (h : f_X13_readField mo_size mo_spot mo_sort mo_place mo_number mo_fault mo_wrongAt mo_word mo_tape re_lanes re_deep = some (mo_spot', mo_sort', mo_place', mo_number', mo_fault', mo_wrongAt', mo_word', re_lanes', re_deep')) : Met l yX13_readField wo_X13_readField ({ frames := 8, cells := 0, slots := 0, locals := 179 }) (wrPcS D cy sa sv A [.ref a_mo] ([(a_mo, .inr (13, [.int mo_thrown, .int mo_trouble, .int mo_where, mo_war, .ref a_re, .ref a_mo_tape, .int mo_taped, .int mo_size, .int mo_spot, .int mo_sort, .int mo_place, .int mo_number, .int mo_fault, .int mo_wrongAt, .int mo_laneTold, .long mo_word, mo_v, mo_x, mo_past, mo_kept, .int mo_acts, .int mo_marks, mo_put, mo_bestPut, .long mo_bestSum, mo_row, mo_best, mo_left, .int mo_bestSize, .int mo_bestLeft, mo_counts, .int mo_sets, .int mo_foeHarm, .int mo_ownHarm, .int mo_across, .int mo_sumFoe, .int mo_sumOwn, .int mo_sumWon, .int mo_sumAcross])), (a_mo_tape, .inl (cy 0, 900, .inl mo_tape)), (a_re, .inr (12, [.int re_lanes, .int re_deep, .int re_told, .int re_beasts, .int re_cities, .int re_passes, .int re_turned, .int re_names, re_who, re_strong, re_kind, re_lane, re_mood, re_price, re_loses, re_name, re_nameSort, re_numberOf]))] ++ X)) (va_Qv (fun (_ : Unit) => True) (wB D A ([(a_mo, .inr (13, [.int mo_thrown, .int mo_trouble, .int mo_where, mo_war, .ref a_re, .ref a_mo_tape, .int mo_taped, .int mo_size, .int mo_spot', .int mo_sort', .int mo_place', .int mo_number', .int mo_fault', .int mo_wrongAt', .int mo_laneTold, .long mo_word', mo_v, mo_x, mo_past, mo_kept, .int mo_acts, .int mo_marks, mo_put, mo_bestPut, .long mo_bestSum, mo_row, mo_best, mo_left, .int mo_bestSize, .int mo_bestLeft, mo_counts, .int mo_sets, .int mo_foeHarm, .int mo_ownHarm, .int mo_across, .int mo_sumFoe, .int mo_sumOwn, .int mo_sumWon, .int mo_sumAcross])), (a_mo_tape, .inl (cy 0, 900, .inl mo_tape)), (a_re, .inr (12, [.int re_lanes', .int re_deep', .int re_told, .int re_beasts, .int re_cities, .int re_passes, .int re_turned, .int re_names, re_who, re_strong, re_kind, re_lane, re_mood, re_price, re_loses, re_name, re_nameSort, re_numberOf]))] ++ X)) A) 0 0 A := by
  refine Met.ofW (cc := cX13_readField) (maxL := 3) (ret := none) (by decide) rfl ?_
  intro p e s m args below meth c s₁ B hml hv
  obtain ⟨rfl, hP, hKN, hD, hA, hSS⟩ := hv
  have hK := hKN.1
  have hx := B.exec
  have hb := B.bytes
  have hr := B.returns
  have hts := wt_X13_readField hKN.2.2 (([.ref a_mo] : List Value).toArray)
  have hown : s.vm.findClass RX13 = some m.cls := findClass_of_methodNamed B.named
  have hlocks := B.notSynchronized
  have hS : va_S A s.heap s.heap [] := va_S.rf
  have hX12 := wc_X12 hKN.2.2 (([.ref a_mo] : List Value).toArray)
  have hX13 := wc_X13 hKN.2.2 (([.ref a_mo] : List Value).toArray)
  have hl := lv_entry ([.ref a_mo]) (n := 3) (Nat.le_of_ble_eq_true rfl)
  rw [lg_entry_eq]
  generalize (lg_sl ([.ref a_mo]) ++ List.replicate (3 - (lg_sl ([.ref a_mo])).length) Slot.unset).toArray = ls at hl ⊢
  have hl : lv_has ls 3 [(0, .ref a_mo)] := hl
  unfold f_X13_readField at h
  refine lv_aload_n hx hb dX13_readField_0 rfl (lv_at hl 0 rfl) ?_
  refine va_get (D := D) (ci := 13) (C := RX13) (T := TX13) (N := 39) (v := .ref a_re) hx hb hX13 (fun _ q => q) hown hK hP 0 rfl rfl 4 (by decide) (hts (.fieldLink RX13 156 "ElephantLineModel" "read" "LElephantLineModel$War;") (by decide +kernel)) (fun _ h9 => h9) rfl dX13_readField_1 ?_
  refine va_getN (D := D) (ci := 12) (C := RX12) (T := TX12) (N := 18) (v := .int re_lanes) hx hb hX12 (fun _ q => q) hown hK hP 2 rfl rfl 0 (by decide) (va_Nw.use rfl (hKN.2.1.1 ("ElephantLineModel", 160, "ElephantLineModel$War", "lanes", "I", "ElephantLineModel") (List.mem_of_getElem? (i := 67) rfl))) (fun _ h9 => h9) rfl dX13_readField_4 ?_
  have jn15 : ∀ (mo_sort_1 : Int32) (mo_fault_2 : Int32) (mo_wrongAt_3 : Int32), f_X13_readField_B15 mo_size mo_tape mo_spot mo_sort_1 mo_place mo_number mo_fault_2 mo_wrongAt_3 mo_word re_lanes re_deep = some (mo_spot', mo_sort', mo_place', mo_number', mo_fault', mo_wrongAt', mo_word', re_lanes', re_deep') → ∀ (H : Heap) (locs : List Loc), va_P D vwCl ([(a_mo, .inr (13, [.int mo_thrown, .int mo_trouble, .int mo_where, mo_war, .ref a_re, .ref a_mo_tape, .int mo_taped, .int mo_size, .int mo_spot, .int mo_sort_1, .int mo_place, .int mo_number, .int mo_fault_2, .int mo_wrongAt_3, .int mo_laneTold, .long mo_word, mo_v, mo_x, mo_past, mo_kept, .int mo_acts, .int mo_marks, mo_put, mo_bestPut, .long mo_bestSum, mo_row, mo_best, mo_left, .int mo_bestSize, .int mo_bestLeft, mo_counts, .int mo_sets, .int mo_foeHarm, .int mo_ownHarm, .int mo_across, .int mo_sumFoe, .int mo_sumOwn, .int mo_sumWon, .int mo_sumAcross])), (a_mo_tape, .inl (cy 0, 900, .inl mo_tape)), (a_re, .inr (12, [.int re_lanes, .int re_deep, .int re_told, .int re_beasts, .int re_cities, .int re_passes, .int re_turned, .int re_names, re_who, re_strong, re_kind, re_lane, re_mood, re_price, re_loses, re_name, re_nameSort, re_numberOf]))] ++ X) H → va_D A ([(a_mo, .inr (13, [.int mo_thrown, .int mo_trouble, .int mo_where, mo_war, .ref a_re, .ref a_mo_tape, .int mo_taped, .int mo_size, .int mo_spot, .int mo_sort_1, .int mo_place, .int mo_number, .int mo_fault_2, .int mo_wrongAt_3, .int mo_laneTold, .long mo_word, mo_v, mo_x, mo_past, mo_kept, .int mo_acts, .int mo_marks, mo_put, mo_bestPut, .long mo_bestSum, mo_row, mo_best, mo_left, .int mo_bestSize, .int mo_bestLeft, mo_counts, .int mo_sets, .int mo_foeHarm, .int mo_ownHarm, .int mo_across, .int mo_sumFoe, .int mo_sumOwn, .int mo_sumWon, .int mo_sumAcross])), (a_mo_tape, .inl (cy 0, 900, .inl mo_tape)), (a_re, .inr (12, [.int re_lanes, .int re_deep, .int re_told, .int re_beasts, .int re_cities, .int re_passes, .int re_turned, .int re_names, re_who, re_strong, re_kind, re_lane, re_mood, re_price, re_loses, re_name, re_nameSort, re_numberOf]))] ++ X) → va_S A s.heap H locs → ∀ ls : Array Slot, lv_has ls 3 [(0, .ref a_mo)] → W p l e (headSpec wo_X13_readField ({ frames := 8, cells := 0, slots := 0, locals := 179 })).room s m (([.ref a_mo] : List Value).toArray) below meth c H locs 0 0 (MQ below (va_Qv (fun (_ : Unit) => True) (wB D A ([(a_mo, .inr (13, [.int mo_thrown, .int mo_trouble, .int mo_where, mo_war, .ref a_re, .ref a_mo_tape, .int mo_taped, .int mo_size, .int mo_spot', .int mo_sort', .int mo_place', .int mo_number', .int mo_fault', .int mo_wrongAt', .int mo_laneTold, .long mo_word', mo_v, mo_x, mo_past, mo_kept, .int mo_acts, .int mo_marks, mo_put, mo_bestPut, .long mo_bestSum, mo_row, mo_best, mo_left, .int mo_bestSize, .int mo_bestLeft, mo_counts, .int mo_sets, .int mo_foeHarm, .int mo_ownHarm, .int mo_across, .int mo_sumFoe, .int mo_sumOwn, .int mo_sumWon, .int mo_sumAcross])), (a_mo_tape, .inl (cy 0, 900, .inl mo_tape)), (a_re, .inr (12, [.int re_lanes', .int re_deep', .int re_told, .int re_beasts, .int re_cities, .int re_passes, .int re_turned, .int re_names, re_who, re_strong, re_kind, re_lane, re_mood, re_price, re_loses, re_name, re_nameSort, re_numberOf]))] ++ X)) A) (([.ref a_mo] : List Value).toArray) s 0 0 A) (F0 m 15 ls []) := by
    intro mo_sort_1 mo_fault_2 mo_wrongAt_3 h H locs hP hD hS ls hl
    unfold f_X13_readField_B15 at h
    refine lv_aload_n hx hb dX13_readField_15 rfl (lv_at hl 0 rfl) ?_
    obtain ⟨mo_spot_4, mo_sort_5, mo_place_6, mo_number_7, mo_word_8, hc_9, h⟩ := bd5_some h
    refine wVv [] [] ⟨hx, hb, hml, hown, hts⟩ (c_X13_goesOn l D cy A ([(a_re, .inr (12, [.int re_lanes, .int re_deep, .int re_told, .int re_beasts, .int re_cities, .int re_passes, .int re_turned, .int re_names, re_who, re_strong, re_kind, re_lane, re_mood, re_price, re_loses, re_name, re_nameSort, re_numberOf]))] ++ X) a_mo a_mo_tape mo_thrown mo_trouble mo_where (mo_war) (.ref a_re) mo_taped mo_size mo_spot mo_sort_1 mo_place mo_number mo_fault_2 mo_wrongAt_3 mo_laneTold mo_word (mo_v) (mo_x) (mo_past) (mo_kept) mo_acts mo_marks (mo_put) (mo_bestPut) mo_bestSum (mo_row) (mo_best) (mo_left) mo_bestSize mo_bestLeft (mo_counts) mo_sets mo_foeHarm mo_ownHarm mo_across mo_sumFoe mo_sumOwn mo_sumWon mo_sumAcross mo_tape mo_spot_4 mo_sort_5 mo_place_6 mo_number_7 mo_word_8 hc_9) gX13_readField_X13_goesOn rfl hd_X13_goesOn ⟨Nat.le_of_ble_eq_true rfl, Nat.le_of_ble_eq_true rfl⟩ rfl rfl hKN (pX3 hP [0, 1, 2] rfl) (dX3 hD [0, 1, 2] rfl rfl) hS hA 13 0 rfl rfl rfl hl.1 rfl (Nat.le_of_ble_eq_true rfl) dX13_readField_16 ⟨Nat.le_of_ble_eq_true rfl, Nat.le_of_ble_eq_true rfl⟩ (fun H locs hP hD hS => ?_)
    have hP := pX4 (L1 := [(a_mo, .inr (13, [.int mo_thrown, .int mo_trouble, .int mo_where, mo_war, .ref a_re, .ref a_mo_tape, .int mo_taped, .int mo_size, .int mo_spot_4, .int mo_sort_5, .int mo_place_6, .int mo_number_7, .int mo_fault_2, .int mo_wrongAt_3, .int mo_laneTold, .long mo_word_8, mo_v, mo_x, mo_past, mo_kept, .int mo_acts, .int mo_marks, mo_put, mo_bestPut, .long mo_bestSum, mo_row, mo_best, mo_left, .int mo_bestSize, .int mo_bestLeft, mo_counts, .int mo_sets, .int mo_foeHarm, .int mo_ownHarm, .int mo_across, .int mo_sumFoe, .int mo_sumOwn, .int mo_sumWon, .int mo_sumAcross])), (a_mo_tape, .inl (cy 0, 900, .inl mo_tape)), (a_re, .inr (12, [.int re_lanes, .int re_deep, .int re_told, .int re_beasts, .int re_cities, .int re_passes, .int re_turned, .int re_names, re_who, re_strong, re_kind, re_lane, re_mood, re_price, re_loses, re_name, re_nameSort, re_numberOf]))]) hP [0, 1, 2] rfl
    have hD := dX4 (L1 := [(a_mo, .inr (13, [.int mo_thrown, .int mo_trouble, .int mo_where, mo_war, .ref a_re, .ref a_mo_tape, .int mo_taped, .int mo_size, .int mo_spot_4, .int mo_sort_5, .int mo_place_6, .int mo_number_7, .int mo_fault_2, .int mo_wrongAt_3, .int mo_laneTold, .long mo_word_8, mo_v, mo_x, mo_past, mo_kept, .int mo_acts, .int mo_marks, mo_put, mo_bestPut, .long mo_bestSum, mo_row, mo_best, mo_left, .int mo_bestSize, .int mo_bestLeft, mo_counts, .int mo_sets, .int mo_foeHarm, .int mo_ownHarm, .int mo_across, .int mo_sumFoe, .int mo_sumOwn, .int mo_sumWon, .int mo_sumAcross])), (a_mo_tape, .inl (cy 0, 900, .inl mo_tape)), (a_re, .inr (12, [.int re_lanes, .int re_deep, .int re_told, .int re_beasts, .int re_cities, .int re_passes, .int re_turned, .int re_names, re_who, re_strong, re_kind, re_lane, re_mood, re_price, re_loses, re_name, re_nameSort, re_numberOf]))]) hD [0, 1, 2] rfl rfl
    refine lv_aload_n hx hb dX13_readField_19 rfl (lv_at hl 0 rfl) ?_
    refine va_ldcS hx hb hown (hSS.2.2.2 ("ElephantLineModel", 216, "lanes", 7) (List.mem_of_getElem? (i := 7) rfl)) dX13_readField_20 ?_
    refine lv_iconst (v := 2) hx hb dX13_readField_22 (by decide) ?_
    refine lv_bipush (v := 6) hx hb dX13_readField_23 (by decide) ?_
    obtain ⟨r_10, mo_spot_11, mo_sort_12, mo_place_13, mo_number_14, mo_fault_15, mo_wrongAt_16, mo_word_17, hc_18, h⟩ := bd8_some h
    refine wViS [.ref (sa 7), .int 2, .int 6] [] ⟨hx, hb, hml, hown, hts⟩ (c_X13_readPart l D cy sa sv A ([(a_re, .inr (12, [.int re_lanes, .int re_deep, .int re_told, .int re_beasts, .int re_cities, .int re_passes, .int re_turned, .int re_names, re_who, re_strong, re_kind, re_lane, re_mood, re_price, re_loses, re_name, re_nameSort, re_numberOf]))] ++ X) a_mo a_mo_tape mo_thrown mo_trouble mo_where (mo_war) (.ref a_re) mo_taped mo_size mo_spot_4 mo_sort_5 mo_place_6 mo_number_7 mo_fault_2 mo_wrongAt_3 mo_laneTold mo_word_8 (mo_v) (mo_x) (mo_past) (mo_kept) mo_acts mo_marks (mo_put) (mo_bestPut) mo_bestSum (mo_row) (mo_best) (mo_left) mo_bestSize mo_bestLeft (mo_counts) mo_sets mo_foeHarm mo_ownHarm mo_across mo_sumFoe mo_sumOwn mo_sumWon mo_sumAcross mo_tape 7 (by decide) (2 : Int32) (6 : Int32) r_10 mo_spot_11 mo_sort_12 mo_place_13 mo_number_14 mo_fault_15 mo_wrongAt_16 mo_word_17 hc_18) gX13_readField_X13_readPart rfl hd_X13_readPart ⟨Nat.le_of_ble_eq_true rfl, Nat.le_of_ble_eq_true rfl⟩ rfl rfl hKN (pX3 hP [0, 1, 2] rfl) (hSS.kept hS) (dX3 hD [0, 1, 2] rfl rfl) hS hA 13 0 rfl rfl rfl hl.1 rfl (Nat.le_of_ble_eq_true rfl) dX13_readField_25 ⟨Nat.le_of_ble_eq_true rfl, Nat.le_of_ble_eq_true rfl⟩ (fun H locs hP hD hS => ?_)
    have hP := pX4 (L1 := [(a_mo, .inr (13, [.int mo_thrown, .int mo_trouble, .int mo_where, mo_war, .ref a_re, .ref a_mo_tape, .int mo_taped, .int mo_size, .int mo_spot_11, .int mo_sort_12, .int mo_place_13, .int mo_number_14, .int mo_fault_15, .int mo_wrongAt_16, .int mo_laneTold, .long mo_word_17, mo_v, mo_x, mo_past, mo_kept, .int mo_acts, .int mo_marks, mo_put, mo_bestPut, .long mo_bestSum, mo_row, mo_best, mo_left, .int mo_bestSize, .int mo_bestLeft, mo_counts, .int mo_sets, .int mo_foeHarm, .int mo_ownHarm, .int mo_across, .int mo_sumFoe, .int mo_sumOwn, .int mo_sumWon, .int mo_sumAcross])), (a_mo_tape, .inl (cy 0, 900, .inl mo_tape)), (a_re, .inr (12, [.int re_lanes, .int re_deep, .int re_told, .int re_beasts, .int re_cities, .int re_passes, .int re_turned, .int re_names, re_who, re_strong, re_kind, re_lane, re_mood, re_price, re_loses, re_name, re_nameSort, re_numberOf]))]) hP [0, 1, 2] rfl
    have hD := dX4 (L1 := [(a_mo, .inr (13, [.int mo_thrown, .int mo_trouble, .int mo_where, mo_war, .ref a_re, .ref a_mo_tape, .int mo_taped, .int mo_size, .int mo_spot_11, .int mo_sort_12, .int mo_place_13, .int mo_number_14, .int mo_fault_15, .int mo_wrongAt_16, .int mo_laneTold, .long mo_word_17, mo_v, mo_x, mo_past, mo_kept, .int mo_acts, .int mo_marks, mo_put, mo_bestPut, .long mo_bestSum, mo_row, mo_best, mo_left, .int mo_bestSize, .int mo_bestLeft, mo_counts, .int mo_sets, .int mo_foeHarm, .int mo_ownHarm, .int mo_across, .int mo_sumFoe, .int mo_sumOwn, .int mo_sumWon, .int mo_sumAcross])), (a_mo_tape, .inl (cy 0, 900, .inl mo_tape)), (a_re, .inr (12, [.int re_lanes, .int re_deep, .int re_told, .int re_beasts, .int re_cities, .int re_passes, .int re_turned, .int re_names, re_who, re_strong, re_kind, re_lane, re_mood, re_price, re_loses, re_name, re_nameSort, re_numberOf]))]) hD [0, 1, 2] rfl rfl
    refine lv_istore_n (lv' := [(1, .int r_10), (0, .ref a_mo)]) hx hb dX13_readField_28 rfl hl (by decide) rfl (fun ls hl => ?_)
    refine lv_aload_n hx hb dX13_readField_29 rfl (lv_at hl 1 rfl) ?_
    refine va_ldcS hx hb hown (hSS.2.2.2 ("ElephantLineModel", 221, "deep", 8) (List.mem_of_getElem? (i := 8) rfl)) dX13_readField_30 ?_
    refine lv_iconst (v := 1) hx hb dX13_readField_32 (by decide) ?_
    refine lv_iconst (v := 5) hx hb dX13_readField_33 (by decide) ?_
    obtain ⟨r_19, mo_spot_20, mo_sort_21, mo_place_22, mo_number_23, mo_fault_24, mo_wrongAt_25, mo_word_26, hc_27, h⟩ := bd8_some h
    refine wViS [.ref (sa 8), .int 1, .int 5] [] ⟨hx, hb, hml, hown, hts⟩ (c_X13_readPart l D cy sa sv A ([(a_re, .inr (12, [.int re_lanes, .int re_deep, .int re_told, .int re_beasts, .int re_cities, .int re_passes, .int re_turned, .int re_names, re_who, re_strong, re_kind, re_lane, re_mood, re_price, re_loses, re_name, re_nameSort, re_numberOf]))] ++ X) a_mo a_mo_tape mo_thrown mo_trouble mo_where (mo_war) (.ref a_re) mo_taped mo_size mo_spot_11 mo_sort_12 mo_place_13 mo_number_14 mo_fault_15 mo_wrongAt_16 mo_laneTold mo_word_17 (mo_v) (mo_x) (mo_past) (mo_kept) mo_acts mo_marks (mo_put) (mo_bestPut) mo_bestSum (mo_row) (mo_best) (mo_left) mo_bestSize mo_bestLeft (mo_counts) mo_sets mo_foeHarm mo_ownHarm mo_across mo_sumFoe mo_sumOwn mo_sumWon mo_sumAcross mo_tape 8 (by decide) (1 : Int32) (5 : Int32) r_19 mo_spot_20 mo_sort_21 mo_place_22 mo_number_23 mo_fault_24 mo_wrongAt_25 mo_word_26 hc_27) gX13_readField_X13_readPart rfl hd_X13_readPart ⟨Nat.le_of_ble_eq_true rfl, Nat.le_of_ble_eq_true rfl⟩ rfl rfl hKN (pX3 hP [0, 1, 2] rfl) (hSS.kept hS) (dX3 hD [0, 1, 2] rfl rfl) hS hA 13 0 rfl rfl rfl hl.1 rfl (Nat.le_of_ble_eq_true rfl) dX13_readField_34 ⟨Nat.le_of_ble_eq_true rfl, Nat.le_of_ble_eq_true rfl⟩ (fun H locs hP hD hS => ?_)
    have hP := pX4 (L1 := [(a_mo, .inr (13, [.int mo_thrown, .int mo_trouble, .int mo_where, mo_war, .ref a_re, .ref a_mo_tape, .int mo_taped, .int mo_size, .int mo_spot_20, .int mo_sort_21, .int mo_place_22, .int mo_number_23, .int mo_fault_24, .int mo_wrongAt_25, .int mo_laneTold, .long mo_word_26, mo_v, mo_x, mo_past, mo_kept, .int mo_acts, .int mo_marks, mo_put, mo_bestPut, .long mo_bestSum, mo_row, mo_best, mo_left, .int mo_bestSize, .int mo_bestLeft, mo_counts, .int mo_sets, .int mo_foeHarm, .int mo_ownHarm, .int mo_across, .int mo_sumFoe, .int mo_sumOwn, .int mo_sumWon, .int mo_sumAcross])), (a_mo_tape, .inl (cy 0, 900, .inl mo_tape)), (a_re, .inr (12, [.int re_lanes, .int re_deep, .int re_told, .int re_beasts, .int re_cities, .int re_passes, .int re_turned, .int re_names, re_who, re_strong, re_kind, re_lane, re_mood, re_price, re_loses, re_name, re_nameSort, re_numberOf]))]) hP [0, 1, 2] rfl
    have hD := dX4 (L1 := [(a_mo, .inr (13, [.int mo_thrown, .int mo_trouble, .int mo_where, mo_war, .ref a_re, .ref a_mo_tape, .int mo_taped, .int mo_size, .int mo_spot_20, .int mo_sort_21, .int mo_place_22, .int mo_number_23, .int mo_fault_24, .int mo_wrongAt_25, .int mo_laneTold, .long mo_word_26, mo_v, mo_x, mo_past, mo_kept, .int mo_acts, .int mo_marks, mo_put, mo_bestPut, .long mo_bestSum, mo_row, mo_best, mo_left, .int mo_bestSize, .int mo_bestLeft, mo_counts, .int mo_sets, .int mo_foeHarm, .int mo_ownHarm, .int mo_across, .int mo_sumFoe, .int mo_sumOwn, .int mo_sumWon, .int mo_sumAcross])), (a_mo_tape, .inl (cy 0, 900, .inl mo_tape)), (a_re, .inr (12, [.int re_lanes, .int re_deep, .int re_told, .int re_beasts, .int re_cities, .int re_passes, .int re_turned, .int re_names, re_who, re_strong, re_kind, re_lane, re_mood, re_price, re_loses, re_name, re_nameSort, re_numberOf]))]) hD [0, 1, 2] rfl rfl
    refine lv_istore_n (lv' := [(2, .int r_19), (1, .int r_10), (0, .ref a_mo)]) hx hb dX13_readField_37 rfl hl (by decide) rfl (fun ls hl => ?_)
    refine lv_aload_n hx hb dX13_readField_38 rfl (lv_at hl 2 rfl) ?_
    refine va_get (D := D) (ci := 13) (C := RX13) (T := TX13) (N := 39) (v := .int mo_sort_21) hx hb hX13 (fun _ q => q) hown hK hP 0 rfl rfl 9 (by decide) (hts (.fieldLink RX13 82 "ElephantLineModel" "sort" "I") (by decide +kernel)) (fun _ h9 => h9) rfl dX13_readField_39 ?_
    refine lv_iconst (v := 5) hx hb dX13_readField_42 (by decide) ?_
    refine lv_icmp_ne (tgt := 47) hx hb dX13_readField_43 (by decide) (fun cd => ?_) (fun cd => ?_)
    · have h := ifF cd h
      refine lv_aload_n hx hb dX13_readField_47 rfl (lv_at hl 2 rfl) ?_
      refine va_get (D := D) (ci := 13) (C := RX13) (T := TX13) (N := 39) (v := .ref a_re) hx hb hX13 (fun _ q => q) hown hK hP 0 rfl rfl 4 (by decide) (hts (.fieldLink RX13 156 "ElephantLineModel" "read" "LElephantLineModel$War;") (by decide +kernel)) (fun _ h9 => h9) rfl dX13_readField_48 ?_
      refine lv_iload_n hx hb dX13_readField_51 rfl (lv_at hl 1 rfl) ?_
      refine va_putN (D := D) (ci := 12) (C := RX12) (T := TX12) (N := 18) (v := .int r_10) (ty := .int) hx hb hX12 (fun _ q => q) tyX12 tyX12_ok nmX12 hown hK hP hD hS 2 rfl rfl 0 (by decide) (va_Nw.use rfl (hKN.2.1.1 ("ElephantLineModel", 160, "ElephantLineModel$War", "lanes", "I", "ElephantLineModel") (List.mem_of_getElem? (i := 67) rfl))) (fun _ h9 => h9) rfl (tyX12_ok 0 (by decide)) rfl rfl (Nat.le_of_ble_eq_true rfl) dX13_readField_52 (fun H locs hP hD hS => ?_)
      refine lv_aload_n hx hb dX13_readField_55 rfl (lv_at hl 2 rfl) ?_
      refine va_get (D := D) (ci := 13) (C := RX13) (T := TX13) (N := 39) (v := .ref a_re) hx hb hX13 (fun _ q => q) hown hK hP 0 rfl rfl 4 (by decide) (hts (.fieldLink RX13 156 "ElephantLineModel" "read" "LElephantLineModel$War;") (by decide +kernel)) (fun _ h9 => h9) rfl dX13_readField_56 ?_
      refine lv_iload_n hx hb dX13_readField_59 rfl (lv_at hl 0 rfl) ?_
      refine va_putN (D := D) (ci := 12) (C := RX12) (T := TX12) (N := 18) (v := .int r_19) (ty := .int) hx hb hX12 (fun _ q => q) tyX12 tyX12_ok nmX12 hown hK hP hD hS 2 rfl rfl 1 (by decide) (va_Nw.use rfl (hKN.2.1.1 ("ElephantLineModel", 223, "ElephantLineModel$War", "deep", "I", "ElephantLineModel") (List.mem_of_getElem? (i := 68) rfl))) (fun _ h9 => h9) rfl (tyX12_ok 1 (by decide)) rfl rfl (Nat.le_of_ble_eq_true rfl) dX13_readField_60 (fun H locs hP hD hS => ?_)
      cases h
      exact W.vret hx hb hr (fun t ht _ => ⟨⟨(), rfl, trivial, by rw [ht]; exact hP, hD⟩, hS.F ht⟩) hS.2.2 dX13_readField_63
    · have h := ifT cd h
      cases h
      exact W.vret hx hb hr (fun t ht _ => ⟨⟨(), rfl, trivial, by rw [ht]; exact hP, hD⟩, hS.F ht⟩) hS.2.2 dX13_readField_46
  refine lv_if_le (tgt := 15) hx hb dX13_readField_7 (by decide) (fun cd => ?_) (fun cd => ?_)
  · have h := ifT cd h
    exact jn15 mo_sort mo_fault mo_wrongAt h _ _ hP hD hS _ (lv_sub hl [0] rfl)
  · have h := ifF cd h
    refine lv_aload_n hx hb dX13_readField_10 rfl (lv_at hl 0 rfl) ?_
    refine lv_iconst (v := 3) hx hb dX13_readField_11 (by decide) ?_
    obtain ⟨mo_sort_28, mo_fault_29, mo_wrongAt_30, hc_31, h⟩ := bd3_some h
    refine wVv [.int 3] [] ⟨hx, hb, hml, hown, hts⟩ (c_X13_flaw l D cy A ([(a_mo_tape, .inl (cy 0, 900, .inl mo_tape)), (a_re, .inr (12, [.int re_lanes, .int re_deep, .int re_told, .int re_beasts, .int re_cities, .int re_passes, .int re_turned, .int re_names, re_who, re_strong, re_kind, re_lane, re_mood, re_price, re_loses, re_name, re_nameSort, re_numberOf]))] ++ X) a_mo mo_thrown mo_trouble mo_where (mo_war) (.ref a_re) (.ref a_mo_tape) mo_taped mo_size mo_spot mo_sort mo_place mo_number mo_fault mo_wrongAt mo_laneTold mo_word (mo_v) (mo_x) (mo_past) (mo_kept) mo_acts mo_marks (mo_put) (mo_bestPut) mo_bestSum (mo_row) (mo_best) (mo_left) mo_bestSize mo_bestLeft (mo_counts) mo_sets mo_foeHarm mo_ownHarm mo_across mo_sumFoe mo_sumOwn mo_sumWon mo_sumAcross (3 : Int32) mo_sort_28 mo_fault_29 mo_wrongAt_30 hc_31) gX13_readField_X13_flaw rfl hd_X13_flaw ⟨Nat.le_of_ble_eq_true rfl, Nat.le_of_ble_eq_true rfl⟩ rfl rfl hKN (pX3 hP [0, 1, 2] rfl) (dX3 hD [0, 1, 2] rfl rfl) hS hA 13 0 rfl rfl rfl hl.1 rfl (Nat.le_of_ble_eq_true rfl) dX13_readField_12 ⟨Nat.le_of_ble_eq_true rfl, Nat.le_of_ble_eq_true rfl⟩ (fun H locs hP hD hS => ?_)
    have hP := pX4 (L1 := [(a_mo, .inr (13, [.int mo_thrown, .int mo_trouble, .int mo_where, mo_war, .ref a_re, .ref a_mo_tape, .int mo_taped, .int mo_size, .int mo_spot, .int mo_sort_28, .int mo_place, .int mo_number, .int mo_fault_29, .int mo_wrongAt_30, .int mo_laneTold, .long mo_word, mo_v, mo_x, mo_past, mo_kept, .int mo_acts, .int mo_marks, mo_put, mo_bestPut, .long mo_bestSum, mo_row, mo_best, mo_left, .int mo_bestSize, .int mo_bestLeft, mo_counts, .int mo_sets, .int mo_foeHarm, .int mo_ownHarm, .int mo_across, .int mo_sumFoe, .int mo_sumOwn, .int mo_sumWon, .int mo_sumAcross])), (a_mo_tape, .inl (cy 0, 900, .inl mo_tape)), (a_re, .inr (12, [.int re_lanes, .int re_deep, .int re_told, .int re_beasts, .int re_cities, .int re_passes, .int re_turned, .int re_names, re_who, re_strong, re_kind, re_lane, re_mood, re_price, re_loses, re_name, re_nameSort, re_numberOf]))]) hP [0, 1, 2] rfl
    have hD := dX4 (L1 := [(a_mo, .inr (13, [.int mo_thrown, .int mo_trouble, .int mo_where, mo_war, .ref a_re, .ref a_mo_tape, .int mo_taped, .int mo_size, .int mo_spot, .int mo_sort_28, .int mo_place, .int mo_number, .int mo_fault_29, .int mo_wrongAt_30, .int mo_laneTold, .long mo_word, mo_v, mo_x, mo_past, mo_kept, .int mo_acts, .int mo_marks, mo_put, mo_bestPut, .long mo_bestSum, mo_row, mo_best, mo_left, .int mo_bestSize, .int mo_bestLeft, mo_counts, .int mo_sets, .int mo_foeHarm, .int mo_ownHarm, .int mo_across, .int mo_sumFoe, .int mo_sumOwn, .int mo_sumWon, .int mo_sumAcross])), (a_mo_tape, .inl (cy 0, 900, .inl mo_tape)), (a_re, .inr (12, [.int re_lanes, .int re_deep, .int re_told, .int re_beasts, .int re_cities, .int re_passes, .int re_turned, .int re_names, re_who, re_strong, re_kind, re_lane, re_mood, re_price, re_loses, re_name, re_nameSort, re_numberOf]))]) hD [0, 1, 2] rfl rfl
    exact jn15 mo_sort_28 mo_fault_29 mo_wrongAt_30 h _ _ hP hD hS _ (lv_sub hl [0] rfl)
noncomputable def f_X13_readLane_B148 (mo_size : Int32) (mo_tape : Nat → Int32) (re_lanes : Int32) (x1 : Int32) (x2 : Int32) (t0 : Int32) (mo_spot : Int32) (mo_sort : Int32) (mo_place : Int32) (mo_number : Int32) (mo_fault : Int32) (mo_wrongAt : Int32) (mo_laneTold : Int32) (mo_word : Int64) (re_told : Int32) (re_who : Nat → Int32) (re_strong : Nat → Int32) : Option (Int32 × Int32 × Int32 × Int32 × Int32 × Int32 × Int32 × Int64 × Int32 × (Nat → Int32) × (Nat → Int32)) :=
  (if mo_sort = 5 then
  some (mo_spot, mo_sort, mo_place, mo_number, mo_fault, mo_wrongAt, mo_laneTold, mo_word, re_told, re_who, re_strong)
  else
  gIn x1 6 <|
  gIn x1 6 <|
  some (mo_spot, mo_sort, mo_place, mo_number, mo_fault, mo_wrongAt, mo_laneTold ||| ((1 : Int32) <<< (x1 &&& 31)), mo_word, re_told + 1, upd re_who x1.toNatClampNeg x2, upd re_strong x1.toNatClampNeg t0))
noncomputable def f_X13_readLane_B113 (mo_size : Int32) (mo_tape : Nat → Int32) (re_lanes : Int32) (x1 : Int32) (x2 : Int32) (mo_spot : Int32) (mo_sort : Int32) (mo_place : Int32) (mo_number : Int32) (mo_fault : Int32) (mo_wrongAt : Int32) (mo_laneTold : Int32) (mo_word : Int64) (re_told : Int32) (re_who : Nat → Int32) (re_strong : Nat → Int32) : Option (Int32 × Int32 × Int32 × Int32 × Int32 × Int32 × Int32 × Int64 × Int32 × (Nat → Int32) × (Nat → Int32)) :=
  bd5 (f_X13_goesOn mo_size mo_spot mo_sort mo_place mo_number mo_word mo_tape) fun mo_spot_32 mo_sort_33 mo_place_34 mo_number_35 mo_word_36 =>
  (if x2 = 2 then
  bd8 (f_X13_readWhole mo_size mo_spot_32 mo_sort_33 mo_place_34 mo_number_35 mo_fault mo_wrongAt mo_word_36 mo_tape (0 : Int32) (60 : Int32)) fun r_49 mo_spot_50 mo_sort_51 mo_place_52 mo_number_53 mo_fault_54 mo_wrongAt_55 mo_word_56 =>
  f_X13_readLane_B148 mo_size mo_tape re_lanes x1 x2 r_49 mo_spot_50 mo_sort_51 mo_place_52 mo_number_53 mo_fault_54 mo_wrongAt_55 mo_laneTold mo_word_56 re_told re_who re_strong
  else
  (if x2 = 3 then
  bd8 (f_X13_readWhole mo_size mo_spot_32 mo_sort_33 mo_place_34 mo_number_35 mo_fault mo_wrongAt mo_word_36 mo_tape (0 : Int32) (30 : Int32)) fun r_40 mo_spot_41 mo_sort_42 mo_place_43 mo_number_44 mo_fault_45 mo_wrongAt_46 mo_word_47 =>
  f_X13_readLane_B148 mo_size mo_tape re_lanes x1 x2 r_40 mo_spot_41 mo_sort_42 mo_place_43 mo_number_44 mo_fault_45 mo_wrongAt_46 mo_laneTold mo_word_47 re_told re_who re_strong
  else
  f_X13_readLane_B148 mo_size mo_tape re_lanes x1 x2 0 mo_spot_32 mo_sort_33 mo_place_34 mo_number_35 mo_fault mo_wrongAt mo_laneTold mo_word_36 re_told re_who re_strong))
noncomputable def f_X13_readLane_B102 (mo_size : Int32) (mo_tape : Nat → Int32) (re_lanes : Int32) (x1 : Int32) (t0 : Int32) (mo_spot : Int32) (mo_sort : Int32) (mo_place : Int32) (mo_number : Int32) (mo_fault : Int32) (mo_wrongAt : Int32) (mo_laneTold : Int32) (mo_word : Int64) (re_told : Int32) (re_who : Nat → Int32) (re_strong : Nat → Int32) : Option (Int32 × Int32 × Int32 × Int32 × Int32 × Int32 × Int32 × Int64 × Int32 × (Nat → Int32) × (Nat → Int32)) :=
  (if t0 = (-1) then
  bd3 (f_X13_flaw mo_sort mo_place mo_fault mo_wrongAt (1 : Int32)) fun mo_sort_58 mo_fault_59 mo_wrongAt_60 =>
  f_X13_readLane_B113 mo_size mo_tape re_lanes x1 t0 mo_spot mo_sort_58 mo_place mo_number mo_fault_59 mo_wrongAt_60 mo_laneTold mo_word re_told re_who re_strong
  else
  f_X13_readLane_B113 mo_size mo_tape re_lanes x1 t0 mo_spot mo_sort mo_place mo_number mo_fault mo_wrongAt mo_laneTold mo_word re_told re_who re_strong)
noncomputable def f_X13_readLane_B45 (mo_size : Int32) (mo_tape : Nat → Int32) (re_lanes : Int32) (x1 : Int32) (mo_spot : Int32) (mo_sort : Int32) (mo_place : Int32) (mo_number : Int32) (mo_fault : Int32) (mo_wrongAt : Int32) (mo_laneTold : Int32) (mo_word : Int64) (re_told : Int32) (re_who : Nat → Int32) (re_strong : Nat → Int32) : Option (Int32 × Int32 × Int32 × Int32 × Int32 × Int32 × Int32 × Int64 × Int32 × (Nat → Int32) × (Nat → Int32)) :=
  bd5 (f_X13_goesOn mo_size mo_spot mo_sort mo_place mo_number mo_word mo_tape) fun mo_spot_14 mo_sort_15 mo_place_16 mo_number_17 mo_word_18 =>
  bd1 (f_X13_isWord mo_sort_15 mo_word_18 9) fun r_20 =>
  (if r_20 = 0 then
  bd1 (f_X13_isWord mo_sort_15 mo_word_18 10) fun r_23 =>
  (if r_23 = 0 then
  bd1 (f_X13_isWord mo_sort_15 mo_word_18 11) fun r_26 =>
  (if r_26 = 0 then
  bd1 (f_X13_isWord mo_sort_15 mo_word_18 12) fun r_29 =>
  (if r_29 = 0 then
  f_X13_readLane_B102 mo_size mo_tape re_lanes x1 (-1) mo_spot_14 mo_sort_15 mo_place_16 mo_number_17 mo_fault mo_wrongAt mo_laneTold mo_word_18 re_told re_who re_strong
  else
  f_X13_readLane_B102 mo_size mo_tape re_lanes x1 3 mo_spot_14 mo_sort_15 mo_place_16 mo_number_17 mo_fault mo_wrongAt mo_laneTold mo_word_18 re_told re_who re_strong)
  else
  f_X13_readLane_B102 mo_size mo_tape re_lanes x1 2 mo_spot_14 mo_sort_15 mo_place_16 mo_number_17 mo_fault mo_wrongAt mo_laneTold mo_word_18 re_told re_who re_strong)
  else
  f_X13_readLane_B102 mo_size mo_tape re_lanes x1 1 mo_spot_14 mo_sort_15 mo_place_16 mo_number_17 mo_fault mo_wrongAt mo_laneTold mo_word_18 re_told re_who re_strong)
  else
  f_X13_readLane_B102 mo_size mo_tape re_lanes x1 0 mo_spot_14 mo_sort_15 mo_place_16 mo_number_17 mo_fault mo_wrongAt mo_laneTold mo_word_18 re_told re_who re_strong)
noncomputable def f_X13_readLane (mo_size : Int32) (mo_spot : Int32) (mo_sort : Int32) (mo_place : Int32) (mo_number : Int32) (mo_fault : Int32) (mo_wrongAt : Int32) (mo_laneTold : Int32) (mo_word : Int64) (mo_tape : Nat → Int32) (re_lanes : Int32) (re_told : Int32) (re_who : Nat → Int32) (re_strong : Nat → Int32) : Option (Int32 × Int32 × Int32 × Int32 × Int32 × Int32 × Int32 × Int64 × Int32 × (Nat → Int32) × (Nat → Int32)) :=
  bd7 (f_X13_lineBegins mo_size mo_spot mo_sort mo_place mo_number mo_fault mo_wrongAt mo_word mo_tape re_lanes (0 : Int32) (1 : Int32)) fun mo_spot_1 mo_sort_2 mo_place_3 mo_number_4 mo_fault_5 mo_wrongAt_6 mo_word_7 =>
  bd4 (f_X13_bounded mo_sort_2 mo_place_3 mo_number_4 mo_fault_5 mo_wrongAt_6 (0 : Int32) (re_lanes - 1)) fun r_9 mo_sort_10 mo_fault_11 mo_wrongAt_12 =>
  (if mo_sort_10 = 5 then
  f_X13_readLane_B45 mo_size mo_tape re_lanes r_9 mo_spot_1 mo_sort_10 mo_place_3 mo_number_4 mo_fault_11 mo_wrongAt_12 mo_laneTold mo_word_7 re_told re_who re_strong
  else
  bd1 (f_X13_bit  mo_laneTold r_9) fun r_62 =>
  (if r_62 = 0 then
  f_X13_readLane_B45 mo_size mo_tape re_lanes r_9 mo_spot_1 mo_sort_10 mo_place_3 mo_number_4 mo_fault_11 mo_wrongAt_12 mo_laneTold mo_word_7 re_told re_who re_strong
  else
  bd3 (f_X13_flaw mo_sort_10 mo_place_3 mo_fault_11 mo_wrongAt_12 (3 : Int32)) fun mo_sort_65 mo_fault_66 mo_wrongAt_67 =>
  f_X13_readLane_B45 mo_size mo_tape re_lanes r_9 mo_spot_1 mo_sort_65 mo_place_3 mo_number_4 mo_fault_66 mo_wrongAt_67 mo_laneTold mo_word_7 re_told re_who re_strong))
theorem hd_X13_readLane : yX13_readLane.cls = RX13 ∧ yX13_readLane.cls ≠ "java/lang/invoke/MethodHandle" ∧ yX13_readLane.cls ≠ "java/lang/invoke/VarHandle" ∧ (parseMethodDescriptor yX13_readLane.desc).map (fun d => d.parameters.length) = some 0 := by decide +kernel
set_option maxHeartbeats 4000000 in
set_option maxRecDepth 100000 in
theorem c_X13_readLane (l : Launch) (D : va_G) (cy : Nat → ClassId) (sa sv : Nat → Nat) (A : Nat → Prop) (X : va_W) (a_mo a_mo_tape a_re a_re_who a_re_strong : Nat) (mo_thrown : Int32) (mo_trouble : Int32) (mo_where : Int32) (mo_war : Value) (mo_taped : Int32) (mo_size : Int32) (mo_spot : Int32) (mo_sort : Int32) (mo_place : Int32) (mo_number : Int32) (mo_fault : Int32) (mo_wrongAt : Int32) (mo_laneTold : Int32) (mo_word : Int64) (mo_v : Value) (mo_x : Value) (mo_past : Value) (mo_kept : Value) (mo_acts : Int32) (mo_marks : Int32) (mo_put : Value) (mo_bestPut : Value) (mo_bestSum : Int64) (mo_row : Value) (mo_best : Value) (mo_left : Value) (mo_bestSize : Int32) (mo_bestLeft : Int32) (mo_counts : Value) (mo_sets : Int32) (mo_foeHarm : Int32) (mo_ownHarm : Int32) (mo_across : Int32) (mo_sumFoe : Int32) (mo_sumOwn : Int32) (mo_sumWon : Int32) (mo_sumAcross : Int32) (mo_tape : Nat → Int32) (re_lanes : Int32) (re_deep : Int32) (re_told : Int32) (re_beasts : Int32) (re_cities : Int32) (re_passes : Int32) (re_turned : Int32) (re_names : Int32) (re_kind : Value) (re_lane : Value) (re_mood : Value) (re_price : Value) (re_loses : Value) (re_name : Value) (re_nameSort : Value) (re_numberOf : Value) (re_who : Nat → Int32) (re_strong : Nat → Int32) (mo_spot' : Int32) (mo_sort' : Int32) (mo_place' : Int32) (mo_number' : Int32) (mo_fault' : Int32) (mo_wrongAt' : Int32) (mo_laneTold' : Int32) (mo_word' : Int64) (re_told' : Int32) (re_who' : Nat → Int32) (re_strong' : Nat → Int32) (h : f_X13_readLane mo_size mo_spot mo_sort mo_place mo_number mo_fault mo_wrongAt mo_laneTold mo_word mo_tape re_lanes re_told re_who re_strong = some (mo_spot', mo_sort', mo_place', mo_number', mo_fault', mo_wrongAt', mo_laneTold', mo_word', re_told', re_who', re_strong')) : Met l yX13_readLane wo_X13_readLane ({ frames := 6, cells := 0, slots := 0, locals := 135 }) (wrPcS D cy sa sv A [.ref a_mo] ([(a_mo, .inr (13, [.int mo_thrown, .int mo_trouble, .int mo_where, mo_war, .ref a_re, .ref a_mo_tape, .int mo_taped, .int mo_size, .int mo_spot, .int mo_sort, .int mo_place, .int mo_number, .int mo_fault, .int mo_wrongAt, .int mo_laneTold, .long mo_word, mo_v, mo_x, mo_past, mo_kept, .int mo_acts, .int mo_marks, mo_put, mo_bestPut, .long mo_bestSum, mo_row, mo_best, mo_left, .int mo_bestSize, .int mo_bestLeft, mo_counts, .int mo_sets, .int mo_foeHarm, .int mo_ownHarm, .int mo_across, .int mo_sumFoe, .int mo_sumOwn, .int mo_sumWon, .int mo_sumAcross])), (a_mo_tape, .inl (cy 0, 900, .inl mo_tape)), (a_re, .inr (12, [.int re_lanes, .int re_deep, .int re_told, .int re_beasts, .int re_cities, .int re_passes, .int re_turned, .int re_names, .ref a_re_who, .ref a_re_strong, re_kind, re_lane, re_mood, re_price, re_loses, re_name, re_nameSort, re_numberOf])), (a_re_who, .inl (cy 1, 6, .inl re_who)), (a_re_strong, .inl (cy 1, 6, .inl re_strong))] ++ X)) (va_Qv (fun (_ : Unit) => True) (wB D A ([(a_mo, .inr (13, [.int mo_thrown, .int mo_trouble, .int mo_where, mo_war, .ref a_re, .ref a_mo_tape, .int mo_taped, .int mo_size, .int mo_spot', .int mo_sort', .int mo_place', .int mo_number', .int mo_fault', .int mo_wrongAt', .int mo_laneTold', .long mo_word', mo_v, mo_x, mo_past, mo_kept, .int mo_acts, .int mo_marks, mo_put, mo_bestPut, .long mo_bestSum, mo_row, mo_best, mo_left, .int mo_bestSize, .int mo_bestLeft, mo_counts, .int mo_sets, .int mo_foeHarm, .int mo_ownHarm, .int mo_across, .int mo_sumFoe, .int mo_sumOwn, .int mo_sumWon, .int mo_sumAcross])), (a_mo_tape, .inl (cy 0, 900, .inl mo_tape)), (a_re, .inr (12, [.int re_lanes, .int re_deep, .int re_told', .int re_beasts, .int re_cities, .int re_passes, .int re_turned, .int re_names, .ref a_re_who, .ref a_re_strong, re_kind, re_lane, re_mood, re_price, re_loses, re_name, re_nameSort, re_numberOf])), (a_re_who, .inl (cy 1, 6, .inl re_who')), (a_re_strong, .inl (cy 1, 6, .inl re_strong'))] ++ X)) A) 0 0 A := by
  refine Met.ofW (cc := cX13_readLane) (maxL := 4) (ret := none) (by decide) rfl ?_
  intro p e s m args below meth c s₁ B hml hv
  obtain ⟨rfl, hP, hKN, hD, hA, hSS⟩ := hv
  have hK := hKN.1
  have hx := B.exec
  have hb := B.bytes
  have hr := B.returns
  have hts := wt_X13_readLane hKN.2.2 (([.ref a_mo] : List Value).toArray)
  have hown : s.vm.findClass RX13 = some m.cls := findClass_of_methodNamed B.named
  have hlocks := B.notSynchronized
  have hS : va_S A s.heap s.heap [] := va_S.rf
  have hX12 := wc_X12 hKN.2.2 (([.ref a_mo] : List Value).toArray)
  have hX13 := wc_X13 hKN.2.2 (([.ref a_mo] : List Value).toArray)
  have hl := lv_entry ([.ref a_mo]) (n := 4) (Nat.le_of_ble_eq_true rfl)
  rw [lg_entry_eq]
  generalize (lg_sl ([.ref a_mo]) ++ List.replicate (4 - (lg_sl ([.ref a_mo])).length) Slot.unset).toArray = ls at hl ⊢
  have hl : lv_has ls 4 [(0, .ref a_mo)] := hl
  unfold f_X13_readLane at h
  refine lv_aload_n hx hb dX13_readLane_0 rfl (lv_at hl 0 rfl) ?_
  refine lv_iconst (v := 0) hx hb dX13_readLane_1 (by decide) ?_
  refine lv_iconst (v := 1) hx hb dX13_readLane_2 (by decide) ?_
  obtain ⟨mo_spot_1, mo_sort_2, mo_place_3, mo_number_4, mo_fault_5, mo_wrongAt_6, mo_word_7, hc_8, h⟩ := bd7_some h
  refine wVv [.int 0, .int 1] [] ⟨hx, hb, hml, hown, hts⟩ (c_X13_lineBegins l D cy A ([(a_re_who, .inl (cy 1, 6, .inl re_who)), (a_re_strong, .inl (cy 1, 6, .inl re_strong))] ++ X) a_mo a_mo_tape a_re mo_thrown mo_trouble mo_where (mo_war) mo_taped mo_size mo_spot mo_sort mo_place mo_number mo_fault mo_wrongAt mo_laneTold mo_word (mo_v) (mo_x) (mo_past) (mo_kept) mo_acts mo_marks (mo_put) (mo_bestPut) mo_bestSum (mo_row) (mo_best) (mo_left) mo_bestSize mo_bestLeft (mo_counts) mo_sets mo_foeHarm mo_ownHarm mo_across mo_sumFoe mo_sumOwn mo_sumWon mo_sumAcross mo_tape re_lanes re_deep re_told re_beasts re_cities re_passes re_turned re_names (.ref a_re_who) (.ref a_re_strong) (re_kind) (re_lane) (re_mood) (re_price) (re_loses) (re_name) (re_nameSort) (re_numberOf) (0 : Int32) (1 : Int32) mo_spot_1 mo_sort_2 mo_place_3 mo_number_4 mo_fault_5 mo_wrongAt_6 mo_word_7 hc_8) gX13_readLane_X13_lineBegins rfl hd_X13_lineBegins ⟨Nat.le_of_ble_eq_true rfl, Nat.le_of_ble_eq_true rfl⟩ rfl rfl hKN (pX3 hP [0, 1, 2, 3, 4] rfl) (dX3 hD [0, 1, 2, 3, 4] rfl rfl) hS hA 13 0 rfl rfl rfl hl.1 rfl (Nat.le_of_ble_eq_true rfl) dX13_readLane_3 ⟨Nat.le_of_ble_eq_true rfl, Nat.le_of_ble_eq_true rfl⟩ (fun H locs hP hD hS => ?_)
  have hP := pX4 (L1 := [(a_mo, .inr (13, [.int mo_thrown, .int mo_trouble, .int mo_where, mo_war, .ref a_re, .ref a_mo_tape, .int mo_taped, .int mo_size, .int mo_spot_1, .int mo_sort_2, .int mo_place_3, .int mo_number_4, .int mo_fault_5, .int mo_wrongAt_6, .int mo_laneTold, .long mo_word_7, mo_v, mo_x, mo_past, mo_kept, .int mo_acts, .int mo_marks, mo_put, mo_bestPut, .long mo_bestSum, mo_row, mo_best, mo_left, .int mo_bestSize, .int mo_bestLeft, mo_counts, .int mo_sets, .int mo_foeHarm, .int mo_ownHarm, .int mo_across, .int mo_sumFoe, .int mo_sumOwn, .int mo_sumWon, .int mo_sumAcross])), (a_mo_tape, .inl (cy 0, 900, .inl mo_tape)), (a_re, .inr (12, [.int re_lanes, .int re_deep, .int re_told, .int re_beasts, .int re_cities, .int re_passes, .int re_turned, .int re_names, .ref a_re_who, .ref a_re_strong, re_kind, re_lane, re_mood, re_price, re_loses, re_name, re_nameSort, re_numberOf])), (a_re_who, .inl (cy 1, 6, .inl re_who)), (a_re_strong, .inl (cy 1, 6, .inl re_strong))]) hP [0, 1, 2, 3, 4] rfl
  have hD := dX4 (L1 := [(a_mo, .inr (13, [.int mo_thrown, .int mo_trouble, .int mo_where, mo_war, .ref a_re, .ref a_mo_tape, .int mo_taped, .int mo_size, .int mo_spot_1, .int mo_sort_2, .int mo_place_3, .int mo_number_4, .int mo_fault_5, .int mo_wrongAt_6, .int mo_laneTold, .long mo_word_7, mo_v, mo_x, mo_past, mo_kept, .int mo_acts, .int mo_marks, mo_put, mo_bestPut, .long mo_bestSum, mo_row, mo_best, mo_left, .int mo_bestSize, .int mo_bestLeft, mo_counts, .int mo_sets, .int mo_foeHarm, .int mo_ownHarm, .int mo_across, .int mo_sumFoe, .int mo_sumOwn, .int mo_sumWon, .int mo_sumAcross])), (a_mo_tape, .inl (cy 0, 900, .inl mo_tape)), (a_re, .inr (12, [.int re_lanes, .int re_deep, .int re_told, .int re_beasts, .int re_cities, .int re_passes, .int re_turned, .int re_names, .ref a_re_who, .ref a_re_strong, re_kind, re_lane, re_mood, re_price, re_loses, re_name, re_nameSort, re_numberOf])), (a_re_who, .inl (cy 1, 6, .inl re_who)), (a_re_strong, .inl (cy 1, 6, .inl re_strong))]) hD [0, 1, 2, 3, 4] rfl rfl
  refine lv_aload_n hx hb dX13_readLane_6 rfl (lv_at hl 0 rfl) ?_
  refine lv_iconst (v := 0) hx hb dX13_readLane_7 (by decide) ?_
  refine lv_aload_n hx hb dX13_readLane_8 rfl (lv_at hl 0 rfl) ?_
  refine va_get (D := D) (ci := 13) (C := RX13) (T := TX13) (N := 39) (v := .ref a_re) hx hb hX13 (fun _ q => q) hown hK hP 0 rfl rfl 4 (by decide) (hts (.fieldLink RX13 156 "ElephantLineModel" "read" "LElephantLineModel$War;") (by decide +kernel)) (fun _ h9 => h9) rfl dX13_readLane_9 ?_
  refine va_getN (D := D) (ci := 12) (C := RX12) (T := TX12) (N := 18) (v := .int re_lanes) hx hb hX12 (fun _ q => q) hown hK hP 2 rfl rfl 0 (by decide) (va_Nw.use rfl (hKN.2.1.1 ("ElephantLineModel", 160, "ElephantLineModel$War", "lanes", "I", "ElephantLineModel") (List.mem_of_getElem? (i := 67) rfl))) (fun _ h9 => h9) rfl dX13_readLane_12 ?_
  refine lv_iconst (v := 1) hx hb dX13_readLane_15 (by decide) ?_
  refine lv_isub hx hb dX13_readLane_16 ?_
  obtain ⟨r_9, mo_sort_10, mo_fault_11, mo_wrongAt_12, hc_13, h⟩ := bd4_some h
  refine wVi [.int 0, .int (re_lanes - 1)] [] ⟨hx, hb, hml, hown, hts⟩ (c_X13_bounded l D cy A ([(a_mo_tape, .inl (cy 0, 900, .inl mo_tape)), (a_re, .inr (12, [.int re_lanes, .int re_deep, .int re_told, .int re_beasts, .int re_cities, .int re_passes, .int re_turned, .int re_names, .ref a_re_who, .ref a_re_strong, re_kind, re_lane, re_mood, re_price, re_loses, re_name, re_nameSort, re_numberOf])), (a_re_who, .inl (cy 1, 6, .inl re_who)), (a_re_strong, .inl (cy 1, 6, .inl re_strong))] ++ X) a_mo mo_thrown mo_trouble mo_where (mo_war) (.ref a_re) (.ref a_mo_tape) mo_taped mo_size mo_spot_1 mo_sort_2 mo_place_3 mo_number_4 mo_fault_5 mo_wrongAt_6 mo_laneTold mo_word_7 (mo_v) (mo_x) (mo_past) (mo_kept) mo_acts mo_marks (mo_put) (mo_bestPut) mo_bestSum (mo_row) (mo_best) (mo_left) mo_bestSize mo_bestLeft (mo_counts) mo_sets mo_foeHarm mo_ownHarm mo_across mo_sumFoe mo_sumOwn mo_sumWon mo_sumAcross (0 : Int32) (re_lanes - 1) r_9 mo_sort_10 mo_fault_11 mo_wrongAt_12 hc_13) gX13_readLane_X13_bounded rfl hd_X13_bounded ⟨Nat.le_of_ble_eq_true rfl, Nat.le_of_ble_eq_true rfl⟩ rfl rfl hKN (pX3 hP [0, 1, 2, 3, 4] rfl) (dX3 hD [0, 1, 2, 3, 4] rfl rfl) hS hA 13 0 rfl rfl rfl hl.1 rfl (Nat.le_of_ble_eq_true rfl) dX13_readLane_17 ⟨Nat.le_of_ble_eq_true rfl, Nat.le_of_ble_eq_true rfl⟩ (fun H locs hP hD hS => ?_)
  have hP := pX4 (L1 := [(a_mo, .inr (13, [.int mo_thrown, .int mo_trouble, .int mo_where, mo_war, .ref a_re, .ref a_mo_tape, .int mo_taped, .int mo_size, .int mo_spot_1, .int mo_sort_10, .int mo_place_3, .int mo_number_4, .int mo_fault_11, .int mo_wrongAt_12, .int mo_laneTold, .long mo_word_7, mo_v, mo_x, mo_past, mo_kept, .int mo_acts, .int mo_marks, mo_put, mo_bestPut, .long mo_bestSum, mo_row, mo_best, mo_left, .int mo_bestSize, .int mo_bestLeft, mo_counts, .int mo_sets, .int mo_foeHarm, .int mo_ownHarm, .int mo_across, .int mo_sumFoe, .int mo_sumOwn, .int mo_sumWon, .int mo_sumAcross])), (a_mo_tape, .inl (cy 0, 900, .inl mo_tape)), (a_re, .inr (12, [.int re_lanes, .int re_deep, .int re_told, .int re_beasts, .int re_cities, .int re_passes, .int re_turned, .int re_names, .ref a_re_who, .ref a_re_strong, re_kind, re_lane, re_mood, re_price, re_loses, re_name, re_nameSort, re_numberOf])), (a_re_who, .inl (cy 1, 6, .inl re_who)), (a_re_strong, .inl (cy 1, 6, .inl re_strong))]) hP [0, 1, 2, 3, 4] rfl
  have hD := dX4 (L1 := [(a_mo, .inr (13, [.int mo_thrown, .int mo_trouble, .int mo_where, mo_war, .ref a_re, .ref a_mo_tape, .int mo_taped, .int mo_size, .int mo_spot_1, .int mo_sort_10, .int mo_place_3, .int mo_number_4, .int mo_fault_11, .int mo_wrongAt_12, .int mo_laneTold, .long mo_word_7, mo_v, mo_x, mo_past, mo_kept, .int mo_acts, .int mo_marks, mo_put, mo_bestPut, .long mo_bestSum, mo_row, mo_best, mo_left, .int mo_bestSize, .int mo_bestLeft, mo_counts, .int mo_sets, .int mo_foeHarm, .int mo_ownHarm, .int mo_across, .int mo_sumFoe, .int mo_sumOwn, .int mo_sumWon, .int mo_sumAcross])), (a_mo_tape, .inl (cy 0, 900, .inl mo_tape)), (a_re, .inr (12, [.int re_lanes, .int re_deep, .int re_told, .int re_beasts, .int re_cities, .int re_passes, .int re_turned, .int re_names, .ref a_re_who, .ref a_re_strong, re_kind, re_lane, re_mood, re_price, re_loses, re_name, re_nameSort, re_numberOf])), (a_re_who, .inl (cy 1, 6, .inl re_who)), (a_re_strong, .inl (cy 1, 6, .inl re_strong))]) hD [0, 1, 2, 3, 4] rfl rfl
  refine lv_istore_n (lv' := [(1, .int r_9), (0, .ref a_mo)]) hx hb dX13_readLane_20 rfl hl (by decide) rfl (fun ls hl => ?_)
  refine lv_aload_n hx hb dX13_readLane_21 rfl (lv_at hl 1 rfl) ?_
  refine va_get (D := D) (ci := 13) (C := RX13) (T := TX13) (N := 39) (v := .int mo_sort_10) hx hb hX13 (fun _ q => q) hown hK hP 0 rfl rfl 9 (by decide) (hts (.fieldLink RX13 82 "ElephantLineModel" "sort" "I") (by decide +kernel)) (fun _ h9 => h9) rfl dX13_readLane_22 ?_
  refine lv_iconst (v := 5) hx hb dX13_readLane_25 (by decide) ?_
  have jn45 : ∀ (mo_sort_14 : Int32) (mo_fault_15 : Int32) (mo_wrongAt_16 : Int32), f_X13_readLane_B45 mo_size mo_tape re_lanes r_9 mo_spot_1 mo_sort_14 mo_place_3 mo_number_4 mo_fault_15 mo_wrongAt_16 mo_laneTold mo_word_7 re_told re_who re_strong = some (mo_spot', mo_sort', mo_place', mo_number', mo_fault', mo_wrongAt', mo_laneTold', mo_word', re_told', re_who', re_strong') → ∀ (H : Heap) (locs : List Loc), va_P D vwCl ([(a_mo, .inr (13, [.int mo_thrown, .int mo_trouble, .int mo_where, mo_war, .ref a_re, .ref a_mo_tape, .int mo_taped, .int mo_size, .int mo_spot_1, .int mo_sort_14, .int mo_place_3, .int mo_number_4, .int mo_fault_15, .int mo_wrongAt_16, .int mo_laneTold, .long mo_word_7, mo_v, mo_x, mo_past, mo_kept, .int mo_acts, .int mo_marks, mo_put, mo_bestPut, .long mo_bestSum, mo_row, mo_best, mo_left, .int mo_bestSize, .int mo_bestLeft, mo_counts, .int mo_sets, .int mo_foeHarm, .int mo_ownHarm, .int mo_across, .int mo_sumFoe, .int mo_sumOwn, .int mo_sumWon, .int mo_sumAcross])), (a_mo_tape, .inl (cy 0, 900, .inl mo_tape)), (a_re, .inr (12, [.int re_lanes, .int re_deep, .int re_told, .int re_beasts, .int re_cities, .int re_passes, .int re_turned, .int re_names, .ref a_re_who, .ref a_re_strong, re_kind, re_lane, re_mood, re_price, re_loses, re_name, re_nameSort, re_numberOf])), (a_re_who, .inl (cy 1, 6, .inl re_who)), (a_re_strong, .inl (cy 1, 6, .inl re_strong))] ++ X) H → va_D A ([(a_mo, .inr (13, [.int mo_thrown, .int mo_trouble, .int mo_where, mo_war, .ref a_re, .ref a_mo_tape, .int mo_taped, .int mo_size, .int mo_spot_1, .int mo_sort_14, .int mo_place_3, .int mo_number_4, .int mo_fault_15, .int mo_wrongAt_16, .int mo_laneTold, .long mo_word_7, mo_v, mo_x, mo_past, mo_kept, .int mo_acts, .int mo_marks, mo_put, mo_bestPut, .long mo_bestSum, mo_row, mo_best, mo_left, .int mo_bestSize, .int mo_bestLeft, mo_counts, .int mo_sets, .int mo_foeHarm, .int mo_ownHarm, .int mo_across, .int mo_sumFoe, .int mo_sumOwn, .int mo_sumWon, .int mo_sumAcross])), (a_mo_tape, .inl (cy 0, 900, .inl mo_tape)), (a_re, .inr (12, [.int re_lanes, .int re_deep, .int re_told, .int re_beasts, .int re_cities, .int re_passes, .int re_turned, .int re_names, .ref a_re_who, .ref a_re_strong, re_kind, re_lane, re_mood, re_price, re_loses, re_name, re_nameSort, re_numberOf])), (a_re_who, .inl (cy 1, 6, .inl re_who)), (a_re_strong, .inl (cy 1, 6, .inl re_strong))] ++ X) → va_S A s.heap H locs → ∀ ls : Array Slot, lv_has ls 4 [(0, .ref a_mo), (1, .int r_9)] → W p l e (headSpec wo_X13_readLane ({ frames := 6, cells := 0, slots := 0, locals := 135 })).room s m (([.ref a_mo] : List Value).toArray) below meth c H locs 0 0 (MQ below (va_Qv (fun (_ : Unit) => True) (wB D A ([(a_mo, .inr (13, [.int mo_thrown, .int mo_trouble, .int mo_where, mo_war, .ref a_re, .ref a_mo_tape, .int mo_taped, .int mo_size, .int mo_spot', .int mo_sort', .int mo_place', .int mo_number', .int mo_fault', .int mo_wrongAt', .int mo_laneTold', .long mo_word', mo_v, mo_x, mo_past, mo_kept, .int mo_acts, .int mo_marks, mo_put, mo_bestPut, .long mo_bestSum, mo_row, mo_best, mo_left, .int mo_bestSize, .int mo_bestLeft, mo_counts, .int mo_sets, .int mo_foeHarm, .int mo_ownHarm, .int mo_across, .int mo_sumFoe, .int mo_sumOwn, .int mo_sumWon, .int mo_sumAcross])), (a_mo_tape, .inl (cy 0, 900, .inl mo_tape)), (a_re, .inr (12, [.int re_lanes, .int re_deep, .int re_told', .int re_beasts, .int re_cities, .int re_passes, .int re_turned, .int re_names, .ref a_re_who, .ref a_re_strong, re_kind, re_lane, re_mood, re_price, re_loses, re_name, re_nameSort, re_numberOf])), (a_re_who, .inl (cy 1, 6, .inl re_who')), (a_re_strong, .inl (cy 1, 6, .inl re_strong'))] ++ X)) A) (([.ref a_mo] : List Value).toArray) s 0 0 A) (F0 m 45 ls []) := by
    intro mo_sort_14 mo_fault_15 mo_wrongAt_16 h H locs hP hD hS ls hl
    unfold f_X13_readLane_B45 at h
    refine lv_aload_n hx hb dX13_readLane_45 rfl (lv_at hl 0 rfl) ?_
    obtain ⟨mo_spot_17, mo_sort_18, mo_place_19, mo_number_20, mo_word_21, hc_22, h⟩ := bd5_some h
    refine wVv [] [] ⟨hx, hb, hml, hown, hts⟩ (c_X13_goesOn l D cy A ([(a_re, .inr (12, [.int re_lanes, .int re_deep, .int re_told, .int re_beasts, .int re_cities, .int re_passes, .int re_turned, .int re_names, .ref a_re_who, .ref a_re_strong, re_kind, re_lane, re_mood, re_price, re_loses, re_name, re_nameSort, re_numberOf])), (a_re_who, .inl (cy 1, 6, .inl re_who)), (a_re_strong, .inl (cy 1, 6, .inl re_strong))] ++ X) a_mo a_mo_tape mo_thrown mo_trouble mo_where (mo_war) (.ref a_re) mo_taped mo_size mo_spot_1 mo_sort_14 mo_place_3 mo_number_4 mo_fault_15 mo_wrongAt_16 mo_laneTold mo_word_7 (mo_v) (mo_x) (mo_past) (mo_kept) mo_acts mo_marks (mo_put) (mo_bestPut) mo_bestSum (mo_row) (mo_best) (mo_left) mo_bestSize mo_bestLeft (mo_counts) mo_sets mo_foeHarm mo_ownHarm mo_across mo_sumFoe mo_sumOwn mo_sumWon mo_sumAcross mo_tape mo_spot_17 mo_sort_18 mo_place_19 mo_number_20 mo_word_21 hc_22) gX13_readLane_X13_goesOn rfl hd_X13_goesOn ⟨Nat.le_of_ble_eq_true rfl, Nat.le_of_ble_eq_true rfl⟩ rfl rfl hKN (pX3 hP [0, 1, 2, 3, 4] rfl) (dX3 hD [0, 1, 2, 3, 4] rfl rfl) hS hA 13 0 rfl rfl rfl hl.1 rfl (Nat.le_of_ble_eq_true rfl) dX13_readLane_46 ⟨Nat.le_of_ble_eq_true rfl, Nat.le_of_ble_eq_true rfl⟩ (fun H locs hP hD hS => ?_)
    have hP := pX4 (L1 := [(a_mo, .inr (13, [.int mo_thrown, .int mo_trouble, .int mo_where, mo_war, .ref a_re, .ref a_mo_tape, .int mo_taped, .int mo_size, .int mo_spot_17, .int mo_sort_18, .int mo_place_19, .int mo_number_20, .int mo_fault_15, .int mo_wrongAt_16, .int mo_laneTold, .long mo_word_21, mo_v, mo_x, mo_past, mo_kept, .int mo_acts, .int mo_marks, mo_put, mo_bestPut, .long mo_bestSum, mo_row, mo_best, mo_left, .int mo_bestSize, .int mo_bestLeft, mo_counts, .int mo_sets, .int mo_foeHarm, .int mo_ownHarm, .int mo_across, .int mo_sumFoe, .int mo_sumOwn, .int mo_sumWon, .int mo_sumAcross])), (a_mo_tape, .inl (cy 0, 900, .inl mo_tape)), (a_re, .inr (12, [.int re_lanes, .int re_deep, .int re_told, .int re_beasts, .int re_cities, .int re_passes, .int re_turned, .int re_names, .ref a_re_who, .ref a_re_strong, re_kind, re_lane, re_mood, re_price, re_loses, re_name, re_nameSort, re_numberOf])), (a_re_who, .inl (cy 1, 6, .inl re_who)), (a_re_strong, .inl (cy 1, 6, .inl re_strong))]) hP [0, 1, 2, 3, 4] rfl
    have hD := dX4 (L1 := [(a_mo, .inr (13, [.int mo_thrown, .int mo_trouble, .int mo_where, mo_war, .ref a_re, .ref a_mo_tape, .int mo_taped, .int mo_size, .int mo_spot_17, .int mo_sort_18, .int mo_place_19, .int mo_number_20, .int mo_fault_15, .int mo_wrongAt_16, .int mo_laneTold, .long mo_word_21, mo_v, mo_x, mo_past, mo_kept, .int mo_acts, .int mo_marks, mo_put, mo_bestPut, .long mo_bestSum, mo_row, mo_best, mo_left, .int mo_bestSize, .int mo_bestLeft, mo_counts, .int mo_sets, .int mo_foeHarm, .int mo_ownHarm, .int mo_across, .int mo_sumFoe, .int mo_sumOwn, .int mo_sumWon, .int mo_sumAcross])), (a_mo_tape, .inl (cy 0, 900, .inl mo_tape)), (a_re, .inr (12, [.int re_lanes, .int re_deep, .int re_told, .int re_beasts, .int re_cities, .int re_passes, .int re_turned, .int re_names, .ref a_re_who, .ref a_re_strong, re_kind, re_lane, re_mood, re_price, re_loses, re_name, re_nameSort, re_numberOf])), (a_re_who, .inl (cy 1, 6, .inl re_who)), (a_re_strong, .inl (cy 1, 6, .inl re_strong))]) hD [0, 1, 2, 3, 4] rfl rfl
    refine lv_aload_n hx hb dX13_readLane_49 rfl (lv_at hl 0 rfl) ?_
    refine va_ldcS hx hb hown (hSS.2.2.2 ("ElephantLineModel", 233, "open", 9) (List.mem_of_getElem? (i := 9) rfl)) dX13_readLane_50 ?_
    obtain ⟨r_23, hc_24, h⟩ := bd1_some h
    refine kVbS [.ref (sa 9)] [] ⟨hx, hb, hml, hown, hts⟩ (c_X13_isWord l D cy sa sv a_mo mo_thrown mo_trouble mo_where (mo_war) (.ref a_re) (.ref a_mo_tape) mo_taped mo_size mo_spot_17 mo_sort_18 mo_place_19 mo_number_20 mo_fault_15 mo_wrongAt_16 mo_laneTold mo_word_21 (mo_v) (mo_x) (mo_past) (mo_kept) mo_acts mo_marks (mo_put) (mo_bestPut) mo_bestSum (mo_row) (mo_best) (mo_left) mo_bestSize mo_bestLeft (mo_counts) mo_sets mo_foeHarm mo_ownHarm mo_across mo_sumFoe mo_sumOwn mo_sumWon mo_sumAcross 9 (by decide) r_23 hc_24) gX13_readLane_X13_isWord rfl hd_X13_isWord ⟨Nat.le_of_ble_eq_true rfl, Nat.le_of_ble_eq_true rfl⟩ rfl rfl hKN (pXc hP [0] rfl) (hSS.kept hS).narrow 13 0 rfl rfl rfl hl.1 rfl (Nat.le_of_ble_eq_true rfl) dX13_readLane_52 ⟨Nat.le_of_ble_eq_true rfl, Nat.le_of_ble_eq_true rfl⟩ (fun nb_25 => ?_)
    have jn102 : ∀ (t0_26 : Int32), f_X13_readLane_B102 mo_size mo_tape re_lanes r_9 t0_26 mo_spot_17 mo_sort_18 mo_place_19 mo_number_20 mo_fault_15 mo_wrongAt_16 mo_laneTold mo_word_21 re_told re_who re_strong = some (mo_spot', mo_sort', mo_place', mo_number', mo_fault', mo_wrongAt', mo_laneTold', mo_word', re_told', re_who', re_strong') → ∀ (H : Heap) (locs : List Loc), va_P D vwCl ([(a_mo, .inr (13, [.int mo_thrown, .int mo_trouble, .int mo_where, mo_war, .ref a_re, .ref a_mo_tape, .int mo_taped, .int mo_size, .int mo_spot_17, .int mo_sort_18, .int mo_place_19, .int mo_number_20, .int mo_fault_15, .int mo_wrongAt_16, .int mo_laneTold, .long mo_word_21, mo_v, mo_x, mo_past, mo_kept, .int mo_acts, .int mo_marks, mo_put, mo_bestPut, .long mo_bestSum, mo_row, mo_best, mo_left, .int mo_bestSize, .int mo_bestLeft, mo_counts, .int mo_sets, .int mo_foeHarm, .int mo_ownHarm, .int mo_across, .int mo_sumFoe, .int mo_sumOwn, .int mo_sumWon, .int mo_sumAcross])), (a_mo_tape, .inl (cy 0, 900, .inl mo_tape)), (a_re, .inr (12, [.int re_lanes, .int re_deep, .int re_told, .int re_beasts, .int re_cities, .int re_passes, .int re_turned, .int re_names, .ref a_re_who, .ref a_re_strong, re_kind, re_lane, re_mood, re_price, re_loses, re_name, re_nameSort, re_numberOf])), (a_re_who, .inl (cy 1, 6, .inl re_who)), (a_re_strong, .inl (cy 1, 6, .inl re_strong))] ++ X) H → va_D A ([(a_mo, .inr (13, [.int mo_thrown, .int mo_trouble, .int mo_where, mo_war, .ref a_re, .ref a_mo_tape, .int mo_taped, .int mo_size, .int mo_spot_17, .int mo_sort_18, .int mo_place_19, .int mo_number_20, .int mo_fault_15, .int mo_wrongAt_16, .int mo_laneTold, .long mo_word_21, mo_v, mo_x, mo_past, mo_kept, .int mo_acts, .int mo_marks, mo_put, mo_bestPut, .long mo_bestSum, mo_row, mo_best, mo_left, .int mo_bestSize, .int mo_bestLeft, mo_counts, .int mo_sets, .int mo_foeHarm, .int mo_ownHarm, .int mo_across, .int mo_sumFoe, .int mo_sumOwn, .int mo_sumWon, .int mo_sumAcross])), (a_mo_tape, .inl (cy 0, 900, .inl mo_tape)), (a_re, .inr (12, [.int re_lanes, .int re_deep, .int re_told, .int re_beasts, .int re_cities, .int re_passes, .int re_turned, .int re_names, .ref a_re_who, .ref a_re_strong, re_kind, re_lane, re_mood, re_price, re_loses, re_name, re_nameSort, re_numberOf])), (a_re_who, .inl (cy 1, 6, .inl re_who)), (a_re_strong, .inl (cy 1, 6, .inl re_strong))] ++ X) → va_S A s.heap H locs → ∀ ls : Array Slot, lv_has ls 4 [(0, .ref a_mo), (1, .int r_9)] → W p l e (headSpec wo_X13_readLane ({ frames := 6, cells := 0, slots := 0, locals := 135 })).room s m (([.ref a_mo] : List Value).toArray) below meth c H locs 0 0 (MQ below (va_Qv (fun (_ : Unit) => True) (wB D A ([(a_mo, .inr (13, [.int mo_thrown, .int mo_trouble, .int mo_where, mo_war, .ref a_re, .ref a_mo_tape, .int mo_taped, .int mo_size, .int mo_spot', .int mo_sort', .int mo_place', .int mo_number', .int mo_fault', .int mo_wrongAt', .int mo_laneTold', .long mo_word', mo_v, mo_x, mo_past, mo_kept, .int mo_acts, .int mo_marks, mo_put, mo_bestPut, .long mo_bestSum, mo_row, mo_best, mo_left, .int mo_bestSize, .int mo_bestLeft, mo_counts, .int mo_sets, .int mo_foeHarm, .int mo_ownHarm, .int mo_across, .int mo_sumFoe, .int mo_sumOwn, .int mo_sumWon, .int mo_sumAcross])), (a_mo_tape, .inl (cy 0, 900, .inl mo_tape)), (a_re, .inr (12, [.int re_lanes, .int re_deep, .int re_told', .int re_beasts, .int re_cities, .int re_passes, .int re_turned, .int re_names, .ref a_re_who, .ref a_re_strong, re_kind, re_lane, re_mood, re_price, re_loses, re_name, re_nameSort, re_numberOf])), (a_re_who, .inl (cy 1, 6, .inl re_who')), (a_re_strong, .inl (cy 1, 6, .inl re_strong'))] ++ X)) A) (([.ref a_mo] : List Value).toArray) s 0 0 A) (F0 m 102 ls [.int t0_26]) := by
      intro t0_26 h H locs hP hD hS ls hl
      unfold f_X13_readLane_B102 at h
      refine lv_istore_n (lv' := [(2, .int t0_26), (0, .ref a_mo), (1, .int r_9)]) hx hb dX13_readLane_102 rfl hl (by decide) rfl (fun ls hl => ?_)
      refine lv_iload_n hx hb dX13_readLane_103 rfl (lv_at hl 0 rfl) ?_
      refine lv_iconst (v := (-1)) hx hb dX13_readLane_104 (by decide) ?_
      have jn113 : ∀ (mo_sort_27 : Int32) (mo_fault_28 : Int32) (mo_wrongAt_29 : Int32), f_X13_readLane_B113 mo_size mo_tape re_lanes r_9 t0_26 mo_spot_17 mo_sort_27 mo_place_19 mo_number_20 mo_fault_28 mo_wrongAt_29 mo_laneTold mo_word_21 re_told re_who re_strong = some (mo_spot', mo_sort', mo_place', mo_number', mo_fault', mo_wrongAt', mo_laneTold', mo_word', re_told', re_who', re_strong') → ∀ (H : Heap) (locs : List Loc), va_P D vwCl ([(a_mo, .inr (13, [.int mo_thrown, .int mo_trouble, .int mo_where, mo_war, .ref a_re, .ref a_mo_tape, .int mo_taped, .int mo_size, .int mo_spot_17, .int mo_sort_27, .int mo_place_19, .int mo_number_20, .int mo_fault_28, .int mo_wrongAt_29, .int mo_laneTold, .long mo_word_21, mo_v, mo_x, mo_past, mo_kept, .int mo_acts, .int mo_marks, mo_put, mo_bestPut, .long mo_bestSum, mo_row, mo_best, mo_left, .int mo_bestSize, .int mo_bestLeft, mo_counts, .int mo_sets, .int mo_foeHarm, .int mo_ownHarm, .int mo_across, .int mo_sumFoe, .int mo_sumOwn, .int mo_sumWon, .int mo_sumAcross])), (a_mo_tape, .inl (cy 0, 900, .inl mo_tape)), (a_re, .inr (12, [.int re_lanes, .int re_deep, .int re_told, .int re_beasts, .int re_cities, .int re_passes, .int re_turned, .int re_names, .ref a_re_who, .ref a_re_strong, re_kind, re_lane, re_mood, re_price, re_loses, re_name, re_nameSort, re_numberOf])), (a_re_who, .inl (cy 1, 6, .inl re_who)), (a_re_strong, .inl (cy 1, 6, .inl re_strong))] ++ X) H → va_D A ([(a_mo, .inr (13, [.int mo_thrown, .int mo_trouble, .int mo_where, mo_war, .ref a_re, .ref a_mo_tape, .int mo_taped, .int mo_size, .int mo_spot_17, .int mo_sort_27, .int mo_place_19, .int mo_number_20, .int mo_fault_28, .int mo_wrongAt_29, .int mo_laneTold, .long mo_word_21, mo_v, mo_x, mo_past, mo_kept, .int mo_acts, .int mo_marks, mo_put, mo_bestPut, .long mo_bestSum, mo_row, mo_best, mo_left, .int mo_bestSize, .int mo_bestLeft, mo_counts, .int mo_sets, .int mo_foeHarm, .int mo_ownHarm, .int mo_across, .int mo_sumFoe, .int mo_sumOwn, .int mo_sumWon, .int mo_sumAcross])), (a_mo_tape, .inl (cy 0, 900, .inl mo_tape)), (a_re, .inr (12, [.int re_lanes, .int re_deep, .int re_told, .int re_beasts, .int re_cities, .int re_passes, .int re_turned, .int re_names, .ref a_re_who, .ref a_re_strong, re_kind, re_lane, re_mood, re_price, re_loses, re_name, re_nameSort, re_numberOf])), (a_re_who, .inl (cy 1, 6, .inl re_who)), (a_re_strong, .inl (cy 1, 6, .inl re_strong))] ++ X) → va_S A s.heap H locs → ∀ ls : Array Slot, lv_has ls 4 [(0, .ref a_mo), (1, .int r_9), (2, .int t0_26)] → W p l e (headSpec wo_X13_readLane ({ frames := 6, cells := 0, slots := 0, locals := 135 })).room s m (([.ref a_mo] : List Value).toArray) below meth c H locs 0 0 (MQ below (va_Qv (fun (_ : Unit) => True) (wB D A ([(a_mo, .inr (13, [.int mo_thrown, .int mo_trouble, .int mo_where, mo_war, .ref a_re, .ref a_mo_tape, .int mo_taped, .int mo_size, .int mo_spot', .int mo_sort', .int mo_place', .int mo_number', .int mo_fault', .int mo_wrongAt', .int mo_laneTold', .long mo_word', mo_v, mo_x, mo_past, mo_kept, .int mo_acts, .int mo_marks, mo_put, mo_bestPut, .long mo_bestSum, mo_row, mo_best, mo_left, .int mo_bestSize, .int mo_bestLeft, mo_counts, .int mo_sets, .int mo_foeHarm, .int mo_ownHarm, .int mo_across, .int mo_sumFoe, .int mo_sumOwn, .int mo_sumWon, .int mo_sumAcross])), (a_mo_tape, .inl (cy 0, 900, .inl mo_tape)), (a_re, .inr (12, [.int re_lanes, .int re_deep, .int re_told', .int re_beasts, .int re_cities, .int re_passes, .int re_turned, .int re_names, .ref a_re_who, .ref a_re_strong, re_kind, re_lane, re_mood, re_price, re_loses, re_name, re_nameSort, re_numberOf])), (a_re_who, .inl (cy 1, 6, .inl re_who')), (a_re_strong, .inl (cy 1, 6, .inl re_strong'))] ++ X)) A) (([.ref a_mo] : List Value).toArray) s 0 0 A) (F0 m 113 ls []) := by
        intro mo_sort_27 mo_fault_28 mo_wrongAt_29 h H locs hP hD hS ls hl
        unfold f_X13_readLane_B113 at h
        refine lv_aload_n hx hb dX13_readLane_113 rfl (lv_at hl 0 rfl) ?_
        obtain ⟨mo_spot_30, mo_sort_31, mo_place_32, mo_number_33, mo_word_34, hc_35, h⟩ := bd5_some h
        refine wVv [] [] ⟨hx, hb, hml, hown, hts⟩ (c_X13_goesOn l D cy A ([(a_re, .inr (12, [.int re_lanes, .int re_deep, .int re_told, .int re_beasts, .int re_cities, .int re_passes, .int re_turned, .int re_names, .ref a_re_who, .ref a_re_strong, re_kind, re_lane, re_mood, re_price, re_loses, re_name, re_nameSort, re_numberOf])), (a_re_who, .inl (cy 1, 6, .inl re_who)), (a_re_strong, .inl (cy 1, 6, .inl re_strong))] ++ X) a_mo a_mo_tape mo_thrown mo_trouble mo_where (mo_war) (.ref a_re) mo_taped mo_size mo_spot_17 mo_sort_27 mo_place_19 mo_number_20 mo_fault_28 mo_wrongAt_29 mo_laneTold mo_word_21 (mo_v) (mo_x) (mo_past) (mo_kept) mo_acts mo_marks (mo_put) (mo_bestPut) mo_bestSum (mo_row) (mo_best) (mo_left) mo_bestSize mo_bestLeft (mo_counts) mo_sets mo_foeHarm mo_ownHarm mo_across mo_sumFoe mo_sumOwn mo_sumWon mo_sumAcross mo_tape mo_spot_30 mo_sort_31 mo_place_32 mo_number_33 mo_word_34 hc_35) gX13_readLane_X13_goesOn rfl hd_X13_goesOn ⟨Nat.le_of_ble_eq_true rfl, Nat.le_of_ble_eq_true rfl⟩ rfl rfl hKN (pX3 hP [0, 1, 2, 3, 4] rfl) (dX3 hD [0, 1, 2, 3, 4] rfl rfl) hS hA 13 0 rfl rfl rfl hl.1 rfl (Nat.le_of_ble_eq_true rfl) dX13_readLane_114 ⟨Nat.le_of_ble_eq_true rfl, Nat.le_of_ble_eq_true rfl⟩ (fun H locs hP hD hS => ?_)
        have hP := pX4 (L1 := [(a_mo, .inr (13, [.int mo_thrown, .int mo_trouble, .int mo_where, mo_war, .ref a_re, .ref a_mo_tape, .int mo_taped, .int mo_size, .int mo_spot_30, .int mo_sort_31, .int mo_place_32, .int mo_number_33, .int mo_fault_28, .int mo_wrongAt_29, .int mo_laneTold, .long mo_word_34, mo_v, mo_x, mo_past, mo_kept, .int mo_acts, .int mo_marks, mo_put, mo_bestPut, .long mo_bestSum, mo_row, mo_best, mo_left, .int mo_bestSize, .int mo_bestLeft, mo_counts, .int mo_sets, .int mo_foeHarm, .int mo_ownHarm, .int mo_across, .int mo_sumFoe, .int mo_sumOwn, .int mo_sumWon, .int mo_sumAcross])), (a_mo_tape, .inl (cy 0, 900, .inl mo_tape)), (a_re, .inr (12, [.int re_lanes, .int re_deep, .int re_told, .int re_beasts, .int re_cities, .int re_passes, .int re_turned, .int re_names, .ref a_re_who, .ref a_re_strong, re_kind, re_lane, re_mood, re_price, re_loses, re_name, re_nameSort, re_numberOf])), (a_re_who, .inl (cy 1, 6, .inl re_who)), (a_re_strong, .inl (cy 1, 6, .inl re_strong))]) hP [0, 1, 2, 3, 4] rfl
        have hD := dX4 (L1 := [(a_mo, .inr (13, [.int mo_thrown, .int mo_trouble, .int mo_where, mo_war, .ref a_re, .ref a_mo_tape, .int mo_taped, .int mo_size, .int mo_spot_30, .int mo_sort_31, .int mo_place_32, .int mo_number_33, .int mo_fault_28, .int mo_wrongAt_29, .int mo_laneTold, .long mo_word_34, mo_v, mo_x, mo_past, mo_kept, .int mo_acts, .int mo_marks, mo_put, mo_bestPut, .long mo_bestSum, mo_row, mo_best, mo_left, .int mo_bestSize, .int mo_bestLeft, mo_counts, .int mo_sets, .int mo_foeHarm, .int mo_ownHarm, .int mo_across, .int mo_sumFoe, .int mo_sumOwn, .int mo_sumWon, .int mo_sumAcross])), (a_mo_tape, .inl (cy 0, 900, .inl mo_tape)), (a_re, .inr (12, [.int re_lanes, .int re_deep, .int re_told, .int re_beasts, .int re_cities, .int re_passes, .int re_turned, .int re_names, .ref a_re_who, .ref a_re_strong, re_kind, re_lane, re_mood, re_price, re_loses, re_name, re_nameSort, re_numberOf])), (a_re_who, .inl (cy 1, 6, .inl re_who)), (a_re_strong, .inl (cy 1, 6, .inl re_strong))]) hD [0, 1, 2, 3, 4] rfl rfl
        refine lv_iload_n hx hb dX13_readLane_117 rfl (lv_at hl 2 rfl) ?_
        refine lv_iconst (v := 2) hx hb dX13_readLane_118 (by decide) ?_
        have jn148 : ∀ (t0_36 : Int32) (mo_spot_37 : Int32) (mo_sort_38 : Int32) (mo_place_39 : Int32) (mo_number_40 : Int32) (mo_fault_41 : Int32) (mo_wrongAt_42 : Int32) (mo_word_43 : Int64), f_X13_readLane_B148 mo_size mo_tape re_lanes r_9 t0_26 t0_36 mo_spot_37 mo_sort_38 mo_place_39 mo_number_40 mo_fault_41 mo_wrongAt_42 mo_laneTold mo_word_43 re_told re_who re_strong = some (mo_spot', mo_sort', mo_place', mo_number', mo_fault', mo_wrongAt', mo_laneTold', mo_word', re_told', re_who', re_strong') → ∀ (H : Heap) (locs : List Loc), va_P D vwCl ([(a_mo, .inr (13, [.int mo_thrown, .int mo_trouble, .int mo_where, mo_war, .ref a_re, .ref a_mo_tape, .int mo_taped, .int mo_size, .int mo_spot_37, .int mo_sort_38, .int mo_place_39, .int mo_number_40, .int mo_fault_41, .int mo_wrongAt_42, .int mo_laneTold, .long mo_word_43, mo_v, mo_x, mo_past, mo_kept, .int mo_acts, .int mo_marks, mo_put, mo_bestPut, .long mo_bestSum, mo_row, mo_best, mo_left, .int mo_bestSize, .int mo_bestLeft, mo_counts, .int mo_sets, .int mo_foeHarm, .int mo_ownHarm, .int mo_across, .int mo_sumFoe, .int mo_sumOwn, .int mo_sumWon, .int mo_sumAcross])), (a_mo_tape, .inl (cy 0, 900, .inl mo_tape)), (a_re, .inr (12, [.int re_lanes, .int re_deep, .int re_told, .int re_beasts, .int re_cities, .int re_passes, .int re_turned, .int re_names, .ref a_re_who, .ref a_re_strong, re_kind, re_lane, re_mood, re_price, re_loses, re_name, re_nameSort, re_numberOf])), (a_re_who, .inl (cy 1, 6, .inl re_who)), (a_re_strong, .inl (cy 1, 6, .inl re_strong))] ++ X) H → va_D A ([(a_mo, .inr (13, [.int mo_thrown, .int mo_trouble, .int mo_where, mo_war, .ref a_re, .ref a_mo_tape, .int mo_taped, .int mo_size, .int mo_spot_37, .int mo_sort_38, .int mo_place_39, .int mo_number_40, .int mo_fault_41, .int mo_wrongAt_42, .int mo_laneTold, .long mo_word_43, mo_v, mo_x, mo_past, mo_kept, .int mo_acts, .int mo_marks, mo_put, mo_bestPut, .long mo_bestSum, mo_row, mo_best, mo_left, .int mo_bestSize, .int mo_bestLeft, mo_counts, .int mo_sets, .int mo_foeHarm, .int mo_ownHarm, .int mo_across, .int mo_sumFoe, .int mo_sumOwn, .int mo_sumWon, .int mo_sumAcross])), (a_mo_tape, .inl (cy 0, 900, .inl mo_tape)), (a_re, .inr (12, [.int re_lanes, .int re_deep, .int re_told, .int re_beasts, .int re_cities, .int re_passes, .int re_turned, .int re_names, .ref a_re_who, .ref a_re_strong, re_kind, re_lane, re_mood, re_price, re_loses, re_name, re_nameSort, re_numberOf])), (a_re_who, .inl (cy 1, 6, .inl re_who)), (a_re_strong, .inl (cy 1, 6, .inl re_strong))] ++ X) → va_S A s.heap H locs → ∀ ls : Array Slot, lv_has ls 4 [(0, .ref a_mo), (1, .int r_9), (2, .int t0_26)] → W p l e (headSpec wo_X13_readLane ({ frames := 6, cells := 0, slots := 0, locals := 135 })).room s m (([.ref a_mo] : List Value).toArray) below meth c H locs 0 0 (MQ below (va_Qv (fun (_ : Unit) => True) (wB D A ([(a_mo, .inr (13, [.int mo_thrown, .int mo_trouble, .int mo_where, mo_war, .ref a_re, .ref a_mo_tape, .int mo_taped, .int mo_size, .int mo_spot', .int mo_sort', .int mo_place', .int mo_number', .int mo_fault', .int mo_wrongAt', .int mo_laneTold', .long mo_word', mo_v, mo_x, mo_past, mo_kept, .int mo_acts, .int mo_marks, mo_put, mo_bestPut, .long mo_bestSum, mo_row, mo_best, mo_left, .int mo_bestSize, .int mo_bestLeft, mo_counts, .int mo_sets, .int mo_foeHarm, .int mo_ownHarm, .int mo_across, .int mo_sumFoe, .int mo_sumOwn, .int mo_sumWon, .int mo_sumAcross])), (a_mo_tape, .inl (cy 0, 900, .inl mo_tape)), (a_re, .inr (12, [.int re_lanes, .int re_deep, .int re_told', .int re_beasts, .int re_cities, .int re_passes, .int re_turned, .int re_names, .ref a_re_who, .ref a_re_strong, re_kind, re_lane, re_mood, re_price, re_loses, re_name, re_nameSort, re_numberOf])), (a_re_who, .inl (cy 1, 6, .inl re_who')), (a_re_strong, .inl (cy 1, 6, .inl re_strong'))] ++ X)) A) (([.ref a_mo] : List Value).toArray) s 0 0 A) (F0 m 148 ls [.int t0_36]) := by
          intro t0_36 mo_spot_37 mo_sort_38 mo_place_39 mo_number_40 mo_fault_41 mo_wrongAt_42 mo_word_43 h H locs hP hD hS ls hl
          unfold f_X13_readLane_B148 at h
          refine lv_istore_n (lv' := [(3, .int t0_36), (0, .ref a_mo), (1, .int r_9), (2, .int t0_26)]) hx hb dX13_readLane_148 rfl hl (by decide) rfl (fun ls hl => ?_)
          refine lv_aload_n hx hb dX13_readLane_149 rfl (lv_at hl 1 rfl) ?_
          refine va_get (D := D) (ci := 13) (C := RX13) (T := TX13) (N := 39) (v := .int mo_sort_38) hx hb hX13 (fun _ q => q) hown hK hP 0 rfl rfl 9 (by decide) (hts (.fieldLink RX13 82 "ElephantLineModel" "sort" "I") (by decide +kernel)) (fun _ h9 => h9) rfl dX13_readLane_150 ?_
          refine lv_iconst (v := 5) hx hb dX13_readLane_153 (by decide) ?_
          refine lv_icmp_ne (tgt := 158) hx hb dX13_readLane_154 (by decide) (fun cd => ?_) (fun cd => ?_)
          · have h := ifF cd h
            refine lv_aload_n hx hb dX13_readLane_158 rfl (lv_at hl 1 rfl) ?_
            refine va_get (D := D) (ci := 13) (C := RX13) (T := TX13) (N := 39) (v := .ref a_re) hx hb hX13 (fun _ q => q) hown hK hP 0 rfl rfl 4 (by decide) (hts (.fieldLink RX13 156 "ElephantLineModel" "read" "LElephantLineModel$War;") (by decide +kernel)) (fun _ h9 => h9) rfl dX13_readLane_159 ?_
            refine va_getN (D := D) (ci := 12) (C := RX12) (T := TX12) (N := 18) (v := .ref a_re_who) hx hb hX12 (fun _ q => q) hown hK hP 2 rfl rfl 8 (by decide) (va_Nw.use rfl (hKN.2.1.1 ("ElephantLineModel", 241, "ElephantLineModel$War", "who", "[I", "ElephantLineModel") (List.mem_of_getElem? (i := 75) rfl))) (fun _ h9 => h9) rfl dX13_readLane_162 ?_
            refine lv_iload_n hx hb dX13_readLane_165 rfl (lv_at hl 2 rfl) ?_
            refine lv_iload_n hx hb dX13_readLane_166 rfl (lv_at hl 3 rfl) ?_
            obtain ⟨i_44, h⟩ := gIn_some h
            refine va_iast hx hb hK hP hD hS 3 1 rfl rfl i_44 dX13_readLane_167 (fun H locs hP hD hS => ?_)
            refine lv_aload_n hx hb dX13_readLane_168 rfl (lv_at hl 1 rfl) ?_
            refine va_get (D := D) (ci := 13) (C := RX13) (T := TX13) (N := 39) (v := .ref a_re) hx hb hX13 (fun _ q => q) hown hK hP 0 rfl rfl 4 (by decide) (hts (.fieldLink RX13 156 "ElephantLineModel" "read" "LElephantLineModel$War;") (by decide +kernel)) (fun _ h9 => h9) rfl dX13_readLane_169 ?_
            refine va_getN (D := D) (ci := 12) (C := RX12) (T := TX12) (N := 18) (v := .ref a_re_strong) hx hb hX12 (fun _ q => q) hown hK hP 2 rfl rfl 9 (by decide) (va_Nw.use rfl (hKN.2.1.1 ("ElephantLineModel", 244, "ElephantLineModel$War", "strong", "[I", "ElephantLineModel") (List.mem_of_getElem? (i := 76) rfl))) (fun _ h9 => h9) rfl dX13_readLane_172 ?_
            refine lv_iload_n hx hb dX13_readLane_175 rfl (lv_at hl 2 rfl) ?_
            refine lv_iload_n hx hb dX13_readLane_176 rfl (lv_at hl 0 rfl) ?_
            obtain ⟨i_45, h⟩ := gIn_some h
            refine va_iast hx hb hK hP hD hS 4 1 rfl rfl i_45 dX13_readLane_177 (fun H locs hP hD hS => ?_)
            refine lv_aload_n hx hb dX13_readLane_178 rfl (lv_at hl 1 rfl) ?_
            refine lv_dup hx hb dX13_readLane_179 rfl ?_
            refine va_get (D := D) (ci := 13) (C := RX13) (T := TX13) (N := 39) (v := .int mo_laneTold) hx hb hX13 (fun _ q => q) hown hK hP 0 rfl rfl 14 (by decide) (hts (.fieldLink RX13 186 "ElephantLineModel" "laneTold" "I") (by decide +kernel)) (fun _ h9 => h9) rfl dX13_readLane_180 ?_
            refine lv_iconst (v := 1) hx hb dX13_readLane_183 (by decide) ?_
            refine lv_iload_n hx hb dX13_readLane_184 rfl (lv_at hl 2 rfl) ?_
            refine lv_ishl hx hb dX13_readLane_185 ?_
            refine lv_ior hx hb dX13_readLane_186 ?_
            refine va_put (D := D) (ci := 13) (C := RX13) (T := TX13) (N := 39) (v := .int (mo_laneTold ||| ((1 : Int32) <<< (r_9 &&& 31)))) (ty := .int) hx hb hX13 (fun _ q => q) tyX13 tyX13_ok nmX13 hown hK hP hD hS 0 rfl rfl 14 (by decide) (hts (.fieldLink RX13 186 "ElephantLineModel" "laneTold" "I") (by decide +kernel)) (fun _ h9 => h9) rfl (tyX13_ok 14 (by decide)) rfl rfl (Nat.le_of_ble_eq_true rfl) dX13_readLane_187 (fun H locs hP hD hS => ?_)
            refine lv_aload_n hx hb dX13_readLane_190 rfl (lv_at hl 1 rfl) ?_
            refine va_get (D := D) (ci := 13) (C := RX13) (T := TX13) (N := 39) (v := .ref a_re) hx hb hX13 (fun _ q => q) hown hK hP 0 rfl rfl 4 (by decide) (hts (.fieldLink RX13 156 "ElephantLineModel" "read" "LElephantLineModel$War;") (by decide +kernel)) (fun _ h9 => h9) rfl dX13_readLane_191 ?_
            refine lv_dup hx hb dX13_readLane_194 rfl ?_
            refine va_getN (D := D) (ci := 12) (C := RX12) (T := TX12) (N := 18) (v := .int re_told) hx hb hX12 (fun _ q => q) hown hK hP 2 rfl rfl 2 (by decide) (va_Nw.use rfl (hKN.2.1.1 ("ElephantLineModel", 247, "ElephantLineModel$War", "told", "I", "ElephantLineModel") (List.mem_of_getElem? (i := 69) rfl))) (fun _ h9 => h9) rfl dX13_readLane_195 ?_
            refine lv_iconst (v := 1) hx hb dX13_readLane_198 (by decide) ?_
            refine lv_iadd hx hb dX13_readLane_199 ?_
            refine va_putN (D := D) (ci := 12) (C := RX12) (T := TX12) (N := 18) (v := .int (re_told + 1)) (ty := .int) hx hb hX12 (fun _ q => q) tyX12 tyX12_ok nmX12 hown hK hP hD hS 2 rfl rfl 2 (by decide) (va_Nw.use rfl (hKN.2.1.1 ("ElephantLineModel", 247, "ElephantLineModel$War", "told", "I", "ElephantLineModel") (List.mem_of_getElem? (i := 69) rfl))) (fun _ h9 => h9) rfl (tyX12_ok 2 (by decide)) rfl rfl (Nat.le_of_ble_eq_true rfl) dX13_readLane_200 (fun H locs hP hD hS => ?_)
            cases h
            exact W.vret hx hb hr (fun t ht _ => ⟨⟨(), rfl, trivial, by rw [ht]; exact hP, hD⟩, hS.F ht⟩) hS.2.2 dX13_readLane_203
          · have h := ifT cd h
            cases h
            exact W.vret hx hb hr (fun t ht _ => ⟨⟨(), rfl, trivial, by rw [ht]; exact hP, hD⟩, hS.F ht⟩) hS.2.2 dX13_readLane_157
        refine lv_icmp_ne (tgt := 132) hx hb dX13_readLane_119 (by decide) (fun cd => ?_) (fun cd => ?_)
        · have h := ifF cd h
          refine lv_iload_n hx hb dX13_readLane_132 rfl (lv_at hl 2 rfl) ?_
          refine lv_iconst (v := 3) hx hb dX13_readLane_133 (by decide) ?_
          refine lv_icmp_ne (tgt := 147) hx hb dX13_readLane_134 (by decide) (fun cd => ?_) (fun cd => ?_)
          · have h := ifF cd h
            refine lv_iconst (v := 0) hx hb dX13_readLane_147 (by decide) ?_
            exact jn148 (0 : Int32) mo_spot_30 mo_sort_31 mo_place_32 mo_number_33 mo_fault_28 mo_wrongAt_29 mo_word_34 h _ _ hP hD hS _ (lv_sub hl [0, 1, 2] rfl)
          · have h := ifT cd h
            refine lv_aload_n hx hb dX13_readLane_137 rfl (lv_at hl 0 rfl) ?_
            refine lv_iconst (v := 0) hx hb dX13_readLane_138 (by decide) ?_
            refine lv_bipush (v := 30) hx hb dX13_readLane_139 (by decide) ?_
            obtain ⟨r_46, mo_spot_47, mo_sort_48, mo_place_49, mo_number_50, mo_fault_51, mo_wrongAt_52, mo_word_53, hc_54, h⟩ := bd8_some h
            refine wVi [.int 0, .int 30] [] ⟨hx, hb, hml, hown, hts⟩ (c_X13_readWhole l D cy A ([(a_re, .inr (12, [.int re_lanes, .int re_deep, .int re_told, .int re_beasts, .int re_cities, .int re_passes, .int re_turned, .int re_names, .ref a_re_who, .ref a_re_strong, re_kind, re_lane, re_mood, re_price, re_loses, re_name, re_nameSort, re_numberOf])), (a_re_who, .inl (cy 1, 6, .inl re_who)), (a_re_strong, .inl (cy 1, 6, .inl re_strong))] ++ X) a_mo a_mo_tape mo_thrown mo_trouble mo_where (mo_war) (.ref a_re) mo_taped mo_size mo_spot_30 mo_sort_31 mo_place_32 mo_number_33 mo_fault_28 mo_wrongAt_29 mo_laneTold mo_word_34 (mo_v) (mo_x) (mo_past) (mo_kept) mo_acts mo_marks (mo_put) (mo_bestPut) mo_bestSum (mo_row) (mo_best) (mo_left) mo_bestSize mo_bestLeft (mo_counts) mo_sets mo_foeHarm mo_ownHarm mo_across mo_sumFoe mo_sumOwn mo_sumWon mo_sumAcross mo_tape (0 : Int32) (30 : Int32) r_46 mo_spot_47 mo_sort_48 mo_place_49 mo_number_50 mo_fault_51 mo_wrongAt_52 mo_word_53 hc_54) gX13_readLane_X13_readWhole rfl hd_X13_readWhole ⟨Nat.le_of_ble_eq_true rfl, Nat.le_of_ble_eq_true rfl⟩ rfl rfl hKN (pX3 hP [0, 1, 2, 3, 4] rfl) (dX3 hD [0, 1, 2, 3, 4] rfl rfl) hS hA 13 0 rfl rfl rfl hl.1 rfl (Nat.le_of_ble_eq_true rfl) dX13_readLane_141 ⟨Nat.le_of_ble_eq_true rfl, Nat.le_of_ble_eq_true rfl⟩ (fun H locs hP hD hS => ?_)
            have hP := pX4 (L1 := [(a_mo, .inr (13, [.int mo_thrown, .int mo_trouble, .int mo_where, mo_war, .ref a_re, .ref a_mo_tape, .int mo_taped, .int mo_size, .int mo_spot_47, .int mo_sort_48, .int mo_place_49, .int mo_number_50, .int mo_fault_51, .int mo_wrongAt_52, .int mo_laneTold, .long mo_word_53, mo_v, mo_x, mo_past, mo_kept, .int mo_acts, .int mo_marks, mo_put, mo_bestPut, .long mo_bestSum, mo_row, mo_best, mo_left, .int mo_bestSize, .int mo_bestLeft, mo_counts, .int mo_sets, .int mo_foeHarm, .int mo_ownHarm, .int mo_across, .int mo_sumFoe, .int mo_sumOwn, .int mo_sumWon, .int mo_sumAcross])), (a_mo_tape, .inl (cy 0, 900, .inl mo_tape)), (a_re, .inr (12, [.int re_lanes, .int re_deep, .int re_told, .int re_beasts, .int re_cities, .int re_passes, .int re_turned, .int re_names, .ref a_re_who, .ref a_re_strong, re_kind, re_lane, re_mood, re_price, re_loses, re_name, re_nameSort, re_numberOf])), (a_re_who, .inl (cy 1, 6, .inl re_who)), (a_re_strong, .inl (cy 1, 6, .inl re_strong))]) hP [0, 1, 2, 3, 4] rfl
            have hD := dX4 (L1 := [(a_mo, .inr (13, [.int mo_thrown, .int mo_trouble, .int mo_where, mo_war, .ref a_re, .ref a_mo_tape, .int mo_taped, .int mo_size, .int mo_spot_47, .int mo_sort_48, .int mo_place_49, .int mo_number_50, .int mo_fault_51, .int mo_wrongAt_52, .int mo_laneTold, .long mo_word_53, mo_v, mo_x, mo_past, mo_kept, .int mo_acts, .int mo_marks, mo_put, mo_bestPut, .long mo_bestSum, mo_row, mo_best, mo_left, .int mo_bestSize, .int mo_bestLeft, mo_counts, .int mo_sets, .int mo_foeHarm, .int mo_ownHarm, .int mo_across, .int mo_sumFoe, .int mo_sumOwn, .int mo_sumWon, .int mo_sumAcross])), (a_mo_tape, .inl (cy 0, 900, .inl mo_tape)), (a_re, .inr (12, [.int re_lanes, .int re_deep, .int re_told, .int re_beasts, .int re_cities, .int re_passes, .int re_turned, .int re_names, .ref a_re_who, .ref a_re_strong, re_kind, re_lane, re_mood, re_price, re_loses, re_name, re_nameSort, re_numberOf])), (a_re_who, .inl (cy 1, 6, .inl re_who)), (a_re_strong, .inl (cy 1, 6, .inl re_strong))]) hD [0, 1, 2, 3, 4] rfl rfl
            refine lv_goto (tgt := 148) hx hb dX13_readLane_144 (by decide) ?_
            exact jn148 r_46 mo_spot_47 mo_sort_48 mo_place_49 mo_number_50 mo_fault_51 mo_wrongAt_52 mo_word_53 h _ _ hP hD hS _ (lv_sub hl [0, 1, 2] rfl)
        · have h := ifT cd h
          refine lv_aload_n hx hb dX13_readLane_122 rfl (lv_at hl 0 rfl) ?_
          refine lv_iconst (v := 0) hx hb dX13_readLane_123 (by decide) ?_
          refine lv_bipush (v := 60) hx hb dX13_readLane_124 (by decide) ?_
          obtain ⟨r_55, mo_spot_56, mo_sort_57, mo_place_58, mo_number_59, mo_fault_60, mo_wrongAt_61, mo_word_62, hc_63, h⟩ := bd8_some h
          refine wVi [.int 0, .int 60] [] ⟨hx, hb, hml, hown, hts⟩ (c_X13_readWhole l D cy A ([(a_re, .inr (12, [.int re_lanes, .int re_deep, .int re_told, .int re_beasts, .int re_cities, .int re_passes, .int re_turned, .int re_names, .ref a_re_who, .ref a_re_strong, re_kind, re_lane, re_mood, re_price, re_loses, re_name, re_nameSort, re_numberOf])), (a_re_who, .inl (cy 1, 6, .inl re_who)), (a_re_strong, .inl (cy 1, 6, .inl re_strong))] ++ X) a_mo a_mo_tape mo_thrown mo_trouble mo_where (mo_war) (.ref a_re) mo_taped mo_size mo_spot_30 mo_sort_31 mo_place_32 mo_number_33 mo_fault_28 mo_wrongAt_29 mo_laneTold mo_word_34 (mo_v) (mo_x) (mo_past) (mo_kept) mo_acts mo_marks (mo_put) (mo_bestPut) mo_bestSum (mo_row) (mo_best) (mo_left) mo_bestSize mo_bestLeft (mo_counts) mo_sets mo_foeHarm mo_ownHarm mo_across mo_sumFoe mo_sumOwn mo_sumWon mo_sumAcross mo_tape (0 : Int32) (60 : Int32) r_55 mo_spot_56 mo_sort_57 mo_place_58 mo_number_59 mo_fault_60 mo_wrongAt_61 mo_word_62 hc_63) gX13_readLane_X13_readWhole rfl hd_X13_readWhole ⟨Nat.le_of_ble_eq_true rfl, Nat.le_of_ble_eq_true rfl⟩ rfl rfl hKN (pX3 hP [0, 1, 2, 3, 4] rfl) (dX3 hD [0, 1, 2, 3, 4] rfl rfl) hS hA 13 0 rfl rfl rfl hl.1 rfl (Nat.le_of_ble_eq_true rfl) dX13_readLane_126 ⟨Nat.le_of_ble_eq_true rfl, Nat.le_of_ble_eq_true rfl⟩ (fun H locs hP hD hS => ?_)
          have hP := pX4 (L1 := [(a_mo, .inr (13, [.int mo_thrown, .int mo_trouble, .int mo_where, mo_war, .ref a_re, .ref a_mo_tape, .int mo_taped, .int mo_size, .int mo_spot_56, .int mo_sort_57, .int mo_place_58, .int mo_number_59, .int mo_fault_60, .int mo_wrongAt_61, .int mo_laneTold, .long mo_word_62, mo_v, mo_x, mo_past, mo_kept, .int mo_acts, .int mo_marks, mo_put, mo_bestPut, .long mo_bestSum, mo_row, mo_best, mo_left, .int mo_bestSize, .int mo_bestLeft, mo_counts, .int mo_sets, .int mo_foeHarm, .int mo_ownHarm, .int mo_across, .int mo_sumFoe, .int mo_sumOwn, .int mo_sumWon, .int mo_sumAcross])), (a_mo_tape, .inl (cy 0, 900, .inl mo_tape)), (a_re, .inr (12, [.int re_lanes, .int re_deep, .int re_told, .int re_beasts, .int re_cities, .int re_passes, .int re_turned, .int re_names, .ref a_re_who, .ref a_re_strong, re_kind, re_lane, re_mood, re_price, re_loses, re_name, re_nameSort, re_numberOf])), (a_re_who, .inl (cy 1, 6, .inl re_who)), (a_re_strong, .inl (cy 1, 6, .inl re_strong))]) hP [0, 1, 2, 3, 4] rfl
          have hD := dX4 (L1 := [(a_mo, .inr (13, [.int mo_thrown, .int mo_trouble, .int mo_where, mo_war, .ref a_re, .ref a_mo_tape, .int mo_taped, .int mo_size, .int mo_spot_56, .int mo_sort_57, .int mo_place_58, .int mo_number_59, .int mo_fault_60, .int mo_wrongAt_61, .int mo_laneTold, .long mo_word_62, mo_v, mo_x, mo_past, mo_kept, .int mo_acts, .int mo_marks, mo_put, mo_bestPut, .long mo_bestSum, mo_row, mo_best, mo_left, .int mo_bestSize, .int mo_bestLeft, mo_counts, .int mo_sets, .int mo_foeHarm, .int mo_ownHarm, .int mo_across, .int mo_sumFoe, .int mo_sumOwn, .int mo_sumWon, .int mo_sumAcross])), (a_mo_tape, .inl (cy 0, 900, .inl mo_tape)), (a_re, .inr (12, [.int re_lanes, .int re_deep, .int re_told, .int re_beasts, .int re_cities, .int re_passes, .int re_turned, .int re_names, .ref a_re_who, .ref a_re_strong, re_kind, re_lane, re_mood, re_price, re_loses, re_name, re_nameSort, re_numberOf])), (a_re_who, .inl (cy 1, 6, .inl re_who)), (a_re_strong, .inl (cy 1, 6, .inl re_strong))]) hD [0, 1, 2, 3, 4] rfl rfl
          refine lv_goto (tgt := 148) hx hb dX13_readLane_129 (by decide) ?_
          exact jn148 r_55 mo_spot_56 mo_sort_57 mo_place_58 mo_number_59 mo_fault_60 mo_wrongAt_61 mo_word_62 h _ _ hP hD hS _ (lv_sub hl [0, 1, 2] rfl)
      refine lv_icmp_ne (tgt := 113) hx hb dX13_readLane_105 (by decide) (fun cd => ?_) (fun cd => ?_)
      · have h := ifF cd h
        exact jn113 mo_sort_18 mo_fault_15 mo_wrongAt_16 h _ _ hP hD hS _ (lv_sub hl [1, 2, 0] rfl)
      · have h := ifT cd h
        refine lv_aload_n hx hb dX13_readLane_108 rfl (lv_at hl 1 rfl) ?_
        refine lv_iconst (v := 1) hx hb dX13_readLane_109 (by decide) ?_
        obtain ⟨mo_sort_64, mo_fault_65, mo_wrongAt_66, hc_67, h⟩ := bd3_some h
        refine wVv [.int 1] [] ⟨hx, hb, hml, hown, hts⟩ (c_X13_flaw l D cy A ([(a_mo_tape, .inl (cy 0, 900, .inl mo_tape)), (a_re, .inr (12, [.int re_lanes, .int re_deep, .int re_told, .int re_beasts, .int re_cities, .int re_passes, .int re_turned, .int re_names, .ref a_re_who, .ref a_re_strong, re_kind, re_lane, re_mood, re_price, re_loses, re_name, re_nameSort, re_numberOf])), (a_re_who, .inl (cy 1, 6, .inl re_who)), (a_re_strong, .inl (cy 1, 6, .inl re_strong))] ++ X) a_mo mo_thrown mo_trouble mo_where (mo_war) (.ref a_re) (.ref a_mo_tape) mo_taped mo_size mo_spot_17 mo_sort_18 mo_place_19 mo_number_20 mo_fault_15 mo_wrongAt_16 mo_laneTold mo_word_21 (mo_v) (mo_x) (mo_past) (mo_kept) mo_acts mo_marks (mo_put) (mo_bestPut) mo_bestSum (mo_row) (mo_best) (mo_left) mo_bestSize mo_bestLeft (mo_counts) mo_sets mo_foeHarm mo_ownHarm mo_across mo_sumFoe mo_sumOwn mo_sumWon mo_sumAcross (1 : Int32) mo_sort_64 mo_fault_65 mo_wrongAt_66 hc_67) gX13_readLane_X13_flaw rfl hd_X13_flaw ⟨Nat.le_of_ble_eq_true rfl, Nat.le_of_ble_eq_true rfl⟩ rfl rfl hKN (pX3 hP [0, 1, 2, 3, 4] rfl) (dX3 hD [0, 1, 2, 3, 4] rfl rfl) hS hA 13 0 rfl rfl rfl hl.1 rfl (Nat.le_of_ble_eq_true rfl) dX13_readLane_110 ⟨Nat.le_of_ble_eq_true rfl, Nat.le_of_ble_eq_true rfl⟩ (fun H locs hP hD hS => ?_)
        have hP := pX4 (L1 := [(a_mo, .inr (13, [.int mo_thrown, .int mo_trouble, .int mo_where, mo_war, .ref a_re, .ref a_mo_tape, .int mo_taped, .int mo_size, .int mo_spot_17, .int mo_sort_64, .int mo_place_19, .int mo_number_20, .int mo_fault_65, .int mo_wrongAt_66, .int mo_laneTold, .long mo_word_21, mo_v, mo_x, mo_past, mo_kept, .int mo_acts, .int mo_marks, mo_put, mo_bestPut, .long mo_bestSum, mo_row, mo_best, mo_left, .int mo_bestSize, .int mo_bestLeft, mo_counts, .int mo_sets, .int mo_foeHarm, .int mo_ownHarm, .int mo_across, .int mo_sumFoe, .int mo_sumOwn, .int mo_sumWon, .int mo_sumAcross])), (a_mo_tape, .inl (cy 0, 900, .inl mo_tape)), (a_re, .inr (12, [.int re_lanes, .int re_deep, .int re_told, .int re_beasts, .int re_cities, .int re_passes, .int re_turned, .int re_names, .ref a_re_who, .ref a_re_strong, re_kind, re_lane, re_mood, re_price, re_loses, re_name, re_nameSort, re_numberOf])), (a_re_who, .inl (cy 1, 6, .inl re_who)), (a_re_strong, .inl (cy 1, 6, .inl re_strong))]) hP [0, 1, 2, 3, 4] rfl
        have hD := dX4 (L1 := [(a_mo, .inr (13, [.int mo_thrown, .int mo_trouble, .int mo_where, mo_war, .ref a_re, .ref a_mo_tape, .int mo_taped, .int mo_size, .int mo_spot_17, .int mo_sort_64, .int mo_place_19, .int mo_number_20, .int mo_fault_65, .int mo_wrongAt_66, .int mo_laneTold, .long mo_word_21, mo_v, mo_x, mo_past, mo_kept, .int mo_acts, .int mo_marks, mo_put, mo_bestPut, .long mo_bestSum, mo_row, mo_best, mo_left, .int mo_bestSize, .int mo_bestLeft, mo_counts, .int mo_sets, .int mo_foeHarm, .int mo_ownHarm, .int mo_across, .int mo_sumFoe, .int mo_sumOwn, .int mo_sumWon, .int mo_sumAcross])), (a_mo_tape, .inl (cy 0, 900, .inl mo_tape)), (a_re, .inr (12, [.int re_lanes, .int re_deep, .int re_told, .int re_beasts, .int re_cities, .int re_passes, .int re_turned, .int re_names, .ref a_re_who, .ref a_re_strong, re_kind, re_lane, re_mood, re_price, re_loses, re_name, re_nameSort, re_numberOf])), (a_re_who, .inl (cy 1, 6, .inl re_who)), (a_re_strong, .inl (cy 1, 6, .inl re_strong))]) hD [0, 1, 2, 3, 4] rfl rfl
        exact jn113 mo_sort_64 mo_fault_65 mo_wrongAt_66 h _ _ hP hD hS _ (lv_sub hl [1, 2, 0] rfl)
    refine lv_if_eq (tgt := 62) hx hb dX13_readLane_55 (by decide) (fun cd => ?_) (fun cd => ?_)
    · have h := ifT cd h
      refine lv_aload_n hx hb dX13_readLane_62 rfl (lv_at hl 0 rfl) ?_
      refine va_ldcS hx hb hown (hSS.2.2.2 ("ElephantLineModel", 235, "pigs", 10) (List.mem_of_getElem? (i := 10) rfl)) dX13_readLane_63 ?_
      obtain ⟨r_68, hc_69, h⟩ := bd1_some h
      refine kVbS [.ref (sa 10)] [] ⟨hx, hb, hml, hown, hts⟩ (c_X13_isWord l D cy sa sv a_mo mo_thrown mo_trouble mo_where (mo_war) (.ref a_re) (.ref a_mo_tape) mo_taped mo_size mo_spot_17 mo_sort_18 mo_place_19 mo_number_20 mo_fault_15 mo_wrongAt_16 mo_laneTold mo_word_21 (mo_v) (mo_x) (mo_past) (mo_kept) mo_acts mo_marks (mo_put) (mo_bestPut) mo_bestSum (mo_row) (mo_best) (mo_left) mo_bestSize mo_bestLeft (mo_counts) mo_sets mo_foeHarm mo_ownHarm mo_across mo_sumFoe mo_sumOwn mo_sumWon mo_sumAcross 10 (by decide) r_68 hc_69) gX13_readLane_X13_isWord rfl hd_X13_isWord ⟨Nat.le_of_ble_eq_true rfl, Nat.le_of_ble_eq_true rfl⟩ rfl rfl hKN (pXc hP [0] rfl) (hSS.kept hS).narrow 13 0 rfl rfl rfl hl.1 rfl (Nat.le_of_ble_eq_true rfl) dX13_readLane_65 ⟨Nat.le_of_ble_eq_true rfl, Nat.le_of_ble_eq_true rfl⟩ (fun nb_70 => ?_)
      refine lv_if_eq (tgt := 75) hx hb dX13_readLane_68 (by decide) (fun cd => ?_) (fun cd => ?_)
      · have h := ifT cd h
        refine lv_aload_n hx hb dX13_readLane_75 rfl (lv_at hl 0 rfl) ?_
        refine va_ldcS hx hb hown (hSS.2.2.2 ("ElephantLineModel", 237, "foot", 11) (List.mem_of_getElem? (i := 11) rfl)) dX13_readLane_76 ?_
        obtain ⟨r_71, hc_72, h⟩ := bd1_some h
        refine kVbS [.ref (sa 11)] [] ⟨hx, hb, hml, hown, hts⟩ (c_X13_isWord l D cy sa sv a_mo mo_thrown mo_trouble mo_where (mo_war) (.ref a_re) (.ref a_mo_tape) mo_taped mo_size mo_spot_17 mo_sort_18 mo_place_19 mo_number_20 mo_fault_15 mo_wrongAt_16 mo_laneTold mo_word_21 (mo_v) (mo_x) (mo_past) (mo_kept) mo_acts mo_marks (mo_put) (mo_bestPut) mo_bestSum (mo_row) (mo_best) (mo_left) mo_bestSize mo_bestLeft (mo_counts) mo_sets mo_foeHarm mo_ownHarm mo_across mo_sumFoe mo_sumOwn mo_sumWon mo_sumAcross 11 (by decide) r_71 hc_72) gX13_readLane_X13_isWord rfl hd_X13_isWord ⟨Nat.le_of_ble_eq_true rfl, Nat.le_of_ble_eq_true rfl⟩ rfl rfl hKN (pXc hP [0] rfl) (hSS.kept hS).narrow 13 0 rfl rfl rfl hl.1 rfl (Nat.le_of_ble_eq_true rfl) dX13_readLane_78 ⟨Nat.le_of_ble_eq_true rfl, Nat.le_of_ble_eq_true rfl⟩ (fun nb_73 => ?_)
        refine lv_if_eq (tgt := 88) hx hb dX13_readLane_81 (by decide) (fun cd => ?_) (fun cd => ?_)
        · have h := ifT cd h
          refine lv_aload_n hx hb dX13_readLane_88 rfl (lv_at hl 0 rfl) ?_
          refine va_ldcS hx hb hown (hSS.2.2.2 ("ElephantLineModel", 239, "horse", 12) (List.mem_of_getElem? (i := 12) rfl)) dX13_readLane_89 ?_
          obtain ⟨r_74, hc_75, h⟩ := bd1_some h
          refine kVbS [.ref (sa 12)] [] ⟨hx, hb, hml, hown, hts⟩ (c_X13_isWord l D cy sa sv a_mo mo_thrown mo_trouble mo_where (mo_war) (.ref a_re) (.ref a_mo_tape) mo_taped mo_size mo_spot_17 mo_sort_18 mo_place_19 mo_number_20 mo_fault_15 mo_wrongAt_16 mo_laneTold mo_word_21 (mo_v) (mo_x) (mo_past) (mo_kept) mo_acts mo_marks (mo_put) (mo_bestPut) mo_bestSum (mo_row) (mo_best) (mo_left) mo_bestSize mo_bestLeft (mo_counts) mo_sets mo_foeHarm mo_ownHarm mo_across mo_sumFoe mo_sumOwn mo_sumWon mo_sumAcross 12 (by decide) r_74 hc_75) gX13_readLane_X13_isWord rfl hd_X13_isWord ⟨Nat.le_of_ble_eq_true rfl, Nat.le_of_ble_eq_true rfl⟩ rfl rfl hKN (pXc hP [0] rfl) (hSS.kept hS).narrow 13 0 rfl rfl rfl hl.1 rfl (Nat.le_of_ble_eq_true rfl) dX13_readLane_91 ⟨Nat.le_of_ble_eq_true rfl, Nat.le_of_ble_eq_true rfl⟩ (fun nb_76 => ?_)
          refine lv_if_eq (tgt := 101) hx hb dX13_readLane_94 (by decide) (fun cd => ?_) (fun cd => ?_)
          · have h := ifT cd h
            refine lv_iconst (v := (-1)) hx hb dX13_readLane_101 (by decide) ?_
            exact jn102 ((-1) : Int32) h _ _ hP hD hS _ (lv_sub hl [0, 1] rfl)
          · have h := ifF cd h
            refine lv_iconst (v := 3) hx hb dX13_readLane_97 (by decide) ?_
            refine lv_goto (tgt := 102) hx hb dX13_readLane_98 (by decide) ?_
            exact jn102 (3 : Int32) h _ _ hP hD hS _ (lv_sub hl [0, 1] rfl)
        · have h := ifF cd h
          refine lv_iconst (v := 2) hx hb dX13_readLane_84 (by decide) ?_
          refine lv_goto (tgt := 102) hx hb dX13_readLane_85 (by decide) ?_
          exact jn102 (2 : Int32) h _ _ hP hD hS _ (lv_sub hl [0, 1] rfl)
      · have h := ifF cd h
        refine lv_iconst (v := 1) hx hb dX13_readLane_71 (by decide) ?_
        refine lv_goto (tgt := 102) hx hb dX13_readLane_72 (by decide) ?_
        exact jn102 (1 : Int32) h _ _ hP hD hS _ (lv_sub hl [0, 1] rfl)
    · have h := ifF cd h
      refine lv_iconst (v := 0) hx hb dX13_readLane_58 (by decide) ?_
      refine lv_goto (tgt := 102) hx hb dX13_readLane_59 (by decide) ?_
      exact jn102 (0 : Int32) h _ _ hP hD hS _ (lv_sub hl [0, 1] rfl)
  refine lv_icmp_eq (tgt := 45) hx hb dX13_readLane_26 (by decide) (fun cd => ?_) (fun cd => ?_)
  · have h := ifT cd h
    exact jn45 mo_sort_10 mo_fault_11 mo_wrongAt_12 h _ _ hP hD hS _ (lv_sub hl [1, 0] rfl)
  · have h := ifF cd h
    refine lv_aload_n hx hb dX13_readLane_29 rfl (lv_at hl 1 rfl) ?_
    refine va_get (D := D) (ci := 13) (C := RX13) (T := TX13) (N := 39) (v := .int mo_laneTold) hx hb hX13 (fun _ q => q) hown hK hP 0 rfl rfl 14 (by decide) (hts (.fieldLink RX13 186 "ElephantLineModel" "laneTold" "I") (by decide +kernel)) (fun _ h9 => h9) rfl dX13_readLane_30 ?_
    refine lv_iload_n hx hb dX13_readLane_33 rfl (lv_at hl 0 rfl) ?_
    obtain ⟨r_77, hc_78, h⟩ := bd1_some h
    refine kSb [.int mo_laneTold, .int r_9] [] ⟨hx, hb, hml, hown, hts⟩ (c_X13_bit l D cy mo_laneTold r_9 r_77 hc_78) gX13_readLane_X13_bit rfl hd_X13_bit ⟨Nat.le_of_ble_eq_true rfl, Nat.le_of_ble_eq_true rfl⟩ rfl rfl hKN va_nil rfl hl.1 rfl (Nat.le_of_ble_eq_true rfl) dX13_readLane_34 ⟨Nat.le_of_ble_eq_true rfl, Nat.le_of_ble_eq_true rfl⟩ (fun nb_79 => ?_)
    refine lv_if_eq (tgt := 45) hx hb dX13_readLane_37 (by decide) (fun cd => ?_) (fun cd => ?_)
    · have h := ifT cd h
      exact jn45 mo_sort_10 mo_fault_11 mo_wrongAt_12 h _ _ hP hD hS _ (lv_sub hl [1, 0] rfl)
    · have h := ifF cd h
      refine lv_aload_n hx hb dX13_readLane_40 rfl (lv_at hl 1 rfl) ?_
      refine lv_iconst (v := 3) hx hb dX13_readLane_41 (by decide) ?_
      obtain ⟨mo_sort_80, mo_fault_81, mo_wrongAt_82, hc_83, h⟩ := bd3_some h
      refine wVv [.int 3] [] ⟨hx, hb, hml, hown, hts⟩ (c_X13_flaw l D cy A ([(a_mo_tape, .inl (cy 0, 900, .inl mo_tape)), (a_re, .inr (12, [.int re_lanes, .int re_deep, .int re_told, .int re_beasts, .int re_cities, .int re_passes, .int re_turned, .int re_names, .ref a_re_who, .ref a_re_strong, re_kind, re_lane, re_mood, re_price, re_loses, re_name, re_nameSort, re_numberOf])), (a_re_who, .inl (cy 1, 6, .inl re_who)), (a_re_strong, .inl (cy 1, 6, .inl re_strong))] ++ X) a_mo mo_thrown mo_trouble mo_where (mo_war) (.ref a_re) (.ref a_mo_tape) mo_taped mo_size mo_spot_1 mo_sort_10 mo_place_3 mo_number_4 mo_fault_11 mo_wrongAt_12 mo_laneTold mo_word_7 (mo_v) (mo_x) (mo_past) (mo_kept) mo_acts mo_marks (mo_put) (mo_bestPut) mo_bestSum (mo_row) (mo_best) (mo_left) mo_bestSize mo_bestLeft (mo_counts) mo_sets mo_foeHarm mo_ownHarm mo_across mo_sumFoe mo_sumOwn mo_sumWon mo_sumAcross (3 : Int32) mo_sort_80 mo_fault_81 mo_wrongAt_82 hc_83) gX13_readLane_X13_flaw rfl hd_X13_flaw ⟨Nat.le_of_ble_eq_true rfl, Nat.le_of_ble_eq_true rfl⟩ rfl rfl hKN (pX3 hP [0, 1, 2, 3, 4] rfl) (dX3 hD [0, 1, 2, 3, 4] rfl rfl) hS hA 13 0 rfl rfl rfl hl.1 rfl (Nat.le_of_ble_eq_true rfl) dX13_readLane_42 ⟨Nat.le_of_ble_eq_true rfl, Nat.le_of_ble_eq_true rfl⟩ (fun H locs hP hD hS => ?_)
      have hP := pX4 (L1 := [(a_mo, .inr (13, [.int mo_thrown, .int mo_trouble, .int mo_where, mo_war, .ref a_re, .ref a_mo_tape, .int mo_taped, .int mo_size, .int mo_spot_1, .int mo_sort_80, .int mo_place_3, .int mo_number_4, .int mo_fault_81, .int mo_wrongAt_82, .int mo_laneTold, .long mo_word_7, mo_v, mo_x, mo_past, mo_kept, .int mo_acts, .int mo_marks, mo_put, mo_bestPut, .long mo_bestSum, mo_row, mo_best, mo_left, .int mo_bestSize, .int mo_bestLeft, mo_counts, .int mo_sets, .int mo_foeHarm, .int mo_ownHarm, .int mo_across, .int mo_sumFoe, .int mo_sumOwn, .int mo_sumWon, .int mo_sumAcross])), (a_mo_tape, .inl (cy 0, 900, .inl mo_tape)), (a_re, .inr (12, [.int re_lanes, .int re_deep, .int re_told, .int re_beasts, .int re_cities, .int re_passes, .int re_turned, .int re_names, .ref a_re_who, .ref a_re_strong, re_kind, re_lane, re_mood, re_price, re_loses, re_name, re_nameSort, re_numberOf])), (a_re_who, .inl (cy 1, 6, .inl re_who)), (a_re_strong, .inl (cy 1, 6, .inl re_strong))]) hP [0, 1, 2, 3, 4] rfl
      have hD := dX4 (L1 := [(a_mo, .inr (13, [.int mo_thrown, .int mo_trouble, .int mo_where, mo_war, .ref a_re, .ref a_mo_tape, .int mo_taped, .int mo_size, .int mo_spot_1, .int mo_sort_80, .int mo_place_3, .int mo_number_4, .int mo_fault_81, .int mo_wrongAt_82, .int mo_laneTold, .long mo_word_7, mo_v, mo_x, mo_past, mo_kept, .int mo_acts, .int mo_marks, mo_put, mo_bestPut, .long mo_bestSum, mo_row, mo_best, mo_left, .int mo_bestSize, .int mo_bestLeft, mo_counts, .int mo_sets, .int mo_foeHarm, .int mo_ownHarm, .int mo_across, .int mo_sumFoe, .int mo_sumOwn, .int mo_sumWon, .int mo_sumAcross])), (a_mo_tape, .inl (cy 0, 900, .inl mo_tape)), (a_re, .inr (12, [.int re_lanes, .int re_deep, .int re_told, .int re_beasts, .int re_cities, .int re_passes, .int re_turned, .int re_names, .ref a_re_who, .ref a_re_strong, re_kind, re_lane, re_mood, re_price, re_loses, re_name, re_nameSort, re_numberOf])), (a_re_who, .inl (cy 1, 6, .inl re_who)), (a_re_strong, .inl (cy 1, 6, .inl re_strong))]) hD [0, 1, 2, 3, 4] rfl rfl
      exact jn45 mo_sort_80 mo_fault_81 mo_wrongAt_82 h _ _ hP hD hS _ (lv_sub hl [1, 0] rfl)
