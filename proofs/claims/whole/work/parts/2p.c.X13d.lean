theorem hd_X13_fault : yX13_fault.cls = RX13 ∧ yX13_fault.cls ≠ "java/lang/invoke/MethodHandle" ∧ yX13_fault.cls ≠ "java/lang/invoke/VarHandle" ∧ (parseMethodDescriptor yX13_fault.desc).map (fun d => d.parameters.length) = some 0 := by decide +kernel
set_option maxHeartbeats 4000000 in
set_option maxRecDepth 100000 in
theorem c_X13_fault (l : Launch) (D : va_G) (cy : Nat → ClassId) (A : Nat → Prop) (X : va_W) (a_mo : Nat) (mo_thrown : Int32) (mo_trouble : Int32) (mo_where : Int32) (mo_war : Value) (mo_read : Value) (mo_tape : Value) (mo_taped : Int32) (mo_size : Int32) (mo_spot : Int32) (mo_sort : Int32) (mo_place : Int32) (mo_number : Int32) (mo_fault : Int32) (mo_wrongAt : Int32) (mo_laneTold : Int32) (mo_word : Int64) (mo_v : Value) (mo_x : Value) (mo_past : Value) (mo_kept : Value) (mo_acts : Int32) (mo_marks : Int32) (mo_put : Value) (mo_bestPut : Value) (mo_bestSum : Int64) (mo_row : Value) (mo_best : Value) (mo_left : Value) (mo_bestSize : Int32) (mo_bestLeft : Int32) (mo_counts : Value) (mo_sets : Int32) (mo_foeHarm : Int32) (mo_ownHarm : Int32) (mo_across : Int32) (mo_sumFoe : Int32) (mo_sumOwn : Int32) (mo_sumWon : Int32) (mo_sumAcross : Int32) (res : Int32) (mo_thrown' : Int32) (h : f_X13_fault mo_thrown mo_fault = some (res, mo_thrown')) : Met l yX13_fault wo_X13_fault ({ frames := 0, cells := 0, slots := 0, locals := 0 }) (wrPc D cy A [.ref a_mo] ([(a_mo, .inr (13, [.int mo_thrown, .int mo_trouble, .int mo_where, mo_war, mo_read, mo_tape, .int mo_taped, .int mo_size, .int mo_spot, .int mo_sort, .int mo_place, .int mo_number, .int mo_fault, .int mo_wrongAt, .int mo_laneTold, .long mo_word, mo_v, mo_x, mo_past, mo_kept, .int mo_acts, .int mo_marks, mo_put, mo_bestPut, .long mo_bestSum, mo_row, mo_best, mo_left, .int mo_bestSize, .int mo_bestLeft, mo_counts, .int mo_sets, .int mo_foeHarm, .int mo_ownHarm, .int mo_across, .int mo_sumFoe, .int mo_sumOwn, .int mo_sumWon, .int mo_sumAcross]))] ++ X)) (va_Qi (fun (r : Int32) (_ : Unit) => r = res) (wB D A ([(a_mo, .inr (13, [.int mo_thrown', .int mo_trouble, .int mo_where, mo_war, mo_read, mo_tape, .int mo_taped, .int mo_size, .int mo_spot, .int mo_sort, .int mo_place, .int mo_number, .int mo_fault, .int mo_wrongAt, .int mo_laneTold, .long mo_word, mo_v, mo_x, mo_past, mo_kept, .int mo_acts, .int mo_marks, mo_put, mo_bestPut, .long mo_bestSum, mo_row, mo_best, mo_left, .int mo_bestSize, .int mo_bestLeft, mo_counts, .int mo_sets, .int mo_foeHarm, .int mo_ownHarm, .int mo_across, .int mo_sumFoe, .int mo_sumOwn, .int mo_sumWon, .int mo_sumAcross]))] ++ X)) A) 0 0 A := by
  refine Met.ofW (cc := cX13_fault) (maxL := 1) (ret := (some .int)) (by decide) rfl ?_
  intro p e s m args below meth c s₁ B hml hv
  obtain ⟨rfl, hP, hKN, hD, hA⟩ := hv
  have hK := hKN.1
  have hx := B.exec
  have hb := B.bytes
  have hr := B.returns
  have hts := wt_X13_fault hKN.2.2 (([.ref a_mo] : List Value).toArray)
  have hown : s.vm.findClass RX13 = some m.cls := findClass_of_methodNamed B.named
  have hlocks := B.notSynchronized
  have hS : va_S A s.heap s.heap [] := va_S.rf
  have hX13 := wc_X13 hKN.2.2 (([.ref a_mo] : List Value).toArray)
  have hl := lv_entry ([.ref a_mo]) (n := 1) (Nat.le_of_ble_eq_true rfl)
  rw [lg_entry_eq]
  generalize (lg_sl ([.ref a_mo]) ++ List.replicate (1 - (lg_sl ([.ref a_mo])).length) Slot.unset).toArray = ls at hl ⊢
  have hl : lv_has ls 1 [(0, .ref a_mo)] := hl
  unfold f_X13_fault at h
  refine lv_aload_n hx hb dX13_fault_0 rfl (lv_at hl 0 rfl) ?_
  refine lv_iconst (v := 0) hx hb dX13_fault_1 (by decide) ?_
  refine va_put (D := D) (ci := 13) (C := RX13) (T := TX13) (N := 39) (v := .int 0) (ty := .int) hx hb hX13 (fun _ q => q) tyX13 tyX13_ok nmX13 hown hK hP hD hS 0 rfl rfl 0 (by decide) (hts (.fieldLink RX13 48 "ElephantLineModel" "thrown" "I") (by decide +kernel)) (fun _ h9 => h9) rfl (tyX13_ok 0 (by decide)) rfl rfl (Nat.le_of_ble_eq_true rfl) dX13_fault_2 (fun H locs hP hD hS => ?_)
  refine lv_aload_n hx hb dX13_fault_5 rfl (lv_at hl 0 rfl) ?_
  refine va_get (D := D) (ci := 13) (C := RX13) (T := TX13) (N := 39) (v := .int mo_fault) hx hb hX13 (fun _ q => q) hown hK hP 0 rfl rfl 12 (by decide) (hts (.fieldLink RX13 108 "ElephantLineModel" "fault" "I") (by decide +kernel)) (fun _ h9 => h9) rfl dX13_fault_6 ?_
  cases h
  exact W.iret hx hb hr (fun t ht _ => ⟨⟨_, (), rfl, rfl, by rw [ht]; exact hP, hD⟩, hS.F ht⟩) hS.2.2 dX13_fault_9
theorem hd_X13_where : yX13_where.cls = RX13 ∧ yX13_where.cls ≠ "java/lang/invoke/MethodHandle" ∧ yX13_where.cls ≠ "java/lang/invoke/VarHandle" ∧ (parseMethodDescriptor yX13_where.desc).map (fun d => d.parameters.length) = some 0 := by decide +kernel
set_option maxHeartbeats 4000000 in
set_option maxRecDepth 100000 in
theorem c_X13_where (l : Launch) (D : va_G) (cy : Nat → ClassId) (A : Nat → Prop) (X : va_W) (a_mo : Nat) (mo_thrown : Int32) (mo_trouble : Int32) (mo_where : Int32) (mo_war : Value) (mo_read : Value) (mo_tape : Value) (mo_taped : Int32) (mo_size : Int32) (mo_spot : Int32) (mo_sort : Int32) (mo_place : Int32) (mo_number : Int32) (mo_fault : Int32) (mo_wrongAt : Int32) (mo_laneTold : Int32) (mo_word : Int64) (mo_v : Value) (mo_x : Value) (mo_past : Value) (mo_kept : Value) (mo_acts : Int32) (mo_marks : Int32) (mo_put : Value) (mo_bestPut : Value) (mo_bestSum : Int64) (mo_row : Value) (mo_best : Value) (mo_left : Value) (mo_bestSize : Int32) (mo_bestLeft : Int32) (mo_counts : Value) (mo_sets : Int32) (mo_foeHarm : Int32) (mo_ownHarm : Int32) (mo_across : Int32) (mo_sumFoe : Int32) (mo_sumOwn : Int32) (mo_sumWon : Int32) (mo_sumAcross : Int32) (res : Int32) (mo_thrown' : Int32) (h : f_X13_where mo_thrown mo_where = some (res, mo_thrown')) : Met l yX13_where wo_X13_where ({ frames := 0, cells := 0, slots := 0, locals := 0 }) (wrPc D cy A [.ref a_mo] ([(a_mo, .inr (13, [.int mo_thrown, .int mo_trouble, .int mo_where, mo_war, mo_read, mo_tape, .int mo_taped, .int mo_size, .int mo_spot, .int mo_sort, .int mo_place, .int mo_number, .int mo_fault, .int mo_wrongAt, .int mo_laneTold, .long mo_word, mo_v, mo_x, mo_past, mo_kept, .int mo_acts, .int mo_marks, mo_put, mo_bestPut, .long mo_bestSum, mo_row, mo_best, mo_left, .int mo_bestSize, .int mo_bestLeft, mo_counts, .int mo_sets, .int mo_foeHarm, .int mo_ownHarm, .int mo_across, .int mo_sumFoe, .int mo_sumOwn, .int mo_sumWon, .int mo_sumAcross]))] ++ X)) (va_Qi (fun (r : Int32) (_ : Unit) => r = res) (wB D A ([(a_mo, .inr (13, [.int mo_thrown', .int mo_trouble, .int mo_where, mo_war, mo_read, mo_tape, .int mo_taped, .int mo_size, .int mo_spot, .int mo_sort, .int mo_place, .int mo_number, .int mo_fault, .int mo_wrongAt, .int mo_laneTold, .long mo_word, mo_v, mo_x, mo_past, mo_kept, .int mo_acts, .int mo_marks, mo_put, mo_bestPut, .long mo_bestSum, mo_row, mo_best, mo_left, .int mo_bestSize, .int mo_bestLeft, mo_counts, .int mo_sets, .int mo_foeHarm, .int mo_ownHarm, .int mo_across, .int mo_sumFoe, .int mo_sumOwn, .int mo_sumWon, .int mo_sumAcross]))] ++ X)) A) 0 0 A := by
  refine Met.ofW (cc := cX13_where) (maxL := 1) (ret := (some .int)) (by decide) rfl ?_
  intro p e s m args below meth c s₁ B hml hv
  obtain ⟨rfl, hP, hKN, hD, hA⟩ := hv
  have hK := hKN.1
  have hx := B.exec
  have hb := B.bytes
  have hr := B.returns
  have hts := wt_X13_where hKN.2.2 (([.ref a_mo] : List Value).toArray)
  have hown : s.vm.findClass RX13 = some m.cls := findClass_of_methodNamed B.named
  have hlocks := B.notSynchronized
  have hS : va_S A s.heap s.heap [] := va_S.rf
  have hX13 := wc_X13 hKN.2.2 (([.ref a_mo] : List Value).toArray)
  have hl := lv_entry ([.ref a_mo]) (n := 1) (Nat.le_of_ble_eq_true rfl)
  rw [lg_entry_eq]
  generalize (lg_sl ([.ref a_mo]) ++ List.replicate (1 - (lg_sl ([.ref a_mo])).length) Slot.unset).toArray = ls at hl ⊢
  have hl : lv_has ls 1 [(0, .ref a_mo)] := hl
  unfold f_X13_where at h
  refine lv_aload_n hx hb dX13_where_0 rfl (lv_at hl 0 rfl) ?_
  refine lv_iconst (v := 0) hx hb dX13_where_1 (by decide) ?_
  refine va_put (D := D) (ci := 13) (C := RX13) (T := TX13) (N := 39) (v := .int 0) (ty := .int) hx hb hX13 (fun _ q => q) tyX13 tyX13_ok nmX13 hown hK hP hD hS 0 rfl rfl 0 (by decide) (hts (.fieldLink RX13 48 "ElephantLineModel" "thrown" "I") (by decide +kernel)) (fun _ h9 => h9) rfl (tyX13_ok 0 (by decide)) rfl rfl (Nat.le_of_ble_eq_true rfl) dX13_where_2 (fun H locs hP hD hS => ?_)
  refine lv_aload_n hx hb dX13_where_5 rfl (lv_at hl 0 rfl) ?_
  refine va_get (D := D) (ci := 13) (C := RX13) (T := TX13) (N := 39) (v := .int mo_where) hx hb hX13 (fun _ q => q) hown hK hP 0 rfl rfl 2 (by decide) (hts (.fieldLink RX13 9 "ElephantLineModel" "where" "I") (by decide +kernel)) (fun _ h9 => h9) rfl dX13_where_6 ?_
  cases h
  exact W.iret hx hb hr (fun t ht _ => ⟨⟨_, (), rfl, rfl, by rw [ht]; exact hP, hD⟩, hS.F ht⟩) hS.2.2 dX13_where_9
theorem hd_X13_tries : yX13_tries.cls = RX13 ∧ yX13_tries.cls ≠ "java/lang/invoke/MethodHandle" ∧ yX13_tries.cls ≠ "java/lang/invoke/VarHandle" ∧ (parseMethodDescriptor yX13_tries.desc).map (fun d => d.parameters.length) = some 0 := by decide +kernel
set_option maxHeartbeats 4000000 in
set_option maxRecDepth 100000 in
theorem c_X13_tries (l : Launch) (D : va_G) (cy : Nat → ClassId) (A : Nat → Prop) (X : va_W) (a_mo a_mo_v a_mo_x : Nat) (mo_thrown : Int32) (mo_trouble : Int32) (mo_where : Int32) (mo_war : Value) (mo_read : Value) (mo_tape : Value) (mo_taped : Int32) (mo_size : Int32) (mo_spot : Int32) (mo_sort : Int32) (mo_place : Int32) (mo_number : Int32) (mo_fault : Int32) (mo_wrongAt : Int32) (mo_laneTold : Int32) (mo_word : Int64) (mo_past : Value) (mo_kept : Value) (mo_acts : Int32) (mo_marks : Int32) (mo_put : Value) (mo_bestPut : Value) (mo_bestSum : Int64) (mo_row : Value) (mo_best : Value) (mo_left : Value) (mo_bestSize : Int32) (mo_bestLeft : Int32) (mo_counts : Value) (mo_sets : Int32) (mo_foeHarm : Int32) (mo_ownHarm : Int32) (mo_across : Int32) (mo_sumFoe : Int32) (mo_sumOwn : Int32) (mo_sumWon : Int32) (mo_sumAcross : Int32) (mo_v : Nat → Int32) (mo_x : Nat → Int32) (mo_x' : Nat → Int32) (h : f_X13_tries mo_v mo_x = some (mo_x')) : Met l yX13_tries wo_X13_tries ({ frames := 0, cells := 0, slots := 0, locals := 0 }) (wrPc D cy A [.ref a_mo] ([(a_mo, .inr (13, [.int mo_thrown, .int mo_trouble, .int mo_where, mo_war, mo_read, mo_tape, .int mo_taped, .int mo_size, .int mo_spot, .int mo_sort, .int mo_place, .int mo_number, .int mo_fault, .int mo_wrongAt, .int mo_laneTold, .long mo_word, .ref a_mo_v, .ref a_mo_x, mo_past, mo_kept, .int mo_acts, .int mo_marks, mo_put, mo_bestPut, .long mo_bestSum, mo_row, mo_best, mo_left, .int mo_bestSize, .int mo_bestLeft, mo_counts, .int mo_sets, .int mo_foeHarm, .int mo_ownHarm, .int mo_across, .int mo_sumFoe, .int mo_sumOwn, .int mo_sumWon, .int mo_sumAcross])), (a_mo_v, .inl (cy 1, 19, .inl mo_v)), (a_mo_x, .inl (cy 1, 19, .inl mo_x))] ++ X)) (va_Qv (fun (_ : Unit) => True) (wB D A ([(a_mo, .inr (13, [.int mo_thrown, .int mo_trouble, .int mo_where, mo_war, mo_read, mo_tape, .int mo_taped, .int mo_size, .int mo_spot, .int mo_sort, .int mo_place, .int mo_number, .int mo_fault, .int mo_wrongAt, .int mo_laneTold, .long mo_word, .ref a_mo_v, .ref a_mo_x, mo_past, mo_kept, .int mo_acts, .int mo_marks, mo_put, mo_bestPut, .long mo_bestSum, mo_row, mo_best, mo_left, .int mo_bestSize, .int mo_bestLeft, mo_counts, .int mo_sets, .int mo_foeHarm, .int mo_ownHarm, .int mo_across, .int mo_sumFoe, .int mo_sumOwn, .int mo_sumWon, .int mo_sumAcross])), (a_mo_v, .inl (cy 1, 19, .inl mo_v)), (a_mo_x, .inl (cy 1, 19, .inl mo_x'))] ++ X)) A) 0 0 A := by
  refine Met.ofW (cc := cX13_tries) (maxL := 2) (ret := none) (by decide) rfl ?_
  intro p e s m args below meth c s₁ B hml hv
  obtain ⟨rfl, hP, hKN, hD, hA⟩ := hv
  have hK := hKN.1
  have hx := B.exec
  have hb := B.bytes
  have hr := B.returns
  have hts := wt_X13_tries hKN.2.2 (([.ref a_mo] : List Value).toArray)
  have hown : s.vm.findClass RX13 = some m.cls := findClass_of_methodNamed B.named
  have hlocks := B.notSynchronized
  have hS : va_S A s.heap s.heap [] := va_S.rf
  have hX13 := wc_X13 hKN.2.2 (([.ref a_mo] : List Value).toArray)
  have hl := lv_entry ([.ref a_mo]) (n := 2) (Nat.le_of_ble_eq_true rfl)
  rw [lg_entry_eq]
  generalize (lg_sl ([.ref a_mo]) ++ List.replicate (2 - (lg_sl ([.ref a_mo])).length) Slot.unset).toArray = ls at hl ⊢
  have hl : lv_has ls 2 [(0, .ref a_mo)] := hl
  unfold f_X13_tries at h
  refine lv_iconst (v := 0) hx hb dX13_tries_0 (by decide) ?_
  refine lv_istore_n (lv' := [(1, .int 0), (0, .ref a_mo)]) hx hb dX13_tries_1 rfl hl (by decide) rfl (fun ls hl => ?_)
  have lp2 : ∀ (n2 : Nat) (x1_1 : Int32) (mo_x_2 : Nat → Int32), f_X13_tries_L2 mo_v n2 x1_1 mo_x_2 = some (mo_x') → ∀ (H : Heap) (locs : List Loc), va_P D vwCl ([(a_mo, .inr (13, [.int mo_thrown, .int mo_trouble, .int mo_where, mo_war, mo_read, mo_tape, .int mo_taped, .int mo_size, .int mo_spot, .int mo_sort, .int mo_place, .int mo_number, .int mo_fault, .int mo_wrongAt, .int mo_laneTold, .long mo_word, .ref a_mo_v, .ref a_mo_x, mo_past, mo_kept, .int mo_acts, .int mo_marks, mo_put, mo_bestPut, .long mo_bestSum, mo_row, mo_best, mo_left, .int mo_bestSize, .int mo_bestLeft, mo_counts, .int mo_sets, .int mo_foeHarm, .int mo_ownHarm, .int mo_across, .int mo_sumFoe, .int mo_sumOwn, .int mo_sumWon, .int mo_sumAcross])), (a_mo_v, .inl (cy 1, 19, .inl mo_v)), (a_mo_x, .inl (cy 1, 19, .inl mo_x_2))] ++ X) H → va_D A ([(a_mo, .inr (13, [.int mo_thrown, .int mo_trouble, .int mo_where, mo_war, mo_read, mo_tape, .int mo_taped, .int mo_size, .int mo_spot, .int mo_sort, .int mo_place, .int mo_number, .int mo_fault, .int mo_wrongAt, .int mo_laneTold, .long mo_word, .ref a_mo_v, .ref a_mo_x, mo_past, mo_kept, .int mo_acts, .int mo_marks, mo_put, mo_bestPut, .long mo_bestSum, mo_row, mo_best, mo_left, .int mo_bestSize, .int mo_bestLeft, mo_counts, .int mo_sets, .int mo_foeHarm, .int mo_ownHarm, .int mo_across, .int mo_sumFoe, .int mo_sumOwn, .int mo_sumWon, .int mo_sumAcross])), (a_mo_v, .inl (cy 1, 19, .inl mo_v)), (a_mo_x, .inl (cy 1, 19, .inl mo_x_2))] ++ X) → va_S A s.heap H locs → ∀ ls : Array Slot, lv_has ls 2 [(0, .ref a_mo), (1, .int x1_1)] → W p l e (headSpec wo_X13_tries ({ frames := 0, cells := 0, slots := 0, locals := 0 })).room s m (([.ref a_mo] : List Value).toArray) below meth c H locs 0 0 (MQ below (va_Qv (fun (_ : Unit) => True) (wB D A ([(a_mo, .inr (13, [.int mo_thrown, .int mo_trouble, .int mo_where, mo_war, mo_read, mo_tape, .int mo_taped, .int mo_size, .int mo_spot, .int mo_sort, .int mo_place, .int mo_number, .int mo_fault, .int mo_wrongAt, .int mo_laneTold, .long mo_word, .ref a_mo_v, .ref a_mo_x, mo_past, mo_kept, .int mo_acts, .int mo_marks, mo_put, mo_bestPut, .long mo_bestSum, mo_row, mo_best, mo_left, .int mo_bestSize, .int mo_bestLeft, mo_counts, .int mo_sets, .int mo_foeHarm, .int mo_ownHarm, .int mo_across, .int mo_sumFoe, .int mo_sumOwn, .int mo_sumWon, .int mo_sumAcross])), (a_mo_v, .inl (cy 1, 19, .inl mo_v)), (a_mo_x, .inl (cy 1, 19, .inl mo_x'))] ++ X)) A) (([.ref a_mo] : List Value).toArray) s 0 0 A) (F0 m 2 ls []) := by
    intro n2
    induction n2 with
    | zero => intro x1_1 mo_x_2 h; exact absurd (show (none : Option ((Nat → Int32))) = some _ from h) (by intro q; cases q)
    | succ n2 ih2 =>
      intro x1_1 mo_x_2 h H locs hP hD hS ls hl
      have h : f_X13_tries_b2 mo_v (f_X13_tries_L2 mo_v n2) x1_1 mo_x_2 = some (mo_x') := h
      unfold f_X13_tries_b2 at h
      refine lv_iload_n hx hb dX13_tries_2 rfl (lv_at hl 1 rfl) ?_
      refine lv_bipush (v := 19) hx hb dX13_tries_3 (by decide) ?_
      refine lv_icmp_ge (tgt := 26) hx hb dX13_tries_5 (by decide) (fun cd => ?_) (fun cd => ?_)
      · have h := ifT cd h
        cases h
        exact W.vret hx hb hr (fun t ht _ => ⟨⟨(), rfl, trivial, by rw [ht]; exact hP, hD⟩, hS.F ht⟩) hS.2.2 dX13_tries_26
      · have h := ifF cd h
        refine lv_aload_n hx hb dX13_tries_8 rfl (lv_at hl 0 rfl) ?_
        refine va_get (D := D) (ci := 13) (C := RX13) (T := TX13) (N := 39) (v := .ref a_mo_x) hx hb hX13 (fun _ q => q) hown hK hP 0 rfl rfl 17 (by decide) (hts (.fieldLink RX13 21 "ElephantLineModel" "x" "[I") (by decide +kernel)) (fun _ h9 => h9) rfl dX13_tries_9 ?_
        refine lv_iload_n hx hb dX13_tries_12 rfl (lv_at hl 1 rfl) ?_
        refine lv_aload_n hx hb dX13_tries_13 rfl (lv_at hl 0 rfl) ?_
        refine va_get (D := D) (ci := 13) (C := RX13) (T := TX13) (N := 39) (v := .ref a_mo_v) hx hb hX13 (fun _ q => q) hown hK hP 0 rfl rfl 16 (by decide) (hts (.fieldLink RX13 17 "ElephantLineModel" "v" "[I") (by decide +kernel)) (fun _ h9 => h9) rfl dX13_tries_14 ?_
        refine lv_iload_n hx hb dX13_tries_17 rfl (lv_at hl 1 rfl) ?_
        obtain ⟨i_3, h⟩ := gIn_some h
        refine va_iald hx hb hK hP 1 1 rfl rfl i_3 dX13_tries_18 ?_
        obtain ⟨i_4, h⟩ := gIn_some h
        refine va_iast hx hb hK hP hD hS 2 1 rfl rfl i_4 dX13_tries_19 (fun H locs hP hD hS => ?_)
        refine lv_iinc (v := x1_1 + 1) (lv' := [(1, .int (x1_1 + 1)), (0, .ref a_mo)]) hx hb dX13_tries_20 hl (k := 1) rfl (by first | rfl | decide) (by decide) rfl (fun ls hl => ?_)
        refine lv_goto (tgt := 2) hx hb dX13_tries_23 (by decide) ?_
        exact ih2 (x1_1 + 1) (upd mo_x_2 x1_1.toNatClampNeg (mo_v x1_1.toNatClampNeg)) h _ _ hP hD hS _ (lv_sub hl [1, 0] rfl)
  exact lp2 fuelN (0 : Int32) mo_x h _ _ hP hD hS _ (lv_sub hl [1, 0] rfl)
theorem hd_X13_isLane : yX13_isLane.cls = RX13 ∧ yX13_isLane.cls ≠ "java/lang/invoke/MethodHandle" ∧ yX13_isLane.cls ≠ "java/lang/invoke/VarHandle" ∧ (parseMethodDescriptor yX13_isLane.desc).map (fun d => d.parameters.length) = some 1 := by decide +kernel
set_option maxHeartbeats 4000000 in
set_option maxRecDepth 100000 in
theorem c_X13_isLane (l : Launch) (D : va_G) (cy : Nat → ClassId) (a_mo a_wa : Nat) (mo_thrown : Int32) (mo_trouble : Int32) (mo_where : Int32) (mo_read : Value) (mo_tape : Value) (mo_taped : Int32) (mo_size : Int32) (mo_spot : Int32) (mo_sort : Int32) (mo_place : Int32) (mo_number : Int32) (mo_fault : Int32) (mo_wrongAt : Int32) (mo_laneTold : Int32) (mo_word : Int64) (mo_v : Value) (mo_x : Value) (mo_past : Value) (mo_kept : Value) (mo_acts : Int32) (mo_marks : Int32) (mo_put : Value) (mo_bestPut : Value) (mo_bestSum : Int64) (mo_row : Value) (mo_best : Value) (mo_left : Value) (mo_bestSize : Int32) (mo_bestLeft : Int32) (mo_counts : Value) (mo_sets : Int32) (mo_foeHarm : Int32) (mo_ownHarm : Int32) (mo_across : Int32) (mo_sumFoe : Int32) (mo_sumOwn : Int32) (mo_sumWon : Int32) (mo_sumAcross : Int32) (wa_lanes : Int32) (wa_deep : Int32) (wa_told : Int32) (wa_beasts : Int32) (wa_cities : Int32) (wa_passes : Int32) (wa_turned : Int32) (wa_names : Int32) (wa_who : Value) (wa_strong : Value) (wa_kind : Value) (wa_lane : Value) (wa_mood : Value) (wa_price : Value) (wa_loses : Value) (wa_name : Value) (wa_nameSort : Value) (wa_numberOf : Value) (p1 : Int32) (res : Int32) (h : f_X13_isLane wa_lanes p1 = some (res)) : Met l yX13_isLane wo_X13_isLane ({ frames := 0, cells := 0, slots := 0, locals := 0 }) (roPc D cy [.ref a_mo, .int p1] [(a_mo, .inr (13, [.int mo_thrown, .int mo_trouble, .int mo_where, .ref a_wa, mo_read, mo_tape, .int mo_taped, .int mo_size, .int mo_spot, .int mo_sort, .int mo_place, .int mo_number, .int mo_fault, .int mo_wrongAt, .int mo_laneTold, .long mo_word, mo_v, mo_x, mo_past, mo_kept, .int mo_acts, .int mo_marks, mo_put, mo_bestPut, .long mo_bestSum, mo_row, mo_best, mo_left, .int mo_bestSize, .int mo_bestLeft, mo_counts, .int mo_sets, .int mo_foeHarm, .int mo_ownHarm, .int mo_across, .int mo_sumFoe, .int mo_sumOwn, .int mo_sumWon, .int mo_sumAcross])), (a_wa, .inr (12, [.int wa_lanes, .int wa_deep, .int wa_told, .int wa_beasts, .int wa_cities, .int wa_passes, .int wa_turned, .int wa_names, wa_who, wa_strong, wa_kind, wa_lane, wa_mood, wa_price, wa_loses, wa_name, wa_nameSort, wa_numberOf]))]) (vp_Si (fun r => r = res ∧ nbv r)) 0 0 (fun _ => False) := by
  refine Met.ofW (cc := cX13_isLane) (maxL := 2) (ret := (some .boolean)) (by decide) rfl ?_
  intro p e s m args below meth c s₁ B hml hv
  obtain ⟨rfl, hP, hKN⟩ := hv
  have hK := hKN.1
  have hx := B.exec
  have hb := B.bytes
  have hr := B.returns
  have hts := wt_X13_isLane hKN.2.2 (([.ref a_mo, .int p1] : List Value).toArray)
  have hown : s.vm.findClass RX13 = some m.cls := findClass_of_methodNamed B.named
  have hlocks := B.notSynchronized
  have hX12 := wc_X12 hKN.2.2 (([.ref a_mo, .int p1] : List Value).toArray)
  have hX13 := wc_X13 hKN.2.2 (([.ref a_mo, .int p1] : List Value).toArray)
  have hl := lv_entry ([.ref a_mo, .int p1]) (n := 2) (Nat.le_of_ble_eq_true rfl)
  rw [lg_entry_eq]
  generalize (lg_sl ([.ref a_mo, .int p1]) ++ List.replicate (2 - (lg_sl ([.ref a_mo, .int p1])).length) Slot.unset).toArray = ls at hl ⊢
  have hl : lv_has ls 2 [(0, .ref a_mo), (1, .int p1)] := hl
  unfold f_X13_isLane at h
  refine lv_aload_n hx hb dX13_isLane_0 rfl (lv_at hl 0 rfl) ?_
  refine va_get (D := D) (ci := 13) (C := RX13) (T := TX13) (N := 39) (v := .ref a_wa) hx hb hX13 (fun _ q => q) hown hK hP 0 rfl rfl 3 (by decide) (hts (.fieldLink RX13 301 "ElephantLineModel" "war" "LElephantLineModel$War;") (by decide +kernel)) (fun _ h9 => h9) rfl dX13_isLane_1 ?_
  refine lv_ifnull hx hb dX13_isLane_4 ?_
  refine lv_iload_n hx hb dX13_isLane_7 rfl (lv_at hl 1 rfl) ?_
  refine lv_if_lt (tgt := 26) hx hb dX13_isLane_8 (by decide) (fun cd => ?_) (fun cd => ?_)
  · have h := ifT cd h
    refine lv_iconst (v := 0) hx hb dX13_isLane_26 (by decide) ?_
    exact W.zret (ty := .boolean) (v := 0) hx hb hr (nbv.n nbv_0) (fun t ht _ => ⟨_, rfl, ⟨Option.some.inj h, nbv_0⟩, ht⟩) (fun _ q => by cases q) dX13_isLane_27
  · have h := ifF cd h
    refine lv_iload_n hx hb dX13_isLane_11 rfl (lv_at hl 1 rfl) ?_
    refine lv_aload_n hx hb dX13_isLane_12 rfl (lv_at hl 0 rfl) ?_
    refine va_get (D := D) (ci := 13) (C := RX13) (T := TX13) (N := 39) (v := .ref a_wa) hx hb hX13 (fun _ q => q) hown hK hP 0 rfl rfl 3 (by decide) (hts (.fieldLink RX13 301 "ElephantLineModel" "war" "LElephantLineModel$War;") (by decide +kernel)) (fun _ h9 => h9) rfl dX13_isLane_13 ?_
    refine va_getN (D := D) (ci := 12) (C := RX12) (T := TX12) (N := 18) (v := .int wa_lanes) hx hb hX12 (fun _ q => q) hown hK hP 1 rfl rfl 0 (by decide) (va_Nw.use rfl (hKN.2.1.1 ("ElephantLineModel", 160, "ElephantLineModel$War", "lanes", "I", "ElephantLineModel") (List.mem_of_getElem? (i := 67) rfl))) (fun _ h9 => h9) rfl dX13_isLane_16 ?_
    refine lv_icmp_ge (tgt := 26) hx hb dX13_isLane_19 (by decide) (fun cd => ?_) (fun cd => ?_)
    · have h := ifT cd h
      refine lv_iconst (v := 0) hx hb dX13_isLane_26 (by decide) ?_
      exact W.zret (ty := .boolean) (v := 0) hx hb hr (nbv.n nbv_0) (fun t ht _ => ⟨_, rfl, ⟨Option.some.inj h, nbv_0⟩, ht⟩) (fun _ q => by cases q) dX13_isLane_27
    · have h := ifF cd h
      refine lv_iconst (v := 1) hx hb dX13_isLane_22 (by decide) ?_
      refine lv_goto (tgt := 27) hx hb dX13_isLane_23 (by decide) ?_
      exact W.zret (ty := .boolean) (v := 1) hx hb hr (nbv.n nbv_1) (fun t ht _ => ⟨_, rfl, ⟨Option.some.inj h, nbv_1⟩, ht⟩) (fun _ q => by cases q) dX13_isLane_27
theorem hd_X13_isBeast : yX13_isBeast.cls = RX13 ∧ yX13_isBeast.cls ≠ "java/lang/invoke/MethodHandle" ∧ yX13_isBeast.cls ≠ "java/lang/invoke/VarHandle" ∧ (parseMethodDescriptor yX13_isBeast.desc).map (fun d => d.parameters.length) = some 1 := by decide +kernel
set_option maxHeartbeats 4000000 in
set_option maxRecDepth 100000 in
theorem c_X13_isBeast (l : Launch) (D : va_G) (cy : Nat → ClassId) (a_mo a_wa : Nat) (mo_thrown : Int32) (mo_trouble : Int32) (mo_where : Int32) (mo_read : Value) (mo_tape : Value) (mo_taped : Int32) (mo_size : Int32) (mo_spot : Int32) (mo_sort : Int32) (mo_place : Int32) (mo_number : Int32) (mo_fault : Int32) (mo_wrongAt : Int32) (mo_laneTold : Int32) (mo_word : Int64) (mo_v : Value) (mo_x : Value) (mo_past : Value) (mo_kept : Value) (mo_acts : Int32) (mo_marks : Int32) (mo_put : Value) (mo_bestPut : Value) (mo_bestSum : Int64) (mo_row : Value) (mo_best : Value) (mo_left : Value) (mo_bestSize : Int32) (mo_bestLeft : Int32) (mo_counts : Value) (mo_sets : Int32) (mo_foeHarm : Int32) (mo_ownHarm : Int32) (mo_across : Int32) (mo_sumFoe : Int32) (mo_sumOwn : Int32) (mo_sumWon : Int32) (mo_sumAcross : Int32) (wa_lanes : Int32) (wa_deep : Int32) (wa_told : Int32) (wa_beasts : Int32) (wa_cities : Int32) (wa_passes : Int32) (wa_turned : Int32) (wa_names : Int32) (wa_who : Value) (wa_strong : Value) (wa_kind : Value) (wa_lane : Value) (wa_mood : Value) (wa_price : Value) (wa_loses : Value) (wa_name : Value) (wa_nameSort : Value) (wa_numberOf : Value) (p1 : Int32) (res : Int32) (h : f_X13_isBeast wa_beasts p1 = some (res)) : Met l yX13_isBeast wo_X13_isBeast ({ frames := 0, cells := 0, slots := 0, locals := 0 }) (roPc D cy [.ref a_mo, .int p1] [(a_mo, .inr (13, [.int mo_thrown, .int mo_trouble, .int mo_where, .ref a_wa, mo_read, mo_tape, .int mo_taped, .int mo_size, .int mo_spot, .int mo_sort, .int mo_place, .int mo_number, .int mo_fault, .int mo_wrongAt, .int mo_laneTold, .long mo_word, mo_v, mo_x, mo_past, mo_kept, .int mo_acts, .int mo_marks, mo_put, mo_bestPut, .long mo_bestSum, mo_row, mo_best, mo_left, .int mo_bestSize, .int mo_bestLeft, mo_counts, .int mo_sets, .int mo_foeHarm, .int mo_ownHarm, .int mo_across, .int mo_sumFoe, .int mo_sumOwn, .int mo_sumWon, .int mo_sumAcross])), (a_wa, .inr (12, [.int wa_lanes, .int wa_deep, .int wa_told, .int wa_beasts, .int wa_cities, .int wa_passes, .int wa_turned, .int wa_names, wa_who, wa_strong, wa_kind, wa_lane, wa_mood, wa_price, wa_loses, wa_name, wa_nameSort, wa_numberOf]))]) (vp_Si (fun r => r = res ∧ nbv r)) 0 0 (fun _ => False) := by
  refine Met.ofW (cc := cX13_isBeast) (maxL := 2) (ret := (some .boolean)) (by decide) rfl ?_
  intro p e s m args below meth c s₁ B hml hv
  obtain ⟨rfl, hP, hKN⟩ := hv
  have hK := hKN.1
  have hx := B.exec
  have hb := B.bytes
  have hr := B.returns
  have hts := wt_X13_isBeast hKN.2.2 (([.ref a_mo, .int p1] : List Value).toArray)
  have hown : s.vm.findClass RX13 = some m.cls := findClass_of_methodNamed B.named
  have hlocks := B.notSynchronized
  have hX12 := wc_X12 hKN.2.2 (([.ref a_mo, .int p1] : List Value).toArray)
  have hX13 := wc_X13 hKN.2.2 (([.ref a_mo, .int p1] : List Value).toArray)
  have hl := lv_entry ([.ref a_mo, .int p1]) (n := 2) (Nat.le_of_ble_eq_true rfl)
  rw [lg_entry_eq]
  generalize (lg_sl ([.ref a_mo, .int p1]) ++ List.replicate (2 - (lg_sl ([.ref a_mo, .int p1])).length) Slot.unset).toArray = ls at hl ⊢
  have hl : lv_has ls 2 [(0, .ref a_mo), (1, .int p1)] := hl
  unfold f_X13_isBeast at h
  refine lv_aload_n hx hb dX13_isBeast_0 rfl (lv_at hl 0 rfl) ?_
  refine va_get (D := D) (ci := 13) (C := RX13) (T := TX13) (N := 39) (v := .ref a_wa) hx hb hX13 (fun _ q => q) hown hK hP 0 rfl rfl 3 (by decide) (hts (.fieldLink RX13 301 "ElephantLineModel" "war" "LElephantLineModel$War;") (by decide +kernel)) (fun _ h9 => h9) rfl dX13_isBeast_1 ?_
  refine lv_ifnull hx hb dX13_isBeast_4 ?_
  refine lv_iload_n hx hb dX13_isBeast_7 rfl (lv_at hl 1 rfl) ?_
  refine lv_if_lt (tgt := 26) hx hb dX13_isBeast_8 (by decide) (fun cd => ?_) (fun cd => ?_)
  · have h := ifT cd h
    refine lv_iconst (v := 0) hx hb dX13_isBeast_26 (by decide) ?_
    exact W.zret (ty := .boolean) (v := 0) hx hb hr (nbv.n nbv_0) (fun t ht _ => ⟨_, rfl, ⟨Option.some.inj h, nbv_0⟩, ht⟩) (fun _ q => by cases q) dX13_isBeast_27
  · have h := ifF cd h
    refine lv_iload_n hx hb dX13_isBeast_11 rfl (lv_at hl 1 rfl) ?_
    refine lv_aload_n hx hb dX13_isBeast_12 rfl (lv_at hl 0 rfl) ?_
    refine va_get (D := D) (ci := 13) (C := RX13) (T := TX13) (N := 39) (v := .ref a_wa) hx hb hX13 (fun _ q => q) hown hK hP 0 rfl rfl 3 (by decide) (hts (.fieldLink RX13 301 "ElephantLineModel" "war" "LElephantLineModel$War;") (by decide +kernel)) (fun _ h9 => h9) rfl dX13_isBeast_13 ?_
    refine va_getN (D := D) (ci := 12) (C := RX12) (T := TX12) (N := 18) (v := .int wa_beasts) hx hb hX12 (fun _ q => q) hown hK hP 1 rfl rfl 3 (by decide) (va_Nw.use rfl (hKN.2.1.1 ("ElephantLineModel", 195, "ElephantLineModel$War", "beasts", "I", "ElephantLineModel") (List.mem_of_getElem? (i := 70) rfl))) (fun _ h9 => h9) rfl dX13_isBeast_16 ?_
    refine lv_icmp_ge (tgt := 26) hx hb dX13_isBeast_19 (by decide) (fun cd => ?_) (fun cd => ?_)
    · have h := ifT cd h
      refine lv_iconst (v := 0) hx hb dX13_isBeast_26 (by decide) ?_
      exact W.zret (ty := .boolean) (v := 0) hx hb hr (nbv.n nbv_0) (fun t ht _ => ⟨_, rfl, ⟨Option.some.inj h, nbv_0⟩, ht⟩) (fun _ q => by cases q) dX13_isBeast_27
    · have h := ifF cd h
      refine lv_iconst (v := 1) hx hb dX13_isBeast_22 (by decide) ?_
      refine lv_goto (tgt := 27) hx hb dX13_isBeast_23 (by decide) ?_
      exact W.zret (ty := .boolean) (v := 1) hx hb hr (nbv.n nbv_1) (fun t ht _ => ⟨_, rfl, ⟨Option.some.inj h, nbv_1⟩, ht⟩) (fun _ q => by cases q) dX13_isBeast_27
theorem hd_X13_isCity : yX13_isCity.cls = RX13 ∧ yX13_isCity.cls ≠ "java/lang/invoke/MethodHandle" ∧ yX13_isCity.cls ≠ "java/lang/invoke/VarHandle" ∧ (parseMethodDescriptor yX13_isCity.desc).map (fun d => d.parameters.length) = some 1 := by decide +kernel
set_option maxHeartbeats 4000000 in
set_option maxRecDepth 100000 in
theorem c_X13_isCity (l : Launch) (D : va_G) (cy : Nat → ClassId) (a_mo a_wa : Nat) (mo_thrown : Int32) (mo_trouble : Int32) (mo_where : Int32) (mo_read : Value) (mo_tape : Value) (mo_taped : Int32) (mo_size : Int32) (mo_spot : Int32) (mo_sort : Int32) (mo_place : Int32) (mo_number : Int32) (mo_fault : Int32) (mo_wrongAt : Int32) (mo_laneTold : Int32) (mo_word : Int64) (mo_v : Value) (mo_x : Value) (mo_past : Value) (mo_kept : Value) (mo_acts : Int32) (mo_marks : Int32) (mo_put : Value) (mo_bestPut : Value) (mo_bestSum : Int64) (mo_row : Value) (mo_best : Value) (mo_left : Value) (mo_bestSize : Int32) (mo_bestLeft : Int32) (mo_counts : Value) (mo_sets : Int32) (mo_foeHarm : Int32) (mo_ownHarm : Int32) (mo_across : Int32) (mo_sumFoe : Int32) (mo_sumOwn : Int32) (mo_sumWon : Int32) (mo_sumAcross : Int32) (wa_lanes : Int32) (wa_deep : Int32) (wa_told : Int32) (wa_beasts : Int32) (wa_cities : Int32) (wa_passes : Int32) (wa_turned : Int32) (wa_names : Int32) (wa_who : Value) (wa_strong : Value) (wa_kind : Value) (wa_lane : Value) (wa_mood : Value) (wa_price : Value) (wa_loses : Value) (wa_name : Value) (wa_nameSort : Value) (wa_numberOf : Value) (p1 : Int32) (res : Int32) (h : f_X13_isCity wa_cities p1 = some (res)) : Met l yX13_isCity wo_X13_isCity ({ frames := 0, cells := 0, slots := 0, locals := 0 }) (roPc D cy [.ref a_mo, .int p1] [(a_mo, .inr (13, [.int mo_thrown, .int mo_trouble, .int mo_where, .ref a_wa, mo_read, mo_tape, .int mo_taped, .int mo_size, .int mo_spot, .int mo_sort, .int mo_place, .int mo_number, .int mo_fault, .int mo_wrongAt, .int mo_laneTold, .long mo_word, mo_v, mo_x, mo_past, mo_kept, .int mo_acts, .int mo_marks, mo_put, mo_bestPut, .long mo_bestSum, mo_row, mo_best, mo_left, .int mo_bestSize, .int mo_bestLeft, mo_counts, .int mo_sets, .int mo_foeHarm, .int mo_ownHarm, .int mo_across, .int mo_sumFoe, .int mo_sumOwn, .int mo_sumWon, .int mo_sumAcross])), (a_wa, .inr (12, [.int wa_lanes, .int wa_deep, .int wa_told, .int wa_beasts, .int wa_cities, .int wa_passes, .int wa_turned, .int wa_names, wa_who, wa_strong, wa_kind, wa_lane, wa_mood, wa_price, wa_loses, wa_name, wa_nameSort, wa_numberOf]))]) (vp_Si (fun r => r = res ∧ nbv r)) 0 0 (fun _ => False) := by
  refine Met.ofW (cc := cX13_isCity) (maxL := 2) (ret := (some .boolean)) (by decide) rfl ?_
  intro p e s m args below meth c s₁ B hml hv
  obtain ⟨rfl, hP, hKN⟩ := hv
  have hK := hKN.1
  have hx := B.exec
  have hb := B.bytes
  have hr := B.returns
  have hts := wt_X13_isCity hKN.2.2 (([.ref a_mo, .int p1] : List Value).toArray)
  have hown : s.vm.findClass RX13 = some m.cls := findClass_of_methodNamed B.named
  have hlocks := B.notSynchronized
  have hX12 := wc_X12 hKN.2.2 (([.ref a_mo, .int p1] : List Value).toArray)
  have hX13 := wc_X13 hKN.2.2 (([.ref a_mo, .int p1] : List Value).toArray)
  have hl := lv_entry ([.ref a_mo, .int p1]) (n := 2) (Nat.le_of_ble_eq_true rfl)
  rw [lg_entry_eq]
  generalize (lg_sl ([.ref a_mo, .int p1]) ++ List.replicate (2 - (lg_sl ([.ref a_mo, .int p1])).length) Slot.unset).toArray = ls at hl ⊢
  have hl : lv_has ls 2 [(0, .ref a_mo), (1, .int p1)] := hl
  unfold f_X13_isCity at h
  refine lv_aload_n hx hb dX13_isCity_0 rfl (lv_at hl 0 rfl) ?_
  refine va_get (D := D) (ci := 13) (C := RX13) (T := TX13) (N := 39) (v := .ref a_wa) hx hb hX13 (fun _ q => q) hown hK hP 0 rfl rfl 3 (by decide) (hts (.fieldLink RX13 301 "ElephantLineModel" "war" "LElephantLineModel$War;") (by decide +kernel)) (fun _ h9 => h9) rfl dX13_isCity_1 ?_
  refine lv_ifnull hx hb dX13_isCity_4 ?_
  refine lv_iload_n hx hb dX13_isCity_7 rfl (lv_at hl 1 rfl) ?_
  refine lv_if_lt (tgt := 26) hx hb dX13_isCity_8 (by decide) (fun cd => ?_) (fun cd => ?_)
  · have h := ifT cd h
    refine lv_iconst (v := 0) hx hb dX13_isCity_26 (by decide) ?_
    exact W.zret (ty := .boolean) (v := 0) hx hb hr (nbv.n nbv_0) (fun t ht _ => ⟨_, rfl, ⟨Option.some.inj h, nbv_0⟩, ht⟩) (fun _ q => by cases q) dX13_isCity_27
  · have h := ifF cd h
    refine lv_iload_n hx hb dX13_isCity_11 rfl (lv_at hl 1 rfl) ?_
    refine lv_aload_n hx hb dX13_isCity_12 rfl (lv_at hl 0 rfl) ?_
    refine va_get (D := D) (ci := 13) (C := RX13) (T := TX13) (N := 39) (v := .ref a_wa) hx hb hX13 (fun _ q => q) hown hK hP 0 rfl rfl 3 (by decide) (hts (.fieldLink RX13 301 "ElephantLineModel" "war" "LElephantLineModel$War;") (by decide +kernel)) (fun _ h9 => h9) rfl dX13_isCity_13 ?_
    refine va_getN (D := D) (ci := 12) (C := RX12) (T := TX12) (N := 18) (v := .int wa_cities) hx hb hX12 (fun _ q => q) hown hK hP 1 rfl rfl 4 (by decide) (va_Nw.use rfl (hKN.2.1.1 ("ElephantLineModel", 279, "ElephantLineModel$War", "cities", "I", "ElephantLineModel") (List.mem_of_getElem? (i := 71) rfl))) (fun _ h9 => h9) rfl dX13_isCity_16 ?_
    refine lv_icmp_ge (tgt := 26) hx hb dX13_isCity_19 (by decide) (fun cd => ?_) (fun cd => ?_)
    · have h := ifT cd h
      refine lv_iconst (v := 0) hx hb dX13_isCity_26 (by decide) ?_
      exact W.zret (ty := .boolean) (v := 0) hx hb hr (nbv.n nbv_0) (fun t ht _ => ⟨_, rfl, ⟨Option.some.inj h, nbv_0⟩, ht⟩) (fun _ q => by cases q) dX13_isCity_27
    · have h := ifF cd h
      refine lv_iconst (v := 1) hx hb dX13_isCity_22 (by decide) ?_
      refine lv_goto (tgt := 27) hx hb dX13_isCity_23 (by decide) ?_
      exact W.zret (ty := .boolean) (v := 1) hx hb hr (nbv.n nbv_1) (fun t ht _ => ⟨_, rfl, ⟨Option.some.inj h, nbv_1⟩, ht⟩) (fun _ q => by cases q) dX13_isCity_27
theorem hd_X13_isDead : yX13_isDead.cls = RX13 ∧ yX13_isDead.cls ≠ "java/lang/invoke/MethodHandle" ∧ yX13_isDead.cls ≠ "java/lang/invoke/VarHandle" ∧ (parseMethodDescriptor yX13_isDead.desc).map (fun d => d.parameters.length) = some 1 := by decide +kernel
set_option maxHeartbeats 4000000 in
set_option maxRecDepth 100000 in
theorem c_X13_isDead (l : Launch) (D : va_G) (cy : Nat → ClassId) (a_mo a_mo_v : Nat) (mo_thrown : Int32) (mo_trouble : Int32) (mo_where : Int32) (mo_war : Value) (mo_read : Value) (mo_tape : Value) (mo_taped : Int32) (mo_size : Int32) (mo_spot : Int32) (mo_sort : Int32) (mo_place : Int32) (mo_number : Int32) (mo_fault : Int32) (mo_wrongAt : Int32) (mo_laneTold : Int32) (mo_word : Int64) (mo_x : Value) (mo_past : Value) (mo_kept : Value) (mo_acts : Int32) (mo_marks : Int32) (mo_put : Value) (mo_bestPut : Value) (mo_bestSum : Int64) (mo_row : Value) (mo_best : Value) (mo_left : Value) (mo_bestSize : Int32) (mo_bestLeft : Int32) (mo_counts : Value) (mo_sets : Int32) (mo_foeHarm : Int32) (mo_ownHarm : Int32) (mo_across : Int32) (mo_sumFoe : Int32) (mo_sumOwn : Int32) (mo_sumWon : Int32) (mo_sumAcross : Int32) (mo_v : Nat → Int32) (p1 : Int32) (res : Int32) (h : f_X13_isDead mo_v p1 = some (res)) : Met l yX13_isDead wo_X13_isDead ({ frames := 1, cells := 0, slots := 0, locals := 21 }) (roPc D cy [.ref a_mo, .int p1] [(a_mo, .inr (13, [.int mo_thrown, .int mo_trouble, .int mo_where, mo_war, mo_read, mo_tape, .int mo_taped, .int mo_size, .int mo_spot, .int mo_sort, .int mo_place, .int mo_number, .int mo_fault, .int mo_wrongAt, .int mo_laneTold, .long mo_word, .ref a_mo_v, mo_x, mo_past, mo_kept, .int mo_acts, .int mo_marks, mo_put, mo_bestPut, .long mo_bestSum, mo_row, mo_best, mo_left, .int mo_bestSize, .int mo_bestLeft, mo_counts, .int mo_sets, .int mo_foeHarm, .int mo_ownHarm, .int mo_across, .int mo_sumFoe, .int mo_sumOwn, .int mo_sumWon, .int mo_sumAcross])), (a_mo_v, .inl (cy 1, 19, .inl mo_v))]) (vp_Si (fun r => r = res ∧ nbv r)) 0 0 (fun _ => False) := by
  refine Met.ofW (cc := cX13_isDead) (maxL := 2) (ret := (some .boolean)) (by decide) rfl ?_
  intro p e s m args below meth c s₁ B hml hv
  obtain ⟨rfl, hP, hKN⟩ := hv
  have hK := hKN.1
  have hx := B.exec
  have hb := B.bytes
  have hr := B.returns
  have hts := wt_X13_isDead hKN.2.2 (([.ref a_mo, .int p1] : List Value).toArray)
  have hown : s.vm.findClass RX13 = some m.cls := findClass_of_methodNamed B.named
  have hlocks := B.notSynchronized
  have hX13 := wc_X13 hKN.2.2 (([.ref a_mo, .int p1] : List Value).toArray)
  have hl := lv_entry ([.ref a_mo, .int p1]) (n := 2) (Nat.le_of_ble_eq_true rfl)
  rw [lg_entry_eq]
  generalize (lg_sl ([.ref a_mo, .int p1]) ++ List.replicate (2 - (lg_sl ([.ref a_mo, .int p1])).length) Slot.unset).toArray = ls at hl ⊢
  have hl : lv_has ls 2 [(0, .ref a_mo), (1, .int p1)] := hl
  unfold f_X13_isDead at h
  refine lv_aload_n hx hb dX13_isDead_0 rfl (lv_at hl 0 rfl) ?_
  refine va_get (D := D) (ci := 13) (C := RX13) (T := TX13) (N := 39) (v := .ref a_mo_v) hx hb hX13 (fun _ q => q) hown hK hP 0 rfl rfl 16 (by decide) (hts (.fieldLink RX13 17 "ElephantLineModel" "v" "[I") (by decide +kernel)) (fun _ h9 => h9) rfl dX13_isDead_1 ?_
  refine lv_bipush (v := 10) hx hb dX13_isDead_4 (by decide) ?_
  refine va_iald hx hb hK hP 1 1 rfl rfl (vpc (by decide)) dX13_isDead_6 ?_
  refine lv_iload_n hx hb dX13_isDead_7 rfl (lv_at hl 1 rfl) ?_
  obtain ⟨r_1, hc_2, h⟩ := bd1_some h
  refine kSb [.int (mo_v (10 : Int32).toNatClampNeg), .int p1] [] ⟨hx, hb, hml, hown, hts⟩ (c_X13_bit l D cy (mo_v (10 : Int32).toNatClampNeg) p1 r_1 hc_2) gX13_isDead_X13_bit rfl hd_X13_bit ⟨Nat.le_of_ble_eq_true rfl, Nat.le_of_ble_eq_true rfl⟩ rfl rfl hKN va_nil rfl hl.1 rfl (Nat.le_of_ble_eq_true rfl) dX13_isDead_8 ⟨Nat.le_of_ble_eq_true rfl, Nat.le_of_ble_eq_true rfl⟩ (fun nb_3 => ?_)
  exact W.zret (ty := .boolean) (v := r_1) hx hb hr (nbv.n nb_3) (fun t ht _ => ⟨_, rfl, ⟨Option.some.inj h, nb_3⟩, ht⟩) (fun _ q => by cases q) dX13_isDead_11
theorem hd_X13_forceOf : yX13_forceOf.cls = RX13 ∧ yX13_forceOf.cls ≠ "java/lang/invoke/MethodHandle" ∧ yX13_forceOf.cls ≠ "java/lang/invoke/VarHandle" ∧ (parseMethodDescriptor yX13_forceOf.desc).map (fun d => d.parameters.length) = some 1 := by decide +kernel
set_option maxHeartbeats 4000000 in
set_option maxRecDepth 100000 in
theorem c_X13_forceOf (l : Launch) (D : va_G) (cy : Nat → ClassId) (a_mo a_mo_v a_wa a_wa_kind : Nat) (mo_thrown : Int32) (mo_trouble : Int32) (mo_where : Int32) (mo_read : Value) (mo_tape : Value) (mo_taped : Int32) (mo_size : Int32) (mo_spot : Int32) (mo_sort : Int32) (mo_place : Int32) (mo_number : Int32) (mo_fault : Int32) (mo_wrongAt : Int32) (mo_laneTold : Int32) (mo_word : Int64) (mo_x : Value) (mo_past : Value) (mo_kept : Value) (mo_acts : Int32) (mo_marks : Int32) (mo_put : Value) (mo_bestPut : Value) (mo_bestSum : Int64) (mo_row : Value) (mo_best : Value) (mo_left : Value) (mo_bestSize : Int32) (mo_bestLeft : Int32) (mo_counts : Value) (mo_sets : Int32) (mo_foeHarm : Int32) (mo_ownHarm : Int32) (mo_across : Int32) (mo_sumFoe : Int32) (mo_sumOwn : Int32) (mo_sumWon : Int32) (mo_sumAcross : Int32) (mo_v : Nat → Int32) (wa_lanes : Int32) (wa_deep : Int32) (wa_told : Int32) (wa_beasts : Int32) (wa_cities : Int32) (wa_passes : Int32) (wa_turned : Int32) (wa_names : Int32) (wa_who : Value) (wa_strong : Value) (wa_lane : Value) (wa_mood : Value) (wa_price : Value) (wa_loses : Value) (wa_name : Value) (wa_nameSort : Value) (wa_numberOf : Value) (wa_kind : Nat → Int32) (p1 : Int32) (res : Int32) (h : f_X13_forceOf mo_v wa_kind p1 = some (res)) : Met l yX13_forceOf wo_X13_forceOf ({ frames := 2, cells := 0, slots := 0, locals := 42 }) (roPc D cy [.ref a_mo, .int p1] [(a_mo, .inr (13, [.int mo_thrown, .int mo_trouble, .int mo_where, .ref a_wa, mo_read, mo_tape, .int mo_taped, .int mo_size, .int mo_spot, .int mo_sort, .int mo_place, .int mo_number, .int mo_fault, .int mo_wrongAt, .int mo_laneTold, .long mo_word, .ref a_mo_v, mo_x, mo_past, mo_kept, .int mo_acts, .int mo_marks, mo_put, mo_bestPut, .long mo_bestSum, mo_row, mo_best, mo_left, .int mo_bestSize, .int mo_bestLeft, mo_counts, .int mo_sets, .int mo_foeHarm, .int mo_ownHarm, .int mo_across, .int mo_sumFoe, .int mo_sumOwn, .int mo_sumWon, .int mo_sumAcross])), (a_mo_v, .inl (cy 1, 19, .inl mo_v)), (a_wa, .inr (12, [.int wa_lanes, .int wa_deep, .int wa_told, .int wa_beasts, .int wa_cities, .int wa_passes, .int wa_turned, .int wa_names, wa_who, wa_strong, .ref a_wa_kind, wa_lane, wa_mood, wa_price, wa_loses, wa_name, wa_nameSort, wa_numberOf])), (a_wa_kind, .inl (cy 1, 5, .inl wa_kind))]) (vp_Si (fun r => r = res)) 0 0 (fun _ => False) := by
  refine Met.ofW (cc := cX13_forceOf) (maxL := 3) (ret := (some .int)) (by decide) rfl ?_
  intro p e s m args below meth c s₁ B hml hv
  obtain ⟨rfl, hP, hKN⟩ := hv
  have hK := hKN.1
  have hx := B.exec
  have hb := B.bytes
  have hr := B.returns
  have hts := wt_X13_forceOf hKN.2.2 (([.ref a_mo, .int p1] : List Value).toArray)
  have hown : s.vm.findClass RX13 = some m.cls := findClass_of_methodNamed B.named
  have hlocks := B.notSynchronized
  have hX12 := wc_X12 hKN.2.2 (([.ref a_mo, .int p1] : List Value).toArray)
  have hX13 := wc_X13 hKN.2.2 (([.ref a_mo, .int p1] : List Value).toArray)
  have hl := lv_entry ([.ref a_mo, .int p1]) (n := 3) (Nat.le_of_ble_eq_true rfl)
  rw [lg_entry_eq]
  generalize (lg_sl ([.ref a_mo, .int p1]) ++ List.replicate (3 - (lg_sl ([.ref a_mo, .int p1])).length) Slot.unset).toArray = ls at hl ⊢
  have hl : lv_has ls 3 [(0, .ref a_mo), (1, .int p1)] := hl
  unfold f_X13_forceOf at h
  refine lv_aload_n hx hb dX13_forceOf_0 rfl (lv_at hl 0 rfl) ?_
  refine lv_iload_n hx hb dX13_forceOf_1 rfl (lv_at hl 1 rfl) ?_
  obtain ⟨r_1, hc_2, h⟩ := bd1_some h
  refine kVb [.int p1] [] ⟨hx, hb, hml, hown, hts⟩ (c_X13_isDead l D cy a_mo a_mo_v mo_thrown mo_trouble mo_where (.ref a_wa) (mo_read) (mo_tape) mo_taped mo_size mo_spot mo_sort mo_place mo_number mo_fault mo_wrongAt mo_laneTold mo_word (mo_x) (mo_past) (mo_kept) mo_acts mo_marks (mo_put) (mo_bestPut) mo_bestSum (mo_row) (mo_best) (mo_left) mo_bestSize mo_bestLeft (mo_counts) mo_sets mo_foeHarm mo_ownHarm mo_across mo_sumFoe mo_sumOwn mo_sumWon mo_sumAcross mo_v p1 r_1 hc_2) gX13_forceOf_X13_isDead rfl hd_X13_isDead ⟨Nat.le_of_ble_eq_true rfl, Nat.le_of_ble_eq_true rfl⟩ rfl rfl hKN (hP.sub [0, 1] rfl) 13 0 rfl rfl rfl hl.1 rfl (Nat.le_of_ble_eq_true rfl) dX13_forceOf_2 ⟨Nat.le_of_ble_eq_true rfl, Nat.le_of_ble_eq_true rfl⟩ (fun nb_3 => ?_)
  refine lv_if_eq (tgt := 10) hx hb dX13_forceOf_5 (by decide) (fun cd => ?_) (fun cd => ?_)
  · have h := ifT cd h
    refine lv_aload_n hx hb dX13_forceOf_10 rfl (lv_at hl 0 rfl) ?_
    refine va_get (D := D) (ci := 13) (C := RX13) (T := TX13) (N := 39) (v := .ref a_wa) hx hb hX13 (fun _ q => q) hown hK hP 0 rfl rfl 3 (by decide) (hts (.fieldLink RX13 301 "ElephantLineModel" "war" "LElephantLineModel$War;") (by decide +kernel)) (fun _ h9 => h9) rfl dX13_forceOf_11 ?_
    refine va_getN (D := D) (ci := 12) (C := RX12) (T := TX12) (N := 18) (v := .ref a_wa_kind) hx hb hX12 (fun _ q => q) hown hK hP 2 rfl rfl 10 (by decide) (va_Nw.use rfl (hKN.2.1.1 ("ElephantLineModel", 270, "ElephantLineModel$War", "kind", "[I", "ElephantLineModel") (List.mem_of_getElem? (i := 77) rfl))) (fun _ h9 => h9) rfl dX13_forceOf_14 ?_
    refine lv_iload_n hx hb dX13_forceOf_17 rfl (lv_at hl 1 rfl) ?_
    obtain ⟨i_4, h⟩ := gIn_some h
    refine va_iald hx hb hK hP 3 1 rfl rfl i_4 dX13_forceOf_18 ?_
    refine lv_iconst (v := 1) hx hb dX13_forceOf_19 (by decide) ?_
    have jn65 : ∀ (t0_5 : Int32), f_X13_forceOf_B65 mo_v wa_kind p1 t0_5 = some (res) → ∀ ls : Array Slot, lv_has ls 3 [(0, .ref a_mo), (1, .int p1)] → W p l e (headSpec wo_X13_forceOf ({ frames := 2, cells := 0, slots := 0, locals := 42 })).room s m (([.ref a_mo, .int p1] : List Value).toArray) below meth c s.heap [] 0 0 (MQ below (vp_Si (fun r => r = res)) (([.ref a_mo, .int p1] : List Value).toArray) s 0 0 (fun _ => False)) (F0 m 65 ls [.int t0_5]) := by
      intro t0_5 h ls hl
      unfold f_X13_forceOf_B65 at h
      refine lv_aload_n hx hb dX13_forceOf_65 rfl (lv_at hl 0 rfl) ?_
      refine va_get (D := D) (ci := 13) (C := RX13) (T := TX13) (N := 39) (v := .ref a_mo_v) hx hb hX13 (fun _ q => q) hown hK hP 0 rfl rfl 16 (by decide) (hts (.fieldLink RX13 17 "ElephantLineModel" "v" "[I") (by decide +kernel)) (fun _ h9 => h9) rfl dX13_forceOf_66 ?_
      refine lv_iconst (v := 5) hx hb dX13_forceOf_69 (by decide) ?_
      refine lv_iload_n hx hb dX13_forceOf_70 rfl (lv_at hl 1 rfl) ?_
      refine lv_iadd hx hb dX13_forceOf_71 ?_
      obtain ⟨i_6, h⟩ := gIn_some h
      refine va_iald hx hb hK hP 1 1 rfl rfl i_6 dX13_forceOf_72 ?_
      refine lv_isub hx hb dX13_forceOf_73 ?_
      refine lv_istore_n (lv' := [(2, .int (t0_5 - (mo_v (5 + p1).toNatClampNeg))), (0, .ref a_mo), (1, .int p1)]) hx hb dX13_forceOf_74 rfl hl (by decide) rfl (fun ls hl => ?_)
      refine lv_iload_n hx hb dX13_forceOf_75 rfl (lv_at hl 0 rfl) ?_
      refine lv_if_le (tgt := 83) hx hb dX13_forceOf_76 (by decide) (fun cd => ?_) (fun cd => ?_)
      · have h := ifT cd h
        refine lv_iconst (v := 0) hx hb dX13_forceOf_83 (by decide) ?_
        exact W.iret (v := 0) hx hb hr (fun t ht _ => ⟨_, rfl, Option.some.inj h, ht⟩) (fun _ q => by cases q) dX13_forceOf_84
      · have h := ifF cd h
        refine lv_iload_n hx hb dX13_forceOf_79 rfl (lv_at hl 0 rfl) ?_
        refine lv_goto (tgt := 84) hx hb dX13_forceOf_80 (by decide) ?_
        exact W.iret (v := t0_5 - (mo_v (5 + p1).toNatClampNeg)) hx hb hr (fun t ht _ => ⟨_, rfl, Option.some.inj h, ht⟩) (fun _ q => by cases q) dX13_forceOf_84
    refine lv_icmp_ne (tgt := 27) hx hb dX13_forceOf_20 (by decide) (fun cd => ?_) (fun cd => ?_)
    · have h := ifF cd h
      refine lv_aload_n hx hb dX13_forceOf_27 rfl (lv_at hl 0 rfl) ?_
      refine va_get (D := D) (ci := 13) (C := RX13) (T := TX13) (N := 39) (v := .ref a_wa) hx hb hX13 (fun _ q => q) hown hK hP 0 rfl rfl 3 (by decide) (hts (.fieldLink RX13 301 "ElephantLineModel" "war" "LElephantLineModel$War;") (by decide +kernel)) (fun _ h9 => h9) rfl dX13_forceOf_28 ?_
      refine va_getN (D := D) (ci := 12) (C := RX12) (T := TX12) (N := 18) (v := .ref a_wa_kind) hx hb hX12 (fun _ q => q) hown hK hP 2 rfl rfl 10 (by decide) (va_Nw.use rfl (hKN.2.1.1 ("ElephantLineModel", 270, "ElephantLineModel$War", "kind", "[I", "ElephantLineModel") (List.mem_of_getElem? (i := 77) rfl))) (fun _ h9 => h9) rfl dX13_forceOf_31 ?_
      refine lv_iload_n hx hb dX13_forceOf_34 rfl (lv_at hl 1 rfl) ?_
      obtain ⟨i_7, h⟩ := gIn_some h
      refine va_iald hx hb hK hP 3 1 rfl rfl i_7 dX13_forceOf_35 ?_
      refine lv_iconst (v := 2) hx hb dX13_forceOf_36 (by decide) ?_
      refine lv_icmp_ne (tgt := 45) hx hb dX13_forceOf_37 (by decide) (fun cd => ?_) (fun cd => ?_)
      · have h := ifF cd h
        refine lv_aload_n hx hb dX13_forceOf_45 rfl (lv_at hl 0 rfl) ?_
        refine va_get (D := D) (ci := 13) (C := RX13) (T := TX13) (N := 39) (v := .ref a_wa) hx hb hX13 (fun _ q => q) hown hK hP 0 rfl rfl 3 (by decide) (hts (.fieldLink RX13 301 "ElephantLineModel" "war" "LElephantLineModel$War;") (by decide +kernel)) (fun _ h9 => h9) rfl dX13_forceOf_46 ?_
        refine va_getN (D := D) (ci := 12) (C := RX12) (T := TX12) (N := 18) (v := .ref a_wa_kind) hx hb hX12 (fun _ q => q) hown hK hP 2 rfl rfl 10 (by decide) (va_Nw.use rfl (hKN.2.1.1 ("ElephantLineModel", 270, "ElephantLineModel$War", "kind", "[I", "ElephantLineModel") (List.mem_of_getElem? (i := 77) rfl))) (fun _ h9 => h9) rfl dX13_forceOf_49 ?_
        refine lv_iload_n hx hb dX13_forceOf_52 rfl (lv_at hl 1 rfl) ?_
        obtain ⟨i_8, h⟩ := gIn_some h
        refine va_iald hx hb hK hP 3 1 rfl rfl i_8 dX13_forceOf_53 ?_
        refine lv_iconst (v := 3) hx hb dX13_forceOf_54 (by decide) ?_
        refine lv_icmp_ne (tgt := 63) hx hb dX13_forceOf_55 (by decide) (fun cd => ?_) (fun cd => ?_)
        · have h := ifF cd h
          refine lv_bipush (v := 20) hx hb dX13_forceOf_63 (by decide) ?_
          exact jn65 (20 : Int32) h _ (lv_sub hl [0, 1] rfl)
        · have h := ifT cd h
          refine lv_bipush (v := 25) hx hb dX13_forceOf_58 (by decide) ?_
          refine lv_goto (tgt := 65) hx hb dX13_forceOf_60 (by decide) ?_
          exact jn65 (25 : Int32) h _ (lv_sub hl [0, 1] rfl)
      · have h := ifT cd h
        refine lv_bipush (v := 30) hx hb dX13_forceOf_40 (by decide) ?_
        refine lv_goto (tgt := 65) hx hb dX13_forceOf_42 (by decide) ?_
        exact jn65 (30 : Int32) h _ (lv_sub hl [0, 1] rfl)
    · have h := ifT cd h
      refine lv_iconst (v := 5) hx hb dX13_forceOf_23 (by decide) ?_
      refine lv_goto (tgt := 65) hx hb dX13_forceOf_24 (by decide) ?_
      exact jn65 (5 : Int32) h _ (lv_sub hl [0, 1] rfl)
  · have h := ifF cd h
    refine lv_iconst (v := 0) hx hb dX13_forceOf_8 (by decide) ?_
    exact W.iret (v := 0) hx hb hr (fun t ht _ => ⟨_, rfl, Option.some.inj h, ht⟩) (fun _ q => by cases q) dX13_forceOf_9
theorem hd_X13_holdBy : yX13_holdBy.cls = RX13 ∧ yX13_holdBy.cls ≠ "java/lang/invoke/MethodHandle" ∧ yX13_holdBy.cls ≠ "java/lang/invoke/VarHandle" ∧ (parseMethodDescriptor yX13_holdBy.desc).map (fun d => d.parameters.length) = some 3 := by decide +kernel
set_option maxHeartbeats 4000000 in
set_option maxRecDepth 100000 in
theorem c_X13_holdBy (l : Launch) (D : va_G) (cy : Nat → ClassId) (a_mo a_wa a_wa_kind : Nat) (mo_thrown : Int32) (mo_trouble : Int32) (mo_where : Int32) (mo_read : Value) (mo_tape : Value) (mo_taped : Int32) (mo_size : Int32) (mo_spot : Int32) (mo_sort : Int32) (mo_place : Int32) (mo_number : Int32) (mo_fault : Int32) (mo_wrongAt : Int32) (mo_laneTold : Int32) (mo_word : Int64) (mo_v : Value) (mo_x : Value) (mo_past : Value) (mo_kept : Value) (mo_acts : Int32) (mo_marks : Int32) (mo_put : Value) (mo_bestPut : Value) (mo_bestSum : Int64) (mo_row : Value) (mo_best : Value) (mo_left : Value) (mo_bestSize : Int32) (mo_bestLeft : Int32) (mo_counts : Value) (mo_sets : Int32) (mo_foeHarm : Int32) (mo_ownHarm : Int32) (mo_across : Int32) (mo_sumFoe : Int32) (mo_sumOwn : Int32) (mo_sumWon : Int32) (mo_sumAcross : Int32) (wa_lanes : Int32) (wa_deep : Int32) (wa_told : Int32) (wa_beasts : Int32) (wa_cities : Int32) (wa_passes : Int32) (wa_turned : Int32) (wa_names : Int32) (wa_who : Value) (wa_strong : Value) (wa_lane : Value) (wa_mood : Value) (wa_price : Value) (wa_loses : Value) (wa_name : Value) (wa_nameSort : Value) (wa_numberOf : Value) (wa_kind : Nat → Int32) (p1 : Int32) (p2 : Int32) (p3 : Int32) (res : Int32) (h : f_X13_holdBy wa_kind p1 p2 p3 = some (res)) : Met l yX13_holdBy wo_X13_holdBy ({ frames := 0, cells := 0, slots := 0, locals := 0 }) (roPc D cy [.ref a_mo, .int p1, .int p2, .int p3] [(a_mo, .inr (13, [.int mo_thrown, .int mo_trouble, .int mo_where, .ref a_wa, mo_read, mo_tape, .int mo_taped, .int mo_size, .int mo_spot, .int mo_sort, .int mo_place, .int mo_number, .int mo_fault, .int mo_wrongAt, .int mo_laneTold, .long mo_word, mo_v, mo_x, mo_past, mo_kept, .int mo_acts, .int mo_marks, mo_put, mo_bestPut, .long mo_bestSum, mo_row, mo_best, mo_left, .int mo_bestSize, .int mo_bestLeft, mo_counts, .int mo_sets, .int mo_foeHarm, .int mo_ownHarm, .int mo_across, .int mo_sumFoe, .int mo_sumOwn, .int mo_sumWon, .int mo_sumAcross])), (a_wa, .inr (12, [.int wa_lanes, .int wa_deep, .int wa_told, .int wa_beasts, .int wa_cities, .int wa_passes, .int wa_turned, .int wa_names, wa_who, wa_strong, .ref a_wa_kind, wa_lane, wa_mood, wa_price, wa_loses, wa_name, wa_nameSort, wa_numberOf])), (a_wa_kind, .inl (cy 1, 5, .inl wa_kind))]) (vp_Si (fun r => r = res)) 0 0 (fun _ => False) := by
  refine Met.ofW (cc := cX13_holdBy) (maxL := 4) (ret := (some .int)) (by decide) rfl ?_
  intro p e s m args below meth c s₁ B hml hv
  obtain ⟨rfl, hP, hKN⟩ := hv
  have hK := hKN.1
  have hx := B.exec
  have hb := B.bytes
  have hr := B.returns
  have hts := wt_X13_holdBy hKN.2.2 (([.ref a_mo, .int p1, .int p2, .int p3] : List Value).toArray)
  have hown : s.vm.findClass RX13 = some m.cls := findClass_of_methodNamed B.named
  have hlocks := B.notSynchronized
  have hX12 := wc_X12 hKN.2.2 (([.ref a_mo, .int p1, .int p2, .int p3] : List Value).toArray)
  have hX13 := wc_X13 hKN.2.2 (([.ref a_mo, .int p1, .int p2, .int p3] : List Value).toArray)
  have hl := lv_entry ([.ref a_mo, .int p1, .int p2, .int p3]) (n := 4) (Nat.le_of_ble_eq_true rfl)
  rw [lg_entry_eq]
  generalize (lg_sl ([.ref a_mo, .int p1, .int p2, .int p3]) ++ List.replicate (4 - (lg_sl ([.ref a_mo, .int p1, .int p2, .int p3])).length) Slot.unset).toArray = ls at hl ⊢
  have hl : lv_has ls 4 [(0, .ref a_mo), (1, .int p1), (2, .int p2), (3, .int p3)] := hl
  unfold f_X13_holdBy at h
  refine lv_aload_n hx hb dX13_holdBy_0 rfl (lv_at hl 0 rfl) ?_
  refine va_get (D := D) (ci := 13) (C := RX13) (T := TX13) (N := 39) (v := .ref a_wa) hx hb hX13 (fun _ q => q) hown hK hP 0 rfl rfl 3 (by decide) (hts (.fieldLink RX13 301 "ElephantLineModel" "war" "LElephantLineModel$War;") (by decide +kernel)) (fun _ h9 => h9) rfl dX13_holdBy_1 ?_
  refine va_getN (D := D) (ci := 12) (C := RX12) (T := TX12) (N := 18) (v := .ref a_wa_kind) hx hb hX12 (fun _ q => q) hown hK hP 1 rfl rfl 10 (by decide) (va_Nw.use rfl (hKN.2.1.1 ("ElephantLineModel", 270, "ElephantLineModel$War", "kind", "[I", "ElephantLineModel") (List.mem_of_getElem? (i := 77) rfl))) (fun _ h9 => h9) rfl dX13_holdBy_4 ?_
  refine lv_iload_n hx hb dX13_holdBy_7 rfl (lv_at hl 1 rfl) ?_
  obtain ⟨i_1, h⟩ := gIn_some h
  refine va_iald hx hb hK hP 2 1 rfl rfl i_1 dX13_holdBy_8 ?_
  by_cases sw_2 : (wa_kind p1.toNatClampNeg) = 1
  · have h := ifT sw_2 h
    refine lv_tableIn (tgt := 36) hx hb dX13_holdBy_9 (by rw [sw_2]; decide) (by rw [sw_2]; decide) (by rw [sw_2]; rfl) (by decide) ?_
    refine lv_iload_n hx hb dX13_holdBy_36 rfl (lv_at hl 2 rfl) ?_
    refine lv_bipush (v := 20) hx hb dX13_holdBy_37 (by decide) ?_
    refine lv_icmp_le (tgt := 49) hx hb dX13_holdBy_39 (by decide) (fun cd => ?_) (fun cd => ?_)
    · have h := ifT cd h
      refine lv_iconst (v := 0) hx hb dX13_holdBy_49 (by decide) ?_
      exact W.iret (v := 0) hx hb hr (fun t ht _ => ⟨_, rfl, Option.some.inj h, ht⟩) (fun _ q => by cases q) dX13_holdBy_50
    · have h := ifF cd h
      refine lv_iload_n hx hb dX13_holdBy_42 rfl (lv_at hl 2 rfl) ?_
      refine lv_bipush (v := 20) hx hb dX13_holdBy_43 (by decide) ?_
      refine lv_isub hx hb dX13_holdBy_45 ?_
      refine lv_goto (tgt := 50) hx hb dX13_holdBy_46 (by decide) ?_
      exact W.iret (v := p2 - 20) hx hb hr (fun t ht _ => ⟨_, rfl, Option.some.inj h, ht⟩) (fun _ q => by cases q) dX13_holdBy_50
  · have h := ifF sw_2 h
    by_cases sw_3 : (wa_kind p1.toNatClampNeg) = 2
    · have h := ifT sw_3 h
      refine lv_tableIn (tgt := 51) hx hb dX13_holdBy_9 (by rw [sw_3]; decide) (by rw [sw_3]; decide) (by rw [sw_3]; rfl) (by decide) ?_
      refine lv_iload_n hx hb dX13_holdBy_51 rfl (lv_at hl 2 rfl) ?_
      refine lv_bipush (v := 80) hx hb dX13_holdBy_52 (by decide) ?_
      refine lv_icmp_ge (tgt := 64) hx hb dX13_holdBy_54 (by decide) (fun cd => ?_) (fun cd => ?_)
      · have h := ifT cd h
        refine lv_bipush (v := 100) hx hb dX13_holdBy_64 (by decide) ?_
        exact W.iret (v := 100) hx hb hr (fun t ht _ => ⟨_, rfl, Option.some.inj h, ht⟩) (fun _ q => by cases q) dX13_holdBy_66
      · have h := ifF cd h
        refine lv_iload_n hx hb dX13_holdBy_57 rfl (lv_at hl 2 rfl) ?_
        refine lv_bipush (v := 20) hx hb dX13_holdBy_58 (by decide) ?_
        refine lv_iadd hx hb dX13_holdBy_60 ?_
        refine lv_goto (tgt := 66) hx hb dX13_holdBy_61 (by decide) ?_
        exact W.iret (v := p2 + 20) hx hb hr (fun t ht _ => ⟨_, rfl, Option.some.inj h, ht⟩) (fun _ q => by cases q) dX13_holdBy_66
    · have h := ifF sw_3 h
      by_cases sw_4 : (wa_kind p1.toNatClampNeg) = 3
      · have h := ifT sw_4 h
        refine lv_tableIn (tgt := 67) hx hb dX13_holdBy_9 (by rw [sw_4]; decide) (by rw [sw_4]; decide) (by rw [sw_4]; rfl) (by decide) ?_
        refine lv_iload_n hx hb dX13_holdBy_67 rfl (lv_at hl 3 rfl) ?_
        refine lv_if_eq (tgt := 77) hx hb dX13_holdBy_68 (by decide) (fun cd => ?_) (fun cd => ?_)
        · have h := ifT cd h
          refine lv_iload_n hx hb dX13_holdBy_77 rfl (lv_at hl 2 rfl) ?_
          exact W.iret (v := p2) hx hb hr (fun t ht _ => ⟨_, rfl, Option.some.inj h, ht⟩) (fun _ q => by cases q) dX13_holdBy_78
        · have h := ifF cd h
          refine lv_iload_n hx hb dX13_holdBy_71 rfl (lv_at hl 2 rfl) ?_
          refine lv_iconst (v := 2) hx hb dX13_holdBy_72 (by decide) ?_
          refine lv_idiv hx hb dX13_holdBy_73 (by decide) ?_
          refine lv_goto (tgt := 78) hx hb dX13_holdBy_74 (by decide) ?_
          exact W.iret (v := p2 / 2) hx hb hr (fun t ht _ => ⟨_, rfl, Option.some.inj h, ht⟩) (fun _ q => by cases q) dX13_holdBy_78
      · have h := ifF sw_4 h
        refine lv_tableOut (tgt := 79) hx hb dX13_holdBy_9 (by have q0 := sw_ne sw_2; have q1 := sw_ne sw_3; have q2 := sw_ne sw_4; rw [show (1 : Int32).toInt = 1 from rfl] at q0; rw [show (2 : Int32).toInt = 2 from rfl] at q1; rw [show (3 : Int32).toInt = 3 from rfl] at q2; omega) (by decide) ?_
        refine lv_iload_n hx hb dX13_holdBy_79 rfl (lv_at hl 2 rfl) ?_
        exact W.iret (v := p2) hx hb hr (fun t ht _ => ⟨_, rfl, Option.some.inj h, ht⟩) (fun _ q => by cases q) dX13_holdBy_80
theorem hd_X13_harmBy : yX13_harmBy.cls = RX13 ∧ yX13_harmBy.cls ≠ "java/lang/invoke/MethodHandle" ∧ yX13_harmBy.cls ≠ "java/lang/invoke/VarHandle" ∧ (parseMethodDescriptor yX13_harmBy.desc).map (fun d => d.parameters.length) = some 4 := by decide +kernel
set_option maxHeartbeats 4000000 in
set_option maxRecDepth 100000 in
theorem c_X13_harmBy (l : Launch) (D : va_G) (cy : Nat → ClassId) (a_mo a_mo_v a_wa a_wa_kind : Nat) (mo_thrown : Int32) (mo_trouble : Int32) (mo_where : Int32) (mo_read : Value) (mo_tape : Value) (mo_taped : Int32) (mo_size : Int32) (mo_spot : Int32) (mo_sort : Int32) (mo_place : Int32) (mo_number : Int32) (mo_fault : Int32) (mo_wrongAt : Int32) (mo_laneTold : Int32) (mo_word : Int64) (mo_x : Value) (mo_past : Value) (mo_kept : Value) (mo_acts : Int32) (mo_marks : Int32) (mo_put : Value) (mo_bestPut : Value) (mo_bestSum : Int64) (mo_row : Value) (mo_best : Value) (mo_left : Value) (mo_bestSize : Int32) (mo_bestLeft : Int32) (mo_counts : Value) (mo_sets : Int32) (mo_foeHarm : Int32) (mo_ownHarm : Int32) (mo_across : Int32) (mo_sumFoe : Int32) (mo_sumOwn : Int32) (mo_sumWon : Int32) (mo_sumAcross : Int32) (mo_v : Nat → Int32) (wa_lanes : Int32) (wa_deep : Int32) (wa_told : Int32) (wa_beasts : Int32) (wa_cities : Int32) (wa_passes : Int32) (wa_turned : Int32) (wa_names : Int32) (wa_who : Value) (wa_strong : Value) (wa_lane : Value) (wa_mood : Value) (wa_price : Value) (wa_loses : Value) (wa_name : Value) (wa_nameSort : Value) (wa_numberOf : Value) (wa_kind : Nat → Int32) (p1 : Int32) (p2 : Int32) (p3 : Int32) (p4 : Int32) (res : Int32) (h : f_X13_harmBy mo_v wa_kind p1 p2 p3 p4 = some (res)) : Met l yX13_harmBy wo_X13_harmBy ({ frames := 3, cells := 0, slots := 0, locals := 64 }) (roPc D cy [.ref a_mo, .int p1, .int p2, .int p3, .int p4] [(a_mo, .inr (13, [.int mo_thrown, .int mo_trouble, .int mo_where, .ref a_wa, mo_read, mo_tape, .int mo_taped, .int mo_size, .int mo_spot, .int mo_sort, .int mo_place, .int mo_number, .int mo_fault, .int mo_wrongAt, .int mo_laneTold, .long mo_word, .ref a_mo_v, mo_x, mo_past, mo_kept, .int mo_acts, .int mo_marks, mo_put, mo_bestPut, .long mo_bestSum, mo_row, mo_best, mo_left, .int mo_bestSize, .int mo_bestLeft, mo_counts, .int mo_sets, .int mo_foeHarm, .int mo_ownHarm, .int mo_across, .int mo_sumFoe, .int mo_sumOwn, .int mo_sumWon, .int mo_sumAcross])), (a_mo_v, .inl (cy 1, 19, .inl mo_v)), (a_wa, .inr (12, [.int wa_lanes, .int wa_deep, .int wa_told, .int wa_beasts, .int wa_cities, .int wa_passes, .int wa_turned, .int wa_names, wa_who, wa_strong, .ref a_wa_kind, wa_lane, wa_mood, wa_price, wa_loses, wa_name, wa_nameSort, wa_numberOf])), (a_wa_kind, .inl (cy 1, 5, .inl wa_kind))]) (vp_Si (fun r => r = res)) 0 0 (fun _ => False) := by
  refine Met.ofW (cc := cX13_harmBy) (maxL := 6) (ret := (some .int)) (by decide) rfl ?_
  intro p e s m args below meth c s₁ B hml hv
  obtain ⟨rfl, hP, hKN⟩ := hv
  have hK := hKN.1
  have hx := B.exec
  have hb := B.bytes
  have hr := B.returns
  have hts := wt_X13_harmBy hKN.2.2 (([.ref a_mo, .int p1, .int p2, .int p3, .int p4] : List Value).toArray)
  have hown : s.vm.findClass RX13 = some m.cls := findClass_of_methodNamed B.named
  have hlocks := B.notSynchronized
  have hX12 := wc_X12 hKN.2.2 (([.ref a_mo, .int p1, .int p2, .int p3, .int p4] : List Value).toArray)
  have hX13 := wc_X13 hKN.2.2 (([.ref a_mo, .int p1, .int p2, .int p3, .int p4] : List Value).toArray)
  have hl := lv_entry ([.ref a_mo, .int p1, .int p2, .int p3, .int p4]) (n := 6) (Nat.le_of_ble_eq_true rfl)
  rw [lg_entry_eq]
  generalize (lg_sl ([.ref a_mo, .int p1, .int p2, .int p3, .int p4]) ++ List.replicate (6 - (lg_sl ([.ref a_mo, .int p1, .int p2, .int p3, .int p4])).length) Slot.unset).toArray = ls at hl ⊢
  have hl : lv_has ls 6 [(0, .ref a_mo), (1, .int p1), (2, .int p2), (3, .int p3), (4, .int p4)] := hl
  unfold f_X13_harmBy at h
  refine lv_aload_n hx hb dX13_harmBy_0 rfl (lv_at hl 0 rfl) ?_
  refine lv_iload_n hx hb dX13_harmBy_1 rfl (lv_at hl 1 rfl) ?_
  obtain ⟨r_1, hc_2, h⟩ := bd1_some h
  refine kVi [.int p1] [] ⟨hx, hb, hml, hown, hts⟩ (c_X13_forceOf l D cy a_mo a_mo_v a_wa a_wa_kind mo_thrown mo_trouble mo_where (mo_read) (mo_tape) mo_taped mo_size mo_spot mo_sort mo_place mo_number mo_fault mo_wrongAt mo_laneTold mo_word (mo_x) (mo_past) (mo_kept) mo_acts mo_marks (mo_put) (mo_bestPut) mo_bestSum (mo_row) (mo_best) (mo_left) mo_bestSize mo_bestLeft (mo_counts) mo_sets mo_foeHarm mo_ownHarm mo_across mo_sumFoe mo_sumOwn mo_sumWon mo_sumAcross mo_v wa_lanes wa_deep wa_told wa_beasts wa_cities wa_passes wa_turned wa_names (wa_who) (wa_strong) (wa_lane) (wa_mood) (wa_price) (wa_loses) (wa_name) (wa_nameSort) (wa_numberOf) wa_kind p1 r_1 hc_2) gX13_harmBy_X13_forceOf rfl hd_X13_forceOf ⟨Nat.le_of_ble_eq_true rfl, Nat.le_of_ble_eq_true rfl⟩ rfl rfl hKN (hP.sub [0, 1, 2, 3] rfl) 13 0 rfl rfl rfl hl.1 rfl (Nat.le_of_ble_eq_true rfl) dX13_harmBy_2 ⟨Nat.le_of_ble_eq_true rfl, Nat.le_of_ble_eq_true rfl⟩ ?_
  refine lv_istore (lv' := [(5, .int r_1), (0, .ref a_mo), (1, .int p1), (2, .int p2), (3, .int p3), (4, .int p4)]) hx hb dX13_harmBy_5 hl (by decide) rfl (fun ls hl => ?_)
  refine lv_aload_n hx hb dX13_harmBy_7 rfl (lv_at hl 1 rfl) ?_
  refine lv_iload_n hx hb dX13_harmBy_8 rfl (lv_at hl 2 rfl) ?_
  obtain ⟨r_3, hc_4, h⟩ := bd1_some h
  refine kVb [.int p1] [] ⟨hx, hb, hml, hown, hts⟩ (c_X13_isDead l D cy a_mo a_mo_v mo_thrown mo_trouble mo_where (.ref a_wa) (mo_read) (mo_tape) mo_taped mo_size mo_spot mo_sort mo_place mo_number mo_fault mo_wrongAt mo_laneTold mo_word (mo_x) (mo_past) (mo_kept) mo_acts mo_marks (mo_put) (mo_bestPut) mo_bestSum (mo_row) (mo_best) (mo_left) mo_bestSize mo_bestLeft (mo_counts) mo_sets mo_foeHarm mo_ownHarm mo_across mo_sumFoe mo_sumOwn mo_sumWon mo_sumAcross mo_v p1 r_3 hc_4) gX13_harmBy_X13_isDead rfl hd_X13_isDead ⟨Nat.le_of_ble_eq_true rfl, Nat.le_of_ble_eq_true rfl⟩ rfl rfl hKN (hP.sub [0, 1] rfl) 13 0 rfl rfl rfl hl.1 rfl (Nat.le_of_ble_eq_true rfl) dX13_harmBy_9 ⟨Nat.le_of_ble_eq_true rfl, Nat.le_of_ble_eq_true rfl⟩ (fun nb_5 => ?_)
  refine lv_if_eq (tgt := 17) hx hb dX13_harmBy_12 (by decide) (fun cd => ?_) (fun cd => ?_)
  · have h := ifT cd h
    refine lv_iload_n hx hb dX13_harmBy_17 rfl (lv_at hl 3 rfl) ?_
    by_cases sw_6 : p2 = 1
    · have h := ifT sw_6 h
      refine lv_tableIn (tgt := 44) hx hb dX13_harmBy_18 (by rw [sw_6]; decide) (by rw [sw_6]; decide) (by rw [sw_6]; rfl) (by decide) ?_
      refine lv_aload_n hx hb dX13_harmBy_44 rfl (lv_at hl 1 rfl) ?_
      refine va_get (D := D) (ci := 13) (C := RX13) (T := TX13) (N := 39) (v := .ref a_wa) hx hb hX13 (fun _ q => q) hown hK hP 0 rfl rfl 3 (by decide) (hts (.fieldLink RX13 301 "ElephantLineModel" "war" "LElephantLineModel$War;") (by decide +kernel)) (fun _ h9 => h9) rfl dX13_harmBy_45 ?_
      refine va_getN (D := D) (ci := 12) (C := RX12) (T := TX12) (N := 18) (v := .ref a_wa_kind) hx hb hX12 (fun _ q => q) hown hK hP 2 rfl rfl 10 (by decide) (va_Nw.use rfl (hKN.2.1.1 ("ElephantLineModel", 270, "ElephantLineModel$War", "kind", "[I", "ElephantLineModel") (List.mem_of_getElem? (i := 77) rfl))) (fun _ h9 => h9) rfl dX13_harmBy_48 ?_
      refine lv_iload_n hx hb dX13_harmBy_51 rfl (lv_at hl 2 rfl) ?_
      obtain ⟨i_7, h⟩ := gIn_some h
      refine va_iald hx hb hK hP 3 1 rfl rfl i_7 dX13_harmBy_52 ?_
      refine lv_iconst (v := 2) hx hb dX13_harmBy_53 (by decide) ?_
      refine lv_icmp_ne (tgt := 69) hx hb dX13_harmBy_54 (by decide) (fun cd => ?_) (fun cd => ?_)
      · have h := ifF cd h
        refine lv_iload hx hb dX13_harmBy_69 (lv_at hl 5 rfl) ?_
        refine lv_if_eq (tgt := 79) hx hb dX13_harmBy_71 (by decide) (fun cd => ?_) (fun cd => ?_)
        · have h := ifT cd h
          refine lv_iconst (v := 0) hx hb dX13_harmBy_79 (by decide) ?_
          exact W.iret (v := 0) hx hb hr (fun t ht _ => ⟨_, rfl, Option.some.inj h, ht⟩) (fun _ q => by cases q) dX13_harmBy_80
        · have h := ifF cd h
          refine lv_iload hx hb dX13_harmBy_74 (lv_at hl 0 rfl) ?_
          refine lv_goto (tgt := 80) hx hb dX13_harmBy_76 (by decide) ?_
          exact W.iret (v := r_1) hx hb hr (fun t ht _ => ⟨_, rfl, Option.some.inj h, ht⟩) (fun _ q => by cases q) dX13_harmBy_80
      · have h := ifT cd h
        refine lv_iload hx hb dX13_harmBy_57 (lv_at hl 5 rfl) ?_
        refine lv_if_eq (tgt := 66) hx hb dX13_harmBy_59 (by decide) (fun cd => ?_) (fun cd => ?_)
        · have h := ifT cd h
          refine lv_bipush (v := 10) hx hb dX13_harmBy_66 (by decide) ?_
          exact W.iret (v := 10) hx hb hr (fun t ht _ => ⟨_, rfl, Option.some.inj h, ht⟩) (fun _ q => by cases q) dX13_harmBy_68
        · have h := ifF cd h
          refine lv_iconst (v := 0) hx hb dX13_harmBy_62 (by decide) ?_
          refine lv_goto (tgt := 68) hx hb dX13_harmBy_63 (by decide) ?_
          exact W.iret (v := 0) hx hb hr (fun t ht _ => ⟨_, rfl, Option.some.inj h, ht⟩) (fun _ q => by cases q) dX13_harmBy_68
    · have h := ifF sw_6 h
      by_cases sw_8 : p2 = 2
      · have h := ifT sw_8 h
        refine lv_tableIn (tgt := 81) hx hb dX13_harmBy_18 (by rw [sw_8]; decide) (by rw [sw_8]; decide) (by rw [sw_8]; rfl) (by decide) ?_
        refine lv_iload hx hb dX13_harmBy_81 (lv_at hl 0 rfl) ?_
        refine lv_iload_n hx hb dX13_harmBy_83 rfl (lv_at hl 4 rfl) ?_
        refine lv_icmp_le (tgt := 98) hx hb dX13_harmBy_84 (by decide) (fun cd => ?_) (fun cd => ?_)
        · have h := ifT cd h
          refine lv_iload hx hb dX13_harmBy_98 (lv_at hl 5 rfl) ?_
          refine lv_if_eq (tgt := 108) hx hb dX13_harmBy_100 (by decide) (fun cd => ?_) (fun cd => ?_)
          · have h := ifT cd h
            refine lv_iload hx hb dX13_harmBy_108 (lv_at hl 0 rfl) ?_
            refine lv_iconst (v := 2) hx hb dX13_harmBy_110 (by decide) ?_
            refine lv_idiv hx hb dX13_harmBy_111 (by decide) ?_
            exact W.iret (v := r_1 / 2) hx hb hr (fun t ht _ => ⟨_, rfl, Option.some.inj h, ht⟩) (fun _ q => by cases q) dX13_harmBy_112
          · have h := ifF cd h
            refine lv_iload hx hb dX13_harmBy_103 (lv_at hl 0 rfl) ?_
            refine lv_goto (tgt := 112) hx hb dX13_harmBy_105 (by decide) ?_
            exact W.iret (v := r_1) hx hb hr (fun t ht _ => ⟨_, rfl, Option.some.inj h, ht⟩) (fun _ q => by cases q) dX13_harmBy_112
        · have h := ifF cd h
          refine lv_iload hx hb dX13_harmBy_87 (lv_at hl 5 rfl) ?_
          refine lv_if_eq (tgt := 96) hx hb dX13_harmBy_89 (by decide) (fun cd => ?_) (fun cd => ?_)
          · have h := ifT cd h
            refine lv_iload_n hx hb dX13_harmBy_96 rfl (lv_at hl 4 rfl) ?_
            exact W.iret (v := p3) hx hb hr (fun t ht _ => ⟨_, rfl, Option.some.inj h, ht⟩) (fun _ q => by cases q) dX13_harmBy_97
          · have h := ifF cd h
            refine lv_iconst (v := 0) hx hb dX13_harmBy_92 (by decide) ?_
            refine lv_goto (tgt := 97) hx hb dX13_harmBy_93 (by decide) ?_
            exact W.iret (v := 0) hx hb hr (fun t ht _ => ⟨_, rfl, Option.some.inj h, ht⟩) (fun _ q => by cases q) dX13_harmBy_97
      · have h := ifF sw_8 h
        by_cases sw_9 : p2 = 3
        · have h := ifT sw_9 h
          refine lv_tableIn (tgt := 113) hx hb dX13_harmBy_18 (by rw [sw_9]; decide) (by rw [sw_9]; decide) (by rw [sw_9]; rfl) (by decide) ?_
          refine lv_iload hx hb dX13_harmBy_113 (lv_at hl 5 rfl) ?_
          refine lv_if_eq (tgt := 120) hx hb dX13_harmBy_115 (by decide) (fun cd => ?_) (fun cd => ?_)
          · have h := ifT cd h
            refine lv_iload_n hx hb dX13_harmBy_120 rfl (lv_at hl 4 rfl) ?_
            refine lv_bipush (v := 8) hx hb dX13_harmBy_121 (by decide) ?_
            refine lv_icmp_ge (tgt := 131) hx hb dX13_harmBy_123 (by decide) (fun cd => ?_) (fun cd => ?_)
            · have h := ifT cd h
              refine lv_iload hx hb dX13_harmBy_131 (lv_at hl 0 rfl) ?_
              refine lv_iload_n hx hb dX13_harmBy_133 rfl (lv_at hl 4 rfl) ?_
              refine lv_icmp_le (tgt := 144) hx hb dX13_harmBy_134 (by decide) (fun cd => ?_) (fun cd => ?_)
              · have h := ifT cd h
                refine lv_iconst (v := 0) hx hb dX13_harmBy_144 (by decide) ?_
                exact W.iret (v := 0) hx hb hr (fun t ht _ => ⟨_, rfl, Option.some.inj h, ht⟩) (fun _ q => by cases q) dX13_harmBy_145
              · have h := ifF cd h
                refine lv_iload hx hb dX13_harmBy_137 (lv_at hl 0 rfl) ?_
                refine lv_iload_n hx hb dX13_harmBy_139 rfl (lv_at hl 4 rfl) ?_
                refine lv_isub hx hb dX13_harmBy_140 ?_
                refine lv_goto (tgt := 145) hx hb dX13_harmBy_141 (by decide) ?_
                exact W.iret (v := r_1 - p3) hx hb hr (fun t ht _ => ⟨_, rfl, Option.some.inj h, ht⟩) (fun _ q => by cases q) dX13_harmBy_145
            · have h := ifF cd h
              refine lv_bipush (v := 15) hx hb dX13_harmBy_126 (by decide) ?_
              refine lv_goto (tgt := 145) hx hb dX13_harmBy_128 (by decide) ?_
              exact W.iret (v := 15) hx hb hr (fun t ht _ => ⟨_, rfl, Option.some.inj h, ht⟩) (fun _ q => by cases q) dX13_harmBy_145
          · have h := ifF cd h
            refine lv_iconst (v := 0) hx hb dX13_harmBy_118 (by decide) ?_
            exact W.iret (v := 0) hx hb hr (fun t ht _ => ⟨_, rfl, Option.some.inj h, ht⟩) (fun _ q => by cases q) dX13_harmBy_119
        · have h := ifF sw_9 h
          refine lv_tableOut (tgt := 146) hx hb dX13_harmBy_18 (by have q0 := sw_ne sw_6; have q1 := sw_ne sw_8; have q2 := sw_ne sw_9; rw [show (1 : Int32).toInt = 1 from rfl] at q0; rw [show (2 : Int32).toInt = 2 from rfl] at q1; rw [show (3 : Int32).toInt = 3 from rfl] at q2; omega) (by decide) ?_
          refine lv_iconst (v := 0) hx hb dX13_harmBy_146 (by decide) ?_
          exact W.iret (v := 0) hx hb hr (fun t ht _ => ⟨_, rfl, Option.some.inj h, ht⟩) (fun _ q => by cases q) dX13_harmBy_147
  · have h := ifF cd h
    refine lv_iconst (v := 0) hx hb dX13_harmBy_15 (by decide) ?_
    exact W.iret (v := 0) hx hb hr (fun t ht _ => ⟨_, rfl, Option.some.inj h, ht⟩) (fun _ q => by cases q) dX13_harmBy_16
theorem hd_X13_meetsIn : yX13_meetsIn.cls = RX13 ∧ yX13_meetsIn.cls ≠ "java/lang/invoke/MethodHandle" ∧ yX13_meetsIn.cls ≠ "java/lang/invoke/VarHandle" ∧ (parseMethodDescriptor yX13_meetsIn.desc).map (fun d => d.parameters.length) = some 3 := by decide +kernel
set_option maxHeartbeats 4000000 in
set_option maxRecDepth 100000 in
theorem c_X13_meetsIn (l : Launch) (D : va_G) (cy : Nat → ClassId) (a_mo a_mo_v a_wa a_wa_who a_wa_kind : Nat) (mo_thrown : Int32) (mo_trouble : Int32) (mo_where : Int32) (mo_read : Value) (mo_tape : Value) (mo_taped : Int32) (mo_size : Int32) (mo_spot : Int32) (mo_sort : Int32) (mo_place : Int32) (mo_number : Int32) (mo_fault : Int32) (mo_wrongAt : Int32) (mo_laneTold : Int32) (mo_word : Int64) (mo_x : Value) (mo_past : Value) (mo_kept : Value) (mo_acts : Int32) (mo_marks : Int32) (mo_put : Value) (mo_bestPut : Value) (mo_bestSum : Int64) (mo_row : Value) (mo_best : Value) (mo_left : Value) (mo_bestSize : Int32) (mo_bestLeft : Int32) (mo_counts : Value) (mo_sets : Int32) (mo_foeHarm : Int32) (mo_ownHarm : Int32) (mo_across : Int32) (mo_sumFoe : Int32) (mo_sumOwn : Int32) (mo_sumWon : Int32) (mo_sumAcross : Int32) (mo_v : Nat → Int32) (wa_lanes : Int32) (wa_deep : Int32) (wa_told : Int32) (wa_beasts : Int32) (wa_cities : Int32) (wa_passes : Int32) (wa_turned : Int32) (wa_names : Int32) (wa_strong : Value) (wa_lane : Value) (wa_mood : Value) (wa_price : Value) (wa_loses : Value) (wa_name : Value) (wa_nameSort : Value) (wa_numberOf : Value) (wa_who : Nat → Int32) (wa_kind : Nat → Int32) (p1 : Int32) (p2 : Int32) (p3 : Int32) (res : Int32) (h : f_X13_meetsIn mo_v wa_who wa_kind p1 p2 p3 = some (res)) : Met l yX13_meetsIn wo_X13_meetsIn ({ frames := 4, cells := 0, slots := 0, locals := 89 }) (roPc D cy [.ref a_mo, .int p1, .int p2, .int p3] [(a_mo, .inr (13, [.int mo_thrown, .int mo_trouble, .int mo_where, .ref a_wa, mo_read, mo_tape, .int mo_taped, .int mo_size, .int mo_spot, .int mo_sort, .int mo_place, .int mo_number, .int mo_fault, .int mo_wrongAt, .int mo_laneTold, .long mo_word, .ref a_mo_v, mo_x, mo_past, mo_kept, .int mo_acts, .int mo_marks, mo_put, mo_bestPut, .long mo_bestSum, mo_row, mo_best, mo_left, .int mo_bestSize, .int mo_bestLeft, mo_counts, .int mo_sets, .int mo_foeHarm, .int mo_ownHarm, .int mo_across, .int mo_sumFoe, .int mo_sumOwn, .int mo_sumWon, .int mo_sumAcross])), (a_mo_v, .inl (cy 1, 19, .inl mo_v)), (a_wa, .inr (12, [.int wa_lanes, .int wa_deep, .int wa_told, .int wa_beasts, .int wa_cities, .int wa_passes, .int wa_turned, .int wa_names, .ref a_wa_who, wa_strong, .ref a_wa_kind, wa_lane, wa_mood, wa_price, wa_loses, wa_name, wa_nameSort, wa_numberOf])), (a_wa_who, .inl (cy 1, 6, .inl wa_who)), (a_wa_kind, .inl (cy 1, 5, .inl wa_kind))]) (vp_Si (fun r => r = res)) 0 0 (fun _ => False) := by
  refine Met.ofW (cc := cX13_meetsIn) (maxL := 4) (ret := (some .int)) (by decide) rfl ?_
  intro p e s m args below meth c s₁ B hml hv
  obtain ⟨rfl, hP, hKN⟩ := hv
  have hK := hKN.1
  have hx := B.exec
  have hb := B.bytes
  have hr := B.returns
  have hts := wt_X13_meetsIn hKN.2.2 (([.ref a_mo, .int p1, .int p2, .int p3] : List Value).toArray)
  have hown : s.vm.findClass RX13 = some m.cls := findClass_of_methodNamed B.named
  have hlocks := B.notSynchronized
  have hX12 := wc_X12 hKN.2.2 (([.ref a_mo, .int p1, .int p2, .int p3] : List Value).toArray)
  have hX13 := wc_X13 hKN.2.2 (([.ref a_mo, .int p1, .int p2, .int p3] : List Value).toArray)
  have hl := lv_entry ([.ref a_mo, .int p1, .int p2, .int p3]) (n := 4) (Nat.le_of_ble_eq_true rfl)
  rw [lg_entry_eq]
  generalize (lg_sl ([.ref a_mo, .int p1, .int p2, .int p3]) ++ List.replicate (4 - (lg_sl ([.ref a_mo, .int p1, .int p2, .int p3])).length) Slot.unset).toArray = ls at hl ⊢
  have hl : lv_has ls 4 [(0, .ref a_mo), (1, .int p1), (2, .int p2), (3, .int p3)] := hl
  unfold f_X13_meetsIn at h
  refine lv_aload_n hx hb dX13_meetsIn_0 rfl (lv_at hl 0 rfl) ?_
  refine lv_iload_n hx hb dX13_meetsIn_1 rfl (lv_at hl 1 rfl) ?_
  refine lv_aload_n hx hb dX13_meetsIn_2 rfl (lv_at hl 0 rfl) ?_
  refine va_get (D := D) (ci := 13) (C := RX13) (T := TX13) (N := 39) (v := .ref a_wa) hx hb hX13 (fun _ q => q) hown hK hP 0 rfl rfl 3 (by decide) (hts (.fieldLink RX13 301 "ElephantLineModel" "war" "LElephantLineModel$War;") (by decide +kernel)) (fun _ h9 => h9) rfl dX13_meetsIn_3 ?_
  refine va_getN (D := D) (ci := 12) (C := RX12) (T := TX12) (N := 18) (v := .ref a_wa_who) hx hb hX12 (fun _ q => q) hown hK hP 2 rfl rfl 8 (by decide) (va_Nw.use rfl (hKN.2.1.1 ("ElephantLineModel", 241, "ElephantLineModel$War", "who", "[I", "ElephantLineModel") (List.mem_of_getElem? (i := 75) rfl))) (fun _ h9 => h9) rfl dX13_meetsIn_6 ?_
  refine lv_iload_n hx hb dX13_meetsIn_9 rfl (lv_at hl 2 rfl) ?_
  obtain ⟨i_1, h⟩ := gIn_some h
  refine va_iald hx hb hK hP 3 1 rfl rfl i_1 dX13_meetsIn_10 ?_
  refine lv_aload_n hx hb dX13_meetsIn_11 rfl (lv_at hl 0 rfl) ?_
  refine va_get (D := D) (ci := 13) (C := RX13) (T := TX13) (N := 39) (v := .ref a_mo_v) hx hb hX13 (fun _ q => q) hown hK hP 0 rfl rfl 16 (by decide) (hts (.fieldLink RX13 17 "ElephantLineModel" "v" "[I") (by decide +kernel)) (fun _ h9 => h9) rfl dX13_meetsIn_12 ?_
  refine lv_bipush (v := 11) hx hb dX13_meetsIn_15 (by decide) ?_
  refine lv_iload_n hx hb dX13_meetsIn_17 rfl (lv_at hl 2 rfl) ?_
  refine lv_iadd hx hb dX13_meetsIn_18 ?_
  obtain ⟨i_2, h⟩ := gIn_some h
  refine va_iald hx hb hK hP 1 1 rfl rfl i_2 dX13_meetsIn_19 ?_
  refine lv_iload_n hx hb dX13_meetsIn_20 rfl (lv_at hl 3 rfl) ?_
  obtain ⟨r_3, hc_4, h⟩ := bd1_some h
  refine kVi [.int p1, .int (wa_who p2.toNatClampNeg), .int (mo_v (11 + p2).toNatClampNeg), .int p3] [] ⟨hx, hb, hml, hown, hts⟩ (c_X13_harmBy l D cy a_mo a_mo_v a_wa a_wa_kind mo_thrown mo_trouble mo_where (mo_read) (mo_tape) mo_taped mo_size mo_spot mo_sort mo_place mo_number mo_fault mo_wrongAt mo_laneTold mo_word (mo_x) (mo_past) (mo_kept) mo_acts mo_marks (mo_put) (mo_bestPut) mo_bestSum (mo_row) (mo_best) (mo_left) mo_bestSize mo_bestLeft (mo_counts) mo_sets mo_foeHarm mo_ownHarm mo_across mo_sumFoe mo_sumOwn mo_sumWon mo_sumAcross mo_v wa_lanes wa_deep wa_told wa_beasts wa_cities wa_passes wa_turned wa_names (.ref a_wa_who) (wa_strong) (wa_lane) (wa_mood) (wa_price) (wa_loses) (wa_name) (wa_nameSort) (wa_numberOf) wa_kind p1 (wa_who p2.toNatClampNeg) (mo_v (11 + p2).toNatClampNeg) p3 r_3 hc_4) gX13_meetsIn_X13_harmBy rfl hd_X13_harmBy ⟨Nat.le_of_ble_eq_true rfl, Nat.le_of_ble_eq_true rfl⟩ rfl rfl hKN (hP.sub [0, 1, 2, 4] rfl) 13 0 rfl rfl rfl hl.1 rfl (Nat.le_of_ble_eq_true rfl) dX13_meetsIn_21 ⟨Nat.le_of_ble_eq_true rfl, Nat.le_of_ble_eq_true rfl⟩ ?_
  exact W.iret (v := r_3) hx hb hr (fun t ht _ => ⟨_, rfl, Option.some.inj h, ht⟩) (fun _ q => by cases q) dX13_meetsIn_24
