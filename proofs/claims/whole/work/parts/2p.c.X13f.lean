theorem hd_X13_nextPut : yX13_nextPut.cls = RX13 ∧ yX13_nextPut.cls ≠ "java/lang/invoke/MethodHandle" ∧ yX13_nextPut.cls ≠ "java/lang/invoke/VarHandle" ∧ (parseMethodDescriptor yX13_nextPut.desc).map (fun d => d.parameters.length) = some 0 := by decide +kernel
set_option maxHeartbeats 4000000 in
set_option maxRecDepth 100000 in
theorem c_X13_nextPut (l : Launch) (D : va_G) (cy : Nat → ClassId) (A : Nat → Prop) (X : va_W) (a_mo a_mo_v a_mo_put a_wa : Nat) (mo_thrown : Int32) (mo_trouble : Int32) (mo_where : Int32) (mo_read : Value) (mo_tape : Value) (mo_taped : Int32) (mo_size : Int32) (mo_spot : Int32) (mo_sort : Int32) (mo_place : Int32) (mo_number : Int32) (mo_fault : Int32) (mo_wrongAt : Int32) (mo_laneTold : Int32) (mo_word : Int64) (mo_x : Value) (mo_past : Value) (mo_kept : Value) (mo_acts : Int32) (mo_marks : Int32) (mo_bestPut : Value) (mo_bestSum : Int64) (mo_row : Value) (mo_best : Value) (mo_left : Value) (mo_bestSize : Int32) (mo_bestLeft : Int32) (mo_counts : Value) (mo_sets : Int32) (mo_foeHarm : Int32) (mo_ownHarm : Int32) (mo_across : Int32) (mo_sumFoe : Int32) (mo_sumOwn : Int32) (mo_sumWon : Int32) (mo_sumAcross : Int32) (mo_v : Nat → Int32) (mo_put : Nat → Int32) (wa_lanes : Int32) (wa_deep : Int32) (wa_told : Int32) (wa_beasts : Int32) (wa_cities : Int32) (wa_passes : Int32) (wa_turned : Int32) (wa_names : Int32) (wa_who : Value) (wa_strong : Value) (wa_kind : Value) (wa_lane : Value) (wa_mood : Value) (wa_price : Value) (wa_loses : Value) (wa_name : Value) (wa_nameSort : Value) (wa_numberOf : Value) (res : Int32) (mo_put' : Nat → Int32) (h : f_X13_nextPut mo_v mo_put wa_lanes wa_beasts = some (res, mo_put')) : Met l yX13_nextPut wo_X13_nextPut ({ frames := 2, cells := 0, slots := 0, locals := 42 }) (wrPc D cy A [.ref a_mo] ([(a_mo, .inr (13, [.int mo_thrown, .int mo_trouble, .int mo_where, .ref a_wa, mo_read, mo_tape, .int mo_taped, .int mo_size, .int mo_spot, .int mo_sort, .int mo_place, .int mo_number, .int mo_fault, .int mo_wrongAt, .int mo_laneTold, .long mo_word, .ref a_mo_v, mo_x, mo_past, mo_kept, .int mo_acts, .int mo_marks, .ref a_mo_put, mo_bestPut, .long mo_bestSum, mo_row, mo_best, mo_left, .int mo_bestSize, .int mo_bestLeft, mo_counts, .int mo_sets, .int mo_foeHarm, .int mo_ownHarm, .int mo_across, .int mo_sumFoe, .int mo_sumOwn, .int mo_sumWon, .int mo_sumAcross])), (a_mo_v, .inl (cy 1, 19, .inl mo_v)), (a_mo_put, .inl (cy 1, 5, .inl mo_put)), (a_wa, .inr (12, [.int wa_lanes, .int wa_deep, .int wa_told, .int wa_beasts, .int wa_cities, .int wa_passes, .int wa_turned, .int wa_names, wa_who, wa_strong, wa_kind, wa_lane, wa_mood, wa_price, wa_loses, wa_name, wa_nameSort, wa_numberOf]))] ++ X)) (va_Qi (fun (r : Int32) (_ : Unit) => r = res ∧ nbv r) (wB D A ([(a_mo, .inr (13, [.int mo_thrown, .int mo_trouble, .int mo_where, .ref a_wa, mo_read, mo_tape, .int mo_taped, .int mo_size, .int mo_spot, .int mo_sort, .int mo_place, .int mo_number, .int mo_fault, .int mo_wrongAt, .int mo_laneTold, .long mo_word, .ref a_mo_v, mo_x, mo_past, mo_kept, .int mo_acts, .int mo_marks, .ref a_mo_put, mo_bestPut, .long mo_bestSum, mo_row, mo_best, mo_left, .int mo_bestSize, .int mo_bestLeft, mo_counts, .int mo_sets, .int mo_foeHarm, .int mo_ownHarm, .int mo_across, .int mo_sumFoe, .int mo_sumOwn, .int mo_sumWon, .int mo_sumAcross])), (a_mo_v, .inl (cy 1, 19, .inl mo_v)), (a_mo_put, .inl (cy 1, 5, .inl mo_put')), (a_wa, .inr (12, [.int wa_lanes, .int wa_deep, .int wa_told, .int wa_beasts, .int wa_cities, .int wa_passes, .int wa_turned, .int wa_names, wa_who, wa_strong, wa_kind, wa_lane, wa_mood, wa_price, wa_loses, wa_name, wa_nameSort, wa_numberOf]))] ++ X)) A) 0 0 A := by
  refine Met.ofW (cc := cX13_nextPut) (maxL := 2) (ret := (some .boolean)) (by decide) rfl ?_
  intro p e s m args below meth c s₁ B hml hv
  obtain ⟨rfl, hP, hKN, hD, hA⟩ := hv
  have hK := hKN.1
  have hx := B.exec
  have hb := B.bytes
  have hr := B.returns
  have hts := wt_X13_nextPut hKN.2.2 (([.ref a_mo] : List Value).toArray)
  have hown : s.vm.findClass RX13 = some m.cls := findClass_of_methodNamed B.named
  have hlocks := B.notSynchronized
  have hS : va_S A s.heap s.heap [] := va_S.rf
  have hX12 := wc_X12 hKN.2.2 (([.ref a_mo] : List Value).toArray)
  have hX13 := wc_X13 hKN.2.2 (([.ref a_mo] : List Value).toArray)
  have hl := lv_entry ([.ref a_mo]) (n := 2) (Nat.le_of_ble_eq_true rfl)
  rw [lg_entry_eq]
  generalize (lg_sl ([.ref a_mo]) ++ List.replicate (2 - (lg_sl ([.ref a_mo])).length) Slot.unset).toArray = ls at hl ⊢
  have hl : lv_has ls 2 [(0, .ref a_mo)] := hl
  unfold f_X13_nextPut at h
  refine lv_aload_n hx hb dX13_nextPut_0 rfl (lv_at hl 0 rfl) ?_
  refine va_get (D := D) (ci := 13) (C := RX13) (T := TX13) (N := 39) (v := .ref a_wa) hx hb hX13 (fun _ q => q) hown hK hP 0 rfl rfl 3 (by decide) (hts (.fieldLink RX13 301 "ElephantLineModel" "war" "LElephantLineModel$War;") (by decide +kernel)) (fun _ h9 => h9) rfl dX13_nextPut_1 ?_
  refine va_getN (D := D) (ci := 12) (C := RX12) (T := TX12) (N := 18) (v := .int wa_beasts) hx hb hX12 (fun _ q => q) hown hK hP 3 rfl rfl 3 (by decide) (va_Nw.use rfl (hKN.2.1.1 ("ElephantLineModel", 195, "ElephantLineModel$War", "beasts", "I", "ElephantLineModel") (List.mem_of_getElem? (i := 70) rfl))) (fun _ h9 => h9) rfl dX13_nextPut_4 ?_
  refine lv_iconst (v := 1) hx hb dX13_nextPut_7 (by decide) ?_
  refine lv_isub hx hb dX13_nextPut_8 ?_
  refine lv_istore_n (lv' := [(1, .int (wa_beasts - 1)), (0, .ref a_mo)]) hx hb dX13_nextPut_9 rfl hl (by decide) rfl (fun ls hl => ?_)
  have lp10 : ∀ (n10 : Nat) (x1_1 : Int32) (mo_put_2 : Nat → Int32), f_X13_nextPut_L10 mo_v wa_lanes wa_beasts n10 x1_1 mo_put_2 = some (res, mo_put') → ∀ (H : Heap) (locs : List Loc), va_P D vwCl ([(a_mo, .inr (13, [.int mo_thrown, .int mo_trouble, .int mo_where, .ref a_wa, mo_read, mo_tape, .int mo_taped, .int mo_size, .int mo_spot, .int mo_sort, .int mo_place, .int mo_number, .int mo_fault, .int mo_wrongAt, .int mo_laneTold, .long mo_word, .ref a_mo_v, mo_x, mo_past, mo_kept, .int mo_acts, .int mo_marks, .ref a_mo_put, mo_bestPut, .long mo_bestSum, mo_row, mo_best, mo_left, .int mo_bestSize, .int mo_bestLeft, mo_counts, .int mo_sets, .int mo_foeHarm, .int mo_ownHarm, .int mo_across, .int mo_sumFoe, .int mo_sumOwn, .int mo_sumWon, .int mo_sumAcross])), (a_mo_v, .inl (cy 1, 19, .inl mo_v)), (a_mo_put, .inl (cy 1, 5, .inl mo_put_2)), (a_wa, .inr (12, [.int wa_lanes, .int wa_deep, .int wa_told, .int wa_beasts, .int wa_cities, .int wa_passes, .int wa_turned, .int wa_names, wa_who, wa_strong, wa_kind, wa_lane, wa_mood, wa_price, wa_loses, wa_name, wa_nameSort, wa_numberOf]))] ++ X) H → va_D A ([(a_mo, .inr (13, [.int mo_thrown, .int mo_trouble, .int mo_where, .ref a_wa, mo_read, mo_tape, .int mo_taped, .int mo_size, .int mo_spot, .int mo_sort, .int mo_place, .int mo_number, .int mo_fault, .int mo_wrongAt, .int mo_laneTold, .long mo_word, .ref a_mo_v, mo_x, mo_past, mo_kept, .int mo_acts, .int mo_marks, .ref a_mo_put, mo_bestPut, .long mo_bestSum, mo_row, mo_best, mo_left, .int mo_bestSize, .int mo_bestLeft, mo_counts, .int mo_sets, .int mo_foeHarm, .int mo_ownHarm, .int mo_across, .int mo_sumFoe, .int mo_sumOwn, .int mo_sumWon, .int mo_sumAcross])), (a_mo_v, .inl (cy 1, 19, .inl mo_v)), (a_mo_put, .inl (cy 1, 5, .inl mo_put_2)), (a_wa, .inr (12, [.int wa_lanes, .int wa_deep, .int wa_told, .int wa_beasts, .int wa_cities, .int wa_passes, .int wa_turned, .int wa_names, wa_who, wa_strong, wa_kind, wa_lane, wa_mood, wa_price, wa_loses, wa_name, wa_nameSort, wa_numberOf]))] ++ X) → va_S A s.heap H locs → ∀ ls : Array Slot, lv_has ls 2 [(0, .ref a_mo), (1, .int x1_1)] → W p l e (headSpec wo_X13_nextPut ({ frames := 2, cells := 0, slots := 0, locals := 42 })).room s m (([.ref a_mo] : List Value).toArray) below meth c H locs 0 0 (MQ below (va_Qi (fun (r : Int32) (_ : Unit) => r = res ∧ nbv r) (wB D A ([(a_mo, .inr (13, [.int mo_thrown, .int mo_trouble, .int mo_where, .ref a_wa, mo_read, mo_tape, .int mo_taped, .int mo_size, .int mo_spot, .int mo_sort, .int mo_place, .int mo_number, .int mo_fault, .int mo_wrongAt, .int mo_laneTold, .long mo_word, .ref a_mo_v, mo_x, mo_past, mo_kept, .int mo_acts, .int mo_marks, .ref a_mo_put, mo_bestPut, .long mo_bestSum, mo_row, mo_best, mo_left, .int mo_bestSize, .int mo_bestLeft, mo_counts, .int mo_sets, .int mo_foeHarm, .int mo_ownHarm, .int mo_across, .int mo_sumFoe, .int mo_sumOwn, .int mo_sumWon, .int mo_sumAcross])), (a_mo_v, .inl (cy 1, 19, .inl mo_v)), (a_mo_put, .inl (cy 1, 5, .inl mo_put')), (a_wa, .inr (12, [.int wa_lanes, .int wa_deep, .int wa_told, .int wa_beasts, .int wa_cities, .int wa_passes, .int wa_turned, .int wa_names, wa_who, wa_strong, wa_kind, wa_lane, wa_mood, wa_price, wa_loses, wa_name, wa_nameSort, wa_numberOf]))] ++ X)) A) (([.ref a_mo] : List Value).toArray) s 0 0 A) (F0 m 10 ls []) := by
    intro n10
    induction n10 with
    | zero => intro x1_1 mo_put_2 h; exact absurd (show (none : Option (Int32 × (Nat → Int32))) = some _ from h) (by intro q; cases q)
    | succ n10 ih10 =>
      intro x1_1 mo_put_2 h H locs hP hD hS ls hl
      have h : f_X13_nextPut_b10 mo_v wa_lanes wa_beasts (f_X13_nextPut_L10 mo_v wa_lanes wa_beasts n10) x1_1 mo_put_2 = some (res, mo_put') := h
      unfold f_X13_nextPut_b10 at h
      refine lv_iload_n hx hb dX13_nextPut_10 rfl (lv_at hl 1 rfl) ?_
      refine lv_if_lt (tgt := 66) hx hb dX13_nextPut_11 (by decide) (fun cd => ?_) (fun cd => ?_)
      · have h := ifT cd h
        refine lv_iconst (v := 0) hx hb dX13_nextPut_66 (by decide) ?_
        cases h
        exact W.zret (ty := .boolean) hx hb hr (nbv.n nbv_0) (fun t ht _ => ⟨⟨_, (), rfl, ⟨rfl, nbv_0⟩, by rw [ht]; exact hP, hD⟩, hS.F ht⟩) hS.2.2 dX13_nextPut_67
      · have h := ifF cd h
        refine lv_aload_n hx hb dX13_nextPut_14 rfl (lv_at hl 0 rfl) ?_
        refine lv_iload_n hx hb dX13_nextPut_15 rfl (lv_at hl 1 rfl) ?_
        obtain ⟨r_3, hc_4, h⟩ := bd1_some h
        refine kVb [.int x1_1] [] ⟨hx, hb, hml, hown, hts⟩ (c_X13_isDead l D cy a_mo a_mo_v mo_thrown mo_trouble mo_where (.ref a_wa) (mo_read) (mo_tape) mo_taped mo_size mo_spot mo_sort mo_place mo_number mo_fault mo_wrongAt mo_laneTold mo_word (mo_x) (mo_past) (mo_kept) mo_acts mo_marks (.ref a_mo_put) (mo_bestPut) mo_bestSum (mo_row) (mo_best) (mo_left) mo_bestSize mo_bestLeft (mo_counts) mo_sets mo_foeHarm mo_ownHarm mo_across mo_sumFoe mo_sumOwn mo_sumWon mo_sumAcross mo_v x1_1 r_3 hc_4) gX13_nextPut_X13_isDead rfl hd_X13_isDead ⟨Nat.le_of_ble_eq_true rfl, Nat.le_of_ble_eq_true rfl⟩ rfl rfl hKN (pXc hP [0, 1] rfl) 13 0 rfl rfl rfl hl.1 rfl (Nat.le_of_ble_eq_true rfl) dX13_nextPut_16 ⟨Nat.le_of_ble_eq_true rfl, Nat.le_of_ble_eq_true rfl⟩ (fun nb_5 => ?_)
        have jn60 : ∀ (mo_put_6 : Nat → Int32), f_X13_nextPut_B60 (f_X13_nextPut_L10 mo_v wa_lanes wa_beasts n10) mo_v wa_lanes wa_beasts x1_1 mo_put_6 = some (res, mo_put') → ∀ (H : Heap) (locs : List Loc), va_P D vwCl ([(a_mo, .inr (13, [.int mo_thrown, .int mo_trouble, .int mo_where, .ref a_wa, mo_read, mo_tape, .int mo_taped, .int mo_size, .int mo_spot, .int mo_sort, .int mo_place, .int mo_number, .int mo_fault, .int mo_wrongAt, .int mo_laneTold, .long mo_word, .ref a_mo_v, mo_x, mo_past, mo_kept, .int mo_acts, .int mo_marks, .ref a_mo_put, mo_bestPut, .long mo_bestSum, mo_row, mo_best, mo_left, .int mo_bestSize, .int mo_bestLeft, mo_counts, .int mo_sets, .int mo_foeHarm, .int mo_ownHarm, .int mo_across, .int mo_sumFoe, .int mo_sumOwn, .int mo_sumWon, .int mo_sumAcross])), (a_mo_v, .inl (cy 1, 19, .inl mo_v)), (a_mo_put, .inl (cy 1, 5, .inl mo_put_6)), (a_wa, .inr (12, [.int wa_lanes, .int wa_deep, .int wa_told, .int wa_beasts, .int wa_cities, .int wa_passes, .int wa_turned, .int wa_names, wa_who, wa_strong, wa_kind, wa_lane, wa_mood, wa_price, wa_loses, wa_name, wa_nameSort, wa_numberOf]))] ++ X) H → va_D A ([(a_mo, .inr (13, [.int mo_thrown, .int mo_trouble, .int mo_where, .ref a_wa, mo_read, mo_tape, .int mo_taped, .int mo_size, .int mo_spot, .int mo_sort, .int mo_place, .int mo_number, .int mo_fault, .int mo_wrongAt, .int mo_laneTold, .long mo_word, .ref a_mo_v, mo_x, mo_past, mo_kept, .int mo_acts, .int mo_marks, .ref a_mo_put, mo_bestPut, .long mo_bestSum, mo_row, mo_best, mo_left, .int mo_bestSize, .int mo_bestLeft, mo_counts, .int mo_sets, .int mo_foeHarm, .int mo_ownHarm, .int mo_across, .int mo_sumFoe, .int mo_sumOwn, .int mo_sumWon, .int mo_sumAcross])), (a_mo_v, .inl (cy 1, 19, .inl mo_v)), (a_mo_put, .inl (cy 1, 5, .inl mo_put_6)), (a_wa, .inr (12, [.int wa_lanes, .int wa_deep, .int wa_told, .int wa_beasts, .int wa_cities, .int wa_passes, .int wa_turned, .int wa_names, wa_who, wa_strong, wa_kind, wa_lane, wa_mood, wa_price, wa_loses, wa_name, wa_nameSort, wa_numberOf]))] ++ X) → va_S A s.heap H locs → ∀ ls : Array Slot, lv_has ls 2 [(0, .ref a_mo), (1, .int x1_1)] → W p l e (headSpec wo_X13_nextPut ({ frames := 2, cells := 0, slots := 0, locals := 42 })).room s m (([.ref a_mo] : List Value).toArray) below meth c H locs 0 0 (MQ below (va_Qi (fun (r : Int32) (_ : Unit) => r = res ∧ nbv r) (wB D A ([(a_mo, .inr (13, [.int mo_thrown, .int mo_trouble, .int mo_where, .ref a_wa, mo_read, mo_tape, .int mo_taped, .int mo_size, .int mo_spot, .int mo_sort, .int mo_place, .int mo_number, .int mo_fault, .int mo_wrongAt, .int mo_laneTold, .long mo_word, .ref a_mo_v, mo_x, mo_past, mo_kept, .int mo_acts, .int mo_marks, .ref a_mo_put, mo_bestPut, .long mo_bestSum, mo_row, mo_best, mo_left, .int mo_bestSize, .int mo_bestLeft, mo_counts, .int mo_sets, .int mo_foeHarm, .int mo_ownHarm, .int mo_across, .int mo_sumFoe, .int mo_sumOwn, .int mo_sumWon, .int mo_sumAcross])), (a_mo_v, .inl (cy 1, 19, .inl mo_v)), (a_mo_put, .inl (cy 1, 5, .inl mo_put')), (a_wa, .inr (12, [.int wa_lanes, .int wa_deep, .int wa_told, .int wa_beasts, .int wa_cities, .int wa_passes, .int wa_turned, .int wa_names, wa_who, wa_strong, wa_kind, wa_lane, wa_mood, wa_price, wa_loses, wa_name, wa_nameSort, wa_numberOf]))] ++ X)) A) (([.ref a_mo] : List Value).toArray) s 0 0 A) (F0 m 60 ls []) := by
          intro mo_put_6 h H locs hP hD hS ls hl
          unfold f_X13_nextPut_B60 at h
          refine lv_iinc (v := x1_1 + (-1)) (lv' := [(1, .int (x1_1 + (-1))), (0, .ref a_mo)]) hx hb dX13_nextPut_60 hl (k := 1) rfl (by first | rfl | decide) (by decide) rfl (fun ls hl => ?_)
          refine lv_goto (tgt := 10) hx hb dX13_nextPut_63 (by decide) ?_
          exact ih10 (x1_1 + (-1)) mo_put_6 h _ _ hP hD hS _ (lv_sub hl [1, 0] rfl)
        refine lv_if_eq (tgt := 25) hx hb dX13_nextPut_19 (by decide) (fun cd => ?_) (fun cd => ?_)
        · have h := ifT cd h
          refine lv_aload_n hx hb dX13_nextPut_25 rfl (lv_at hl 0 rfl) ?_
          refine va_get (D := D) (ci := 13) (C := RX13) (T := TX13) (N := 39) (v := .ref a_mo_put) hx hb hX13 (fun _ q => q) hown hK hP 0 rfl rfl 22 (by decide) (hts (.fieldLink RX13 30 "ElephantLineModel" "put" "[I") (by decide +kernel)) (fun _ h9 => h9) rfl dX13_nextPut_26 ?_
          refine lv_iload_n hx hb dX13_nextPut_29 rfl (lv_at hl 1 rfl) ?_
          refine lv_dup2_11 hx hb dX13_nextPut_30 rfl rfl ?_
          obtain ⟨i_7, h⟩ := gIn_some h
          refine va_iald hx hb hK hP 2 1 rfl rfl i_7 dX13_nextPut_31 ?_
          refine lv_iconst (v := 1) hx hb dX13_nextPut_32 (by decide) ?_
          refine lv_iadd hx hb dX13_nextPut_33 ?_
          obtain ⟨i_8, h⟩ := gIn_some h
          refine va_iast hx hb hK hP hD hS 2 1 rfl rfl i_8 dX13_nextPut_34 (fun H locs hP hD hS => ?_)
          refine lv_aload_n hx hb dX13_nextPut_35 rfl (lv_at hl 0 rfl) ?_
          refine va_get (D := D) (ci := 13) (C := RX13) (T := TX13) (N := 39) (v := .ref a_mo_put) hx hb hX13 (fun _ q => q) hown hK hP 0 rfl rfl 22 (by decide) (hts (.fieldLink RX13 30 "ElephantLineModel" "put" "[I") (by decide +kernel)) (fun _ h9 => h9) rfl dX13_nextPut_36 ?_
          refine lv_iload_n hx hb dX13_nextPut_39 rfl (lv_at hl 1 rfl) ?_
          obtain ⟨i_9, h⟩ := gIn_some h
          refine va_iald hx hb hK hP 2 1 rfl rfl i_9 dX13_nextPut_40 ?_
          refine lv_aload_n hx hb dX13_nextPut_41 rfl (lv_at hl 0 rfl) ?_
          refine va_get (D := D) (ci := 13) (C := RX13) (T := TX13) (N := 39) (v := .ref a_wa) hx hb hX13 (fun _ q => q) hown hK hP 0 rfl rfl 3 (by decide) (hts (.fieldLink RX13 301 "ElephantLineModel" "war" "LElephantLineModel$War;") (by decide +kernel)) (fun _ h9 => h9) rfl dX13_nextPut_42 ?_
          refine va_getN (D := D) (ci := 12) (C := RX12) (T := TX12) (N := 18) (v := .int wa_lanes) hx hb hX12 (fun _ q => q) hown hK hP 3 rfl rfl 0 (by decide) (va_Nw.use rfl (hKN.2.1.1 ("ElephantLineModel", 160, "ElephantLineModel$War", "lanes", "I", "ElephantLineModel") (List.mem_of_getElem? (i := 67) rfl))) (fun _ h9 => h9) rfl dX13_nextPut_45 ?_
          refine lv_icmp_gt (tgt := 53) hx hb dX13_nextPut_48 (by decide) (fun cd => ?_) (fun cd => ?_)
          · have h := ifT cd h
            refine lv_aload_n hx hb dX13_nextPut_53 rfl (lv_at hl 0 rfl) ?_
            refine va_get (D := D) (ci := 13) (C := RX13) (T := TX13) (N := 39) (v := .ref a_mo_put) hx hb hX13 (fun _ q => q) hown hK hP 0 rfl rfl 22 (by decide) (hts (.fieldLink RX13 30 "ElephantLineModel" "put" "[I") (by decide +kernel)) (fun _ h9 => h9) rfl dX13_nextPut_54 ?_
            refine lv_iload_n hx hb dX13_nextPut_57 rfl (lv_at hl 1 rfl) ?_
            refine lv_iconst (v := 0) hx hb dX13_nextPut_58 (by decide) ?_
            obtain ⟨i_10, h⟩ := gIn_some h
            refine va_iast hx hb hK hP hD hS 2 1 rfl rfl i_10 dX13_nextPut_59 (fun H locs hP hD hS => ?_)
            exact jn60 (upd (upd mo_put_2 x1_1.toNatClampNeg ((mo_put_2 x1_1.toNatClampNeg) + 1)) x1_1.toNatClampNeg 0) h _ _ hP hD hS _ (lv_sub hl [0, 1] rfl)
          · have h := ifF cd h
            refine lv_iconst (v := 1) hx hb dX13_nextPut_51 (by decide) ?_
            cases h
            exact W.zret (ty := .boolean) hx hb hr (nbv.n nbv_1) (fun t ht _ => ⟨⟨_, (), rfl, ⟨rfl, nbv_1⟩, by rw [ht]; exact hP, hD⟩, hS.F ht⟩) hS.2.2 dX13_nextPut_52
        · have h := ifF cd h
          refine lv_goto (tgt := 60) hx hb dX13_nextPut_22 (by decide) ?_
          exact jn60 mo_put_2 h _ _ hP hD hS _ (lv_sub hl [0, 1] rfl)
  exact lp10 fuelN (wa_beasts - 1) mo_put h _ _ hP hD hS _ (lv_sub hl [1, 0] rfl)
theorem hd_X13_priceOf : yX13_priceOf.cls = RX13 ∧ yX13_priceOf.cls ≠ "java/lang/invoke/MethodHandle" ∧ yX13_priceOf.cls ≠ "java/lang/invoke/VarHandle" ∧ (parseMethodDescriptor yX13_priceOf.desc).map (fun d => d.parameters.length) = some 1 := by decide +kernel
set_option maxHeartbeats 4000000 in
set_option maxRecDepth 100000 in
theorem c_X13_priceOf (l : Launch) (D : va_G) (cy : Nat → ClassId) (a_mo a_wa a_wa_price : Nat) (mo_thrown : Int32) (mo_trouble : Int32) (mo_where : Int32) (mo_read : Value) (mo_tape : Value) (mo_taped : Int32) (mo_size : Int32) (mo_spot : Int32) (mo_sort : Int32) (mo_place : Int32) (mo_number : Int32) (mo_fault : Int32) (mo_wrongAt : Int32) (mo_laneTold : Int32) (mo_word : Int64) (mo_v : Value) (mo_x : Value) (mo_past : Value) (mo_kept : Value) (mo_acts : Int32) (mo_marks : Int32) (mo_put : Value) (mo_bestPut : Value) (mo_bestSum : Int64) (mo_row : Value) (mo_best : Value) (mo_left : Value) (mo_bestSize : Int32) (mo_bestLeft : Int32) (mo_counts : Value) (mo_sets : Int32) (mo_foeHarm : Int32) (mo_ownHarm : Int32) (mo_across : Int32) (mo_sumFoe : Int32) (mo_sumOwn : Int32) (mo_sumWon : Int32) (mo_sumAcross : Int32) (wa_lanes : Int32) (wa_deep : Int32) (wa_told : Int32) (wa_beasts : Int32) (wa_cities : Int32) (wa_passes : Int32) (wa_turned : Int32) (wa_names : Int32) (wa_who : Value) (wa_strong : Value) (wa_kind : Value) (wa_lane : Value) (wa_mood : Value) (wa_loses : Value) (wa_name : Value) (wa_nameSort : Value) (wa_numberOf : Value) (wa_price : Nat → Int32) (p1 : Int32) (res : Int32) (h : f_X13_priceOf wa_beasts wa_price p1 = some (res)) : Met l yX13_priceOf wo_X13_priceOf ({ frames := 1, cells := 0, slots := 0, locals := 21 }) (roPc D cy [.ref a_mo, .int p1] [(a_mo, .inr (13, [.int mo_thrown, .int mo_trouble, .int mo_where, .ref a_wa, mo_read, mo_tape, .int mo_taped, .int mo_size, .int mo_spot, .int mo_sort, .int mo_place, .int mo_number, .int mo_fault, .int mo_wrongAt, .int mo_laneTold, .long mo_word, mo_v, mo_x, mo_past, mo_kept, .int mo_acts, .int mo_marks, mo_put, mo_bestPut, .long mo_bestSum, mo_row, mo_best, mo_left, .int mo_bestSize, .int mo_bestLeft, mo_counts, .int mo_sets, .int mo_foeHarm, .int mo_ownHarm, .int mo_across, .int mo_sumFoe, .int mo_sumOwn, .int mo_sumWon, .int mo_sumAcross])), (a_wa, .inr (12, [.int wa_lanes, .int wa_deep, .int wa_told, .int wa_beasts, .int wa_cities, .int wa_passes, .int wa_turned, .int wa_names, wa_who, wa_strong, wa_kind, wa_lane, wa_mood, .ref a_wa_price, wa_loses, wa_name, wa_nameSort, wa_numberOf])), (a_wa_price, .inl (cy 1, 5, .inl wa_price))]) (vp_Si (fun r => r = res)) 0 0 (fun _ => False) := by
  refine Met.ofW (cc := cX13_priceOf) (maxL := 4) (ret := (some .int)) (by decide) rfl ?_
  intro p e s m args below meth c s₁ B hml hv
  obtain ⟨rfl, hP, hKN⟩ := hv
  have hK := hKN.1
  have hx := B.exec
  have hb := B.bytes
  have hr := B.returns
  have hts := wt_X13_priceOf hKN.2.2 (([.ref a_mo, .int p1] : List Value).toArray)
  have hown : s.vm.findClass RX13 = some m.cls := findClass_of_methodNamed B.named
  have hlocks := B.notSynchronized
  have hX12 := wc_X12 hKN.2.2 (([.ref a_mo, .int p1] : List Value).toArray)
  have hX13 := wc_X13 hKN.2.2 (([.ref a_mo, .int p1] : List Value).toArray)
  have hl := lv_entry ([.ref a_mo, .int p1]) (n := 4) (Nat.le_of_ble_eq_true rfl)
  rw [lg_entry_eq]
  generalize (lg_sl ([.ref a_mo, .int p1]) ++ List.replicate (4 - (lg_sl ([.ref a_mo, .int p1])).length) Slot.unset).toArray = ls at hl ⊢
  have hl : lv_has ls 4 [(0, .ref a_mo), (1, .int p1)] := hl
  unfold f_X13_priceOf at h
  refine lv_iconst (v := 0) hx hb dX13_priceOf_0 (by decide) ?_
  refine lv_istore_n (lv' := [(2, .int 0), (0, .ref a_mo), (1, .int p1)]) hx hb dX13_priceOf_1 rfl hl (by decide) rfl (fun ls hl => ?_)
  refine lv_iconst (v := 0) hx hb dX13_priceOf_2 (by decide) ?_
  refine lv_istore_n (lv' := [(3, .int 0), (2, .int 0), (0, .ref a_mo), (1, .int p1)]) hx hb dX13_priceOf_3 rfl hl (by decide) rfl (fun ls hl => ?_)
  have lp4 : ∀ (n4 : Nat) (x2_1 : Int32) (x3_2 : Int32), f_X13_priceOf_L4 wa_beasts wa_price p1 n4 x2_1 x3_2 = some (res) → ∀ ls : Array Slot, lv_has ls 4 [(0, .ref a_mo), (1, .int p1), (2, .int x2_1), (3, .int x3_2)] → W p l e (headSpec wo_X13_priceOf ({ frames := 1, cells := 0, slots := 0, locals := 21 })).room s m (([.ref a_mo, .int p1] : List Value).toArray) below meth c s.heap [] 0 0 (MQ below (vp_Si (fun r => r = res)) (([.ref a_mo, .int p1] : List Value).toArray) s 0 0 (fun _ => False)) (F0 m 4 ls []) := by
    intro n4
    induction n4 with
    | zero => intro x2_1 x3_2 h; exact absurd (show (none : Option (Int32)) = some _ from h) (by intro q; cases q)
    | succ n4 ih4 =>
      intro x2_1 x3_2 h ls hl
      have h : f_X13_priceOf_b4 wa_beasts wa_price p1 (f_X13_priceOf_L4 wa_beasts wa_price p1 n4) x2_1 x3_2 = some (res) := h
      unfold f_X13_priceOf_b4 at h
      refine lv_iload_n hx hb dX13_priceOf_4 rfl (lv_at hl 3 rfl) ?_
      refine lv_aload_n hx hb dX13_priceOf_5 rfl (lv_at hl 0 rfl) ?_
      refine va_get (D := D) (ci := 13) (C := RX13) (T := TX13) (N := 39) (v := .ref a_wa) hx hb hX13 (fun _ q => q) hown hK hP 0 rfl rfl 3 (by decide) (hts (.fieldLink RX13 301 "ElephantLineModel" "war" "LElephantLineModel$War;") (by decide +kernel)) (fun _ h9 => h9) rfl dX13_priceOf_6 ?_
      refine va_getN (D := D) (ci := 12) (C := RX12) (T := TX12) (N := 18) (v := .int wa_beasts) hx hb hX12 (fun _ q => q) hown hK hP 1 rfl rfl 3 (by decide) (va_Nw.use rfl (hKN.2.1.1 ("ElephantLineModel", 195, "ElephantLineModel$War", "beasts", "I", "ElephantLineModel") (List.mem_of_getElem? (i := 70) rfl))) (fun _ h9 => h9) rfl dX13_priceOf_9 ?_
      refine lv_icmp_ge (tgt := 45) hx hb dX13_priceOf_12 (by decide) (fun cd => ?_) (fun cd => ?_)
      · have h := ifT cd h
        refine lv_iload_n hx hb dX13_priceOf_45 rfl (lv_at hl 2 rfl) ?_
        exact W.iret (v := x2_1) hx hb hr (fun t ht _ => ⟨_, rfl, Option.some.inj h, ht⟩) (fun _ q => by cases q) dX13_priceOf_46
      · have h := ifF cd h
        refine lv_iload_n hx hb dX13_priceOf_15 rfl (lv_at hl 2 rfl) ?_
        refine lv_iload_n hx hb dX13_priceOf_16 rfl (lv_at hl 1 rfl) ?_
        refine lv_iload_n hx hb dX13_priceOf_17 rfl (lv_at hl 3 rfl) ?_
        obtain ⟨r_3, hc_4, h⟩ := bd1_some h
        refine kSb [.int p1, .int x3_2] [.int x2_1] ⟨hx, hb, hml, hown, hts⟩ (c_X13_bit l D cy p1 x3_2 r_3 hc_4) gX13_priceOf_X13_bit rfl hd_X13_bit ⟨Nat.le_of_ble_eq_true rfl, Nat.le_of_ble_eq_true rfl⟩ rfl rfl hKN va_nil rfl hl.1 rfl (Nat.le_of_ble_eq_true rfl) dX13_priceOf_18 ⟨Nat.le_of_ble_eq_true rfl, Nat.le_of_ble_eq_true rfl⟩ (fun nb_5 => ?_)
        have jn37 : ∀ (t1_6 : Int32), f_X13_priceOf_B37 (f_X13_priceOf_L4 wa_beasts wa_price p1 n4) wa_beasts wa_price p1 x3_2 x2_1 t1_6 = some (res) → ∀ ls : Array Slot, lv_has ls 4 [(0, .ref a_mo), (1, .int p1), (3, .int x3_2)] → W p l e (headSpec wo_X13_priceOf ({ frames := 1, cells := 0, slots := 0, locals := 21 })).room s m (([.ref a_mo, .int p1] : List Value).toArray) below meth c s.heap [] 0 0 (MQ below (vp_Si (fun r => r = res)) (([.ref a_mo, .int p1] : List Value).toArray) s 0 0 (fun _ => False)) (F0 m 37 ls [.int t1_6, .int x2_1]) := by
          intro t1_6 h ls hl
          unfold f_X13_priceOf_B37 at h
          refine lv_iadd hx hb dX13_priceOf_37 ?_
          refine lv_istore_n (lv' := [(2, .int (x2_1 + t1_6)), (0, .ref a_mo), (1, .int p1), (3, .int x3_2)]) hx hb dX13_priceOf_38 rfl hl (by decide) rfl (fun ls hl => ?_)
          refine lv_iinc (v := x3_2 + 1) (lv' := [(3, .int (x3_2 + 1)), (2, .int (x2_1 + t1_6)), (0, .ref a_mo), (1, .int p1)]) hx hb dX13_priceOf_39 hl (k := 3) rfl (by first | rfl | decide) (by decide) rfl (fun ls hl => ?_)
          refine lv_goto (tgt := 4) hx hb dX13_priceOf_42 (by decide) ?_
          exact ih4 (x2_1 + t1_6) (x3_2 + 1) h _ (lv_sub hl [2, 3, 1, 0] rfl)
        refine lv_if_eq (tgt := 36) hx hb dX13_priceOf_21 (by decide) (fun cd => ?_) (fun cd => ?_)
        · have h := ifT cd h
          refine lv_iconst (v := 0) hx hb dX13_priceOf_36 (by decide) ?_
          exact jn37 (0 : Int32) h _ (lv_sub hl [0, 1, 3] rfl)
        · have h := ifF cd h
          refine lv_aload_n hx hb dX13_priceOf_24 rfl (lv_at hl 0 rfl) ?_
          refine va_get (D := D) (ci := 13) (C := RX13) (T := TX13) (N := 39) (v := .ref a_wa) hx hb hX13 (fun _ q => q) hown hK hP 0 rfl rfl 3 (by decide) (hts (.fieldLink RX13 301 "ElephantLineModel" "war" "LElephantLineModel$War;") (by decide +kernel)) (fun _ h9 => h9) rfl dX13_priceOf_25 ?_
          refine va_getN (D := D) (ci := 12) (C := RX12) (T := TX12) (N := 18) (v := .ref a_wa_price) hx hb hX12 (fun _ q => q) hown hK hP 1 rfl rfl 13 (by decide) (va_Nw.use rfl (hKN.2.1.1 ("ElephantLineModel", 277, "ElephantLineModel$War", "price", "[I", "ElephantLineModel") (List.mem_of_getElem? (i := 80) rfl))) (fun _ h9 => h9) rfl dX13_priceOf_28 ?_
          refine lv_iload_n hx hb dX13_priceOf_31 rfl (lv_at hl 3 rfl) ?_
          obtain ⟨i_7, h⟩ := gIn_some h
          refine va_iald hx hb hK hP 2 1 rfl rfl i_7 dX13_priceOf_32 ?_
          refine lv_goto (tgt := 37) hx hb dX13_priceOf_33 (by decide) ?_
          exact jn37 (wa_price x3_2.toNatClampNeg) h _ (lv_sub hl [0, 1, 3] rfl)
  exact lp4 fuelN (0 : Int32) (0 : Int32) h _ (lv_sub hl [2, 3, 1, 0] rfl)
theorem hd_X13_sold : yX13_sold.cls = RX13 ∧ yX13_sold.cls ≠ "java/lang/invoke/MethodHandle" ∧ yX13_sold.cls ≠ "java/lang/invoke/VarHandle" ∧ (parseMethodDescriptor yX13_sold.desc).map (fun d => d.parameters.length) = some 1 := by decide +kernel
set_option maxHeartbeats 4000000 in
set_option maxRecDepth 100000 in
theorem c_X13_sold (l : Launch) (D : va_G) (cy : Nat → ClassId) (a_mo a_mo_v a_wa a_wa_price : Nat) (mo_thrown : Int32) (mo_trouble : Int32) (mo_where : Int32) (mo_read : Value) (mo_tape : Value) (mo_taped : Int32) (mo_size : Int32) (mo_spot : Int32) (mo_sort : Int32) (mo_place : Int32) (mo_number : Int32) (mo_fault : Int32) (mo_wrongAt : Int32) (mo_laneTold : Int32) (mo_word : Int64) (mo_x : Value) (mo_past : Value) (mo_kept : Value) (mo_acts : Int32) (mo_marks : Int32) (mo_put : Value) (mo_bestPut : Value) (mo_bestSum : Int64) (mo_row : Value) (mo_best : Value) (mo_left : Value) (mo_bestSize : Int32) (mo_bestLeft : Int32) (mo_counts : Value) (mo_sets : Int32) (mo_foeHarm : Int32) (mo_ownHarm : Int32) (mo_across : Int32) (mo_sumFoe : Int32) (mo_sumOwn : Int32) (mo_sumWon : Int32) (mo_sumAcross : Int32) (mo_v : Nat → Int32) (wa_lanes : Int32) (wa_deep : Int32) (wa_told : Int32) (wa_beasts : Int32) (wa_cities : Int32) (wa_passes : Int32) (wa_turned : Int32) (wa_names : Int32) (wa_who : Value) (wa_strong : Value) (wa_kind : Value) (wa_lane : Value) (wa_mood : Value) (wa_loses : Value) (wa_name : Value) (wa_nameSort : Value) (wa_numberOf : Value) (wa_price : Nat → Int32) (p1 : Int32) (res : Int32) (h : f_X13_sold mo_v wa_beasts wa_price p1 = some (res)) : Met l yX13_sold wo_X13_sold ({ frames := 2, cells := 0, slots := 0, locals := 44 }) (roPc D cy [.ref a_mo, .int p1] [(a_mo, .inr (13, [.int mo_thrown, .int mo_trouble, .int mo_where, .ref a_wa, mo_read, mo_tape, .int mo_taped, .int mo_size, .int mo_spot, .int mo_sort, .int mo_place, .int mo_number, .int mo_fault, .int mo_wrongAt, .int mo_laneTold, .long mo_word, .ref a_mo_v, mo_x, mo_past, mo_kept, .int mo_acts, .int mo_marks, mo_put, mo_bestPut, .long mo_bestSum, mo_row, mo_best, mo_left, .int mo_bestSize, .int mo_bestLeft, mo_counts, .int mo_sets, .int mo_foeHarm, .int mo_ownHarm, .int mo_across, .int mo_sumFoe, .int mo_sumOwn, .int mo_sumWon, .int mo_sumAcross])), (a_mo_v, .inl (cy 1, 19, .inl mo_v)), (a_wa, .inr (12, [.int wa_lanes, .int wa_deep, .int wa_told, .int wa_beasts, .int wa_cities, .int wa_passes, .int wa_turned, .int wa_names, wa_who, wa_strong, wa_kind, wa_lane, wa_mood, .ref a_wa_price, wa_loses, wa_name, wa_nameSort, wa_numberOf])), (a_wa_price, .inl (cy 1, 5, .inl wa_price))]) (vp_Si (fun r => r = res)) 0 0 (fun _ => False) := by
  refine Met.ofW (cc := cX13_sold) (maxL := 4) (ret := (some .int)) (by decide) rfl ?_
  intro p e s m args below meth c s₁ B hml hv
  obtain ⟨rfl, hP, hKN⟩ := hv
  have hK := hKN.1
  have hx := B.exec
  have hb := B.bytes
  have hr := B.returns
  have hts := wt_X13_sold hKN.2.2 (([.ref a_mo, .int p1] : List Value).toArray)
  have hown : s.vm.findClass RX13 = some m.cls := findClass_of_methodNamed B.named
  have hlocks := B.notSynchronized
  have hX12 := wc_X12 hKN.2.2 (([.ref a_mo, .int p1] : List Value).toArray)
  have hX13 := wc_X13 hKN.2.2 (([.ref a_mo, .int p1] : List Value).toArray)
  have hl := lv_entry ([.ref a_mo, .int p1]) (n := 4) (Nat.le_of_ble_eq_true rfl)
  rw [lg_entry_eq]
  generalize (lg_sl ([.ref a_mo, .int p1]) ++ List.replicate (4 - (lg_sl ([.ref a_mo, .int p1])).length) Slot.unset).toArray = ls at hl ⊢
  have hl : lv_has ls 4 [(0, .ref a_mo), (1, .int p1)] := hl
  unfold f_X13_sold at h
  refine lv_bipush (v := (-2)) hx hb dX13_sold_0 (by decide) ?_
  refine lv_istore_n (lv' := [(2, .int (-2)), (0, .ref a_mo), (1, .int p1)]) hx hb dX13_sold_2 rfl hl (by decide) rfl (fun ls hl => ?_)
  refine lv_iconst (v := 0) hx hb dX13_sold_3 (by decide) ?_
  refine lv_istore_n (lv' := [(3, .int 0), (2, .int (-2)), (0, .ref a_mo), (1, .int p1)]) hx hb dX13_sold_4 rfl hl (by decide) rfl (fun ls hl => ?_)
  have lp5 : ∀ (n5 : Nat) (x2_1 : Int32) (x3_2 : Int32), f_X13_sold_L5 mo_v wa_beasts wa_price p1 n5 x2_1 x3_2 = some (res) → ∀ ls : Array Slot, lv_has ls 4 [(0, .ref a_mo), (1, .int p1), (2, .int x2_1), (3, .int x3_2)] → W p l e (headSpec wo_X13_sold ({ frames := 2, cells := 0, slots := 0, locals := 44 })).room s m (([.ref a_mo, .int p1] : List Value).toArray) below meth c s.heap [] 0 0 (MQ below (vp_Si (fun r => r = res)) (([.ref a_mo, .int p1] : List Value).toArray) s 0 0 (fun _ => False)) (F0 m 5 ls []) := by
    intro n5
    induction n5 with
    | zero => intro x2_1 x3_2 h; exact absurd (show (none : Option (Int32)) = some _ from h) (by intro q; cases q)
    | succ n5 ih5 =>
      intro x2_1 x3_2 h ls hl
      have h : f_X13_sold_b5 mo_v wa_beasts wa_price p1 (f_X13_sold_L5 mo_v wa_beasts wa_price p1 n5) x2_1 x3_2 = some (res) := h
      unfold f_X13_sold_b5 at h
      refine lv_iload_n hx hb dX13_sold_5 rfl (lv_at hl 3 rfl) ?_
      refine lv_iconst (v := 1) hx hb dX13_sold_6 (by decide) ?_
      refine lv_aload_n hx hb dX13_sold_7 rfl (lv_at hl 0 rfl) ?_
      refine va_get (D := D) (ci := 13) (C := RX13) (T := TX13) (N := 39) (v := .ref a_wa) hx hb hX13 (fun _ q => q) hown hK hP 0 rfl rfl 3 (by decide) (hts (.fieldLink RX13 301 "ElephantLineModel" "war" "LElephantLineModel$War;") (by decide +kernel)) (fun _ h9 => h9) rfl dX13_sold_8 ?_
      refine va_getN (D := D) (ci := 12) (C := RX12) (T := TX12) (N := 18) (v := .int wa_beasts) hx hb hX12 (fun _ q => q) hown hK hP 2 rfl rfl 3 (by decide) (va_Nw.use rfl (hKN.2.1.1 ("ElephantLineModel", 195, "ElephantLineModel$War", "beasts", "I", "ElephantLineModel") (List.mem_of_getElem? (i := 70) rfl))) (fun _ h9 => h9) rfl dX13_sold_11 ?_
      refine lv_ishl hx hb dX13_sold_14 ?_
      refine lv_icmp_ge (tgt := 64) hx hb dX13_sold_15 (by decide) (fun cd => ?_) (fun cd => ?_)
      · have h := ifT cd h
        refine lv_iload_n hx hb dX13_sold_64 rfl (lv_at hl 2 rfl) ?_
        exact W.iret (v := x2_1) hx hb hr (fun t ht _ => ⟨_, rfl, Option.some.inj h, ht⟩) (fun _ q => by cases q) dX13_sold_65
      · have h := ifF cd h
        refine lv_iload_n hx hb dX13_sold_18 rfl (lv_at hl 3 rfl) ?_
        refine lv_aload_n hx hb dX13_sold_19 rfl (lv_at hl 0 rfl) ?_
        refine va_get (D := D) (ci := 13) (C := RX13) (T := TX13) (N := 39) (v := .ref a_mo_v) hx hb hX13 (fun _ q => q) hown hK hP 0 rfl rfl 16 (by decide) (hts (.fieldLink RX13 17 "ElephantLineModel" "v" "[I") (by decide +kernel)) (fun _ h9 => h9) rfl dX13_sold_20 ?_
        refine lv_bipush (v := 10) hx hb dX13_sold_23 (by decide) ?_
        refine va_iald hx hb hK hP 1 1 rfl rfl (vpc (by decide)) dX13_sold_25 ?_
        refine lv_iand hx hb dX13_sold_26 ?_
        have jn58 : ∀ (x2_3 : Int32), f_X13_sold_B58 (f_X13_sold_L5 mo_v wa_beasts wa_price p1 n5) mo_v wa_beasts wa_price p1 x2_3 x3_2 = some (res) → ∀ ls : Array Slot, lv_has ls 4 [(0, .ref a_mo), (1, .int p1), (2, .int x2_3), (3, .int x3_2)] → W p l e (headSpec wo_X13_sold ({ frames := 2, cells := 0, slots := 0, locals := 44 })).room s m (([.ref a_mo, .int p1] : List Value).toArray) below meth c s.heap [] 0 0 (MQ below (vp_Si (fun r => r = res)) (([.ref a_mo, .int p1] : List Value).toArray) s 0 0 (fun _ => False)) (F0 m 58 ls []) := by
          intro x2_3 h ls hl
          unfold f_X13_sold_B58 at h
          refine lv_iinc (v := x3_2 + 1) (lv' := [(3, .int (x3_2 + 1)), (0, .ref a_mo), (1, .int p1), (2, .int x2_3)]) hx hb dX13_sold_58 hl (k := 3) rfl (by first | rfl | decide) (by decide) rfl (fun ls hl => ?_)
          refine lv_goto (tgt := 5) hx hb dX13_sold_61 (by decide) ?_
          exact ih5 x2_3 (x3_2 + 1) h _ (lv_sub hl [1, 2, 3, 0] rfl)
        refine lv_if_ne (tgt := 58) hx hb dX13_sold_27 (by decide) (fun cd => ?_) (fun cd => ?_)
        · have h := ifF cd h
          exact jn58 x2_1 h _ (lv_sub hl [0, 1, 2, 3] rfl)
        · have h := ifT cd h
          refine lv_aload_n hx hb dX13_sold_30 rfl (lv_at hl 0 rfl) ?_
          refine lv_iload_n hx hb dX13_sold_31 rfl (lv_at hl 3 rfl) ?_
          obtain ⟨r_4, hc_5, h⟩ := bd1_some h
          refine kVi [.int x3_2] [] ⟨hx, hb, hml, hown, hts⟩ (c_X13_priceOf l D cy a_mo a_wa a_wa_price mo_thrown mo_trouble mo_where (mo_read) (mo_tape) mo_taped mo_size mo_spot mo_sort mo_place mo_number mo_fault mo_wrongAt mo_laneTold mo_word (.ref a_mo_v) (mo_x) (mo_past) (mo_kept) mo_acts mo_marks (mo_put) (mo_bestPut) mo_bestSum (mo_row) (mo_best) (mo_left) mo_bestSize mo_bestLeft (mo_counts) mo_sets mo_foeHarm mo_ownHarm mo_across mo_sumFoe mo_sumOwn mo_sumWon mo_sumAcross wa_lanes wa_deep wa_told wa_beasts wa_cities wa_passes wa_turned wa_names (wa_who) (wa_strong) (wa_kind) (wa_lane) (wa_mood) (wa_loses) (wa_name) (wa_nameSort) (wa_numberOf) wa_price x3_2 r_4 hc_5) gX13_sold_X13_priceOf rfl hd_X13_priceOf ⟨Nat.le_of_ble_eq_true rfl, Nat.le_of_ble_eq_true rfl⟩ rfl rfl hKN (hP.sub [0, 2, 3] rfl) 13 0 rfl rfl rfl hl.1 rfl (Nat.le_of_ble_eq_true rfl) dX13_sold_32 ⟨Nat.le_of_ble_eq_true rfl, Nat.le_of_ble_eq_true rfl⟩ ?_
          refine lv_iload_n hx hb dX13_sold_35 rfl (lv_at hl 1 rfl) ?_
          refine lv_icmp_lt (tgt := 58) hx hb dX13_sold_36 (by decide) (fun cd => ?_) (fun cd => ?_)
          · have h := ifT cd h
            exact jn58 x2_1 h _ (lv_sub hl [0, 1, 2, 3] rfl)
          · have h := ifF cd h
            refine lv_iload_n hx hb dX13_sold_39 rfl (lv_at hl 2 rfl) ?_
            refine lv_bipush (v := (-2)) hx hb dX13_sold_40 (by decide) ?_
            have jn56 : f_X13_sold_B56 (f_X13_sold_L5 mo_v wa_beasts wa_price p1 n5) mo_v wa_beasts wa_price p1 x3_2 = some (res) → ∀ ls : Array Slot, lv_has ls 4 [(0, .ref a_mo), (1, .int p1), (3, .int x3_2)] → W p l e (headSpec wo_X13_sold ({ frames := 2, cells := 0, slots := 0, locals := 44 })).room s m (([.ref a_mo, .int p1] : List Value).toArray) below meth c s.heap [] 0 0 (MQ below (vp_Si (fun r => r = res)) (([.ref a_mo, .int p1] : List Value).toArray) s 0 0 (fun _ => False)) (F0 m 56 ls []) := by
              intro h ls hl
              unfold f_X13_sold_B56 at h
              refine lv_iload_n hx hb dX13_sold_56 rfl (lv_at hl 2 rfl) ?_
              refine lv_istore_n (lv' := [(2, .int x3_2), (0, .ref a_mo), (1, .int p1), (3, .int x3_2)]) hx hb dX13_sold_57 rfl hl (by decide) rfl (fun ls hl => ?_)
              exact jn58 x3_2 h _ (lv_sub hl [1, 2, 0, 3] rfl)
            refine lv_icmp_eq (tgt := 56) hx hb dX13_sold_42 (by decide) (fun cd => ?_) (fun cd => ?_)
            · have h := ifT cd h
              exact jn56 h _ (lv_sub hl [0, 1, 3] rfl)
            · have h := ifF cd h
              refine lv_iload_n hx hb dX13_sold_45 rfl (lv_at hl 3 rfl) ?_
              obtain ⟨r_6, hc_7, h⟩ := bd1_some h
              refine kSi [.int x3_2] [] ⟨hx, hb, hml, hown, hts⟩ (c_X13_bits l D cy x3_2 r_6 hc_7) gX13_sold_X13_bits rfl hd_X13_bits ⟨Nat.le_of_ble_eq_true rfl, Nat.le_of_ble_eq_true rfl⟩ rfl rfl hKN va_nil rfl hl.1 rfl (Nat.le_of_ble_eq_true rfl) dX13_sold_46 ⟨Nat.le_of_ble_eq_true rfl, Nat.le_of_ble_eq_true rfl⟩ ?_
              refine lv_iload_n hx hb dX13_sold_49 rfl (lv_at hl 2 rfl) ?_
              obtain ⟨r_8, hc_9, h⟩ := bd1_some h
              refine kSi [.int x2_1] [.int r_6] ⟨hx, hb, hml, hown, hts⟩ (c_X13_bits l D cy x2_1 r_8 hc_9) gX13_sold_X13_bits rfl hd_X13_bits ⟨Nat.le_of_ble_eq_true rfl, Nat.le_of_ble_eq_true rfl⟩ rfl rfl hKN va_nil rfl hl.1 rfl (Nat.le_of_ble_eq_true rfl) dX13_sold_50 ⟨Nat.le_of_ble_eq_true rfl, Nat.le_of_ble_eq_true rfl⟩ ?_
              refine lv_icmp_ge (tgt := 58) hx hb dX13_sold_53 (by decide) (fun cd => ?_) (fun cd => ?_)
              · have h := ifT cd h
                exact jn58 x2_1 h _ (lv_sub hl [0, 1, 2, 3] rfl)
              · have h := ifF cd h
                exact jn56 h _ (lv_sub hl [0, 1, 3] rfl)
  exact lp5 fuelN ((-2) : Int32) (0 : Int32) h _ (lv_sub hl [2, 3, 1, 0] rfl)
theorem hd_X13_sale : yX13_sale.cls = RX13 ∧ yX13_sale.cls ≠ "java/lang/invoke/MethodHandle" ∧ yX13_sale.cls ≠ "java/lang/invoke/VarHandle" ∧ (parseMethodDescriptor yX13_sale.desc).map (fun d => d.parameters.length) = some 1 := by decide +kernel
set_option maxHeartbeats 4000000 in
set_option maxRecDepth 100000 in
theorem c_X13_sale (l : Launch) (D : va_G) (cy : Nat → ClassId) (A : Nat → Prop) (X : va_W) (a_mo a_mo_v a_wa a_wa_price : Nat) (mo_thrown : Int32) (mo_trouble : Int32) (mo_where : Int32) (mo_read : Value) (mo_tape : Value) (mo_taped : Int32) (mo_size : Int32) (mo_spot : Int32) (mo_sort : Int32) (mo_place : Int32) (mo_number : Int32) (mo_fault : Int32) (mo_wrongAt : Int32) (mo_laneTold : Int32) (mo_word : Int64) (mo_x : Value) (mo_past : Value) (mo_kept : Value) (mo_acts : Int32) (mo_marks : Int32) (mo_put : Value) (mo_bestPut : Value) (mo_bestSum : Int64) (mo_row : Value) (mo_best : Value) (mo_left : Value) (mo_bestSize : Int32) (mo_bestLeft : Int32) (mo_counts : Value) (mo_sets : Int32) (mo_foeHarm : Int32) (mo_ownHarm : Int32) (mo_across : Int32) (mo_sumFoe : Int32) (mo_sumOwn : Int32) (mo_sumWon : Int32) (mo_sumAcross : Int32) (mo_v : Nat → Int32) (wa_lanes : Int32) (wa_deep : Int32) (wa_told : Int32) (wa_beasts : Int32) (wa_cities : Int32) (wa_passes : Int32) (wa_turned : Int32) (wa_names : Int32) (wa_who : Value) (wa_strong : Value) (wa_kind : Value) (wa_lane : Value) (wa_mood : Value) (wa_loses : Value) (wa_name : Value) (wa_nameSort : Value) (wa_numberOf : Value) (wa_price : Nat → Int32) (p1 : Int32) (res : Int32) (mo_thrown' : Int32) (mo_trouble' : Int32) (mo_where' : Int32) (h : f_X13_sale mo_thrown mo_trouble mo_where mo_v wa_beasts wa_price p1 = some (res, mo_thrown', mo_trouble', mo_where')) : Met l yX13_sale wo_X13_sale ({ frames := 3, cells := 0, slots := 0, locals := 67 }) (wrPc D cy A [.ref a_mo, .int p1] ([(a_mo, .inr (13, [.int mo_thrown, .int mo_trouble, .int mo_where, .ref a_wa, mo_read, mo_tape, .int mo_taped, .int mo_size, .int mo_spot, .int mo_sort, .int mo_place, .int mo_number, .int mo_fault, .int mo_wrongAt, .int mo_laneTold, .long mo_word, .ref a_mo_v, mo_x, mo_past, mo_kept, .int mo_acts, .int mo_marks, mo_put, mo_bestPut, .long mo_bestSum, mo_row, mo_best, mo_left, .int mo_bestSize, .int mo_bestLeft, mo_counts, .int mo_sets, .int mo_foeHarm, .int mo_ownHarm, .int mo_across, .int mo_sumFoe, .int mo_sumOwn, .int mo_sumWon, .int mo_sumAcross])), (a_mo_v, .inl (cy 1, 19, .inl mo_v)), (a_wa, .inr (12, [.int wa_lanes, .int wa_deep, .int wa_told, .int wa_beasts, .int wa_cities, .int wa_passes, .int wa_turned, .int wa_names, wa_who, wa_strong, wa_kind, wa_lane, wa_mood, .ref a_wa_price, wa_loses, wa_name, wa_nameSort, wa_numberOf])), (a_wa_price, .inl (cy 1, 5, .inl wa_price))] ++ X)) (va_Qi (fun (r : Int32) (_ : Unit) => r = res) (wB D A ([(a_mo, .inr (13, [.int mo_thrown', .int mo_trouble', .int mo_where', .ref a_wa, mo_read, mo_tape, .int mo_taped, .int mo_size, .int mo_spot, .int mo_sort, .int mo_place, .int mo_number, .int mo_fault, .int mo_wrongAt, .int mo_laneTold, .long mo_word, .ref a_mo_v, mo_x, mo_past, mo_kept, .int mo_acts, .int mo_marks, mo_put, mo_bestPut, .long mo_bestSum, mo_row, mo_best, mo_left, .int mo_bestSize, .int mo_bestLeft, mo_counts, .int mo_sets, .int mo_foeHarm, .int mo_ownHarm, .int mo_across, .int mo_sumFoe, .int mo_sumOwn, .int mo_sumWon, .int mo_sumAcross])), (a_mo_v, .inl (cy 1, 19, .inl mo_v)), (a_wa, .inr (12, [.int wa_lanes, .int wa_deep, .int wa_told, .int wa_beasts, .int wa_cities, .int wa_passes, .int wa_turned, .int wa_names, wa_who, wa_strong, wa_kind, wa_lane, wa_mood, .ref a_wa_price, wa_loses, wa_name, wa_nameSort, wa_numberOf])), (a_wa_price, .inl (cy 1, 5, .inl wa_price))] ++ X)) A) 0 0 A := by
  refine Met.ofW (cc := cX13_sale) (maxL := 2) (ret := (some .int)) (by decide) rfl ?_
  intro p e s m args below meth c s₁ B hml hv
  obtain ⟨rfl, hP, hKN, hD, hA⟩ := hv
  have hK := hKN.1
  have hx := B.exec
  have hb := B.bytes
  have hr := B.returns
  have hts := wt_X13_sale hKN.2.2 (([.ref a_mo, .int p1] : List Value).toArray)
  have hown : s.vm.findClass RX13 = some m.cls := findClass_of_methodNamed B.named
  have hlocks := B.notSynchronized
  have hS : va_S A s.heap s.heap [] := va_S.rf
  have hX13 := wc_X13 hKN.2.2 (([.ref a_mo, .int p1] : List Value).toArray)
  have hl := lv_entry ([.ref a_mo, .int p1]) (n := 2) (Nat.le_of_ble_eq_true rfl)
  rw [lg_entry_eq]
  generalize (lg_sl ([.ref a_mo, .int p1]) ++ List.replicate (2 - (lg_sl ([.ref a_mo, .int p1])).length) Slot.unset).toArray = ls at hl ⊢
  have hl : lv_has ls 2 [(0, .ref a_mo), (1, .int p1)] := hl
  unfold f_X13_sale at h
  refine lv_aload_n hx hb dX13_sale_0 rfl (lv_at hl 0 rfl) ?_
  refine lv_iconst (v := 0) hx hb dX13_sale_1 (by decide) ?_
  refine va_put (D := D) (ci := 13) (C := RX13) (T := TX13) (N := 39) (v := .int 0) (ty := .int) hx hb hX13 (fun _ q => q) tyX13 tyX13_ok nmX13 hown hK hP hD hS 0 rfl rfl 0 (by decide) (hts (.fieldLink RX13 48 "ElephantLineModel" "thrown" "I") (by decide +kernel)) (fun _ h9 => h9) rfl (tyX13_ok 0 (by decide)) rfl rfl (Nat.le_of_ble_eq_true rfl) dX13_sale_2 (fun H locs hP hD hS => ?_)
  refine lv_aload_n hx hb dX13_sale_5 rfl (lv_at hl 0 rfl) ?_
  refine va_get (D := D) (ci := 13) (C := RX13) (T := TX13) (N := 39) (v := .ref a_wa) hx hb hX13 (fun _ q => q) hown hK hP 0 rfl rfl 3 (by decide) (hts (.fieldLink RX13 301 "ElephantLineModel" "war" "LElephantLineModel$War;") (by decide +kernel)) (fun _ h9 => h9) rfl dX13_sale_6 ?_
  refine lv_ifnonnull (tgt := 18) hx hb dX13_sale_9 (by decide) ?_
  refine lv_iload_n hx hb dX13_sale_18 rfl (lv_at hl 1 rfl) ?_
  refine lv_iconst (v := 0) hx hb dX13_sale_19 (by decide) ?_
  refine lv_sipush (v := 500) hx hb dX13_sale_20 (by decide) ?_
  have hP : va_P D vwCl ([(a_mo, .inr (13, [.int 0, .int mo_trouble, .int mo_where, .ref a_wa, mo_read, mo_tape, .int mo_taped, .int mo_size, .int mo_spot, .int mo_sort, .int mo_place, .int mo_number, .int mo_fault, .int mo_wrongAt, .int mo_laneTold, .long mo_word, .ref a_mo_v, mo_x, mo_past, mo_kept, .int mo_acts, .int mo_marks, mo_put, mo_bestPut, .long mo_bestSum, mo_row, mo_best, mo_left, .int mo_bestSize, .int mo_bestLeft, mo_counts, .int mo_sets, .int mo_foeHarm, .int mo_ownHarm, .int mo_across, .int mo_sumFoe, .int mo_sumOwn, .int mo_sumWon, .int mo_sumAcross])), (a_mo_v, .inl (cy 1, 19, .inl mo_v)), (a_wa, .inr (12, [.int wa_lanes, .int wa_deep, .int wa_told, .int wa_beasts, .int wa_cities, .int wa_passes, .int wa_turned, .int wa_names, wa_who, wa_strong, wa_kind, wa_lane, wa_mood, .ref a_wa_price, wa_loses, wa_name, wa_nameSort, wa_numberOf])), (a_wa_price, .inl (cy 1, 5, .inl wa_price))] ++ X) H := hP
  have hD : va_D A ([(a_mo, .inr (13, [.int 0, .int mo_trouble, .int mo_where, .ref a_wa, mo_read, mo_tape, .int mo_taped, .int mo_size, .int mo_spot, .int mo_sort, .int mo_place, .int mo_number, .int mo_fault, .int mo_wrongAt, .int mo_laneTold, .long mo_word, .ref a_mo_v, mo_x, mo_past, mo_kept, .int mo_acts, .int mo_marks, mo_put, mo_bestPut, .long mo_bestSum, mo_row, mo_best, mo_left, .int mo_bestSize, .int mo_bestLeft, mo_counts, .int mo_sets, .int mo_foeHarm, .int mo_ownHarm, .int mo_across, .int mo_sumFoe, .int mo_sumOwn, .int mo_sumWon, .int mo_sumAcross])), (a_mo_v, .inl (cy 1, 19, .inl mo_v)), (a_wa, .inr (12, [.int wa_lanes, .int wa_deep, .int wa_told, .int wa_beasts, .int wa_cities, .int wa_passes, .int wa_turned, .int wa_names, wa_who, wa_strong, wa_kind, wa_lane, wa_mood, .ref a_wa_price, wa_loses, wa_name, wa_nameSort, wa_numberOf])), (a_wa_price, .inl (cy 1, 5, .inl wa_price))] ++ X) := hD
  obtain ⟨r_1, hc_2, h⟩ := bd1_some h
  refine kSb [.int p1, .int 0, .int 500] [] ⟨hx, hb, hml, hown, hts⟩ (c_X13_in l D cy p1 (0 : Int32) (500 : Int32) r_1 hc_2) gX13_sale_X13_in rfl hd_X13_in ⟨Nat.le_of_ble_eq_true rfl, Nat.le_of_ble_eq_true rfl⟩ rfl rfl hKN va_nil rfl hl.1 rfl (Nat.le_of_ble_eq_true rfl) dX13_sale_23 ⟨Nat.le_of_ble_eq_true rfl, Nat.le_of_ble_eq_true rfl⟩ (fun nb_3 => ?_)
  refine lv_if_eq (tgt := 41) hx hb dX13_sale_26 (by decide) (fun cd => ?_) (fun cd => ?_)
  · have h := ifT cd h
    refine lv_aload_n hx hb dX13_sale_41 rfl (lv_at hl 0 rfl) ?_
    refine lv_iconst (v := 2) hx hb dX13_sale_42 (by decide) ?_
    obtain ⟨r_4, mo_trouble_5, mo_where_6, hc_7, h⟩ := bd3_some h
    refine wVi [.int 2] [] ⟨hx, hb, hml, hown, hts⟩ (c_X13_refused l D cy A ([(a_mo_v, .inl (cy 1, 19, .inl mo_v)), (a_wa, .inr (12, [.int wa_lanes, .int wa_deep, .int wa_told, .int wa_beasts, .int wa_cities, .int wa_passes, .int wa_turned, .int wa_names, wa_who, wa_strong, wa_kind, wa_lane, wa_mood, .ref a_wa_price, wa_loses, wa_name, wa_nameSort, wa_numberOf])), (a_wa_price, .inl (cy 1, 5, .inl wa_price))] ++ X) a_mo 0 mo_trouble mo_where (.ref a_wa) (mo_read) (mo_tape) mo_taped mo_size mo_spot mo_sort mo_place mo_number mo_fault mo_wrongAt mo_laneTold mo_word (.ref a_mo_v) (mo_x) (mo_past) (mo_kept) mo_acts mo_marks (mo_put) (mo_bestPut) mo_bestSum (mo_row) (mo_best) (mo_left) mo_bestSize mo_bestLeft (mo_counts) mo_sets mo_foeHarm mo_ownHarm mo_across mo_sumFoe mo_sumOwn mo_sumWon mo_sumAcross (2 : Int32) r_4 mo_trouble_5 mo_where_6 hc_7) gX13_sale_X13_refused rfl hd_X13_refused ⟨Nat.le_of_ble_eq_true rfl, Nat.le_of_ble_eq_true rfl⟩ rfl rfl hKN (pX3 hP [0, 1, 2, 3] rfl) (dX3 hD [0, 1, 2, 3] rfl rfl) hS hA 13 0 rfl rfl rfl hl.1 rfl (Nat.le_of_ble_eq_true rfl) dX13_sale_43 ⟨Nat.le_of_ble_eq_true rfl, Nat.le_of_ble_eq_true rfl⟩ (fun H locs hP hD hS => ?_)
    have hP := pX4 (L1 := [(a_mo, .inr (13, [.int 0, .int mo_trouble_5, .int mo_where_6, .ref a_wa, mo_read, mo_tape, .int mo_taped, .int mo_size, .int mo_spot, .int mo_sort, .int mo_place, .int mo_number, .int mo_fault, .int mo_wrongAt, .int mo_laneTold, .long mo_word, .ref a_mo_v, mo_x, mo_past, mo_kept, .int mo_acts, .int mo_marks, mo_put, mo_bestPut, .long mo_bestSum, mo_row, mo_best, mo_left, .int mo_bestSize, .int mo_bestLeft, mo_counts, .int mo_sets, .int mo_foeHarm, .int mo_ownHarm, .int mo_across, .int mo_sumFoe, .int mo_sumOwn, .int mo_sumWon, .int mo_sumAcross])), (a_mo_v, .inl (cy 1, 19, .inl mo_v)), (a_wa, .inr (12, [.int wa_lanes, .int wa_deep, .int wa_told, .int wa_beasts, .int wa_cities, .int wa_passes, .int wa_turned, .int wa_names, wa_who, wa_strong, wa_kind, wa_lane, wa_mood, .ref a_wa_price, wa_loses, wa_name, wa_nameSort, wa_numberOf])), (a_wa_price, .inl (cy 1, 5, .inl wa_price))]) hP [0, 1, 2, 3] rfl
    have hD := dX4 (L1 := [(a_mo, .inr (13, [.int 0, .int mo_trouble_5, .int mo_where_6, .ref a_wa, mo_read, mo_tape, .int mo_taped, .int mo_size, .int mo_spot, .int mo_sort, .int mo_place, .int mo_number, .int mo_fault, .int mo_wrongAt, .int mo_laneTold, .long mo_word, .ref a_mo_v, mo_x, mo_past, mo_kept, .int mo_acts, .int mo_marks, mo_put, mo_bestPut, .long mo_bestSum, mo_row, mo_best, mo_left, .int mo_bestSize, .int mo_bestLeft, mo_counts, .int mo_sets, .int mo_foeHarm, .int mo_ownHarm, .int mo_across, .int mo_sumFoe, .int mo_sumOwn, .int mo_sumWon, .int mo_sumAcross])), (a_mo_v, .inl (cy 1, 19, .inl mo_v)), (a_wa, .inr (12, [.int wa_lanes, .int wa_deep, .int wa_told, .int wa_beasts, .int wa_cities, .int wa_passes, .int wa_turned, .int wa_names, wa_who, wa_strong, wa_kind, wa_lane, wa_mood, .ref a_wa_price, wa_loses, wa_name, wa_nameSort, wa_numberOf])), (a_wa_price, .inl (cy 1, 5, .inl wa_price))]) hD [0, 1, 2, 3] rfl rfl
    cases h
    exact W.iret hx hb hr (fun t ht _ => ⟨⟨_, (), rfl, rfl, by rw [ht]; exact hP, hD⟩, hS.F ht⟩) hS.2.2 dX13_sale_46
  · have h := ifF cd h
    refine lv_aload_n hx hb dX13_sale_29 rfl (lv_at hl 0 rfl) ?_
    refine lv_aload_n hx hb dX13_sale_30 rfl (lv_at hl 0 rfl) ?_
    refine lv_iload_n hx hb dX13_sale_31 rfl (lv_at hl 1 rfl) ?_
    obtain ⟨r_8, hc_9, h⟩ := bd1_some h
    refine kVi [.int p1] [.ref a_mo] ⟨hx, hb, hml, hown, hts⟩ (c_X13_sold l D cy a_mo a_mo_v a_wa a_wa_price 0 mo_trouble mo_where (mo_read) (mo_tape) mo_taped mo_size mo_spot mo_sort mo_place mo_number mo_fault mo_wrongAt mo_laneTold mo_word (mo_x) (mo_past) (mo_kept) mo_acts mo_marks (mo_put) (mo_bestPut) mo_bestSum (mo_row) (mo_best) (mo_left) mo_bestSize mo_bestLeft (mo_counts) mo_sets mo_foeHarm mo_ownHarm mo_across mo_sumFoe mo_sumOwn mo_sumWon mo_sumAcross mo_v wa_lanes wa_deep wa_told wa_beasts wa_cities wa_passes wa_turned wa_names (wa_who) (wa_strong) (wa_kind) (wa_lane) (wa_mood) (wa_loses) (wa_name) (wa_nameSort) (wa_numberOf) wa_price p1 r_8 hc_9) gX13_sale_X13_sold rfl hd_X13_sold ⟨Nat.le_of_ble_eq_true rfl, Nat.le_of_ble_eq_true rfl⟩ rfl rfl hKN (pXc hP [0, 1, 2, 3] rfl) 13 0 rfl rfl rfl hl.1 rfl (Nat.le_of_ble_eq_true rfl) dX13_sale_32 ⟨Nat.le_of_ble_eq_true rfl, Nat.le_of_ble_eq_true rfl⟩ ?_
    obtain ⟨r_10, mo_trouble_11, mo_where_12, hc_13, h⟩ := bd3_some h
    refine wVi [.int r_8] [] ⟨hx, hb, hml, hown, hts⟩ (c_X13_good l D cy A ([(a_mo_v, .inl (cy 1, 19, .inl mo_v)), (a_wa, .inr (12, [.int wa_lanes, .int wa_deep, .int wa_told, .int wa_beasts, .int wa_cities, .int wa_passes, .int wa_turned, .int wa_names, wa_who, wa_strong, wa_kind, wa_lane, wa_mood, .ref a_wa_price, wa_loses, wa_name, wa_nameSort, wa_numberOf])), (a_wa_price, .inl (cy 1, 5, .inl wa_price))] ++ X) a_mo 0 mo_trouble mo_where (.ref a_wa) (mo_read) (mo_tape) mo_taped mo_size mo_spot mo_sort mo_place mo_number mo_fault mo_wrongAt mo_laneTold mo_word (.ref a_mo_v) (mo_x) (mo_past) (mo_kept) mo_acts mo_marks (mo_put) (mo_bestPut) mo_bestSum (mo_row) (mo_best) (mo_left) mo_bestSize mo_bestLeft (mo_counts) mo_sets mo_foeHarm mo_ownHarm mo_across mo_sumFoe mo_sumOwn mo_sumWon mo_sumAcross r_8 r_10 mo_trouble_11 mo_where_12 hc_13) gX13_sale_X13_good rfl hd_X13_good ⟨Nat.le_of_ble_eq_true rfl, Nat.le_of_ble_eq_true rfl⟩ rfl rfl hKN (pX3 hP [0, 1, 2, 3] rfl) (dX3 hD [0, 1, 2, 3] rfl rfl) hS hA 13 0 rfl rfl rfl hl.1 rfl (Nat.le_of_ble_eq_true rfl) dX13_sale_35 ⟨Nat.le_of_ble_eq_true rfl, Nat.le_of_ble_eq_true rfl⟩ (fun H locs hP hD hS => ?_)
    have hP := pX4 (L1 := [(a_mo, .inr (13, [.int 0, .int mo_trouble_11, .int mo_where_12, .ref a_wa, mo_read, mo_tape, .int mo_taped, .int mo_size, .int mo_spot, .int mo_sort, .int mo_place, .int mo_number, .int mo_fault, .int mo_wrongAt, .int mo_laneTold, .long mo_word, .ref a_mo_v, mo_x, mo_past, mo_kept, .int mo_acts, .int mo_marks, mo_put, mo_bestPut, .long mo_bestSum, mo_row, mo_best, mo_left, .int mo_bestSize, .int mo_bestLeft, mo_counts, .int mo_sets, .int mo_foeHarm, .int mo_ownHarm, .int mo_across, .int mo_sumFoe, .int mo_sumOwn, .int mo_sumWon, .int mo_sumAcross])), (a_mo_v, .inl (cy 1, 19, .inl mo_v)), (a_wa, .inr (12, [.int wa_lanes, .int wa_deep, .int wa_told, .int wa_beasts, .int wa_cities, .int wa_passes, .int wa_turned, .int wa_names, wa_who, wa_strong, wa_kind, wa_lane, wa_mood, .ref a_wa_price, wa_loses, wa_name, wa_nameSort, wa_numberOf])), (a_wa_price, .inl (cy 1, 5, .inl wa_price))]) hP [0, 1, 2, 3] rfl
    have hD := dX4 (L1 := [(a_mo, .inr (13, [.int 0, .int mo_trouble_11, .int mo_where_12, .ref a_wa, mo_read, mo_tape, .int mo_taped, .int mo_size, .int mo_spot, .int mo_sort, .int mo_place, .int mo_number, .int mo_fault, .int mo_wrongAt, .int mo_laneTold, .long mo_word, .ref a_mo_v, mo_x, mo_past, mo_kept, .int mo_acts, .int mo_marks, mo_put, mo_bestPut, .long mo_bestSum, mo_row, mo_best, mo_left, .int mo_bestSize, .int mo_bestLeft, mo_counts, .int mo_sets, .int mo_foeHarm, .int mo_ownHarm, .int mo_across, .int mo_sumFoe, .int mo_sumOwn, .int mo_sumWon, .int mo_sumAcross])), (a_mo_v, .inl (cy 1, 19, .inl mo_v)), (a_wa, .inr (12, [.int wa_lanes, .int wa_deep, .int wa_told, .int wa_beasts, .int wa_cities, .int wa_passes, .int wa_turned, .int wa_names, wa_who, wa_strong, wa_kind, wa_lane, wa_mood, .ref a_wa_price, wa_loses, wa_name, wa_nameSort, wa_numberOf])), (a_wa_price, .inl (cy 1, 5, .inl wa_price))]) hD [0, 1, 2, 3] rfl rfl
    refine lv_goto (tgt := 46) hx hb dX13_sale_38 (by decide) ?_
    cases h
    exact W.iret hx hb hr (fun t ht _ => ⟨⟨_, (), rfl, rfl, by rw [ht]; exact hP, hD⟩, hS.F ht⟩) hS.2.2 dX13_sale_46
theorem hd_X13_saleOver : yX13_saleOver.cls = RX13 ∧ yX13_saleOver.cls ≠ "java/lang/invoke/MethodHandle" ∧ yX13_saleOver.cls ≠ "java/lang/invoke/VarHandle" ∧ (parseMethodDescriptor yX13_saleOver.desc).map (fun d => d.parameters.length) = some 1 := by decide +kernel
set_option maxHeartbeats 4000000 in
set_option maxRecDepth 100000 in
theorem c_X13_saleOver (l : Launch) (D : va_G) (cy : Nat → ClassId) (A : Nat → Prop) (X : va_W) (a_mo a_mo_v a_wa a_wa_price : Nat) (mo_thrown : Int32) (mo_trouble : Int32) (mo_where : Int32) (mo_read : Value) (mo_tape : Value) (mo_taped : Int32) (mo_size : Int32) (mo_spot : Int32) (mo_sort : Int32) (mo_place : Int32) (mo_number : Int32) (mo_fault : Int32) (mo_wrongAt : Int32) (mo_laneTold : Int32) (mo_word : Int64) (mo_x : Value) (mo_past : Value) (mo_kept : Value) (mo_acts : Int32) (mo_marks : Int32) (mo_put : Value) (mo_bestPut : Value) (mo_bestSum : Int64) (mo_row : Value) (mo_best : Value) (mo_left : Value) (mo_bestSize : Int32) (mo_bestLeft : Int32) (mo_counts : Value) (mo_sets : Int32) (mo_foeHarm : Int32) (mo_ownHarm : Int32) (mo_across : Int32) (mo_sumFoe : Int32) (mo_sumOwn : Int32) (mo_sumWon : Int32) (mo_sumAcross : Int32) (mo_v : Nat → Int32) (wa_lanes : Int32) (wa_deep : Int32) (wa_told : Int32) (wa_beasts : Int32) (wa_cities : Int32) (wa_passes : Int32) (wa_turned : Int32) (wa_names : Int32) (wa_who : Value) (wa_strong : Value) (wa_kind : Value) (wa_lane : Value) (wa_mood : Value) (wa_loses : Value) (wa_name : Value) (wa_nameSort : Value) (wa_numberOf : Value) (wa_price : Nat → Int32) (p1 : Int32) (res : Int32) (mo_thrown' : Int32) (mo_trouble' : Int32) (mo_where' : Int32) (h : f_X13_saleOver mo_thrown mo_trouble mo_where mo_v wa_beasts wa_price p1 = some (res, mo_thrown', mo_trouble', mo_where')) : Met l yX13_saleOver wo_X13_saleOver ({ frames := 3, cells := 0, slots := 0, locals := 67 }) (wrPc D cy A [.ref a_mo, .int p1] ([(a_mo, .inr (13, [.int mo_thrown, .int mo_trouble, .int mo_where, .ref a_wa, mo_read, mo_tape, .int mo_taped, .int mo_size, .int mo_spot, .int mo_sort, .int mo_place, .int mo_number, .int mo_fault, .int mo_wrongAt, .int mo_laneTold, .long mo_word, .ref a_mo_v, mo_x, mo_past, mo_kept, .int mo_acts, .int mo_marks, mo_put, mo_bestPut, .long mo_bestSum, mo_row, mo_best, mo_left, .int mo_bestSize, .int mo_bestLeft, mo_counts, .int mo_sets, .int mo_foeHarm, .int mo_ownHarm, .int mo_across, .int mo_sumFoe, .int mo_sumOwn, .int mo_sumWon, .int mo_sumAcross])), (a_mo_v, .inl (cy 1, 19, .inl mo_v)), (a_wa, .inr (12, [.int wa_lanes, .int wa_deep, .int wa_told, .int wa_beasts, .int wa_cities, .int wa_passes, .int wa_turned, .int wa_names, wa_who, wa_strong, wa_kind, wa_lane, wa_mood, .ref a_wa_price, wa_loses, wa_name, wa_nameSort, wa_numberOf])), (a_wa_price, .inl (cy 1, 5, .inl wa_price))] ++ X)) (va_Qi (fun (r : Int32) (_ : Unit) => r = res) (wB D A ([(a_mo, .inr (13, [.int mo_thrown', .int mo_trouble', .int mo_where', .ref a_wa, mo_read, mo_tape, .int mo_taped, .int mo_size, .int mo_spot, .int mo_sort, .int mo_place, .int mo_number, .int mo_fault, .int mo_wrongAt, .int mo_laneTold, .long mo_word, .ref a_mo_v, mo_x, mo_past, mo_kept, .int mo_acts, .int mo_marks, mo_put, mo_bestPut, .long mo_bestSum, mo_row, mo_best, mo_left, .int mo_bestSize, .int mo_bestLeft, mo_counts, .int mo_sets, .int mo_foeHarm, .int mo_ownHarm, .int mo_across, .int mo_sumFoe, .int mo_sumOwn, .int mo_sumWon, .int mo_sumAcross])), (a_mo_v, .inl (cy 1, 19, .inl mo_v)), (a_wa, .inr (12, [.int wa_lanes, .int wa_deep, .int wa_told, .int wa_beasts, .int wa_cities, .int wa_passes, .int wa_turned, .int wa_names, wa_who, wa_strong, wa_kind, wa_lane, wa_mood, .ref a_wa_price, wa_loses, wa_name, wa_nameSort, wa_numberOf])), (a_wa_price, .inl (cy 1, 5, .inl wa_price))] ++ X)) A) 0 0 A := by
  refine Met.ofW (cc := cX13_saleOver) (maxL := 3) (ret := (some .int)) (by decide) rfl ?_
  intro p e s m args below meth c s₁ B hml hv
  obtain ⟨rfl, hP, hKN, hD, hA⟩ := hv
  have hK := hKN.1
  have hx := B.exec
  have hb := B.bytes
  have hr := B.returns
  have hts := wt_X13_saleOver hKN.2.2 (([.ref a_mo, .int p1] : List Value).toArray)
  have hown : s.vm.findClass RX13 = some m.cls := findClass_of_methodNamed B.named
  have hlocks := B.notSynchronized
  have hS : va_S A s.heap s.heap [] := va_S.rf
  have hX13 := wc_X13 hKN.2.2 (([.ref a_mo, .int p1] : List Value).toArray)
  have hl := lv_entry ([.ref a_mo, .int p1]) (n := 3) (Nat.le_of_ble_eq_true rfl)
  rw [lg_entry_eq]
  generalize (lg_sl ([.ref a_mo, .int p1]) ++ List.replicate (3 - (lg_sl ([.ref a_mo, .int p1])).length) Slot.unset).toArray = ls at hl ⊢
  have hl : lv_has ls 3 [(0, .ref a_mo), (1, .int p1)] := hl
  unfold f_X13_saleOver at h
  refine lv_aload_n hx hb dX13_saleOver_0 rfl (lv_at hl 0 rfl) ?_
  refine lv_iconst (v := 0) hx hb dX13_saleOver_1 (by decide) ?_
  refine va_put (D := D) (ci := 13) (C := RX13) (T := TX13) (N := 39) (v := .int 0) (ty := .int) hx hb hX13 (fun _ q => q) tyX13 tyX13_ok nmX13 hown hK hP hD hS 0 rfl rfl 0 (by decide) (hts (.fieldLink RX13 48 "ElephantLineModel" "thrown" "I") (by decide +kernel)) (fun _ h9 => h9) rfl (tyX13_ok 0 (by decide)) rfl rfl (Nat.le_of_ble_eq_true rfl) dX13_saleOver_2 (fun H locs hP hD hS => ?_)
  refine lv_aload_n hx hb dX13_saleOver_5 rfl (lv_at hl 0 rfl) ?_
  refine va_get (D := D) (ci := 13) (C := RX13) (T := TX13) (N := 39) (v := .ref a_wa) hx hb hX13 (fun _ q => q) hown hK hP 0 rfl rfl 3 (by decide) (hts (.fieldLink RX13 301 "ElephantLineModel" "war" "LElephantLineModel$War;") (by decide +kernel)) (fun _ h9 => h9) rfl dX13_saleOver_6 ?_
  refine lv_ifnonnull (tgt := 18) hx hb dX13_saleOver_9 (by decide) ?_
  refine lv_iload_n hx hb dX13_saleOver_18 rfl (lv_at hl 1 rfl) ?_
  refine lv_iconst (v := 0) hx hb dX13_saleOver_19 (by decide) ?_
  refine lv_sipush (v := 500) hx hb dX13_saleOver_20 (by decide) ?_
  have hP : va_P D vwCl ([(a_mo, .inr (13, [.int 0, .int mo_trouble, .int mo_where, .ref a_wa, mo_read, mo_tape, .int mo_taped, .int mo_size, .int mo_spot, .int mo_sort, .int mo_place, .int mo_number, .int mo_fault, .int mo_wrongAt, .int mo_laneTold, .long mo_word, .ref a_mo_v, mo_x, mo_past, mo_kept, .int mo_acts, .int mo_marks, mo_put, mo_bestPut, .long mo_bestSum, mo_row, mo_best, mo_left, .int mo_bestSize, .int mo_bestLeft, mo_counts, .int mo_sets, .int mo_foeHarm, .int mo_ownHarm, .int mo_across, .int mo_sumFoe, .int mo_sumOwn, .int mo_sumWon, .int mo_sumAcross])), (a_mo_v, .inl (cy 1, 19, .inl mo_v)), (a_wa, .inr (12, [.int wa_lanes, .int wa_deep, .int wa_told, .int wa_beasts, .int wa_cities, .int wa_passes, .int wa_turned, .int wa_names, wa_who, wa_strong, wa_kind, wa_lane, wa_mood, .ref a_wa_price, wa_loses, wa_name, wa_nameSort, wa_numberOf])), (a_wa_price, .inl (cy 1, 5, .inl wa_price))] ++ X) H := hP
  have hD : va_D A ([(a_mo, .inr (13, [.int 0, .int mo_trouble, .int mo_where, .ref a_wa, mo_read, mo_tape, .int mo_taped, .int mo_size, .int mo_spot, .int mo_sort, .int mo_place, .int mo_number, .int mo_fault, .int mo_wrongAt, .int mo_laneTold, .long mo_word, .ref a_mo_v, mo_x, mo_past, mo_kept, .int mo_acts, .int mo_marks, mo_put, mo_bestPut, .long mo_bestSum, mo_row, mo_best, mo_left, .int mo_bestSize, .int mo_bestLeft, mo_counts, .int mo_sets, .int mo_foeHarm, .int mo_ownHarm, .int mo_across, .int mo_sumFoe, .int mo_sumOwn, .int mo_sumWon, .int mo_sumAcross])), (a_mo_v, .inl (cy 1, 19, .inl mo_v)), (a_wa, .inr (12, [.int wa_lanes, .int wa_deep, .int wa_told, .int wa_beasts, .int wa_cities, .int wa_passes, .int wa_turned, .int wa_names, wa_who, wa_strong, wa_kind, wa_lane, wa_mood, .ref a_wa_price, wa_loses, wa_name, wa_nameSort, wa_numberOf])), (a_wa_price, .inl (cy 1, 5, .inl wa_price))] ++ X) := hD
  obtain ⟨r_1, hc_2, h⟩ := bd1_some h
  refine kSb [.int p1, .int 0, .int 500] [] ⟨hx, hb, hml, hown, hts⟩ (c_X13_in l D cy p1 (0 : Int32) (500 : Int32) r_1 hc_2) gX13_saleOver_X13_in rfl hd_X13_in ⟨Nat.le_of_ble_eq_true rfl, Nat.le_of_ble_eq_true rfl⟩ rfl rfl hKN va_nil rfl hl.1 rfl (Nat.le_of_ble_eq_true rfl) dX13_saleOver_23 ⟨Nat.le_of_ble_eq_true rfl, Nat.le_of_ble_eq_true rfl⟩ (fun nb_3 => ?_)
  refine lv_if_ne (tgt := 35) hx hb dX13_saleOver_26 (by decide) (fun cd => ?_) (fun cd => ?_)
  · have h := ifF cd h
    refine lv_aload_n hx hb dX13_saleOver_35 rfl (lv_at hl 0 rfl) ?_
    refine lv_iload_n hx hb dX13_saleOver_36 rfl (lv_at hl 1 rfl) ?_
    obtain ⟨r_4, hc_5, h⟩ := bd1_some h
    refine kVi [.int p1] [] ⟨hx, hb, hml, hown, hts⟩ (c_X13_sold l D cy a_mo a_mo_v a_wa a_wa_price 0 mo_trouble mo_where (mo_read) (mo_tape) mo_taped mo_size mo_spot mo_sort mo_place mo_number mo_fault mo_wrongAt mo_laneTold mo_word (mo_x) (mo_past) (mo_kept) mo_acts mo_marks (mo_put) (mo_bestPut) mo_bestSum (mo_row) (mo_best) (mo_left) mo_bestSize mo_bestLeft (mo_counts) mo_sets mo_foeHarm mo_ownHarm mo_across mo_sumFoe mo_sumOwn mo_sumWon mo_sumAcross mo_v wa_lanes wa_deep wa_told wa_beasts wa_cities wa_passes wa_turned wa_names (wa_who) (wa_strong) (wa_kind) (wa_lane) (wa_mood) (wa_loses) (wa_name) (wa_nameSort) (wa_numberOf) wa_price p1 r_4 hc_5) gX13_saleOver_X13_sold rfl hd_X13_sold ⟨Nat.le_of_ble_eq_true rfl, Nat.le_of_ble_eq_true rfl⟩ rfl rfl hKN (pXc hP [0, 1, 2, 3] rfl) 13 0 rfl rfl rfl hl.1 rfl (Nat.le_of_ble_eq_true rfl) dX13_saleOver_37 ⟨Nat.le_of_ble_eq_true rfl, Nat.le_of_ble_eq_true rfl⟩ ?_
    refine lv_istore_n (lv' := [(2, .int r_4), (0, .ref a_mo), (1, .int p1)]) hx hb dX13_saleOver_40 rfl hl (by decide) rfl (fun ls hl => ?_)
    refine lv_iload_n hx hb dX13_saleOver_41 rfl (lv_at hl 0 rfl) ?_
    refine lv_bipush (v := (-2)) hx hb dX13_saleOver_42 (by decide) ?_
    refine lv_icmp_ne (tgt := 56) hx hb dX13_saleOver_44 (by decide) (fun cd => ?_) (fun cd => ?_)
    · have h := ifF cd h
      refine lv_aload_n hx hb dX13_saleOver_56 rfl (lv_at hl 1 rfl) ?_
      refine lv_aload_n hx hb dX13_saleOver_57 rfl (lv_at hl 1 rfl) ?_
      refine lv_iload_n hx hb dX13_saleOver_58 rfl (lv_at hl 0 rfl) ?_
      obtain ⟨r_6, hc_7, h⟩ := bd1_some h
      refine kVi [.int r_4] [.ref a_mo] ⟨hx, hb, hml, hown, hts⟩ (c_X13_priceOf l D cy a_mo a_wa a_wa_price 0 mo_trouble mo_where (mo_read) (mo_tape) mo_taped mo_size mo_spot mo_sort mo_place mo_number mo_fault mo_wrongAt mo_laneTold mo_word (.ref a_mo_v) (mo_x) (mo_past) (mo_kept) mo_acts mo_marks (mo_put) (mo_bestPut) mo_bestSum (mo_row) (mo_best) (mo_left) mo_bestSize mo_bestLeft (mo_counts) mo_sets mo_foeHarm mo_ownHarm mo_across mo_sumFoe mo_sumOwn mo_sumWon mo_sumAcross wa_lanes wa_deep wa_told wa_beasts wa_cities wa_passes wa_turned wa_names (wa_who) (wa_strong) (wa_kind) (wa_lane) (wa_mood) (wa_loses) (wa_name) (wa_nameSort) (wa_numberOf) wa_price r_4 r_6 hc_7) gX13_saleOver_X13_priceOf rfl hd_X13_priceOf ⟨Nat.le_of_ble_eq_true rfl, Nat.le_of_ble_eq_true rfl⟩ rfl rfl hKN (pXc hP [0, 2, 3] rfl) 13 0 rfl rfl rfl hl.1 rfl (Nat.le_of_ble_eq_true rfl) dX13_saleOver_59 ⟨Nat.le_of_ble_eq_true rfl, Nat.le_of_ble_eq_true rfl⟩ ?_
      refine lv_iload_n hx hb dX13_saleOver_62 rfl (lv_at hl 2 rfl) ?_
      refine lv_isub hx hb dX13_saleOver_63 ?_
      obtain ⟨r_8, mo_trouble_9, mo_where_10, hc_11, h⟩ := bd3_some h
      refine wVi [.int (r_6 - p1)] [] ⟨hx, hb, hml, hown, hts⟩ (c_X13_good l D cy A ([(a_mo_v, .inl (cy 1, 19, .inl mo_v)), (a_wa, .inr (12, [.int wa_lanes, .int wa_deep, .int wa_told, .int wa_beasts, .int wa_cities, .int wa_passes, .int wa_turned, .int wa_names, wa_who, wa_strong, wa_kind, wa_lane, wa_mood, .ref a_wa_price, wa_loses, wa_name, wa_nameSort, wa_numberOf])), (a_wa_price, .inl (cy 1, 5, .inl wa_price))] ++ X) a_mo 0 mo_trouble mo_where (.ref a_wa) (mo_read) (mo_tape) mo_taped mo_size mo_spot mo_sort mo_place mo_number mo_fault mo_wrongAt mo_laneTold mo_word (.ref a_mo_v) (mo_x) (mo_past) (mo_kept) mo_acts mo_marks (mo_put) (mo_bestPut) mo_bestSum (mo_row) (mo_best) (mo_left) mo_bestSize mo_bestLeft (mo_counts) mo_sets mo_foeHarm mo_ownHarm mo_across mo_sumFoe mo_sumOwn mo_sumWon mo_sumAcross (r_6 - p1) r_8 mo_trouble_9 mo_where_10 hc_11) gX13_saleOver_X13_good rfl hd_X13_good ⟨Nat.le_of_ble_eq_true rfl, Nat.le_of_ble_eq_true rfl⟩ rfl rfl hKN (pX3 hP [0, 1, 2, 3] rfl) (dX3 hD [0, 1, 2, 3] rfl rfl) hS hA 13 0 rfl rfl rfl hl.1 rfl (Nat.le_of_ble_eq_true rfl) dX13_saleOver_64 ⟨Nat.le_of_ble_eq_true rfl, Nat.le_of_ble_eq_true rfl⟩ (fun H locs hP hD hS => ?_)
      have hP := pX4 (L1 := [(a_mo, .inr (13, [.int 0, .int mo_trouble_9, .int mo_where_10, .ref a_wa, mo_read, mo_tape, .int mo_taped, .int mo_size, .int mo_spot, .int mo_sort, .int mo_place, .int mo_number, .int mo_fault, .int mo_wrongAt, .int mo_laneTold, .long mo_word, .ref a_mo_v, mo_x, mo_past, mo_kept, .int mo_acts, .int mo_marks, mo_put, mo_bestPut, .long mo_bestSum, mo_row, mo_best, mo_left, .int mo_bestSize, .int mo_bestLeft, mo_counts, .int mo_sets, .int mo_foeHarm, .int mo_ownHarm, .int mo_across, .int mo_sumFoe, .int mo_sumOwn, .int mo_sumWon, .int mo_sumAcross])), (a_mo_v, .inl (cy 1, 19, .inl mo_v)), (a_wa, .inr (12, [.int wa_lanes, .int wa_deep, .int wa_told, .int wa_beasts, .int wa_cities, .int wa_passes, .int wa_turned, .int wa_names, wa_who, wa_strong, wa_kind, wa_lane, wa_mood, .ref a_wa_price, wa_loses, wa_name, wa_nameSort, wa_numberOf])), (a_wa_price, .inl (cy 1, 5, .inl wa_price))]) hP [0, 1, 2, 3] rfl
      have hD := dX4 (L1 := [(a_mo, .inr (13, [.int 0, .int mo_trouble_9, .int mo_where_10, .ref a_wa, mo_read, mo_tape, .int mo_taped, .int mo_size, .int mo_spot, .int mo_sort, .int mo_place, .int mo_number, .int mo_fault, .int mo_wrongAt, .int mo_laneTold, .long mo_word, .ref a_mo_v, mo_x, mo_past, mo_kept, .int mo_acts, .int mo_marks, mo_put, mo_bestPut, .long mo_bestSum, mo_row, mo_best, mo_left, .int mo_bestSize, .int mo_bestLeft, mo_counts, .int mo_sets, .int mo_foeHarm, .int mo_ownHarm, .int mo_across, .int mo_sumFoe, .int mo_sumOwn, .int mo_sumWon, .int mo_sumAcross])), (a_mo_v, .inl (cy 1, 19, .inl mo_v)), (a_wa, .inr (12, [.int wa_lanes, .int wa_deep, .int wa_told, .int wa_beasts, .int wa_cities, .int wa_passes, .int wa_turned, .int wa_names, wa_who, wa_strong, wa_kind, wa_lane, wa_mood, .ref a_wa_price, wa_loses, wa_name, wa_nameSort, wa_numberOf])), (a_wa_price, .inl (cy 1, 5, .inl wa_price))]) hD [0, 1, 2, 3] rfl rfl
      cases h
      exact W.iret hx hb hr (fun t ht _ => ⟨⟨_, (), rfl, rfl, by rw [ht]; exact hP, hD⟩, hS.F ht⟩) hS.2.2 dX13_saleOver_67
    · have h := ifT cd h
      refine lv_aload_n hx hb dX13_saleOver_47 rfl (lv_at hl 1 rfl) ?_
      refine lv_bipush (v := 6) hx hb dX13_saleOver_48 (by decide) ?_
      obtain ⟨r_12, mo_trouble_13, mo_where_14, hc_15, h⟩ := bd3_some h
      refine wVi [.int 6] [] ⟨hx, hb, hml, hown, hts⟩ (c_X13_refused l D cy A ([(a_mo_v, .inl (cy 1, 19, .inl mo_v)), (a_wa, .inr (12, [.int wa_lanes, .int wa_deep, .int wa_told, .int wa_beasts, .int wa_cities, .int wa_passes, .int wa_turned, .int wa_names, wa_who, wa_strong, wa_kind, wa_lane, wa_mood, .ref a_wa_price, wa_loses, wa_name, wa_nameSort, wa_numberOf])), (a_wa_price, .inl (cy 1, 5, .inl wa_price))] ++ X) a_mo 0 mo_trouble mo_where (.ref a_wa) (mo_read) (mo_tape) mo_taped mo_size mo_spot mo_sort mo_place mo_number mo_fault mo_wrongAt mo_laneTold mo_word (.ref a_mo_v) (mo_x) (mo_past) (mo_kept) mo_acts mo_marks (mo_put) (mo_bestPut) mo_bestSum (mo_row) (mo_best) (mo_left) mo_bestSize mo_bestLeft (mo_counts) mo_sets mo_foeHarm mo_ownHarm mo_across mo_sumFoe mo_sumOwn mo_sumWon mo_sumAcross (6 : Int32) r_12 mo_trouble_13 mo_where_14 hc_15) gX13_saleOver_X13_refused rfl hd_X13_refused ⟨Nat.le_of_ble_eq_true rfl, Nat.le_of_ble_eq_true rfl⟩ rfl rfl hKN (pX3 hP [0, 1, 2, 3] rfl) (dX3 hD [0, 1, 2, 3] rfl rfl) hS hA 13 0 rfl rfl rfl hl.1 rfl (Nat.le_of_ble_eq_true rfl) dX13_saleOver_50 ⟨Nat.le_of_ble_eq_true rfl, Nat.le_of_ble_eq_true rfl⟩ (fun H locs hP hD hS => ?_)
      have hP := pX4 (L1 := [(a_mo, .inr (13, [.int 0, .int mo_trouble_13, .int mo_where_14, .ref a_wa, mo_read, mo_tape, .int mo_taped, .int mo_size, .int mo_spot, .int mo_sort, .int mo_place, .int mo_number, .int mo_fault, .int mo_wrongAt, .int mo_laneTold, .long mo_word, .ref a_mo_v, mo_x, mo_past, mo_kept, .int mo_acts, .int mo_marks, mo_put, mo_bestPut, .long mo_bestSum, mo_row, mo_best, mo_left, .int mo_bestSize, .int mo_bestLeft, mo_counts, .int mo_sets, .int mo_foeHarm, .int mo_ownHarm, .int mo_across, .int mo_sumFoe, .int mo_sumOwn, .int mo_sumWon, .int mo_sumAcross])), (a_mo_v, .inl (cy 1, 19, .inl mo_v)), (a_wa, .inr (12, [.int wa_lanes, .int wa_deep, .int wa_told, .int wa_beasts, .int wa_cities, .int wa_passes, .int wa_turned, .int wa_names, wa_who, wa_strong, wa_kind, wa_lane, wa_mood, .ref a_wa_price, wa_loses, wa_name, wa_nameSort, wa_numberOf])), (a_wa_price, .inl (cy 1, 5, .inl wa_price))]) hP [0, 1, 2, 3] rfl
      have hD := dX4 (L1 := [(a_mo, .inr (13, [.int 0, .int mo_trouble_13, .int mo_where_14, .ref a_wa, mo_read, mo_tape, .int mo_taped, .int mo_size, .int mo_spot, .int mo_sort, .int mo_place, .int mo_number, .int mo_fault, .int mo_wrongAt, .int mo_laneTold, .long mo_word, .ref a_mo_v, mo_x, mo_past, mo_kept, .int mo_acts, .int mo_marks, mo_put, mo_bestPut, .long mo_bestSum, mo_row, mo_best, mo_left, .int mo_bestSize, .int mo_bestLeft, mo_counts, .int mo_sets, .int mo_foeHarm, .int mo_ownHarm, .int mo_across, .int mo_sumFoe, .int mo_sumOwn, .int mo_sumWon, .int mo_sumAcross])), (a_mo_v, .inl (cy 1, 19, .inl mo_v)), (a_wa, .inr (12, [.int wa_lanes, .int wa_deep, .int wa_told, .int wa_beasts, .int wa_cities, .int wa_passes, .int wa_turned, .int wa_names, wa_who, wa_strong, wa_kind, wa_lane, wa_mood, .ref a_wa_price, wa_loses, wa_name, wa_nameSort, wa_numberOf])), (a_wa_price, .inl (cy 1, 5, .inl wa_price))]) hD [0, 1, 2, 3] rfl rfl
      refine lv_goto (tgt := 67) hx hb dX13_saleOver_53 (by decide) ?_
      cases h
      exact W.iret hx hb hr (fun t ht _ => ⟨⟨_, (), rfl, rfl, by rw [ht]; exact hP, hD⟩, hS.F ht⟩) hS.2.2 dX13_saleOver_67
  · have h := ifT cd h
    refine lv_aload_n hx hb dX13_saleOver_29 rfl (lv_at hl 0 rfl) ?_
    refine lv_iconst (v := 2) hx hb dX13_saleOver_30 (by decide) ?_
    obtain ⟨r_16, mo_trouble_17, mo_where_18, hc_19, h⟩ := bd3_some h
    refine wVi [.int 2] [] ⟨hx, hb, hml, hown, hts⟩ (c_X13_refused l D cy A ([(a_mo_v, .inl (cy 1, 19, .inl mo_v)), (a_wa, .inr (12, [.int wa_lanes, .int wa_deep, .int wa_told, .int wa_beasts, .int wa_cities, .int wa_passes, .int wa_turned, .int wa_names, wa_who, wa_strong, wa_kind, wa_lane, wa_mood, .ref a_wa_price, wa_loses, wa_name, wa_nameSort, wa_numberOf])), (a_wa_price, .inl (cy 1, 5, .inl wa_price))] ++ X) a_mo 0 mo_trouble mo_where (.ref a_wa) (mo_read) (mo_tape) mo_taped mo_size mo_spot mo_sort mo_place mo_number mo_fault mo_wrongAt mo_laneTold mo_word (.ref a_mo_v) (mo_x) (mo_past) (mo_kept) mo_acts mo_marks (mo_put) (mo_bestPut) mo_bestSum (mo_row) (mo_best) (mo_left) mo_bestSize mo_bestLeft (mo_counts) mo_sets mo_foeHarm mo_ownHarm mo_across mo_sumFoe mo_sumOwn mo_sumWon mo_sumAcross (2 : Int32) r_16 mo_trouble_17 mo_where_18 hc_19) gX13_saleOver_X13_refused rfl hd_X13_refused ⟨Nat.le_of_ble_eq_true rfl, Nat.le_of_ble_eq_true rfl⟩ rfl rfl hKN (pX3 hP [0, 1, 2, 3] rfl) (dX3 hD [0, 1, 2, 3] rfl rfl) hS hA 13 0 rfl rfl rfl hl.1 rfl (Nat.le_of_ble_eq_true rfl) dX13_saleOver_31 ⟨Nat.le_of_ble_eq_true rfl, Nat.le_of_ble_eq_true rfl⟩ (fun H locs hP hD hS => ?_)
    have hP := pX4 (L1 := [(a_mo, .inr (13, [.int 0, .int mo_trouble_17, .int mo_where_18, .ref a_wa, mo_read, mo_tape, .int mo_taped, .int mo_size, .int mo_spot, .int mo_sort, .int mo_place, .int mo_number, .int mo_fault, .int mo_wrongAt, .int mo_laneTold, .long mo_word, .ref a_mo_v, mo_x, mo_past, mo_kept, .int mo_acts, .int mo_marks, mo_put, mo_bestPut, .long mo_bestSum, mo_row, mo_best, mo_left, .int mo_bestSize, .int mo_bestLeft, mo_counts, .int mo_sets, .int mo_foeHarm, .int mo_ownHarm, .int mo_across, .int mo_sumFoe, .int mo_sumOwn, .int mo_sumWon, .int mo_sumAcross])), (a_mo_v, .inl (cy 1, 19, .inl mo_v)), (a_wa, .inr (12, [.int wa_lanes, .int wa_deep, .int wa_told, .int wa_beasts, .int wa_cities, .int wa_passes, .int wa_turned, .int wa_names, wa_who, wa_strong, wa_kind, wa_lane, wa_mood, .ref a_wa_price, wa_loses, wa_name, wa_nameSort, wa_numberOf])), (a_wa_price, .inl (cy 1, 5, .inl wa_price))]) hP [0, 1, 2, 3] rfl
    have hD := dX4 (L1 := [(a_mo, .inr (13, [.int 0, .int mo_trouble_17, .int mo_where_18, .ref a_wa, mo_read, mo_tape, .int mo_taped, .int mo_size, .int mo_spot, .int mo_sort, .int mo_place, .int mo_number, .int mo_fault, .int mo_wrongAt, .int mo_laneTold, .long mo_word, .ref a_mo_v, mo_x, mo_past, mo_kept, .int mo_acts, .int mo_marks, mo_put, mo_bestPut, .long mo_bestSum, mo_row, mo_best, mo_left, .int mo_bestSize, .int mo_bestLeft, mo_counts, .int mo_sets, .int mo_foeHarm, .int mo_ownHarm, .int mo_across, .int mo_sumFoe, .int mo_sumOwn, .int mo_sumWon, .int mo_sumAcross])), (a_mo_v, .inl (cy 1, 19, .inl mo_v)), (a_wa, .inr (12, [.int wa_lanes, .int wa_deep, .int wa_told, .int wa_beasts, .int wa_cities, .int wa_passes, .int wa_turned, .int wa_names, wa_who, wa_strong, wa_kind, wa_lane, wa_mood, .ref a_wa_price, wa_loses, wa_name, wa_nameSort, wa_numberOf])), (a_wa_price, .inl (cy 1, 5, .inl wa_price))]) hD [0, 1, 2, 3] rfl rfl
    cases h
    exact W.iret hx hb hr (fun t ht _ => ⟨⟨_, (), rfl, rfl, by rw [ht]; exact hP, hD⟩, hS.F ht⟩) hS.2.2 dX13_saleOver_34
theorem hd_X13_over : yX13_over.cls ≠ "java/lang/invoke/MethodHandle" ∧ yX13_over.cls ≠ "java/lang/invoke/VarHandle" ∧ (parseMethodDescriptor yX13_over.desc).map (fun d => d.parameters.length) = some 2 := by decide +kernel
set_option maxHeartbeats 4000000 in
set_option maxRecDepth 100000 in
theorem c_X13_over (l : Launch) (D : va_G) (cy : Nat → ClassId) (p0 : Int32) (p1 : Int32) (res : Int32) (h : f_X13_over  p0 p1 = some (res)) : Met l yX13_over wo_X13_over ({ frames := 0, cells := 0, slots := 0, locals := 0 }) (roPc D cy [.int p0, .int p1] []) (vp_Si (fun r => r = res)) 0 0 (fun _ => False) := by
  refine Met.ofW (cc := cX13_over) (maxL := 2) (ret := (some .int)) (by decide) rfl ?_
  intro p e s m args below meth c s₁ B hml hv
  obtain ⟨rfl, hP, hKN⟩ := hv
  have hK := hKN.1
  have hx := B.exec
  have hb := B.bytes
  have hr := B.returns
  have hts := wt_X13_over hKN.2.2 (([.int p0, .int p1] : List Value).toArray)
  have hown : s.vm.findClass RX13 = some m.cls := findClass_of_methodNamed B.named
  have hlocks := B.notSynchronized
  have hl := lv_entry ([.int p0, .int p1]) (n := 2) (Nat.le_of_ble_eq_true rfl)
  rw [lg_entry_eq]
  generalize (lg_sl ([.int p0, .int p1]) ++ List.replicate (2 - (lg_sl ([.int p0, .int p1])).length) Slot.unset).toArray = ls at hl ⊢
  have hl : lv_has ls 2 [(0, .int p0), (1, .int p1)] := hl
  unfold f_X13_over at h
  refine lv_iload_n hx hb dX13_over_0 rfl (lv_at hl 0 rfl) ?_
  refine lv_bipush (v := 100) hx hb dX13_over_1 (by decide) ?_
  refine lv_iload_n hx hb dX13_over_3 rfl (lv_at hl 1 rfl) ?_
  refine lv_isub hx hb dX13_over_4 ?_
  refine lv_imul hx hb dX13_over_5 ?_
  refine lv_bipush (v := 100) hx hb dX13_over_6 (by decide) ?_
  refine lv_idiv hx hb dX13_over_8 (by decide) ?_
  exact W.iret (v := (p0 * (100 - p1)) / 100) hx hb hr (fun t ht _ => ⟨_, rfl, Option.some.inj h, ht⟩) (fun _ q => by cases q) dX13_over_9
theorem hd_X13_comes : yX13_comes.cls = RX13 ∧ yX13_comes.cls ≠ "java/lang/invoke/MethodHandle" ∧ yX13_comes.cls ≠ "java/lang/invoke/VarHandle" ∧ (parseMethodDescriptor yX13_comes.desc).map (fun d => d.parameters.length) = some 1 := by decide +kernel
set_option maxHeartbeats 4000000 in
set_option maxRecDepth 100000 in
theorem c_X13_comes (l : Launch) (D : va_G) (cy : Nat → ClassId) (A : Nat → Prop) (X : va_W) (a_mo a_mo_row a_mo_best a_mo_left : Nat) (mo_thrown : Int32) (mo_trouble : Int32) (mo_where : Int32) (mo_war : Value) (mo_read : Value) (mo_tape : Value) (mo_taped : Int32) (mo_size : Int32) (mo_spot : Int32) (mo_sort : Int32) (mo_place : Int32) (mo_number : Int32) (mo_fault : Int32) (mo_wrongAt : Int32) (mo_laneTold : Int32) (mo_word : Int64) (mo_v : Value) (mo_x : Value) (mo_past : Value) (mo_kept : Value) (mo_acts : Int32) (mo_marks : Int32) (mo_put : Value) (mo_bestPut : Value) (mo_bestSum : Int64) (mo_bestSize : Int32) (mo_bestLeft : Int32) (mo_counts : Value) (mo_sets : Int32) (mo_foeHarm : Int32) (mo_ownHarm : Int32) (mo_across : Int32) (mo_sumFoe : Int32) (mo_sumOwn : Int32) (mo_sumWon : Int32) (mo_sumAcross : Int32) (mo_row : Nat → Int32) (mo_best : Nat → Int32) (mo_left : Nat → Int32) (p1 : Int32) (mo_bestSize' : Int32) (mo_bestLeft' : Int32) (mo_best' : Nat → Int32) (h : f_X13_comes mo_bestSize mo_bestLeft mo_row mo_best mo_left p1 = some (mo_bestSize', mo_bestLeft', mo_best')) : Met l yX13_comes wo_X13_comes ({ frames := 0, cells := 0, slots := 0, locals := 0 }) (wrPc D cy A [.ref a_mo, .int p1] ([(a_mo, .inr (13, [.int mo_thrown, .int mo_trouble, .int mo_where, mo_war, mo_read, mo_tape, .int mo_taped, .int mo_size, .int mo_spot, .int mo_sort, .int mo_place, .int mo_number, .int mo_fault, .int mo_wrongAt, .int mo_laneTold, .long mo_word, mo_v, mo_x, mo_past, mo_kept, .int mo_acts, .int mo_marks, mo_put, mo_bestPut, .long mo_bestSum, .ref a_mo_row, .ref a_mo_best, .ref a_mo_left, .int mo_bestSize, .int mo_bestLeft, mo_counts, .int mo_sets, .int mo_foeHarm, .int mo_ownHarm, .int mo_across, .int mo_sumFoe, .int mo_sumOwn, .int mo_sumWon, .int mo_sumAcross])), (a_mo_row, .inl (cy 1, 6, .inl mo_row)), (a_mo_best, .inl (cy 1, 6, .inl mo_best)), (a_mo_left, .inl (cy 1, 6, .inl mo_left))] ++ X)) (va_Qv (fun (_ : Unit) => True) (wB D A ([(a_mo, .inr (13, [.int mo_thrown, .int mo_trouble, .int mo_where, mo_war, mo_read, mo_tape, .int mo_taped, .int mo_size, .int mo_spot, .int mo_sort, .int mo_place, .int mo_number, .int mo_fault, .int mo_wrongAt, .int mo_laneTold, .long mo_word, mo_v, mo_x, mo_past, mo_kept, .int mo_acts, .int mo_marks, mo_put, mo_bestPut, .long mo_bestSum, .ref a_mo_row, .ref a_mo_best, .ref a_mo_left, .int mo_bestSize', .int mo_bestLeft', mo_counts, .int mo_sets, .int mo_foeHarm, .int mo_ownHarm, .int mo_across, .int mo_sumFoe, .int mo_sumOwn, .int mo_sumWon, .int mo_sumAcross])), (a_mo_row, .inl (cy 1, 6, .inl mo_row)), (a_mo_best, .inl (cy 1, 6, .inl mo_best')), (a_mo_left, .inl (cy 1, 6, .inl mo_left))] ++ X)) A) 0 0 A := by
  refine Met.ofW (cc := cX13_comes) (maxL := 3) (ret := none) (by decide) rfl ?_
  intro p e s m args below meth c s₁ B hml hv
  obtain ⟨rfl, hP, hKN, hD, hA⟩ := hv
  have hK := hKN.1
  have hx := B.exec
  have hb := B.bytes
  have hr := B.returns
  have hts := wt_X13_comes hKN.2.2 (([.ref a_mo, .int p1] : List Value).toArray)
  have hown : s.vm.findClass RX13 = some m.cls := findClass_of_methodNamed B.named
  have hlocks := B.notSynchronized
  have hS : va_S A s.heap s.heap [] := va_S.rf
  have hX13 := wc_X13 hKN.2.2 (([.ref a_mo, .int p1] : List Value).toArray)
  have hl := lv_entry ([.ref a_mo, .int p1]) (n := 3) (Nat.le_of_ble_eq_true rfl)
  rw [lg_entry_eq]
  generalize (lg_sl ([.ref a_mo, .int p1]) ++ List.replicate (3 - (lg_sl ([.ref a_mo, .int p1])).length) Slot.unset).toArray = ls at hl ⊢
  have hl : lv_has ls 3 [(0, .ref a_mo), (1, .int p1)] := hl
  unfold f_X13_comes at h
  refine lv_aload_n hx hb dX13_comes_0 rfl (lv_at hl 0 rfl) ?_
  refine va_get (D := D) (ci := 13) (C := RX13) (T := TX13) (N := 39) (v := .ref a_mo_left) hx hb hX13 (fun _ q => q) hown hK hP 0 rfl rfl 27 (by decide) (hts (.fieldLink RX13 42 "ElephantLineModel" "left" "[I") (by decide +kernel)) (fun _ h9 => h9) rfl dX13_comes_1 ?_
  refine lv_iload_n hx hb dX13_comes_4 rfl (lv_at hl 1 rfl) ?_
  refine lv_iconst (v := 1) hx hb dX13_comes_5 (by decide) ?_
  refine lv_isub hx hb dX13_comes_6 ?_
  obtain ⟨i_1, h⟩ := gIn_some h
  refine va_iald hx hb hK hP 3 1 rfl rfl i_1 dX13_comes_7 ?_
  refine lv_aload_n hx hb dX13_comes_8 rfl (lv_at hl 0 rfl) ?_
  refine va_get (D := D) (ci := 13) (C := RX13) (T := TX13) (N := 39) (v := .int mo_bestLeft) hx hb hX13 (fun _ q => q) hown hK hP 0 rfl rfl 29 (by decide) (hts (.fieldLink RX13 411 "ElephantLineModel" "bestLeft" "I") (by decide +kernel)) (fun _ h9 => h9) rfl dX13_comes_9 ?_
  refine lv_icmp_gt (tgt := 16) hx hb dX13_comes_12 (by decide) (fun cd => ?_) (fun cd => ?_)
  · have h := ifT cd h
    refine lv_aload_n hx hb dX13_comes_16 rfl (lv_at hl 0 rfl) ?_
    refine lv_aload_n hx hb dX13_comes_17 rfl (lv_at hl 0 rfl) ?_
    refine va_get (D := D) (ci := 13) (C := RX13) (T := TX13) (N := 39) (v := .ref a_mo_left) hx hb hX13 (fun _ q => q) hown hK hP 0 rfl rfl 27 (by decide) (hts (.fieldLink RX13 42 "ElephantLineModel" "left" "[I") (by decide +kernel)) (fun _ h9 => h9) rfl dX13_comes_18 ?_
    refine lv_iload_n hx hb dX13_comes_21 rfl (lv_at hl 1 rfl) ?_
    refine lv_iconst (v := 1) hx hb dX13_comes_22 (by decide) ?_
    refine lv_isub hx hb dX13_comes_23 ?_
    obtain ⟨i_2, h⟩ := gIn_some h
    refine va_iald hx hb hK hP 3 1 rfl rfl i_2 dX13_comes_24 ?_
    refine va_put (D := D) (ci := 13) (C := RX13) (T := TX13) (N := 39) (v := .int (mo_left (p1 - 1).toNatClampNeg)) (ty := .int) hx hb hX13 (fun _ q => q) tyX13 tyX13_ok nmX13 hown hK hP hD hS 0 rfl rfl 29 (by decide) (hts (.fieldLink RX13 411 "ElephantLineModel" "bestLeft" "I") (by decide +kernel)) (fun _ h9 => h9) rfl (tyX13_ok 29 (by decide)) rfl rfl (Nat.le_of_ble_eq_true rfl) dX13_comes_25 (fun H locs hP hD hS => ?_)
    refine lv_aload_n hx hb dX13_comes_28 rfl (lv_at hl 0 rfl) ?_
    refine lv_iload_n hx hb dX13_comes_29 rfl (lv_at hl 1 rfl) ?_
    refine va_put (D := D) (ci := 13) (C := RX13) (T := TX13) (N := 39) (v := .int p1) (ty := .int) hx hb hX13 (fun _ q => q) tyX13 tyX13_ok nmX13 hown hK hP hD hS 0 rfl rfl 28 (by decide) (hts (.fieldLink RX13 408 "ElephantLineModel" "bestSize" "I") (by decide +kernel)) (fun _ h9 => h9) rfl (tyX13_ok 28 (by decide)) rfl rfl (Nat.le_of_ble_eq_true rfl) dX13_comes_30 (fun H locs hP hD hS => ?_)
    refine lv_iconst (v := 0) hx hb dX13_comes_33 (by decide) ?_
    refine lv_istore_n (lv' := [(2, .int 0), (0, .ref a_mo), (1, .int p1)]) hx hb dX13_comes_34 rfl hl (by decide) rfl (fun ls hl => ?_)
    have lp35 : ∀ (n35 : Nat) (x2_3 : Int32) (mo_best_4 : Nat → Int32), f_X13_comes_L35 mo_row mo_left p1 p1 (mo_left (p1 - 1).toNatClampNeg) n35 x2_3 mo_best_4 = some (mo_bestSize', mo_bestLeft', mo_best') → ∀ (H : Heap) (locs : List Loc), va_P D vwCl ([(a_mo, .inr (13, [.int mo_thrown, .int mo_trouble, .int mo_where, mo_war, mo_read, mo_tape, .int mo_taped, .int mo_size, .int mo_spot, .int mo_sort, .int mo_place, .int mo_number, .int mo_fault, .int mo_wrongAt, .int mo_laneTold, .long mo_word, mo_v, mo_x, mo_past, mo_kept, .int mo_acts, .int mo_marks, mo_put, mo_bestPut, .long mo_bestSum, .ref a_mo_row, .ref a_mo_best, .ref a_mo_left, .int p1, .int (mo_left (p1 - 1).toNatClampNeg), mo_counts, .int mo_sets, .int mo_foeHarm, .int mo_ownHarm, .int mo_across, .int mo_sumFoe, .int mo_sumOwn, .int mo_sumWon, .int mo_sumAcross])), (a_mo_row, .inl (cy 1, 6, .inl mo_row)), (a_mo_best, .inl (cy 1, 6, .inl mo_best_4)), (a_mo_left, .inl (cy 1, 6, .inl mo_left))] ++ X) H → va_D A ([(a_mo, .inr (13, [.int mo_thrown, .int mo_trouble, .int mo_where, mo_war, mo_read, mo_tape, .int mo_taped, .int mo_size, .int mo_spot, .int mo_sort, .int mo_place, .int mo_number, .int mo_fault, .int mo_wrongAt, .int mo_laneTold, .long mo_word, mo_v, mo_x, mo_past, mo_kept, .int mo_acts, .int mo_marks, mo_put, mo_bestPut, .long mo_bestSum, .ref a_mo_row, .ref a_mo_best, .ref a_mo_left, .int p1, .int (mo_left (p1 - 1).toNatClampNeg), mo_counts, .int mo_sets, .int mo_foeHarm, .int mo_ownHarm, .int mo_across, .int mo_sumFoe, .int mo_sumOwn, .int mo_sumWon, .int mo_sumAcross])), (a_mo_row, .inl (cy 1, 6, .inl mo_row)), (a_mo_best, .inl (cy 1, 6, .inl mo_best_4)), (a_mo_left, .inl (cy 1, 6, .inl mo_left))] ++ X) → va_S A s.heap H locs → ∀ ls : Array Slot, lv_has ls 3 [(0, .ref a_mo), (1, .int p1), (2, .int x2_3)] → W p l e (headSpec wo_X13_comes ({ frames := 0, cells := 0, slots := 0, locals := 0 })).room s m (([.ref a_mo, .int p1] : List Value).toArray) below meth c H locs 0 0 (MQ below (va_Qv (fun (_ : Unit) => True) (wB D A ([(a_mo, .inr (13, [.int mo_thrown, .int mo_trouble, .int mo_where, mo_war, mo_read, mo_tape, .int mo_taped, .int mo_size, .int mo_spot, .int mo_sort, .int mo_place, .int mo_number, .int mo_fault, .int mo_wrongAt, .int mo_laneTold, .long mo_word, mo_v, mo_x, mo_past, mo_kept, .int mo_acts, .int mo_marks, mo_put, mo_bestPut, .long mo_bestSum, .ref a_mo_row, .ref a_mo_best, .ref a_mo_left, .int mo_bestSize', .int mo_bestLeft', mo_counts, .int mo_sets, .int mo_foeHarm, .int mo_ownHarm, .int mo_across, .int mo_sumFoe, .int mo_sumOwn, .int mo_sumWon, .int mo_sumAcross])), (a_mo_row, .inl (cy 1, 6, .inl mo_row)), (a_mo_best, .inl (cy 1, 6, .inl mo_best')), (a_mo_left, .inl (cy 1, 6, .inl mo_left))] ++ X)) A) (([.ref a_mo, .int p1] : List Value).toArray) s 0 0 A) (F0 m 35 ls []) := by
      intro n35
      induction n35 with
      | zero => intro x2_3 mo_best_4 h; exact absurd (show (none : Option (Int32 × Int32 × (Nat → Int32))) = some _ from h) (by intro q; cases q)
      | succ n35 ih35 =>
        intro x2_3 mo_best_4 h H locs hP hD hS ls hl
        have h : f_X13_comes_b35 mo_row mo_left p1 p1 (mo_left (p1 - 1).toNatClampNeg) (f_X13_comes_L35 mo_row mo_left p1 p1 (mo_left (p1 - 1).toNatClampNeg) n35) x2_3 mo_best_4 = some (mo_bestSize', mo_bestLeft', mo_best') := h
        unfold f_X13_comes_b35 at h
        refine lv_iload_n hx hb dX13_comes_35 rfl (lv_at hl 2 rfl) ?_
        refine lv_iload_n hx hb dX13_comes_36 rfl (lv_at hl 1 rfl) ?_
        refine lv_icmp_ge (tgt := 58) hx hb dX13_comes_37 (by decide) (fun cd => ?_) (fun cd => ?_)
        · have h := ifT cd h
          cases h
          exact W.vret hx hb hr (fun t ht _ => ⟨⟨(), rfl, trivial, by rw [ht]; exact hP, hD⟩, hS.F ht⟩) hS.2.2 dX13_comes_58
        · have h := ifF cd h
          refine lv_aload_n hx hb dX13_comes_40 rfl (lv_at hl 0 rfl) ?_
          refine va_get (D := D) (ci := 13) (C := RX13) (T := TX13) (N := 39) (v := .ref a_mo_best) hx hb hX13 (fun _ q => q) hown hK hP 0 rfl rfl 26 (by decide) (hts (.fieldLink RX13 39 "ElephantLineModel" "best" "[I") (by decide +kernel)) (fun _ h9 => h9) rfl dX13_comes_41 ?_
          refine lv_iload_n hx hb dX13_comes_44 rfl (lv_at hl 2 rfl) ?_
          refine lv_aload_n hx hb dX13_comes_45 rfl (lv_at hl 0 rfl) ?_
          refine va_get (D := D) (ci := 13) (C := RX13) (T := TX13) (N := 39) (v := .ref a_mo_row) hx hb hX13 (fun _ q => q) hown hK hP 0 rfl rfl 25 (by decide) (hts (.fieldLink RX13 36 "ElephantLineModel" "row" "[I") (by decide +kernel)) (fun _ h9 => h9) rfl dX13_comes_46 ?_
          refine lv_iload_n hx hb dX13_comes_49 rfl (lv_at hl 2 rfl) ?_
          obtain ⟨i_5, h⟩ := gIn_some h
          refine va_iald hx hb hK hP 1 1 rfl rfl i_5 dX13_comes_50 ?_
          obtain ⟨i_6, h⟩ := gIn_some h
          refine va_iast hx hb hK hP hD hS 2 1 rfl rfl i_6 dX13_comes_51 (fun H locs hP hD hS => ?_)
          refine lv_iinc (v := x2_3 + 1) (lv' := [(2, .int (x2_3 + 1)), (0, .ref a_mo), (1, .int p1)]) hx hb dX13_comes_52 hl (k := 2) rfl (by first | rfl | decide) (by decide) rfl (fun ls hl => ?_)
          refine lv_goto (tgt := 35) hx hb dX13_comes_55 (by decide) ?_
          exact ih35 (x2_3 + 1) (upd mo_best_4 x2_3.toNatClampNeg (mo_row x2_3.toNatClampNeg)) h _ _ hP hD hS _ (lv_sub hl [1, 2, 0] rfl)
    exact lp35 fuelN (0 : Int32) mo_best h _ _ hP hD hS _ (lv_sub hl [1, 2, 0] rfl)
  · have h := ifF cd h
    cases h
    exact W.vret hx hb hr (fun t ht _ => ⟨⟨(), rfl, trivial, by rw [ht]; exact hP, hD⟩, hS.F ht⟩) hS.2.2 dX13_comes_15
theorem hd_X13_refusesMarch : yX13_refusesMarch.cls = RX13 ∧ yX13_refusesMarch.cls ≠ "java/lang/invoke/MethodHandle" ∧ yX13_refusesMarch.cls ≠ "java/lang/invoke/VarHandle" ∧ (parseMethodDescriptor yX13_refusesMarch.desc).map (fun d => d.parameters.length) = some 3 := by decide +kernel
set_option maxHeartbeats 4000000 in
set_option maxRecDepth 100000 in
theorem c_X13_refusesMarch (l : Launch) (D : va_G) (cy : Nat → ClassId) (a_mo a_wa : Nat) (mo_thrown : Int32) (mo_trouble : Int32) (mo_where : Int32) (mo_read : Value) (mo_tape : Value) (mo_taped : Int32) (mo_size : Int32) (mo_spot : Int32) (mo_sort : Int32) (mo_place : Int32) (mo_number : Int32) (mo_fault : Int32) (mo_wrongAt : Int32) (mo_laneTold : Int32) (mo_word : Int64) (mo_v : Value) (mo_x : Value) (mo_past : Value) (mo_kept : Value) (mo_acts : Int32) (mo_marks : Int32) (mo_put : Value) (mo_bestPut : Value) (mo_bestSum : Int64) (mo_row : Value) (mo_best : Value) (mo_left : Value) (mo_bestSize : Int32) (mo_bestLeft : Int32) (mo_counts : Value) (mo_sets : Int32) (mo_foeHarm : Int32) (mo_ownHarm : Int32) (mo_across : Int32) (mo_sumFoe : Int32) (mo_sumOwn : Int32) (mo_sumWon : Int32) (mo_sumAcross : Int32) (wa_lanes : Int32) (wa_deep : Int32) (wa_told : Int32) (wa_beasts : Int32) (wa_cities : Int32) (wa_passes : Int32) (wa_turned : Int32) (wa_names : Int32) (wa_who : Value) (wa_strong : Value) (wa_kind : Value) (wa_lane : Value) (wa_mood : Value) (wa_price : Value) (wa_loses : Value) (wa_name : Value) (wa_nameSort : Value) (wa_numberOf : Value) (p1 : Int32) (p2 : Int32) (p3 : Int32) (res : Int32) (h : f_X13_refusesMarch wa_cities p1 p2 p3 = some (res)) : Met l yX13_refusesMarch wo_X13_refusesMarch ({ frames := 1, cells := 0, slots := 0, locals := 22 }) (roPc D cy [.ref a_mo, .int p1, .int p2, .int p3] [(a_mo, .inr (13, [.int mo_thrown, .int mo_trouble, .int mo_where, .ref a_wa, mo_read, mo_tape, .int mo_taped, .int mo_size, .int mo_spot, .int mo_sort, .int mo_place, .int mo_number, .int mo_fault, .int mo_wrongAt, .int mo_laneTold, .long mo_word, mo_v, mo_x, mo_past, mo_kept, .int mo_acts, .int mo_marks, mo_put, mo_bestPut, .long mo_bestSum, mo_row, mo_best, mo_left, .int mo_bestSize, .int mo_bestLeft, mo_counts, .int mo_sets, .int mo_foeHarm, .int mo_ownHarm, .int mo_across, .int mo_sumFoe, .int mo_sumOwn, .int mo_sumWon, .int mo_sumAcross])), (a_wa, .inr (12, [.int wa_lanes, .int wa_deep, .int wa_told, .int wa_beasts, .int wa_cities, .int wa_passes, .int wa_turned, .int wa_names, wa_who, wa_strong, wa_kind, wa_lane, wa_mood, wa_price, wa_loses, wa_name, wa_nameSort, wa_numberOf]))]) (vp_Si (fun r => r = res)) 0 0 (fun _ => False) := by
  refine Met.ofW (cc := cX13_refusesMarch) (maxL := 4) (ret := (some .int)) (by decide) rfl ?_
  intro p e s m args below meth c s₁ B hml hv
  obtain ⟨rfl, hP, hKN⟩ := hv
  have hK := hKN.1
  have hx := B.exec
  have hb := B.bytes
  have hr := B.returns
  have hts := wt_X13_refusesMarch hKN.2.2 (([.ref a_mo, .int p1, .int p2, .int p3] : List Value).toArray)
  have hown : s.vm.findClass RX13 = some m.cls := findClass_of_methodNamed B.named
  have hlocks := B.notSynchronized
  have hl := lv_entry ([.ref a_mo, .int p1, .int p2, .int p3]) (n := 4) (Nat.le_of_ble_eq_true rfl)
  rw [lg_entry_eq]
  generalize (lg_sl ([.ref a_mo, .int p1, .int p2, .int p3]) ++ List.replicate (4 - (lg_sl ([.ref a_mo, .int p1, .int p2, .int p3])).length) Slot.unset).toArray = ls at hl ⊢
  have hl : lv_has ls 4 [(0, .ref a_mo), (1, .int p1), (2, .int p2), (3, .int p3)] := hl
  unfold f_X13_refusesMarch at h
  refine lv_aload_n hx hb dX13_refusesMarch_0 rfl (lv_at hl 0 rfl) ?_
  refine lv_iload_n hx hb dX13_refusesMarch_1 rfl (lv_at hl 1 rfl) ?_
  obtain ⟨r_1, hc_2, h⟩ := bd1_some h
  refine kVb [.int p1] [] ⟨hx, hb, hml, hown, hts⟩ (c_X13_isCity l D cy a_mo a_wa mo_thrown mo_trouble mo_where (mo_read) (mo_tape) mo_taped mo_size mo_spot mo_sort mo_place mo_number mo_fault mo_wrongAt mo_laneTold mo_word (mo_v) (mo_x) (mo_past) (mo_kept) mo_acts mo_marks (mo_put) (mo_bestPut) mo_bestSum (mo_row) (mo_best) (mo_left) mo_bestSize mo_bestLeft (mo_counts) mo_sets mo_foeHarm mo_ownHarm mo_across mo_sumFoe mo_sumOwn mo_sumWon mo_sumAcross wa_lanes wa_deep wa_told wa_beasts wa_cities wa_passes wa_turned wa_names (wa_who) (wa_strong) (wa_kind) (wa_lane) (wa_mood) (wa_price) (wa_loses) (wa_name) (wa_nameSort) (wa_numberOf) p1 r_1 hc_2) gX13_refusesMarch_X13_isCity rfl hd_X13_isCity ⟨Nat.le_of_ble_eq_true rfl, Nat.le_of_ble_eq_true rfl⟩ rfl rfl hKN (hP.sub [0, 1] rfl) 13 0 rfl rfl rfl hl.1 rfl (Nat.le_of_ble_eq_true rfl) dX13_refusesMarch_2 ⟨Nat.le_of_ble_eq_true rfl, Nat.le_of_ble_eq_true rfl⟩ (fun nb_3 => ?_)
  have jn16 : f_X13_refusesMarch_B16 wa_cities = some (res) → ∀ ls : Array Slot, lv_has ls 4 [] → W p l e (headSpec wo_X13_refusesMarch ({ frames := 1, cells := 0, slots := 0, locals := 22 })).room s m (([.ref a_mo, .int p1, .int p2, .int p3] : List Value).toArray) below meth c s.heap [] 0 0 (MQ below (vp_Si (fun r => r = res)) (([.ref a_mo, .int p1, .int p2, .int p3] : List Value).toArray) s 0 0 (fun _ => False)) (F0 m 16 ls []) := by
    intro h ls hl
    unfold f_X13_refusesMarch_B16 at h
    refine lv_iconst (v := 1) hx hb dX13_refusesMarch_16 (by decide) ?_
    refine lv_goto (tgt := 36) hx hb dX13_refusesMarch_17 (by decide) ?_
    exact W.iret (v := 1) hx hb hr (fun t ht _ => ⟨_, rfl, Option.some.inj h, ht⟩) (fun _ q => by cases q) dX13_refusesMarch_36
  refine lv_if_eq (tgt := 16) hx hb dX13_refusesMarch_5 (by decide) (fun cd => ?_) (fun cd => ?_)
  · have h := ifT cd h
    exact jn16 h _ (lv_sub hl [] rfl)
  · have h := ifF cd h
    refine lv_aload_n hx hb dX13_refusesMarch_8 rfl (lv_at hl 0 rfl) ?_
    refine lv_iload_n hx hb dX13_refusesMarch_9 rfl (lv_at hl 2 rfl) ?_
    obtain ⟨r_4, hc_5, h⟩ := bd1_some h
    refine kVb [.int p2] [] ⟨hx, hb, hml, hown, hts⟩ (c_X13_isCity l D cy a_mo a_wa mo_thrown mo_trouble mo_where (mo_read) (mo_tape) mo_taped mo_size mo_spot mo_sort mo_place mo_number mo_fault mo_wrongAt mo_laneTold mo_word (mo_v) (mo_x) (mo_past) (mo_kept) mo_acts mo_marks (mo_put) (mo_bestPut) mo_bestSum (mo_row) (mo_best) (mo_left) mo_bestSize mo_bestLeft (mo_counts) mo_sets mo_foeHarm mo_ownHarm mo_across mo_sumFoe mo_sumOwn mo_sumWon mo_sumAcross wa_lanes wa_deep wa_told wa_beasts wa_cities wa_passes wa_turned wa_names (wa_who) (wa_strong) (wa_kind) (wa_lane) (wa_mood) (wa_price) (wa_loses) (wa_name) (wa_nameSort) (wa_numberOf) p2 r_4 hc_5) gX13_refusesMarch_X13_isCity rfl hd_X13_isCity ⟨Nat.le_of_ble_eq_true rfl, Nat.le_of_ble_eq_true rfl⟩ rfl rfl hKN (hP.sub [0, 1] rfl) 13 0 rfl rfl rfl hl.1 rfl (Nat.le_of_ble_eq_true rfl) dX13_refusesMarch_10 ⟨Nat.le_of_ble_eq_true rfl, Nat.le_of_ble_eq_true rfl⟩ (fun nb_6 => ?_)
    refine lv_if_ne (tgt := 20) hx hb dX13_refusesMarch_13 (by decide) (fun cd => ?_) (fun cd => ?_)
    · have h := ifF cd h
      refine lv_iload_n hx hb dX13_refusesMarch_20 rfl (lv_at hl 3 rfl) ?_
      refine lv_iconst (v := 0) hx hb dX13_refusesMarch_21 (by decide) ?_
      refine lv_sipush (v := 999) hx hb dX13_refusesMarch_22 (by decide) ?_
      obtain ⟨r_7, hc_8, h⟩ := bd1_some h
      refine kSb [.int p3, .int 0, .int 999] [] ⟨hx, hb, hml, hown, hts⟩ (c_X13_in l D cy p3 (0 : Int32) (999 : Int32) r_7 hc_8) gX13_refusesMarch_X13_in rfl hd_X13_in ⟨Nat.le_of_ble_eq_true rfl, Nat.le_of_ble_eq_true rfl⟩ rfl rfl hKN va_nil rfl hl.1 rfl (Nat.le_of_ble_eq_true rfl) dX13_refusesMarch_25 ⟨Nat.le_of_ble_eq_true rfl, Nat.le_of_ble_eq_true rfl⟩ (fun nb_9 => ?_)
      refine lv_if_eq (tgt := 35) hx hb dX13_refusesMarch_28 (by decide) (fun cd => ?_) (fun cd => ?_)
      · have h := ifT cd h
        refine lv_iconst (v := 2) hx hb dX13_refusesMarch_35 (by decide) ?_
        exact W.iret (v := 2) hx hb hr (fun t ht _ => ⟨_, rfl, Option.some.inj h, ht⟩) (fun _ q => by cases q) dX13_refusesMarch_36
      · have h := ifF cd h
        refine lv_iconst (v := 0) hx hb dX13_refusesMarch_31 (by decide) ?_
        refine lv_goto (tgt := 36) hx hb dX13_refusesMarch_32 (by decide) ?_
        exact W.iret (v := 0) hx hb hr (fun t ht _ => ⟨_, rfl, Option.some.inj h, ht⟩) (fun _ q => by cases q) dX13_refusesMarch_36
    · have h := ifT cd h
      exact jn16 h _ (lv_sub hl [] rfl)
