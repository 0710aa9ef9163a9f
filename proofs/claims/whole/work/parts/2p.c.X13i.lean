theorem hd_X13_back : yX13_back.cls = RX13 ∧ yX13_back.cls ≠ "java/lang/invoke/MethodHandle" ∧ yX13_back.cls ≠ "java/lang/invoke/VarHandle" ∧ (parseMethodDescriptor yX13_back.desc).map (fun d => d.parameters.length) = some 1 := by decide +kernel
set_option maxHeartbeats 4000000 in
set_option maxRecDepth 100000 in
theorem c_X13_back (l : Launch) (D : va_G) (cy : Nat → ClassId) (A : Nat → Prop) (X : va_W) (a_mo a_mo_v a_mo_kept a_wa : Nat) (mo_thrown : Int32) (mo_trouble : Int32) (mo_where : Int32) (mo_read : Value) (mo_tape : Value) (mo_taped : Int32) (mo_size : Int32) (mo_spot : Int32) (mo_sort : Int32) (mo_place : Int32) (mo_number : Int32) (mo_fault : Int32) (mo_wrongAt : Int32) (mo_laneTold : Int32) (mo_word : Int64) (mo_x : Value) (mo_past : Value) (mo_acts : Int32) (mo_marks : Int32) (mo_put : Value) (mo_bestPut : Value) (mo_bestSum : Int64) (mo_row : Value) (mo_best : Value) (mo_left : Value) (mo_bestSize : Int32) (mo_bestLeft : Int32) (mo_counts : Value) (mo_sets : Int32) (mo_foeHarm : Int32) (mo_ownHarm : Int32) (mo_across : Int32) (mo_sumFoe : Int32) (mo_sumOwn : Int32) (mo_sumWon : Int32) (mo_sumAcross : Int32) (mo_v : Nat → Int32) (mo_kept : Nat → Int32) (p1 : Int32) (res : Int32) (mo_thrown' : Int32) (mo_trouble' : Int32) (mo_where' : Int32) (mo_acts' : Int32) (mo_v' : Nat → Int32) (h : f_X13_back mo_thrown mo_trouble mo_where mo_acts mo_marks mo_v mo_kept p1 = some (res, mo_thrown', mo_trouble', mo_where', mo_acts', mo_v')) : Met l yX13_back wo_X13_back ({ frames := 2, cells := 0, slots := 0, locals := 42 }) (wrPc D cy A [.ref a_mo, .int p1] ([(a_mo, .inr (13, [.int mo_thrown, .int mo_trouble, .int mo_where, .ref a_wa, mo_read, mo_tape, .int mo_taped, .int mo_size, .int mo_spot, .int mo_sort, .int mo_place, .int mo_number, .int mo_fault, .int mo_wrongAt, .int mo_laneTold, .long mo_word, .ref a_mo_v, mo_x, mo_past, .ref a_mo_kept, .int mo_acts, .int mo_marks, mo_put, mo_bestPut, .long mo_bestSum, mo_row, mo_best, mo_left, .int mo_bestSize, .int mo_bestLeft, mo_counts, .int mo_sets, .int mo_foeHarm, .int mo_ownHarm, .int mo_across, .int mo_sumFoe, .int mo_sumOwn, .int mo_sumWon, .int mo_sumAcross])), (a_mo_v, .inl (cy 1, 19, .inl mo_v)), (a_mo_kept, .inl (cy 1, 57, .inl mo_kept))] ++ X)) (va_Qi (fun (r : Int32) (_ : Unit) => r = res ∧ nbv r) (wB D A ([(a_mo, .inr (13, [.int mo_thrown', .int mo_trouble', .int mo_where', .ref a_wa, mo_read, mo_tape, .int mo_taped, .int mo_size, .int mo_spot, .int mo_sort, .int mo_place, .int mo_number, .int mo_fault, .int mo_wrongAt, .int mo_laneTold, .long mo_word, .ref a_mo_v, mo_x, mo_past, .ref a_mo_kept, .int mo_acts', .int mo_marks, mo_put, mo_bestPut, .long mo_bestSum, mo_row, mo_best, mo_left, .int mo_bestSize, .int mo_bestLeft, mo_counts, .int mo_sets, .int mo_foeHarm, .int mo_ownHarm, .int mo_across, .int mo_sumFoe, .int mo_sumOwn, .int mo_sumWon, .int mo_sumAcross])), (a_mo_v, .inl (cy 1, 19, .inl mo_v')), (a_mo_kept, .inl (cy 1, 57, .inl mo_kept))] ++ X)) A) 0 0 A := by
  refine Met.ofW (cc := cX13_back) (maxL := 3) (ret := (some .boolean)) (by decide) rfl ?_
  intro p e s m args below meth c s₁ B hml hv
  obtain ⟨rfl, hP, hKN, hD, hA⟩ := hv
  have hK := hKN.1
  have hx := B.exec
  have hb := B.bytes
  have hr := B.returns
  have hts := wt_X13_back hKN.2.2 (([.ref a_mo, .int p1] : List Value).toArray)
  have hown : s.vm.findClass RX13 = some m.cls := findClass_of_methodNamed B.named
  have hlocks := B.notSynchronized
  have hS : va_S A s.heap s.heap [] := va_S.rf
  have hX13 := wc_X13 hKN.2.2 (([.ref a_mo, .int p1] : List Value).toArray)
  have hl := lv_entry ([.ref a_mo, .int p1]) (n := 3) (Nat.le_of_ble_eq_true rfl)
  rw [lg_entry_eq]
  generalize (lg_sl ([.ref a_mo, .int p1]) ++ List.replicate (3 - (lg_sl ([.ref a_mo, .int p1])).length) Slot.unset).toArray = ls at hl ⊢
  have hl : lv_has ls 3 [(0, .ref a_mo), (1, .int p1)] := hl
  unfold f_X13_back at h
  refine lv_aload_n hx hb dX13_back_0 rfl (lv_at hl 0 rfl) ?_
  refine lv_iconst (v := 0) hx hb dX13_back_1 (by decide) ?_
  refine va_put (D := D) (ci := 13) (C := RX13) (T := TX13) (N := 39) (v := .int 0) (ty := .int) hx hb hX13 (fun _ q => q) tyX13 tyX13_ok nmX13 hown hK hP hD hS 0 rfl rfl 0 (by decide) (hts (.fieldLink RX13 48 "ElephantLineModel" "thrown" "I") (by decide +kernel)) (fun _ h9 => h9) rfl (tyX13_ok 0 (by decide)) rfl rfl (Nat.le_of_ble_eq_true rfl) dX13_back_2 (fun H locs hP hD hS => ?_)
  refine lv_aload_n hx hb dX13_back_5 rfl (lv_at hl 0 rfl) ?_
  refine va_get (D := D) (ci := 13) (C := RX13) (T := TX13) (N := 39) (v := .ref a_wa) hx hb hX13 (fun _ q => q) hown hK hP 0 rfl rfl 3 (by decide) (hts (.fieldLink RX13 301 "ElephantLineModel" "war" "LElephantLineModel$War;") (by decide +kernel)) (fun _ h9 => h9) rfl dX13_back_6 ?_
  refine lv_ifnull hx hb dX13_back_9 ?_
  refine lv_iload_n hx hb dX13_back_12 rfl (lv_at hl 1 rfl) ?_
  have jn24 : f_X13_back_B24 mo_marks mo_kept 0 mo_trouble mo_where mo_acts mo_v = some (res, mo_thrown', mo_trouble', mo_where', mo_acts', mo_v') → ∀ (H : Heap) (locs : List Loc), va_P D vwCl ([(a_mo, .inr (13, [.int 0, .int mo_trouble, .int mo_where, .ref a_wa, mo_read, mo_tape, .int mo_taped, .int mo_size, .int mo_spot, .int mo_sort, .int mo_place, .int mo_number, .int mo_fault, .int mo_wrongAt, .int mo_laneTold, .long mo_word, .ref a_mo_v, mo_x, mo_past, .ref a_mo_kept, .int mo_acts, .int mo_marks, mo_put, mo_bestPut, .long mo_bestSum, mo_row, mo_best, mo_left, .int mo_bestSize, .int mo_bestLeft, mo_counts, .int mo_sets, .int mo_foeHarm, .int mo_ownHarm, .int mo_across, .int mo_sumFoe, .int mo_sumOwn, .int mo_sumWon, .int mo_sumAcross])), (a_mo_v, .inl (cy 1, 19, .inl mo_v)), (a_mo_kept, .inl (cy 1, 57, .inl mo_kept))] ++ X) H → va_D A ([(a_mo, .inr (13, [.int 0, .int mo_trouble, .int mo_where, .ref a_wa, mo_read, mo_tape, .int mo_taped, .int mo_size, .int mo_spot, .int mo_sort, .int mo_place, .int mo_number, .int mo_fault, .int mo_wrongAt, .int mo_laneTold, .long mo_word, .ref a_mo_v, mo_x, mo_past, .ref a_mo_kept, .int mo_acts, .int mo_marks, mo_put, mo_bestPut, .long mo_bestSum, mo_row, mo_best, mo_left, .int mo_bestSize, .int mo_bestLeft, mo_counts, .int mo_sets, .int mo_foeHarm, .int mo_ownHarm, .int mo_across, .int mo_sumFoe, .int mo_sumOwn, .int mo_sumWon, .int mo_sumAcross])), (a_mo_v, .inl (cy 1, 19, .inl mo_v)), (a_mo_kept, .inl (cy 1, 57, .inl mo_kept))] ++ X) → va_S A s.heap H locs → ∀ ls : Array Slot, lv_has ls 3 [(0, .ref a_mo)] → W p l e (headSpec wo_X13_back ({ frames := 2, cells := 0, slots := 0, locals := 42 })).room s m (([.ref a_mo, .int p1] : List Value).toArray) below meth c H locs 0 0 (MQ below (va_Qi (fun (r : Int32) (_ : Unit) => r = res ∧ nbv r) (wB D A ([(a_mo, .inr (13, [.int mo_thrown', .int mo_trouble', .int mo_where', .ref a_wa, mo_read, mo_tape, .int mo_taped, .int mo_size, .int mo_spot, .int mo_sort, .int mo_place, .int mo_number, .int mo_fault, .int mo_wrongAt, .int mo_laneTold, .long mo_word, .ref a_mo_v, mo_x, mo_past, .ref a_mo_kept, .int mo_acts', .int mo_marks, mo_put, mo_bestPut, .long mo_bestSum, mo_row, mo_best, mo_left, .int mo_bestSize, .int mo_bestLeft, mo_counts, .int mo_sets, .int mo_foeHarm, .int mo_ownHarm, .int mo_across, .int mo_sumFoe, .int mo_sumOwn, .int mo_sumWon, .int mo_sumAcross])), (a_mo_v, .inl (cy 1, 19, .inl mo_v')), (a_mo_kept, .inl (cy 1, 57, .inl mo_kept))] ++ X)) A) (([.ref a_mo, .int p1] : List Value).toArray) s 0 0 A) (F0 m 24 ls []) := by
    intro h H locs hP hD hS ls hl
    unfold f_X13_back_B24 at h
    refine lv_aload_n hx hb dX13_back_24 rfl (lv_at hl 0 rfl) ?_
    refine lv_iconst (v := 1) hx hb dX13_back_25 (by decide) ?_
    obtain ⟨r_1, mo_trouble_2, mo_where_3, hc_4, h⟩ := bd3_some h
    refine wVb [.int 1] [] ⟨hx, hb, hml, hown, hts⟩ (c_X13_denied l D cy A ([(a_mo_v, .inl (cy 1, 19, .inl mo_v)), (a_mo_kept, .inl (cy 1, 57, .inl mo_kept))] ++ X) a_mo 0 mo_trouble mo_where (.ref a_wa) (mo_read) (mo_tape) mo_taped mo_size mo_spot mo_sort mo_place mo_number mo_fault mo_wrongAt mo_laneTold mo_word (.ref a_mo_v) (mo_x) (mo_past) (.ref a_mo_kept) mo_acts mo_marks (mo_put) (mo_bestPut) mo_bestSum (mo_row) (mo_best) (mo_left) mo_bestSize mo_bestLeft (mo_counts) mo_sets mo_foeHarm mo_ownHarm mo_across mo_sumFoe mo_sumOwn mo_sumWon mo_sumAcross (1 : Int32) r_1 mo_trouble_2 mo_where_3 hc_4) gX13_back_X13_denied rfl hd_X13_denied ⟨Nat.le_of_ble_eq_true rfl, Nat.le_of_ble_eq_true rfl⟩ rfl rfl hKN (pX3 hP [0, 1, 2] rfl) (dX3 hD [0, 1, 2] rfl rfl) hS hA 13 0 rfl rfl rfl hl.1 rfl (Nat.le_of_ble_eq_true rfl) dX13_back_26 ⟨Nat.le_of_ble_eq_true rfl, Nat.le_of_ble_eq_true rfl⟩ (fun nb_5 H locs hP hD hS => ?_)
    have hP := pX4 (L1 := [(a_mo, .inr (13, [.int 0, .int mo_trouble_2, .int mo_where_3, .ref a_wa, mo_read, mo_tape, .int mo_taped, .int mo_size, .int mo_spot, .int mo_sort, .int mo_place, .int mo_number, .int mo_fault, .int mo_wrongAt, .int mo_laneTold, .long mo_word, .ref a_mo_v, mo_x, mo_past, .ref a_mo_kept, .int mo_acts, .int mo_marks, mo_put, mo_bestPut, .long mo_bestSum, mo_row, mo_best, mo_left, .int mo_bestSize, .int mo_bestLeft, mo_counts, .int mo_sets, .int mo_foeHarm, .int mo_ownHarm, .int mo_across, .int mo_sumFoe, .int mo_sumOwn, .int mo_sumWon, .int mo_sumAcross])), (a_mo_v, .inl (cy 1, 19, .inl mo_v)), (a_mo_kept, .inl (cy 1, 57, .inl mo_kept))]) hP [0, 1, 2] rfl
    have hD := dX4 (L1 := [(a_mo, .inr (13, [.int 0, .int mo_trouble_2, .int mo_where_3, .ref a_wa, mo_read, mo_tape, .int mo_taped, .int mo_size, .int mo_spot, .int mo_sort, .int mo_place, .int mo_number, .int mo_fault, .int mo_wrongAt, .int mo_laneTold, .long mo_word, .ref a_mo_v, mo_x, mo_past, .ref a_mo_kept, .int mo_acts, .int mo_marks, mo_put, mo_bestPut, .long mo_bestSum, mo_row, mo_best, mo_left, .int mo_bestSize, .int mo_bestLeft, mo_counts, .int mo_sets, .int mo_foeHarm, .int mo_ownHarm, .int mo_across, .int mo_sumFoe, .int mo_sumOwn, .int mo_sumWon, .int mo_sumAcross])), (a_mo_v, .inl (cy 1, 19, .inl mo_v)), (a_mo_kept, .inl (cy 1, 57, .inl mo_kept))]) hD [0, 1, 2] rfl rfl
    have h0 := Option.some.inj h
    clear h
    obtain ⟨e1, h1⟩ := pjP h0
    clear h0
    subst e1
    obtain ⟨e2, h2⟩ := pjP h1
    clear h1
    subst e2
    obtain ⟨e3, h3⟩ := pjP h2
    clear h2
    subst e3
    obtain ⟨e4, h4⟩ := pjP h3
    clear h3
    subst e4
    obtain ⟨e5, h5⟩ := pjP h4
    clear h4
    subst e5
    subst h5
    exact W.zret (ty := .boolean) hx hb hr (nbv.n nb_5) (fun t ht _ => ⟨⟨_, (), rfl, ⟨rfl, nb_5⟩, by rw [ht]; exact hP, hD⟩, hS.F ht⟩) hS.2.2 dX13_back_29
  refine lv_if_lt (tgt := 24) hx hb dX13_back_13 (by decide) (fun cd => ?_) (fun cd => ?_)
  · have h := ifT cd h
    exact jn24 h _ _ hP hD hS _ (lv_sub hl [0] rfl)
  · have h := ifF cd h
    refine lv_iload_n hx hb dX13_back_16 rfl (lv_at hl 1 rfl) ?_
    refine lv_aload_n hx hb dX13_back_17 rfl (lv_at hl 0 rfl) ?_
    refine va_get (D := D) (ci := 13) (C := RX13) (T := TX13) (N := 39) (v := .int mo_marks) hx hb hX13 (fun _ q => q) hown hK hP 0 rfl rfl 21 (by decide) (hts (.fieldLink RX13 307 "ElephantLineModel" "marks" "I") (by decide +kernel)) (fun _ h9 => h9) rfl dX13_back_18 ?_
    refine lv_icmp_lt (tgt := 30) hx hb dX13_back_21 (by decide) (fun cd => ?_) (fun cd => ?_)
    · have h := ifT cd h
      refine lv_iconst (v := 0) hx hb dX13_back_30 (by decide) ?_
      refine lv_istore_n (lv' := [(2, .int 0), (0, .ref a_mo), (1, .int p1)]) hx hb dX13_back_31 rfl hl (by decide) rfl (fun ls hl => ?_)
      have jn61 : ∀ (mo_v_6 : Nat → Int32), f_X13_back_B61 mo_marks mo_kept 0 mo_trouble mo_where mo_acts mo_v_6 = some (res, mo_thrown', mo_trouble', mo_where', mo_acts', mo_v') → ∀ (H : Heap) (locs : List Loc), va_P D vwCl ([(a_mo, .inr (13, [.int 0, .int mo_trouble, .int mo_where, .ref a_wa, mo_read, mo_tape, .int mo_taped, .int mo_size, .int mo_spot, .int mo_sort, .int mo_place, .int mo_number, .int mo_fault, .int mo_wrongAt, .int mo_laneTold, .long mo_word, .ref a_mo_v, mo_x, mo_past, .ref a_mo_kept, .int mo_acts, .int mo_marks, mo_put, mo_bestPut, .long mo_bestSum, mo_row, mo_best, mo_left, .int mo_bestSize, .int mo_bestLeft, mo_counts, .int mo_sets, .int mo_foeHarm, .int mo_ownHarm, .int mo_across, .int mo_sumFoe, .int mo_sumOwn, .int mo_sumWon, .int mo_sumAcross])), (a_mo_v, .inl (cy 1, 19, .inl mo_v_6)), (a_mo_kept, .inl (cy 1, 57, .inl mo_kept))] ++ X) H → va_D A ([(a_mo, .inr (13, [.int 0, .int mo_trouble, .int mo_where, .ref a_wa, mo_read, mo_tape, .int mo_taped, .int mo_size, .int mo_spot, .int mo_sort, .int mo_place, .int mo_number, .int mo_fault, .int mo_wrongAt, .int mo_laneTold, .long mo_word, .ref a_mo_v, mo_x, mo_past, .ref a_mo_kept, .int mo_acts, .int mo_marks, mo_put, mo_bestPut, .long mo_bestSum, mo_row, mo_best, mo_left, .int mo_bestSize, .int mo_bestLeft, mo_counts, .int mo_sets, .int mo_foeHarm, .int mo_ownHarm, .int mo_across, .int mo_sumFoe, .int mo_sumOwn, .int mo_sumWon, .int mo_sumAcross])), (a_mo_v, .inl (cy 1, 19, .inl mo_v_6)), (a_mo_kept, .inl (cy 1, 57, .inl mo_kept))] ++ X) → va_S A s.heap H locs → ∀ ls : Array Slot, lv_has ls 3 [(0, .ref a_mo)] → W p l e (headSpec wo_X13_back ({ frames := 2, cells := 0, slots := 0, locals := 42 })).room s m (([.ref a_mo, .int p1] : List Value).toArray) below meth c H locs 0 0 (MQ below (va_Qi (fun (r : Int32) (_ : Unit) => r = res ∧ nbv r) (wB D A ([(a_mo, .inr (13, [.int mo_thrown', .int mo_trouble', .int mo_where', .ref a_wa, mo_read, mo_tape, .int mo_taped, .int mo_size, .int mo_spot, .int mo_sort, .int mo_place, .int mo_number, .int mo_fault, .int mo_wrongAt, .int mo_laneTold, .long mo_word, .ref a_mo_v, mo_x, mo_past, .ref a_mo_kept, .int mo_acts', .int mo_marks, mo_put, mo_bestPut, .long mo_bestSum, mo_row, mo_best, mo_left, .int mo_bestSize, .int mo_bestLeft, mo_counts, .int mo_sets, .int mo_foeHarm, .int mo_ownHarm, .int mo_across, .int mo_sumFoe, .int mo_sumOwn, .int mo_sumWon, .int mo_sumAcross])), (a_mo_v, .inl (cy 1, 19, .inl mo_v')), (a_mo_kept, .inl (cy 1, 57, .inl mo_kept))] ++ X)) A) (([.ref a_mo, .int p1] : List Value).toArray) s 0 0 A) (F0 m 61 ls []) := by
        intro mo_v_6 h H locs hP hD hS ls hl
        unfold f_X13_back_B61 at h
        refine lv_aload_n hx hb dX13_back_61 rfl (lv_at hl 0 rfl) ?_
        refine lv_iconst (v := 0) hx hb dX13_back_62 (by decide) ?_
        refine va_put (D := D) (ci := 13) (C := RX13) (T := TX13) (N := 39) (v := .int 0) (ty := .int) hx hb hX13 (fun _ q => q) tyX13 tyX13_ok nmX13 hown hK hP hD hS 0 rfl rfl 20 (by decide) (hts (.fieldLink RX13 304 "ElephantLineModel" "acts" "I") (by decide +kernel)) (fun _ h9 => h9) rfl (tyX13_ok 20 (by decide)) rfl rfl (Nat.le_of_ble_eq_true rfl) dX13_back_63 (fun H locs hP hD hS => ?_)
        refine lv_aload_n hx hb dX13_back_66 rfl (lv_at hl 0 rfl) ?_
        have hP : va_P D vwCl ([(a_mo, .inr (13, [.int 0, .int mo_trouble, .int mo_where, .ref a_wa, mo_read, mo_tape, .int mo_taped, .int mo_size, .int mo_spot, .int mo_sort, .int mo_place, .int mo_number, .int mo_fault, .int mo_wrongAt, .int mo_laneTold, .long mo_word, .ref a_mo_v, mo_x, mo_past, .ref a_mo_kept, .int 0, .int mo_marks, mo_put, mo_bestPut, .long mo_bestSum, mo_row, mo_best, mo_left, .int mo_bestSize, .int mo_bestLeft, mo_counts, .int mo_sets, .int mo_foeHarm, .int mo_ownHarm, .int mo_across, .int mo_sumFoe, .int mo_sumOwn, .int mo_sumWon, .int mo_sumAcross])), (a_mo_v, .inl (cy 1, 19, .inl mo_v_6)), (a_mo_kept, .inl (cy 1, 57, .inl mo_kept))] ++ X) H := hP
        have hD : va_D A ([(a_mo, .inr (13, [.int 0, .int mo_trouble, .int mo_where, .ref a_wa, mo_read, mo_tape, .int mo_taped, .int mo_size, .int mo_spot, .int mo_sort, .int mo_place, .int mo_number, .int mo_fault, .int mo_wrongAt, .int mo_laneTold, .long mo_word, .ref a_mo_v, mo_x, mo_past, .ref a_mo_kept, .int 0, .int mo_marks, mo_put, mo_bestPut, .long mo_bestSum, mo_row, mo_best, mo_left, .int mo_bestSize, .int mo_bestLeft, mo_counts, .int mo_sets, .int mo_foeHarm, .int mo_ownHarm, .int mo_across, .int mo_sumFoe, .int mo_sumOwn, .int mo_sumWon, .int mo_sumAcross])), (a_mo_v, .inl (cy 1, 19, .inl mo_v_6)), (a_mo_kept, .inl (cy 1, 57, .inl mo_kept))] ++ X) := hD
        obtain ⟨r_7, mo_trouble_8, mo_where_9, hc_10, h⟩ := bd3_some h
        refine wVb [] [] ⟨hx, hb, hml, hown, hts⟩ (c_X13_granted l D cy A ([(a_mo_v, .inl (cy 1, 19, .inl mo_v_6)), (a_mo_kept, .inl (cy 1, 57, .inl mo_kept))] ++ X) a_mo 0 mo_trouble mo_where (.ref a_wa) (mo_read) (mo_tape) mo_taped mo_size mo_spot mo_sort mo_place mo_number mo_fault mo_wrongAt mo_laneTold mo_word (.ref a_mo_v) (mo_x) (mo_past) (.ref a_mo_kept) 0 mo_marks (mo_put) (mo_bestPut) mo_bestSum (mo_row) (mo_best) (mo_left) mo_bestSize mo_bestLeft (mo_counts) mo_sets mo_foeHarm mo_ownHarm mo_across mo_sumFoe mo_sumOwn mo_sumWon mo_sumAcross r_7 mo_trouble_8 mo_where_9 hc_10) gX13_back_X13_granted rfl hd_X13_granted ⟨Nat.le_of_ble_eq_true rfl, Nat.le_of_ble_eq_true rfl⟩ rfl rfl hKN (pX3 hP [0, 1, 2] rfl) (dX3 hD [0, 1, 2] rfl rfl) hS hA 13 0 rfl rfl rfl hl.1 rfl (Nat.le_of_ble_eq_true rfl) dX13_back_67 ⟨Nat.le_of_ble_eq_true rfl, Nat.le_of_ble_eq_true rfl⟩ (fun nb_11 H locs hP hD hS => ?_)
        have hP := pX4 (L1 := [(a_mo, .inr (13, [.int 0, .int mo_trouble_8, .int mo_where_9, .ref a_wa, mo_read, mo_tape, .int mo_taped, .int mo_size, .int mo_spot, .int mo_sort, .int mo_place, .int mo_number, .int mo_fault, .int mo_wrongAt, .int mo_laneTold, .long mo_word, .ref a_mo_v, mo_x, mo_past, .ref a_mo_kept, .int 0, .int mo_marks, mo_put, mo_bestPut, .long mo_bestSum, mo_row, mo_best, mo_left, .int mo_bestSize, .int mo_bestLeft, mo_counts, .int mo_sets, .int mo_foeHarm, .int mo_ownHarm, .int mo_across, .int mo_sumFoe, .int mo_sumOwn, .int mo_sumWon, .int mo_sumAcross])), (a_mo_v, .inl (cy 1, 19, .inl mo_v_6)), (a_mo_kept, .inl (cy 1, 57, .inl mo_kept))]) hP [0, 1, 2] rfl
        have hD := dX4 (L1 := [(a_mo, .inr (13, [.int 0, .int mo_trouble_8, .int mo_where_9, .ref a_wa, mo_read, mo_tape, .int mo_taped, .int mo_size, .int mo_spot, .int mo_sort, .int mo_place, .int mo_number, .int mo_fault, .int mo_wrongAt, .int mo_laneTold, .long mo_word, .ref a_mo_v, mo_x, mo_past, .ref a_mo_kept, .int 0, .int mo_marks, mo_put, mo_bestPut, .long mo_bestSum, mo_row, mo_best, mo_left, .int mo_bestSize, .int mo_bestLeft, mo_counts, .int mo_sets, .int mo_foeHarm, .int mo_ownHarm, .int mo_across, .int mo_sumFoe, .int mo_sumOwn, .int mo_sumWon, .int mo_sumAcross])), (a_mo_v, .inl (cy 1, 19, .inl mo_v_6)), (a_mo_kept, .inl (cy 1, 57, .inl mo_kept))]) hD [0, 1, 2] rfl rfl
        have h0 := Option.some.inj h
        clear h
        obtain ⟨e1, h1⟩ := pjP h0
        clear h0
        subst e1
        obtain ⟨e2, h2⟩ := pjP h1
        clear h1
        subst e2
        obtain ⟨e3, h3⟩ := pjP h2
        clear h2
        subst e3
        obtain ⟨e4, h4⟩ := pjP h3
        clear h3
        subst e4
        obtain ⟨e5, h5⟩ := pjP h4
        clear h4
        subst e5
        subst h5
        exact W.zret (ty := .boolean) hx hb hr (nbv.n nb_11) (fun t ht _ => ⟨⟨_, (), rfl, ⟨rfl, nb_11⟩, by rw [ht]; exact hP, hD⟩, hS.F ht⟩) hS.2.2 dX13_back_70
      have lp32 : ∀ (n32 : Nat) (x2_12 : Int32) (mo_v_13 : Nat → Int32), f_X13_back_L32 mo_marks mo_kept p1 0 mo_trouble mo_where mo_acts n32 x2_12 mo_v_13 = some (res, mo_thrown', mo_trouble', mo_where', mo_acts', mo_v') → ∀ (H : Heap) (locs : List Loc), va_P D vwCl ([(a_mo, .inr (13, [.int 0, .int mo_trouble, .int mo_where, .ref a_wa, mo_read, mo_tape, .int mo_taped, .int mo_size, .int mo_spot, .int mo_sort, .int mo_place, .int mo_number, .int mo_fault, .int mo_wrongAt, .int mo_laneTold, .long mo_word, .ref a_mo_v, mo_x, mo_past, .ref a_mo_kept, .int mo_acts, .int mo_marks, mo_put, mo_bestPut, .long mo_bestSum, mo_row, mo_best, mo_left, .int mo_bestSize, .int mo_bestLeft, mo_counts, .int mo_sets, .int mo_foeHarm, .int mo_ownHarm, .int mo_across, .int mo_sumFoe, .int mo_sumOwn, .int mo_sumWon, .int mo_sumAcross])), (a_mo_v, .inl (cy 1, 19, .inl mo_v_13)), (a_mo_kept, .inl (cy 1, 57, .inl mo_kept))] ++ X) H → va_D A ([(a_mo, .inr (13, [.int 0, .int mo_trouble, .int mo_where, .ref a_wa, mo_read, mo_tape, .int mo_taped, .int mo_size, .int mo_spot, .int mo_sort, .int mo_place, .int mo_number, .int mo_fault, .int mo_wrongAt, .int mo_laneTold, .long mo_word, .ref a_mo_v, mo_x, mo_past, .ref a_mo_kept, .int mo_acts, .int mo_marks, mo_put, mo_bestPut, .long mo_bestSum, mo_row, mo_best, mo_left, .int mo_bestSize, .int mo_bestLeft, mo_counts, .int mo_sets, .int mo_foeHarm, .int mo_ownHarm, .int mo_across, .int mo_sumFoe, .int mo_sumOwn, .int mo_sumWon, .int mo_sumAcross])), (a_mo_v, .inl (cy 1, 19, .inl mo_v_13)), (a_mo_kept, .inl (cy 1, 57, .inl mo_kept))] ++ X) → va_S A s.heap H locs → ∀ ls : Array Slot, lv_has ls 3 [(0, .ref a_mo), (1, .int p1), (2, .int x2_12)] → W p l e (headSpec wo_X13_back ({ frames := 2, cells := 0, slots := 0, locals := 42 })).room s m (([.ref a_mo, .int p1] : List Value).toArray) below meth c H locs 0 0 (MQ below (va_Qi (fun (r : Int32) (_ : Unit) => r = res ∧ nbv r) (wB D A ([(a_mo, .inr (13, [.int mo_thrown', .int mo_trouble', .int mo_where', .ref a_wa, mo_read, mo_tape, .int mo_taped, .int mo_size, .int mo_spot, .int mo_sort, .int mo_place, .int mo_number, .int mo_fault, .int mo_wrongAt, .int mo_laneTold, .long mo_word, .ref a_mo_v, mo_x, mo_past, .ref a_mo_kept, .int mo_acts', .int mo_marks, mo_put, mo_bestPut, .long mo_bestSum, mo_row, mo_best, mo_left, .int mo_bestSize, .int mo_bestLeft, mo_counts, .int mo_sets, .int mo_foeHarm, .int mo_ownHarm, .int mo_across, .int mo_sumFoe, .int mo_sumOwn, .int mo_sumWon, .int mo_sumAcross])), (a_mo_v, .inl (cy 1, 19, .inl mo_v')), (a_mo_kept, .inl (cy 1, 57, .inl mo_kept))] ++ X)) A) (([.ref a_mo, .int p1] : List Value).toArray) s 0 0 A) (F0 m 32 ls []) := by
        intro n32
        induction n32 with
        | zero => intro x2_12 mo_v_13 h; exact absurd (show (none : Option (Int32 × Int32 × Int32 × Int32 × Int32 × (Nat → Int32))) = some _ from h) (by intro q; cases q)
        | succ n32 ih32 =>
          intro x2_12 mo_v_13 h H locs hP hD hS ls hl
          have h : f_X13_back_b32 mo_marks mo_kept p1 0 mo_trouble mo_where mo_acts (f_X13_back_L32 mo_marks mo_kept p1 0 mo_trouble mo_where mo_acts n32) x2_12 mo_v_13 = some (res, mo_thrown', mo_trouble', mo_where', mo_acts', mo_v') := h
          unfold f_X13_back_b32 at h
          refine lv_iload_n hx hb dX13_back_32 rfl (lv_at hl 2 rfl) ?_
          refine lv_bipush (v := 19) hx hb dX13_back_33 (by decide) ?_
          refine lv_icmp_ge (tgt := 61) hx hb dX13_back_35 (by decide) (fun cd => ?_) (fun cd => ?_)
          · have h := ifT cd h
            exact jn61 mo_v_13 h _ _ hP hD hS _ (lv_sub hl [0] rfl)
          · have h := ifF cd h
            refine lv_aload_n hx hb dX13_back_38 rfl (lv_at hl 0 rfl) ?_
            refine va_get (D := D) (ci := 13) (C := RX13) (T := TX13) (N := 39) (v := .ref a_mo_v) hx hb hX13 (fun _ q => q) hown hK hP 0 rfl rfl 16 (by decide) (hts (.fieldLink RX13 17 "ElephantLineModel" "v" "[I") (by decide +kernel)) (fun _ h9 => h9) rfl dX13_back_39 ?_
            refine lv_iload_n hx hb dX13_back_42 rfl (lv_at hl 2 rfl) ?_
            refine lv_aload_n hx hb dX13_back_43 rfl (lv_at hl 0 rfl) ?_
            refine va_get (D := D) (ci := 13) (C := RX13) (T := TX13) (N := 39) (v := .ref a_mo_kept) hx hb hX13 (fun _ q => q) hown hK hP 0 rfl rfl 19 (by decide) (hts (.fieldLink RX13 27 "ElephantLineModel" "kept" "[I") (by decide +kernel)) (fun _ h9 => h9) rfl dX13_back_44 ?_
            refine lv_bipush (v := 19) hx hb dX13_back_47 (by decide) ?_
            refine lv_iload_n hx hb dX13_back_49 rfl (lv_at hl 1 rfl) ?_
            refine lv_imul hx hb dX13_back_50 ?_
            refine lv_iload_n hx hb dX13_back_51 rfl (lv_at hl 2 rfl) ?_
            refine lv_iadd hx hb dX13_back_52 ?_
            obtain ⟨i_14, h⟩ := gIn_some h
            refine va_iald hx hb hK hP 2 1 rfl rfl i_14 dX13_back_53 ?_
            obtain ⟨i_15, h⟩ := gIn_some h
            refine va_iast hx hb hK hP hD hS 1 1 rfl rfl i_15 dX13_back_54 (fun H locs hP hD hS => ?_)
            refine lv_iinc (v := x2_12 + 1) (lv' := [(2, .int (x2_12 + 1)), (0, .ref a_mo), (1, .int p1)]) hx hb dX13_back_55 hl (k := 2) rfl (by first | rfl | decide) (by decide) rfl (fun ls hl => ?_)
            refine lv_goto (tgt := 32) hx hb dX13_back_58 (by decide) ?_
            exact ih32 (x2_12 + 1) (upd mo_v_13 x2_12.toNatClampNeg (mo_kept ((19 * p1) + x2_12).toNatClampNeg)) h _ _ hP hD hS _ (lv_sub hl [1, 2, 0] rfl)
      exact lp32 fuelN (0 : Int32) mo_v h _ _ hP hD hS _ (lv_sub hl [1, 2, 0] rfl)
    · have h := ifF cd h
      exact jn24 h _ _ hP hD hS _ (lv_sub hl [0] rfl)
theorem hd_X13_led : yX13_led.cls = RX13 ∧ yX13_led.cls ≠ "java/lang/invoke/MethodHandle" ∧ yX13_led.cls ≠ "java/lang/invoke/VarHandle" ∧ (parseMethodDescriptor yX13_led.desc).map (fun d => d.parameters.length) = some 1 := by decide +kernel
set_option maxHeartbeats 4000000 in
set_option maxRecDepth 100000 in
theorem c_X13_led (l : Launch) (D : va_G) (cy : Nat → ClassId) (A : Nat → Prop) (X : va_W) (a_mo a_mo_v a_wa : Nat) (mo_thrown : Int32) (mo_trouble : Int32) (mo_where : Int32) (mo_read : Value) (mo_tape : Value) (mo_taped : Int32) (mo_size : Int32) (mo_spot : Int32) (mo_sort : Int32) (mo_place : Int32) (mo_number : Int32) (mo_fault : Int32) (mo_wrongAt : Int32) (mo_laneTold : Int32) (mo_word : Int64) (mo_x : Value) (mo_past : Value) (mo_kept : Value) (mo_acts : Int32) (mo_marks : Int32) (mo_put : Value) (mo_bestPut : Value) (mo_bestSum : Int64) (mo_row : Value) (mo_best : Value) (mo_left : Value) (mo_bestSize : Int32) (mo_bestLeft : Int32) (mo_counts : Value) (mo_sets : Int32) (mo_foeHarm : Int32) (mo_ownHarm : Int32) (mo_across : Int32) (mo_sumFoe : Int32) (mo_sumOwn : Int32) (mo_sumWon : Int32) (mo_sumAcross : Int32) (mo_v : Nat → Int32) (wa_lanes : Int32) (wa_deep : Int32) (wa_told : Int32) (wa_beasts : Int32) (wa_cities : Int32) (wa_passes : Int32) (wa_turned : Int32) (wa_names : Int32) (wa_who : Value) (wa_strong : Value) (wa_kind : Value) (wa_lane : Value) (wa_mood : Value) (wa_price : Value) (wa_loses : Value) (wa_name : Value) (wa_nameSort : Value) (wa_numberOf : Value) (p1 : Int32) (res : Int32) (mo_thrown' : Int32) (h : f_X13_led mo_thrown mo_v wa_beasts p1 = some (res, mo_thrown')) : Met l yX13_led wo_X13_led ({ frames := 2, cells := 0, slots := 0, locals := 42 }) (wrPc D cy A [.ref a_mo, .int p1] ([(a_mo, .inr (13, [.int mo_thrown, .int mo_trouble, .int mo_where, .ref a_wa, mo_read, mo_tape, .int mo_taped, .int mo_size, .int mo_spot, .int mo_sort, .int mo_place, .int mo_number, .int mo_fault, .int mo_wrongAt, .int mo_laneTold, .long mo_word, .ref a_mo_v, mo_x, mo_past, mo_kept, .int mo_acts, .int mo_marks, mo_put, mo_bestPut, .long mo_bestSum, mo_row, mo_best, mo_left, .int mo_bestSize, .int mo_bestLeft, mo_counts, .int mo_sets, .int mo_foeHarm, .int mo_ownHarm, .int mo_across, .int mo_sumFoe, .int mo_sumOwn, .int mo_sumWon, .int mo_sumAcross])), (a_mo_v, .inl (cy 1, 19, .inl mo_v)), (a_wa, .inr (12, [.int wa_lanes, .int wa_deep, .int wa_told, .int wa_beasts, .int wa_cities, .int wa_passes, .int wa_turned, .int wa_names, wa_who, wa_strong, wa_kind, wa_lane, wa_mood, wa_price, wa_loses, wa_name, wa_nameSort, wa_numberOf]))] ++ X)) (va_Qi (fun (r : Int32) (_ : Unit) => r = res) (wB D A ([(a_mo, .inr (13, [.int mo_thrown', .int mo_trouble, .int mo_where, .ref a_wa, mo_read, mo_tape, .int mo_taped, .int mo_size, .int mo_spot, .int mo_sort, .int mo_place, .int mo_number, .int mo_fault, .int mo_wrongAt, .int mo_laneTold, .long mo_word, .ref a_mo_v, mo_x, mo_past, mo_kept, .int mo_acts, .int mo_marks, mo_put, mo_bestPut, .long mo_bestSum, mo_row, mo_best, mo_left, .int mo_bestSize, .int mo_bestLeft, mo_counts, .int mo_sets, .int mo_foeHarm, .int mo_ownHarm, .int mo_across, .int mo_sumFoe, .int mo_sumOwn, .int mo_sumWon, .int mo_sumAcross])), (a_mo_v, .inl (cy 1, 19, .inl mo_v)), (a_wa, .inr (12, [.int wa_lanes, .int wa_deep, .int wa_told, .int wa_beasts, .int wa_cities, .int wa_passes, .int wa_turned, .int wa_names, wa_who, wa_strong, wa_kind, wa_lane, wa_mood, wa_price, wa_loses, wa_name, wa_nameSort, wa_numberOf]))] ++ X)) A) 0 0 A := by
  refine Met.ofW (cc := cX13_led) (maxL := 4) (ret := (some .int)) (by decide) rfl ?_
  intro p e s m args below meth c s₁ B hml hv
  obtain ⟨rfl, hP, hKN, hD, hA⟩ := hv
  have hK := hKN.1
  have hx := B.exec
  have hb := B.bytes
  have hr := B.returns
  have hts := wt_X13_led hKN.2.2 (([.ref a_mo, .int p1] : List Value).toArray)
  have hown : s.vm.findClass RX13 = some m.cls := findClass_of_methodNamed B.named
  have hlocks := B.notSynchronized
  have hS : va_S A s.heap s.heap [] := va_S.rf
  have hX12 := wc_X12 hKN.2.2 (([.ref a_mo, .int p1] : List Value).toArray)
  have hX13 := wc_X13 hKN.2.2 (([.ref a_mo, .int p1] : List Value).toArray)
  have hl := lv_entry ([.ref a_mo, .int p1]) (n := 4) (Nat.le_of_ble_eq_true rfl)
  rw [lg_entry_eq]
  generalize (lg_sl ([.ref a_mo, .int p1]) ++ List.replicate (4 - (lg_sl ([.ref a_mo, .int p1])).length) Slot.unset).toArray = ls at hl ⊢
  have hl : lv_has ls 4 [(0, .ref a_mo), (1, .int p1)] := hl
  unfold f_X13_led at h
  refine lv_aload_n hx hb dX13_led_0 rfl (lv_at hl 0 rfl) ?_
  refine lv_iconst (v := 0) hx hb dX13_led_1 (by decide) ?_
  refine va_put (D := D) (ci := 13) (C := RX13) (T := TX13) (N := 39) (v := .int 0) (ty := .int) hx hb hX13 (fun _ q => q) tyX13 tyX13_ok nmX13 hown hK hP hD hS 0 rfl rfl 0 (by decide) (hts (.fieldLink RX13 48 "ElephantLineModel" "thrown" "I") (by decide +kernel)) (fun _ h9 => h9) rfl (tyX13_ok 0 (by decide)) rfl rfl (Nat.le_of_ble_eq_true rfl) dX13_led_2 (fun H locs hP hD hS => ?_)
  refine lv_iconst (v := 0) hx hb dX13_led_5 (by decide) ?_
  refine lv_istore_n (lv' := [(2, .int 0), (0, .ref a_mo), (1, .int p1)]) hx hb dX13_led_6 rfl hl (by decide) rfl (fun ls hl => ?_)
  refine lv_iconst (v := 0) hx hb dX13_led_7 (by decide) ?_
  refine lv_istore_n (lv' := [(3, .int 0), (2, .int 0), (0, .ref a_mo), (1, .int p1)]) hx hb dX13_led_8 rfl hl (by decide) rfl (fun ls hl => ?_)
  have jn54 : f_X13_led_B54 mo_v wa_beasts 0 = some (res, mo_thrown') → ∀ (H : Heap) (locs : List Loc), va_P D vwCl ([(a_mo, .inr (13, [.int 0, .int mo_trouble, .int mo_where, .ref a_wa, mo_read, mo_tape, .int mo_taped, .int mo_size, .int mo_spot, .int mo_sort, .int mo_place, .int mo_number, .int mo_fault, .int mo_wrongAt, .int mo_laneTold, .long mo_word, .ref a_mo_v, mo_x, mo_past, mo_kept, .int mo_acts, .int mo_marks, mo_put, mo_bestPut, .long mo_bestSum, mo_row, mo_best, mo_left, .int mo_bestSize, .int mo_bestLeft, mo_counts, .int mo_sets, .int mo_foeHarm, .int mo_ownHarm, .int mo_across, .int mo_sumFoe, .int mo_sumOwn, .int mo_sumWon, .int mo_sumAcross])), (a_mo_v, .inl (cy 1, 19, .inl mo_v)), (a_wa, .inr (12, [.int wa_lanes, .int wa_deep, .int wa_told, .int wa_beasts, .int wa_cities, .int wa_passes, .int wa_turned, .int wa_names, wa_who, wa_strong, wa_kind, wa_lane, wa_mood, wa_price, wa_loses, wa_name, wa_nameSort, wa_numberOf]))] ++ X) H → va_D A ([(a_mo, .inr (13, [.int 0, .int mo_trouble, .int mo_where, .ref a_wa, mo_read, mo_tape, .int mo_taped, .int mo_size, .int mo_spot, .int mo_sort, .int mo_place, .int mo_number, .int mo_fault, .int mo_wrongAt, .int mo_laneTold, .long mo_word, .ref a_mo_v, mo_x, mo_past, mo_kept, .int mo_acts, .int mo_marks, mo_put, mo_bestPut, .long mo_bestSum, mo_row, mo_best, mo_left, .int mo_bestSize, .int mo_bestLeft, mo_counts, .int mo_sets, .int mo_foeHarm, .int mo_ownHarm, .int mo_across, .int mo_sumFoe, .int mo_sumOwn, .int mo_sumWon, .int mo_sumAcross])), (a_mo_v, .inl (cy 1, 19, .inl mo_v)), (a_wa, .inr (12, [.int wa_lanes, .int wa_deep, .int wa_told, .int wa_beasts, .int wa_cities, .int wa_passes, .int wa_turned, .int wa_names, wa_who, wa_strong, wa_kind, wa_lane, wa_mood, wa_price, wa_loses, wa_name, wa_nameSort, wa_numberOf]))] ++ X) → va_S A s.heap H locs → ∀ ls : Array Slot, lv_has ls 4 [(0, .ref a_mo)] → W p l e (headSpec wo_X13_led ({ frames := 2, cells := 0, slots := 0, locals := 42 })).room s m (([.ref a_mo, .int p1] : List Value).toArray) below meth c H locs 0 0 (MQ below (va_Qi (fun (r : Int32) (_ : Unit) => r = res) (wB D A ([(a_mo, .inr (13, [.int mo_thrown', .int mo_trouble, .int mo_where, .ref a_wa, mo_read, mo_tape, .int mo_taped, .int mo_size, .int mo_spot, .int mo_sort, .int mo_place, .int mo_number, .int mo_fault, .int mo_wrongAt, .int mo_laneTold, .long mo_word, .ref a_mo_v, mo_x, mo_past, mo_kept, .int mo_acts, .int mo_marks, mo_put, mo_bestPut, .long mo_bestSum, mo_row, mo_best, mo_left, .int mo_bestSize, .int mo_bestLeft, mo_counts, .int mo_sets, .int mo_foeHarm, .int mo_ownHarm, .int mo_across, .int mo_sumFoe, .int mo_sumOwn, .int mo_sumWon, .int mo_sumAcross])), (a_mo_v, .inl (cy 1, 19, .inl mo_v)), (a_wa, .inr (12, [.int wa_lanes, .int wa_deep, .int wa_told, .int wa_beasts, .int wa_cities, .int wa_passes, .int wa_turned, .int wa_names, wa_who, wa_strong, wa_kind, wa_lane, wa_mood, wa_price, wa_loses, wa_name, wa_nameSort, wa_numberOf]))] ++ X)) A) (([.ref a_mo, .int p1] : List Value).toArray) s 0 0 A) (F0 m 54 ls []) := by
    intro h H locs hP hD hS ls hl
    unfold f_X13_led_B54 at h
    refine lv_aload_n hx hb dX13_led_54 rfl (lv_at hl 0 rfl) ?_
    refine lv_iconst (v := 1) hx hb dX13_led_55 (by decide) ?_
    refine va_put (D := D) (ci := 13) (C := RX13) (T := TX13) (N := 39) (v := .int 1) (ty := .int) hx hb hX13 (fun _ q => q) tyX13 tyX13_ok nmX13 hown hK hP hD hS 0 rfl rfl 0 (by decide) (hts (.fieldLink RX13 48 "ElephantLineModel" "thrown" "I") (by decide +kernel)) (fun _ h9 => h9) rfl (tyX13_ok 0 (by decide)) rfl rfl (Nat.le_of_ble_eq_true rfl) dX13_led_56 (fun H locs hP hD hS => ?_)
    refine lv_iconst (v := 0) hx hb dX13_led_59 (by decide) ?_
    cases h
    exact W.iret hx hb hr (fun t ht _ => ⟨⟨_, (), rfl, rfl, by rw [ht]; exact hP, hD⟩, hS.F ht⟩) hS.2.2 dX13_led_60
  have lp9 : ∀ (n9 : Nat) (x2_1 : Int32) (x3_2 : Int32), f_X13_led_L9 mo_v wa_beasts p1 0 n9 x2_1 x3_2 = some (res, mo_thrown') → ∀ (H : Heap) (locs : List Loc), va_P D vwCl ([(a_mo, .inr (13, [.int 0, .int mo_trouble, .int mo_where, .ref a_wa, mo_read, mo_tape, .int mo_taped, .int mo_size, .int mo_spot, .int mo_sort, .int mo_place, .int mo_number, .int mo_fault, .int mo_wrongAt, .int mo_laneTold, .long mo_word, .ref a_mo_v, mo_x, mo_past, mo_kept, .int mo_acts, .int mo_marks, mo_put, mo_bestPut, .long mo_bestSum, mo_row, mo_best, mo_left, .int mo_bestSize, .int mo_bestLeft, mo_counts, .int mo_sets, .int mo_foeHarm, .int mo_ownHarm, .int mo_across, .int mo_sumFoe, .int mo_sumOwn, .int mo_sumWon, .int mo_sumAcross])), (a_mo_v, .inl (cy 1, 19, .inl mo_v)), (a_wa, .inr (12, [.int wa_lanes, .int wa_deep, .int wa_told, .int wa_beasts, .int wa_cities, .int wa_passes, .int wa_turned, .int wa_names, wa_who, wa_strong, wa_kind, wa_lane, wa_mood, wa_price, wa_loses, wa_name, wa_nameSort, wa_numberOf]))] ++ X) H → va_D A ([(a_mo, .inr (13, [.int 0, .int mo_trouble, .int mo_where, .ref a_wa, mo_read, mo_tape, .int mo_taped, .int mo_size, .int mo_spot, .int mo_sort, .int mo_place, .int mo_number, .int mo_fault, .int mo_wrongAt, .int mo_laneTold, .long mo_word, .ref a_mo_v, mo_x, mo_past, mo_kept, .int mo_acts, .int mo_marks, mo_put, mo_bestPut, .long mo_bestSum, mo_row, mo_best, mo_left, .int mo_bestSize, .int mo_bestLeft, mo_counts, .int mo_sets, .int mo_foeHarm, .int mo_ownHarm, .int mo_across, .int mo_sumFoe, .int mo_sumOwn, .int mo_sumWon, .int mo_sumAcross])), (a_mo_v, .inl (cy 1, 19, .inl mo_v)), (a_wa, .inr (12, [.int wa_lanes, .int wa_deep, .int wa_told, .int wa_beasts, .int wa_cities, .int wa_passes, .int wa_turned, .int wa_names, wa_who, wa_strong, wa_kind, wa_lane, wa_mood, wa_price, wa_loses, wa_name, wa_nameSort, wa_numberOf]))] ++ X) → va_S A s.heap H locs → ∀ ls : Array Slot, lv_has ls 4 [(0, .ref a_mo), (1, .int p1), (2, .int x2_1), (3, .int x3_2)] → W p l e (headSpec wo_X13_led ({ frames := 2, cells := 0, slots := 0, locals := 42 })).room s m (([.ref a_mo, .int p1] : List Value).toArray) below meth c H locs 0 0 (MQ below (va_Qi (fun (r : Int32) (_ : Unit) => r = res) (wB D A ([(a_mo, .inr (13, [.int mo_thrown', .int mo_trouble, .int mo_where, .ref a_wa, mo_read, mo_tape, .int mo_taped, .int mo_size, .int mo_spot, .int mo_sort, .int mo_place, .int mo_number, .int mo_fault, .int mo_wrongAt, .int mo_laneTold, .long mo_word, .ref a_mo_v, mo_x, mo_past, mo_kept, .int mo_acts, .int mo_marks, mo_put, mo_bestPut, .long mo_bestSum, mo_row, mo_best, mo_left, .int mo_bestSize, .int mo_bestLeft, mo_counts, .int mo_sets, .int mo_foeHarm, .int mo_ownHarm, .int mo_across, .int mo_sumFoe, .int mo_sumOwn, .int mo_sumWon, .int mo_sumAcross])), (a_mo_v, .inl (cy 1, 19, .inl mo_v)), (a_wa, .inr (12, [.int wa_lanes, .int wa_deep, .int wa_told, .int wa_beasts, .int wa_cities, .int wa_passes, .int wa_turned, .int wa_names, wa_who, wa_strong, wa_kind, wa_lane, wa_mood, wa_price, wa_loses, wa_name, wa_nameSort, wa_numberOf]))] ++ X)) A) (([.ref a_mo, .int p1] : List Value).toArray) s 0 0 A) (F0 m 9 ls []) := by
    intro n9
    induction n9 with
    | zero => intro x2_1 x3_2 h; exact absurd (show (none : Option (Int32 × Int32)) = some _ from h) (by intro q; cases q)
    | succ n9 ih9 =>
      intro x2_1 x3_2 h H locs hP hD hS ls hl
      have h : f_X13_led_b9 mo_v wa_beasts p1 0 (f_X13_led_L9 mo_v wa_beasts p1 0 n9) x2_1 x3_2 = some (res, mo_thrown') := h
      unfold f_X13_led_b9 at h
      refine lv_aload_n hx hb dX13_led_9 rfl (lv_at hl 0 rfl) ?_
      refine va_get (D := D) (ci := 13) (C := RX13) (T := TX13) (N := 39) (v := .ref a_wa) hx hb hX13 (fun _ q => q) hown hK hP 0 rfl rfl 3 (by decide) (hts (.fieldLink RX13 301 "ElephantLineModel" "war" "LElephantLineModel$War;") (by decide +kernel)) (fun _ h9 => h9) rfl dX13_led_10 ?_
      refine lv_ifnull hx hb dX13_led_13 ?_
      refine lv_iload_n hx hb dX13_led_16 rfl (lv_at hl 3 rfl) ?_
      refine lv_aload_n hx hb dX13_led_17 rfl (lv_at hl 0 rfl) ?_
      refine va_get (D := D) (ci := 13) (C := RX13) (T := TX13) (N := 39) (v := .ref a_wa) hx hb hX13 (fun _ q => q) hown hK hP 0 rfl rfl 3 (by decide) (hts (.fieldLink RX13 301 "ElephantLineModel" "war" "LElephantLineModel$War;") (by decide +kernel)) (fun _ h9 => h9) rfl dX13_led_18 ?_
      refine va_getN (D := D) (ci := 12) (C := RX12) (T := TX12) (N := 18) (v := .int wa_beasts) hx hb hX12 (fun _ q => q) hown hK hP 2 rfl rfl 3 (by decide) (va_Nw.use rfl (hKN.2.1.1 ("ElephantLineModel", 195, "ElephantLineModel$War", "beasts", "I", "ElephantLineModel") (List.mem_of_getElem? (i := 70) rfl))) (fun _ h9 => h9) rfl dX13_led_21 ?_
      refine lv_icmp_ge (tgt := 54) hx hb dX13_led_24 (by decide) (fun cd => ?_) (fun cd => ?_)
      · have h := ifT cd h
        exact jn54 h _ _ hP hD hS _ (lv_sub hl [0] rfl)
      · have h := ifF cd h
        refine lv_aload_n hx hb dX13_led_27 rfl (lv_at hl 0 rfl) ?_
        refine lv_iload_n hx hb dX13_led_28 rfl (lv_at hl 3 rfl) ?_
        obtain ⟨r_3, hc_4, h⟩ := bd1_some h
        refine kVb [.int x3_2] [] ⟨hx, hb, hml, hown, hts⟩ (c_X13_isDead l D cy a_mo a_mo_v 0 mo_trouble mo_where (.ref a_wa) (mo_read) (mo_tape) mo_taped mo_size mo_spot mo_sort mo_place mo_number mo_fault mo_wrongAt mo_laneTold mo_word (mo_x) (mo_past) (mo_kept) mo_acts mo_marks (mo_put) (mo_bestPut) mo_bestSum (mo_row) (mo_best) (mo_left) mo_bestSize mo_bestLeft (mo_counts) mo_sets mo_foeHarm mo_ownHarm mo_across mo_sumFoe mo_sumOwn mo_sumWon mo_sumAcross mo_v x3_2 r_3 hc_4) gX13_led_X13_isDead rfl hd_X13_isDead ⟨Nat.le_of_ble_eq_true rfl, Nat.le_of_ble_eq_true rfl⟩ rfl rfl hKN (pXc hP [0, 1] rfl) 13 0 rfl rfl rfl hl.1 rfl (Nat.le_of_ble_eq_true rfl) dX13_led_29 ⟨Nat.le_of_ble_eq_true rfl, Nat.le_of_ble_eq_true rfl⟩ (fun nb_5 => ?_)
        have jn48 : ∀ (x2_6 : Int32), f_X13_led_B48 (f_X13_led_L9 mo_v wa_beasts p1 0 n9) mo_v wa_beasts p1 x2_6 x3_2 0 = some (res, mo_thrown') → ∀ (H : Heap) (locs : List Loc), va_P D vwCl ([(a_mo, .inr (13, [.int 0, .int mo_trouble, .int mo_where, .ref a_wa, mo_read, mo_tape, .int mo_taped, .int mo_size, .int mo_spot, .int mo_sort, .int mo_place, .int mo_number, .int mo_fault, .int mo_wrongAt, .int mo_laneTold, .long mo_word, .ref a_mo_v, mo_x, mo_past, mo_kept, .int mo_acts, .int mo_marks, mo_put, mo_bestPut, .long mo_bestSum, mo_row, mo_best, mo_left, .int mo_bestSize, .int mo_bestLeft, mo_counts, .int mo_sets, .int mo_foeHarm, .int mo_ownHarm, .int mo_across, .int mo_sumFoe, .int mo_sumOwn, .int mo_sumWon, .int mo_sumAcross])), (a_mo_v, .inl (cy 1, 19, .inl mo_v)), (a_wa, .inr (12, [.int wa_lanes, .int wa_deep, .int wa_told, .int wa_beasts, .int wa_cities, .int wa_passes, .int wa_turned, .int wa_names, wa_who, wa_strong, wa_kind, wa_lane, wa_mood, wa_price, wa_loses, wa_name, wa_nameSort, wa_numberOf]))] ++ X) H → va_D A ([(a_mo, .inr (13, [.int 0, .int mo_trouble, .int mo_where, .ref a_wa, mo_read, mo_tape, .int mo_taped, .int mo_size, .int mo_spot, .int mo_sort, .int mo_place, .int mo_number, .int mo_fault, .int mo_wrongAt, .int mo_laneTold, .long mo_word, .ref a_mo_v, mo_x, mo_past, mo_kept, .int mo_acts, .int mo_marks, mo_put, mo_bestPut, .long mo_bestSum, mo_row, mo_best, mo_left, .int mo_bestSize, .int mo_bestLeft, mo_counts, .int mo_sets, .int mo_foeHarm, .int mo_ownHarm, .int mo_across, .int mo_sumFoe, .int mo_sumOwn, .int mo_sumWon, .int mo_sumAcross])), (a_mo_v, .inl (cy 1, 19, .inl mo_v)), (a_wa, .inr (12, [.int wa_lanes, .int wa_deep, .int wa_told, .int wa_beasts, .int wa_cities, .int wa_passes, .int wa_turned, .int wa_names, wa_who, wa_strong, wa_kind, wa_lane, wa_mood, wa_price, wa_loses, wa_name, wa_nameSort, wa_numberOf]))] ++ X) → va_S A s.heap H locs → ∀ ls : Array Slot, lv_has ls 4 [(0, .ref a_mo), (1, .int p1), (2, .int x2_6), (3, .int x3_2)] → W p l e (headSpec wo_X13_led ({ frames := 2, cells := 0, slots := 0, locals := 42 })).room s m (([.ref a_mo, .int p1] : List Value).toArray) below meth c H locs 0 0 (MQ below (va_Qi (fun (r : Int32) (_ : Unit) => r = res) (wB D A ([(a_mo, .inr (13, [.int mo_thrown', .int mo_trouble, .int mo_where, .ref a_wa, mo_read, mo_tape, .int mo_taped, .int mo_size, .int mo_spot, .int mo_sort, .int mo_place, .int mo_number, .int mo_fault, .int mo_wrongAt, .int mo_laneTold, .long mo_word, .ref a_mo_v, mo_x, mo_past, mo_kept, .int mo_acts, .int mo_marks, mo_put, mo_bestPut, .long mo_bestSum, mo_row, mo_best, mo_left, .int mo_bestSize, .int mo_bestLeft, mo_counts, .int mo_sets, .int mo_foeHarm, .int mo_ownHarm, .int mo_across, .int mo_sumFoe, .int mo_sumOwn, .int mo_sumWon, .int mo_sumAcross])), (a_mo_v, .inl (cy 1, 19, .inl mo_v)), (a_wa, .inr (12, [.int wa_lanes, .int wa_deep, .int wa_told, .int wa_beasts, .int wa_cities, .int wa_passes, .int wa_turned, .int wa_names, wa_who, wa_strong, wa_kind, wa_lane, wa_mood, wa_price, wa_loses, wa_name, wa_nameSort, wa_numberOf]))] ++ X)) A) (([.ref a_mo, .int p1] : List Value).toArray) s 0 0 A) (F0 m 48 ls []) := by
          intro x2_6 h H locs hP hD hS ls hl
          unfold f_X13_led_B48 at h
          refine lv_iinc (v := x3_2 + 1) (lv' := [(3, .int (x3_2 + 1)), (0, .ref a_mo), (1, .int p1), (2, .int x2_6)]) hx hb dX13_led_48 hl (k := 3) rfl (by first | rfl | decide) (by decide) rfl (fun ls hl => ?_)
          refine lv_goto (tgt := 9) hx hb dX13_led_51 (by decide) ?_
          exact ih9 x2_6 (x3_2 + 1) h _ _ hP hD hS _ (lv_sub hl [1, 2, 3, 0] rfl)
        refine lv_if_ne (tgt := 38) hx hb dX13_led_32 (by decide) (fun cd => ?_) (fun cd => ?_)
        · have h := ifF cd h
          refine lv_iload_n hx hb dX13_led_38 rfl (lv_at hl 2 rfl) ?_
          refine lv_iload_n hx hb dX13_led_39 rfl (lv_at hl 1 rfl) ?_
          refine lv_icmp_ne (tgt := 45) hx hb dX13_led_40 (by decide) (fun cd => ?_) (fun cd => ?_)
          · have h := ifF cd h
            refine lv_iinc (v := x2_1 + 1) (lv' := [(2, .int (x2_1 + 1)), (0, .ref a_mo), (1, .int p1), (3, .int x3_2)]) hx hb dX13_led_45 hl (k := 2) rfl (by first | rfl | decide) (by decide) rfl (fun ls hl => ?_)
            exact jn48 (x2_1 + 1) h _ _ hP hD hS _ (lv_sub hl [1, 2, 0, 3] rfl)
          · have h := ifT cd h
            refine lv_iload_n hx hb dX13_led_43 rfl (lv_at hl 3 rfl) ?_
            cases h
            exact W.iret hx hb hr (fun t ht _ => ⟨⟨_, (), rfl, rfl, by rw [ht]; exact hP, hD⟩, hS.F ht⟩) hS.2.2 dX13_led_44
        · have h := ifT cd h
          refine lv_goto (tgt := 48) hx hb dX13_led_35 (by decide) ?_
          exact jn48 x2_1 h _ _ hP hD hS _ (lv_sub hl [0, 1, 2, 3] rfl)
  exact lp9 fuelN (0 : Int32) (0 : Int32) h _ _ hP hD hS _ (lv_sub hl [2, 3, 1, 0] rfl)
theorem hd_X13_size : yX13_size.cls = RX13 ∧ yX13_size.cls ≠ "java/lang/invoke/MethodHandle" ∧ yX13_size.cls ≠ "java/lang/invoke/VarHandle" ∧ (parseMethodDescriptor yX13_size.desc).map (fun d => d.parameters.length) = some 1 := by decide +kernel
set_option maxHeartbeats 4000000 in
set_option maxRecDepth 100000 in
theorem c_X13_size (l : Launch) (D : va_G) (cy : Nat → ClassId) (A : Nat → Prop) (X : va_W) (a_mo a_mo_v a_wa : Nat) (mo_thrown : Int32) (mo_trouble : Int32) (mo_where : Int32) (mo_read : Value) (mo_tape : Value) (mo_taped : Int32) (mo_size : Int32) (mo_spot : Int32) (mo_sort : Int32) (mo_place : Int32) (mo_number : Int32) (mo_fault : Int32) (mo_wrongAt : Int32) (mo_laneTold : Int32) (mo_word : Int64) (mo_x : Value) (mo_past : Value) (mo_kept : Value) (mo_acts : Int32) (mo_marks : Int32) (mo_put : Value) (mo_bestPut : Value) (mo_bestSum : Int64) (mo_row : Value) (mo_best : Value) (mo_left : Value) (mo_bestSize : Int32) (mo_bestLeft : Int32) (mo_counts : Value) (mo_sets : Int32) (mo_foeHarm : Int32) (mo_ownHarm : Int32) (mo_across : Int32) (mo_sumFoe : Int32) (mo_sumOwn : Int32) (mo_sumWon : Int32) (mo_sumAcross : Int32) (mo_v : Nat → Int32) (wa_lanes : Int32) (wa_deep : Int32) (wa_told : Int32) (wa_beasts : Int32) (wa_cities : Int32) (wa_passes : Int32) (wa_turned : Int32) (wa_names : Int32) (wa_who : Value) (wa_strong : Value) (wa_kind : Value) (wa_lane : Value) (wa_mood : Value) (wa_price : Value) (wa_loses : Value) (wa_name : Value) (wa_nameSort : Value) (wa_numberOf : Value) (p1 : Int32) (res : Int32) (mo_thrown' : Int32) (h : f_X13_size mo_thrown mo_taped mo_acts mo_marks mo_v wa_lanes wa_deep wa_told wa_beasts wa_cities wa_passes wa_turned p1 = some (res, mo_thrown')) : Met l yX13_size wo_X13_size ({ frames := 1, cells := 0, slots := 0, locals := 22 }) (wrPc D cy A [.ref a_mo, .int p1] ([(a_mo, .inr (13, [.int mo_thrown, .int mo_trouble, .int mo_where, .ref a_wa, mo_read, mo_tape, .int mo_taped, .int mo_size, .int mo_spot, .int mo_sort, .int mo_place, .int mo_number, .int mo_fault, .int mo_wrongAt, .int mo_laneTold, .long mo_word, .ref a_mo_v, mo_x, mo_past, mo_kept, .int mo_acts, .int mo_marks, mo_put, mo_bestPut, .long mo_bestSum, mo_row, mo_best, mo_left, .int mo_bestSize, .int mo_bestLeft, mo_counts, .int mo_sets, .int mo_foeHarm, .int mo_ownHarm, .int mo_across, .int mo_sumFoe, .int mo_sumOwn, .int mo_sumWon, .int mo_sumAcross])), (a_mo_v, .inl (cy 1, 19, .inl mo_v)), (a_wa, .inr (12, [.int wa_lanes, .int wa_deep, .int wa_told, .int wa_beasts, .int wa_cities, .int wa_passes, .int wa_turned, .int wa_names, wa_who, wa_strong, wa_kind, wa_lane, wa_mood, wa_price, wa_loses, wa_name, wa_nameSort, wa_numberOf]))] ++ X)) (va_Qi (fun (r : Int32) (_ : Unit) => r = res) (wB D A ([(a_mo, .inr (13, [.int mo_thrown', .int mo_trouble, .int mo_where, .ref a_wa, mo_read, mo_tape, .int mo_taped, .int mo_size, .int mo_spot, .int mo_sort, .int mo_place, .int mo_number, .int mo_fault, .int mo_wrongAt, .int mo_laneTold, .long mo_word, .ref a_mo_v, mo_x, mo_past, mo_kept, .int mo_acts, .int mo_marks, mo_put, mo_bestPut, .long mo_bestSum, mo_row, mo_best, mo_left, .int mo_bestSize, .int mo_bestLeft, mo_counts, .int mo_sets, .int mo_foeHarm, .int mo_ownHarm, .int mo_across, .int mo_sumFoe, .int mo_sumOwn, .int mo_sumWon, .int mo_sumAcross])), (a_mo_v, .inl (cy 1, 19, .inl mo_v)), (a_wa, .inr (12, [.int wa_lanes, .int wa_deep, .int wa_told, .int wa_beasts, .int wa_cities, .int wa_passes, .int wa_turned, .int wa_names, wa_who, wa_strong, wa_kind, wa_lane, wa_mood, wa_price, wa_loses, wa_name, wa_nameSort, wa_numberOf]))] ++ X)) A) 0 0 A := by
  refine Met.ofW (cc := cX13_size) (maxL := 2) (ret := (some .int)) (by decide) rfl ?_
  intro p e s m args below meth c s₁ B hml hv
  obtain ⟨rfl, hP, hKN, hD, hA⟩ := hv
  have hK := hKN.1
  have hx := B.exec
  have hb := B.bytes
  have hr := B.returns
  have hts := wt_X13_size hKN.2.2 (([.ref a_mo, .int p1] : List Value).toArray)
  have hown : s.vm.findClass RX13 = some m.cls := findClass_of_methodNamed B.named
  have hlocks := B.notSynchronized
  have hS : va_S A s.heap s.heap [] := va_S.rf
  have hX12 := wc_X12 hKN.2.2 (([.ref a_mo, .int p1] : List Value).toArray)
  have hX13 := wc_X13 hKN.2.2 (([.ref a_mo, .int p1] : List Value).toArray)
  have hl := lv_entry ([.ref a_mo, .int p1]) (n := 2) (Nat.le_of_ble_eq_true rfl)
  rw [lg_entry_eq]
  generalize (lg_sl ([.ref a_mo, .int p1]) ++ List.replicate (2 - (lg_sl ([.ref a_mo, .int p1])).length) Slot.unset).toArray = ls at hl ⊢
  have hl : lv_has ls 2 [(0, .ref a_mo), (1, .int p1)] := hl
  unfold f_X13_size at h
  refine lv_aload_n hx hb dX13_size_0 rfl (lv_at hl 0 rfl) ?_
  refine lv_iconst (v := 0) hx hb dX13_size_1 (by decide) ?_
  refine va_put (D := D) (ci := 13) (C := RX13) (T := TX13) (N := 39) (v := .int 0) (ty := .int) hx hb hX13 (fun _ q => q) tyX13 tyX13_ok nmX13 hown hK hP hD hS 0 rfl rfl 0 (by decide) (hts (.fieldLink RX13 48 "ElephantLineModel" "thrown" "I") (by decide +kernel)) (fun _ h9 => h9) rfl (tyX13_ok 0 (by decide)) rfl rfl (Nat.le_of_ble_eq_true rfl) dX13_size_2 (fun H locs hP hD hS => ?_)
  refine lv_iload_n hx hb dX13_size_5 rfl (lv_at hl 1 rfl) ?_
  refine lv_bipush (v := 11) hx hb dX13_size_6 (by decide) ?_
  refine lv_icmp_ne (tgt := 16) hx hb dX13_size_8 (by decide) (fun cd => ?_) (fun cd => ?_)
  · have h := ifF cd h
    refine lv_iload_n hx hb dX13_size_16 rfl (lv_at hl 1 rfl) ?_
    refine lv_iconst (v := 0) hx hb dX13_size_17 (by decide) ?_
    refine lv_bipush (v := 10) hx hb dX13_size_18 (by decide) ?_
    have hP : va_P D vwCl ([(a_mo, .inr (13, [.int 0, .int mo_trouble, .int mo_where, .ref a_wa, mo_read, mo_tape, .int mo_taped, .int mo_size, .int mo_spot, .int mo_sort, .int mo_place, .int mo_number, .int mo_fault, .int mo_wrongAt, .int mo_laneTold, .long mo_word, .ref a_mo_v, mo_x, mo_past, mo_kept, .int mo_acts, .int mo_marks, mo_put, mo_bestPut, .long mo_bestSum, mo_row, mo_best, mo_left, .int mo_bestSize, .int mo_bestLeft, mo_counts, .int mo_sets, .int mo_foeHarm, .int mo_ownHarm, .int mo_across, .int mo_sumFoe, .int mo_sumOwn, .int mo_sumWon, .int mo_sumAcross])), (a_mo_v, .inl (cy 1, 19, .inl mo_v)), (a_wa, .inr (12, [.int wa_lanes, .int wa_deep, .int wa_told, .int wa_beasts, .int wa_cities, .int wa_passes, .int wa_turned, .int wa_names, wa_who, wa_strong, wa_kind, wa_lane, wa_mood, wa_price, wa_loses, wa_name, wa_nameSort, wa_numberOf]))] ++ X) H := hP
    have hD : va_D A ([(a_mo, .inr (13, [.int 0, .int mo_trouble, .int mo_where, .ref a_wa, mo_read, mo_tape, .int mo_taped, .int mo_size, .int mo_spot, .int mo_sort, .int mo_place, .int mo_number, .int mo_fault, .int mo_wrongAt, .int mo_laneTold, .long mo_word, .ref a_mo_v, mo_x, mo_past, mo_kept, .int mo_acts, .int mo_marks, mo_put, mo_bestPut, .long mo_bestSum, mo_row, mo_best, mo_left, .int mo_bestSize, .int mo_bestLeft, mo_counts, .int mo_sets, .int mo_foeHarm, .int mo_ownHarm, .int mo_across, .int mo_sumFoe, .int mo_sumOwn, .int mo_sumWon, .int mo_sumAcross])), (a_mo_v, .inl (cy 1, 19, .inl mo_v)), (a_wa, .inr (12, [.int wa_lanes, .int wa_deep, .int wa_told, .int wa_beasts, .int wa_cities, .int wa_passes, .int wa_turned, .int wa_names, wa_who, wa_strong, wa_kind, wa_lane, wa_mood, wa_price, wa_loses, wa_name, wa_nameSort, wa_numberOf]))] ++ X) := hD
    obtain ⟨r_1, hc_2, h⟩ := bd1_some h
    refine kSb [.int p1, .int 0, .int 10] [] ⟨hx, hb, hml, hown, hts⟩ (c_X13_in l D cy p1 (0 : Int32) (10 : Int32) r_1 hc_2) gX13_size_X13_in rfl hd_X13_in ⟨Nat.le_of_ble_eq_true rfl, Nat.le_of_ble_eq_true rfl⟩ rfl rfl hKN va_nil rfl hl.1 rfl (Nat.le_of_ble_eq_true rfl) dX13_size_20 ⟨Nat.le_of_ble_eq_true rfl, Nat.le_of_ble_eq_true rfl⟩ (fun nb_3 => ?_)
    refine lv_if_ne (tgt := 28) hx hb dX13_size_23 (by decide) (fun cd => ?_) (fun cd => ?_)
    · have h := ifF cd h
      refine lv_aload_n hx hb dX13_size_28 rfl (lv_at hl 0 rfl) ?_
      refine va_get (D := D) (ci := 13) (C := RX13) (T := TX13) (N := 39) (v := .ref a_wa) hx hb hX13 (fun _ q => q) hown hK hP 0 rfl rfl 3 (by decide) (hts (.fieldLink RX13 301 "ElephantLineModel" "war" "LElephantLineModel$War;") (by decide +kernel)) (fun _ h9 => h9) rfl dX13_size_29 ?_
      refine lv_ifnonnull (tgt := 37) hx hb dX13_size_32 (by decide) ?_
      refine lv_iload_n hx hb dX13_size_37 rfl (lv_at hl 1 rfl) ?_
      by_cases sw_4 : p1 = 0
      · have h := ifT sw_4 h
        refine lv_tableIn (tgt := 92) hx hb dX13_size_38 (by rw [sw_4]; decide) (by rw [sw_4]; decide) (by rw [sw_4]; rfl) (by decide) ?_
        refine lv_aload_n hx hb dX13_size_92 rfl (lv_at hl 0 rfl) ?_
        refine va_get (D := D) (ci := 13) (C := RX13) (T := TX13) (N := 39) (v := .ref a_wa) hx hb hX13 (fun _ q => q) hown hK hP 0 rfl rfl 3 (by decide) (hts (.fieldLink RX13 301 "ElephantLineModel" "war" "LElephantLineModel$War;") (by decide +kernel)) (fun _ h9 => h9) rfl dX13_size_93 ?_
        refine va_getN (D := D) (ci := 12) (C := RX12) (T := TX12) (N := 18) (v := .int wa_lanes) hx hb hX12 (fun _ q => q) hown hK hP 2 rfl rfl 0 (by decide) (va_Nw.use rfl (hKN.2.1.1 ("ElephantLineModel", 160, "ElephantLineModel$War", "lanes", "I", "ElephantLineModel") (List.mem_of_getElem? (i := 67) rfl))) (fun _ h9 => h9) rfl dX13_size_96 ?_
        cases h
        exact W.iret hx hb hr (fun t ht _ => ⟨⟨_, (), rfl, rfl, by rw [ht]; exact hP, hD⟩, hS.F ht⟩) hS.2.2 dX13_size_99
      · have h := ifF sw_4 h
        by_cases sw_5 : p1 = 1
        · have h := ifT sw_5 h
          refine lv_tableIn (tgt := 100) hx hb dX13_size_38 (by rw [sw_5]; decide) (by rw [sw_5]; decide) (by rw [sw_5]; rfl) (by decide) ?_
          refine lv_aload_n hx hb dX13_size_100 rfl (lv_at hl 0 rfl) ?_
          refine va_get (D := D) (ci := 13) (C := RX13) (T := TX13) (N := 39) (v := .ref a_wa) hx hb hX13 (fun _ q => q) hown hK hP 0 rfl rfl 3 (by decide) (hts (.fieldLink RX13 301 "ElephantLineModel" "war" "LElephantLineModel$War;") (by decide +kernel)) (fun _ h9 => h9) rfl dX13_size_101 ?_
          refine va_getN (D := D) (ci := 12) (C := RX12) (T := TX12) (N := 18) (v := .int wa_deep) hx hb hX12 (fun _ q => q) hown hK hP 2 rfl rfl 1 (by decide) (va_Nw.use rfl (hKN.2.1.1 ("ElephantLineModel", 223, "ElephantLineModel$War", "deep", "I", "ElephantLineModel") (List.mem_of_getElem? (i := 68) rfl))) (fun _ h9 => h9) rfl dX13_size_104 ?_
          cases h
          exact W.iret hx hb hr (fun t ht _ => ⟨⟨_, (), rfl, rfl, by rw [ht]; exact hP, hD⟩, hS.F ht⟩) hS.2.2 dX13_size_107
        · have h := ifF sw_5 h
          by_cases sw_6 : p1 = 2
          · have h := ifT sw_6 h
            refine lv_tableIn (tgt := 108) hx hb dX13_size_38 (by rw [sw_6]; decide) (by rw [sw_6]; decide) (by rw [sw_6]; rfl) (by decide) ?_
            refine lv_aload_n hx hb dX13_size_108 rfl (lv_at hl 0 rfl) ?_
            refine va_get (D := D) (ci := 13) (C := RX13) (T := TX13) (N := 39) (v := .ref a_wa) hx hb hX13 (fun _ q => q) hown hK hP 0 rfl rfl 3 (by decide) (hts (.fieldLink RX13 301 "ElephantLineModel" "war" "LElephantLineModel$War;") (by decide +kernel)) (fun _ h9 => h9) rfl dX13_size_109 ?_
            refine va_getN (D := D) (ci := 12) (C := RX12) (T := TX12) (N := 18) (v := .int wa_told) hx hb hX12 (fun _ q => q) hown hK hP 2 rfl rfl 2 (by decide) (va_Nw.use rfl (hKN.2.1.1 ("ElephantLineModel", 247, "ElephantLineModel$War", "told", "I", "ElephantLineModel") (List.mem_of_getElem? (i := 69) rfl))) (fun _ h9 => h9) rfl dX13_size_112 ?_
            cases h
            exact W.iret hx hb hr (fun t ht _ => ⟨⟨_, (), rfl, rfl, by rw [ht]; exact hP, hD⟩, hS.F ht⟩) hS.2.2 dX13_size_115
          · have h := ifF sw_6 h
            by_cases sw_7 : p1 = 3
            · have h := ifT sw_7 h
              refine lv_tableIn (tgt := 116) hx hb dX13_size_38 (by rw [sw_7]; decide) (by rw [sw_7]; decide) (by rw [sw_7]; rfl) (by decide) ?_
              refine lv_aload_n hx hb dX13_size_116 rfl (lv_at hl 0 rfl) ?_
              refine va_get (D := D) (ci := 13) (C := RX13) (T := TX13) (N := 39) (v := .ref a_wa) hx hb hX13 (fun _ q => q) hown hK hP 0 rfl rfl 3 (by decide) (hts (.fieldLink RX13 301 "ElephantLineModel" "war" "LElephantLineModel$War;") (by decide +kernel)) (fun _ h9 => h9) rfl dX13_size_117 ?_
              refine va_getN (D := D) (ci := 12) (C := RX12) (T := TX12) (N := 18) (v := .int wa_beasts) hx hb hX12 (fun _ q => q) hown hK hP 2 rfl rfl 3 (by decide) (va_Nw.use rfl (hKN.2.1.1 ("ElephantLineModel", 195, "ElephantLineModel$War", "beasts", "I", "ElephantLineModel") (List.mem_of_getElem? (i := 70) rfl))) (fun _ h9 => h9) rfl dX13_size_120 ?_
              cases h
              exact W.iret hx hb hr (fun t ht _ => ⟨⟨_, (), rfl, rfl, by rw [ht]; exact hP, hD⟩, hS.F ht⟩) hS.2.2 dX13_size_123
            · have h := ifF sw_7 h
              by_cases sw_8 : p1 = 4
              · have h := ifT sw_8 h
                refine lv_tableIn (tgt := 124) hx hb dX13_size_38 (by rw [sw_8]; decide) (by rw [sw_8]; decide) (by rw [sw_8]; rfl) (by decide) ?_
                refine lv_aload_n hx hb dX13_size_124 rfl (lv_at hl 0 rfl) ?_
                refine va_get (D := D) (ci := 13) (C := RX13) (T := TX13) (N := 39) (v := .ref a_wa) hx hb hX13 (fun _ q => q) hown hK hP 0 rfl rfl 3 (by decide) (hts (.fieldLink RX13 301 "ElephantLineModel" "war" "LElephantLineModel$War;") (by decide +kernel)) (fun _ h9 => h9) rfl dX13_size_125 ?_
                refine va_getN (D := D) (ci := 12) (C := RX12) (T := TX12) (N := 18) (v := .int wa_cities) hx hb hX12 (fun _ q => q) hown hK hP 2 rfl rfl 4 (by decide) (va_Nw.use rfl (hKN.2.1.1 ("ElephantLineModel", 279, "ElephantLineModel$War", "cities", "I", "ElephantLineModel") (List.mem_of_getElem? (i := 71) rfl))) (fun _ h9 => h9) rfl dX13_size_128 ?_
                cases h
                exact W.iret hx hb hr (fun t ht _ => ⟨⟨_, (), rfl, rfl, by rw [ht]; exact hP, hD⟩, hS.F ht⟩) hS.2.2 dX13_size_131
              · have h := ifF sw_8 h
                by_cases sw_9 : p1 = 5
                · have h := ifT sw_9 h
                  refine lv_tableIn (tgt := 132) hx hb dX13_size_38 (by rw [sw_9]; decide) (by rw [sw_9]; decide) (by rw [sw_9]; rfl) (by decide) ?_
                  refine lv_aload_n hx hb dX13_size_132 rfl (lv_at hl 0 rfl) ?_
                  refine va_get (D := D) (ci := 13) (C := RX13) (T := TX13) (N := 39) (v := .ref a_wa) hx hb hX13 (fun _ q => q) hown hK hP 0 rfl rfl 3 (by decide) (hts (.fieldLink RX13 301 "ElephantLineModel" "war" "LElephantLineModel$War;") (by decide +kernel)) (fun _ h9 => h9) rfl dX13_size_133 ?_
                  refine va_getN (D := D) (ci := 12) (C := RX12) (T := TX12) (N := 18) (v := .int wa_passes) hx hb hX12 (fun _ q => q) hown hK hP 2 rfl rfl 5 (by decide) (va_Nw.use rfl (hKN.2.1.1 ("ElephantLineModel", 285, "ElephantLineModel$War", "passes", "I", "ElephantLineModel") (List.mem_of_getElem? (i := 72) rfl))) (fun _ h9 => h9) rfl dX13_size_136 ?_
                  cases h
                  exact W.iret hx hb hr (fun t ht _ => ⟨⟨_, (), rfl, rfl, by rw [ht]; exact hP, hD⟩, hS.F ht⟩) hS.2.2 dX13_size_139
                · have h := ifF sw_9 h
                  by_cases sw_10 : p1 = 6
                  · have h := ifT sw_10 h
                    refine lv_tableIn (tgt := 140) hx hb dX13_size_38 (by rw [sw_10]; decide) (by rw [sw_10]; decide) (by rw [sw_10]; rfl) (by decide) ?_
                    refine lv_aload_n hx hb dX13_size_140 rfl (lv_at hl 0 rfl) ?_
                    refine va_get (D := D) (ci := 13) (C := RX13) (T := TX13) (N := 39) (v := .ref a_wa) hx hb hX13 (fun _ q => q) hown hK hP 0 rfl rfl 3 (by decide) (hts (.fieldLink RX13 301 "ElephantLineModel" "war" "LElephantLineModel$War;") (by decide +kernel)) (fun _ h9 => h9) rfl dX13_size_141 ?_
                    refine va_getN (D := D) (ci := 12) (C := RX12) (T := TX12) (N := 18) (v := .int wa_turned) hx hb hX12 (fun _ q => q) hown hK hP 2 rfl rfl 6 (by decide) (va_Nw.use rfl (hKN.2.1.1 ("ElephantLineModel", 292, "ElephantLineModel$War", "turned", "I", "ElephantLineModel") (List.mem_of_getElem? (i := 73) rfl))) (fun _ h9 => h9) rfl dX13_size_144 ?_
                    obtain ⟨r_11, hc_12, h⟩ := bd1_some h
                    refine kSi [.int wa_turned] [] ⟨hx, hb, hml, hown, hts⟩ (c_X13_bits l D cy wa_turned r_11 hc_12) gX13_size_X13_bits rfl hd_X13_bits ⟨Nat.le_of_ble_eq_true rfl, Nat.le_of_ble_eq_true rfl⟩ rfl rfl hKN va_nil rfl hl.1 rfl (Nat.le_of_ble_eq_true rfl) dX13_size_147 ⟨Nat.le_of_ble_eq_true rfl, Nat.le_of_ble_eq_true rfl⟩ ?_
                    cases h
                    exact W.iret hx hb hr (fun t ht _ => ⟨⟨_, (), rfl, rfl, by rw [ht]; exact hP, hD⟩, hS.F ht⟩) hS.2.2 dX13_size_150
                  · have h := ifF sw_10 h
                    by_cases sw_13 : p1 = 7
                    · have h := ifT sw_13 h
                      refine lv_tableIn (tgt := 151) hx hb dX13_size_38 (by rw [sw_13]; decide) (by rw [sw_13]; decide) (by rw [sw_13]; rfl) (by decide) ?_
                      refine lv_aload_n hx hb dX13_size_151 rfl (lv_at hl 0 rfl) ?_
                      refine va_get (D := D) (ci := 13) (C := RX13) (T := TX13) (N := 39) (v := .ref a_mo_v) hx hb hX13 (fun _ q => q) hown hK hP 0 rfl rfl 16 (by decide) (hts (.fieldLink RX13 17 "ElephantLineModel" "v" "[I") (by decide +kernel)) (fun _ h9 => h9) rfl dX13_size_152 ?_
                      refine lv_bipush (v := 17) hx hb dX13_size_155 (by decide) ?_
                      refine va_iald hx hb hK hP 1 1 rfl rfl (vpc (by decide)) dX13_size_157 ?_
                      cases h
                      exact W.iret hx hb hr (fun t ht _ => ⟨⟨_, (), rfl, rfl, by rw [ht]; exact hP, hD⟩, hS.F ht⟩) hS.2.2 dX13_size_158
                    · have h := ifF sw_13 h
                      by_cases sw_14 : p1 = 8
                      · have h := ifT sw_14 h
                        refine lv_tableIn (tgt := 159) hx hb dX13_size_38 (by rw [sw_14]; decide) (by rw [sw_14]; decide) (by rw [sw_14]; rfl) (by decide) ?_
                        refine lv_aload_n hx hb dX13_size_159 rfl (lv_at hl 0 rfl) ?_
                        refine va_get (D := D) (ci := 13) (C := RX13) (T := TX13) (N := 39) (v := .ref a_mo_v) hx hb hX13 (fun _ q => q) hown hK hP 0 rfl rfl 16 (by decide) (hts (.fieldLink RX13 17 "ElephantLineModel" "v" "[I") (by decide +kernel)) (fun _ h9 => h9) rfl dX13_size_160 ?_
                        refine lv_bipush (v := 18) hx hb dX13_size_163 (by decide) ?_
                        refine va_iald hx hb hK hP 1 1 rfl rfl (vpc (by decide)) dX13_size_165 ?_
                        cases h
                        exact W.iret hx hb hr (fun t ht _ => ⟨⟨_, (), rfl, rfl, by rw [ht]; exact hP, hD⟩, hS.F ht⟩) hS.2.2 dX13_size_166
                      · have h := ifF sw_14 h
                        by_cases sw_15 : p1 = 9
                        · have h := ifT sw_15 h
                          refine lv_tableIn (tgt := 167) hx hb dX13_size_38 (by rw [sw_15]; decide) (by rw [sw_15]; decide) (by rw [sw_15]; rfl) (by decide) ?_
                          refine lv_aload_n hx hb dX13_size_167 rfl (lv_at hl 0 rfl) ?_
                          refine va_get (D := D) (ci := 13) (C := RX13) (T := TX13) (N := 39) (v := .int mo_acts) hx hb hX13 (fun _ q => q) hown hK hP 0 rfl rfl 20 (by decide) (hts (.fieldLink RX13 304 "ElephantLineModel" "acts" "I") (by decide +kernel)) (fun _ h9 => h9) rfl dX13_size_168 ?_
                          cases h
                          exact W.iret hx hb hr (fun t ht _ => ⟨⟨_, (), rfl, rfl, by rw [ht]; exact hP, hD⟩, hS.F ht⟩) hS.2.2 dX13_size_171
                        · have h := ifF sw_15 h
                          refine lv_tableOut (tgt := 172) hx hb dX13_size_38 (by have q0 := sw_ne sw_4; have q1 := sw_ne sw_5; have q2 := sw_ne sw_6; have q3 := sw_ne sw_7; have q4 := sw_ne sw_8; have q5 := sw_ne sw_9; have q6 := sw_ne sw_10; have q7 := sw_ne sw_13; have q8 := sw_ne sw_14; have q9 := sw_ne sw_15; rw [show (0 : Int32).toInt = 0 from rfl] at q0; rw [show (1 : Int32).toInt = 1 from rfl] at q1; rw [show (2 : Int32).toInt = 2 from rfl] at q2; rw [show (3 : Int32).toInt = 3 from rfl] at q3; rw [show (4 : Int32).toInt = 4 from rfl] at q4; rw [show (5 : Int32).toInt = 5 from rfl] at q5; rw [show (6 : Int32).toInt = 6 from rfl] at q6; rw [show (7 : Int32).toInt = 7 from rfl] at q7; rw [show (8 : Int32).toInt = 8 from rfl] at q8; rw [show (9 : Int32).toInt = 9 from rfl] at q9; omega) (by decide) ?_
                          refine lv_aload_n hx hb dX13_size_172 rfl (lv_at hl 0 rfl) ?_
                          refine va_get (D := D) (ci := 13) (C := RX13) (T := TX13) (N := 39) (v := .int mo_marks) hx hb hX13 (fun _ q => q) hown hK hP 0 rfl rfl 21 (by decide) (hts (.fieldLink RX13 307 "ElephantLineModel" "marks" "I") (by decide +kernel)) (fun _ h9 => h9) rfl dX13_size_173 ?_
                          cases h
                          exact W.iret hx hb hr (fun t ht _ => ⟨⟨_, (), rfl, rfl, by rw [ht]; exact hP, hD⟩, hS.F ht⟩) hS.2.2 dX13_size_176
    · have h := ifT cd h
      refine lv_iconst (v := (-1)) hx hb dX13_size_26 (by decide) ?_
      cases h
      exact W.iret hx hb hr (fun t ht _ => ⟨⟨_, (), rfl, rfl, by rw [ht]; exact hP, hD⟩, hS.F ht⟩) hS.2.2 dX13_size_27
  · have h := ifT cd h
    refine lv_aload_n hx hb dX13_size_11 rfl (lv_at hl 0 rfl) ?_
    refine va_get (D := D) (ci := 13) (C := RX13) (T := TX13) (N := 39) (v := .int mo_taped) hx hb hX13 (fun _ q => q) hown hK hP 0 rfl rfl 6 (by decide) (hts (.fieldLink RX13 294 "ElephantLineModel" "taped" "I") (by decide +kernel)) (fun _ h9 => h9) rfl dX13_size_12 ?_
    cases h
    exact W.iret hx hb hr (fun t ht _ => ⟨⟨_, (), rfl, rfl, by rw [ht]; exact hP, hD⟩, hS.F ht⟩) hS.2.2 dX13_size_15
theorem hd_X13_trouble : yX13_trouble.cls = RX13 ∧ yX13_trouble.cls ≠ "java/lang/invoke/MethodHandle" ∧ yX13_trouble.cls ≠ "java/lang/invoke/VarHandle" ∧ (parseMethodDescriptor yX13_trouble.desc).map (fun d => d.parameters.length) = some 0 := by decide +kernel
set_option maxHeartbeats 4000000 in
set_option maxRecDepth 100000 in
theorem c_X13_trouble (l : Launch) (D : va_G) (cy : Nat → ClassId) (A : Nat → Prop) (X : va_W) (a_mo : Nat) (mo_thrown : Int32) (mo_trouble : Int32) (mo_where : Int32) (mo_war : Value) (mo_read : Value) (mo_tape : Value) (mo_taped : Int32) (mo_size : Int32) (mo_spot : Int32) (mo_sort : Int32) (mo_place : Int32) (mo_number : Int32) (mo_fault : Int32) (mo_wrongAt : Int32) (mo_laneTold : Int32) (mo_word : Int64) (mo_v : Value) (mo_x : Value) (mo_past : Value) (mo_kept : Value) (mo_acts : Int32) (mo_marks : Int32) (mo_put : Value) (mo_bestPut : Value) (mo_bestSum : Int64) (mo_row : Value) (mo_best : Value) (mo_left : Value) (mo_bestSize : Int32) (mo_bestLeft : Int32) (mo_counts : Value) (mo_sets : Int32) (mo_foeHarm : Int32) (mo_ownHarm : Int32) (mo_across : Int32) (mo_sumFoe : Int32) (mo_sumOwn : Int32) (mo_sumWon : Int32) (mo_sumAcross : Int32) (res : Int32) (mo_thrown' : Int32) (h : f_X13_trouble mo_thrown mo_trouble = some (res, mo_thrown')) : Met l yX13_trouble wo_X13_trouble ({ frames := 0, cells := 0, slots := 0, locals := 0 }) (wrPc D cy A [.ref a_mo] ([(a_mo, .inr (13, [.int mo_thrown, .int mo_trouble, .int mo_where, mo_war, mo_read, mo_tape, .int mo_taped, .int mo_size, .int mo_spot, .int mo_sort, .int mo_place, .int mo_number, .int mo_fault, .int mo_wrongAt, .int mo_laneTold, .long mo_word, mo_v, mo_x, mo_past, mo_kept, .int mo_acts, .int mo_marks, mo_put, mo_bestPut, .long mo_bestSum, mo_row, mo_best, mo_left, .int mo_bestSize, .int mo_bestLeft, mo_counts, .int mo_sets, .int mo_foeHarm, .int mo_ownHarm, .int mo_across, .int mo_sumFoe, .int mo_sumOwn, .int mo_sumWon, .int mo_sumAcross]))] ++ X)) (va_Qi (fun (r : Int32) (_ : Unit) => r = res) (wB D A ([(a_mo, .inr (13, [.int mo_thrown', .int mo_trouble, .int mo_where, mo_war, mo_read, mo_tape, .int mo_taped, .int mo_size, .int mo_spot, .int mo_sort, .int mo_place, .int mo_number, .int mo_fault, .int mo_wrongAt, .int mo_laneTold, .long mo_word, mo_v, mo_x, mo_past, mo_kept, .int mo_acts, .int mo_marks, mo_put, mo_bestPut, .long mo_bestSum, mo_row, mo_best, mo_left, .int mo_bestSize, .int mo_bestLeft, mo_counts, .int mo_sets, .int mo_foeHarm, .int mo_ownHarm, .int mo_across, .int mo_sumFoe, .int mo_sumOwn, .int mo_sumWon, .int mo_sumAcross]))] ++ X)) A) 0 0 A := by
  refine Met.ofW (cc := cX13_trouble) (maxL := 1) (ret := (some .int)) (by decide) rfl ?_
  intro p e s m args below meth c s₁ B hml hv
  obtain ⟨rfl, hP, hKN, hD, hA⟩ := hv
  have hK := hKN.1
  have hx := B.exec
  have hb := B.bytes
  have hr := B.returns
  have hts := wt_X13_trouble hKN.2.2 (([.ref a_mo] : List Value).toArray)
  have hown : s.vm.findClass RX13 = some m.cls := findClass_of_methodNamed B.named
  have hlocks := B.notSynchronized
  have hS : va_S A s.heap s.heap [] := va_S.rf
  have hX13 := wc_X13 hKN.2.2 (([.ref a_mo] : List Value).toArray)
  have hl := lv_entry ([.ref a_mo]) (n := 1) (Nat.le_of_ble_eq_true rfl)
  rw [lg_entry_eq]
  generalize (lg_sl ([.ref a_mo]) ++ List.replicate (1 - (lg_sl ([.ref a_mo])).length) Slot.unset).toArray = ls at hl ⊢
  have hl : lv_has ls 1 [(0, .ref a_mo)] := hl
  unfold f_X13_trouble at h
  refine lv_aload_n hx hb dX13_trouble_0 rfl (lv_at hl 0 rfl) ?_
  refine lv_iconst (v := 0) hx hb dX13_trouble_1 (by decide) ?_
  refine va_put (D := D) (ci := 13) (C := RX13) (T := TX13) (N := 39) (v := .int 0) (ty := .int) hx hb hX13 (fun _ q => q) tyX13 tyX13_ok nmX13 hown hK hP hD hS 0 rfl rfl 0 (by decide) (hts (.fieldLink RX13 48 "ElephantLineModel" "thrown" "I") (by decide +kernel)) (fun _ h9 => h9) rfl (tyX13_ok 0 (by decide)) rfl rfl (Nat.le_of_ble_eq_true rfl) dX13_trouble_2 (fun H locs hP hD hS => ?_)
  refine lv_aload_n hx hb dX13_trouble_5 rfl (lv_at hl 0 rfl) ?_
  refine va_get (D := D) (ci := 13) (C := RX13) (T := TX13) (N := 39) (v := .int mo_trouble) hx hb hX13 (fun _ q => q) hown hK hP 0 rfl rfl 1 (by decide) (hts (.fieldLink RX13 51 "ElephantLineModel" "trouble" "I") (by decide +kernel)) (fun _ h9 => h9) rfl dX13_trouble_6 ?_
  cases h
  exact W.iret hx hb hr (fun t ht _ => ⟨⟨_, (), rfl, rfl, by rw [ht]; exact hP, hD⟩, hS.F ht⟩) hS.2.2 dX13_trouble_9
theorem hd_X13_readLine : yX13_readLine.cls = RX13 ∧ yX13_readLine.cls ≠ "java/lang/invoke/MethodHandle" ∧ yX13_readLine.cls ≠ "java/lang/invoke/VarHandle" ∧ (parseMethodDescriptor yX13_readLine.desc).map (fun d => d.parameters.length) = some 0 := by decide +kernel
set_option maxHeartbeats 4000000 in
set_option maxRecDepth 100000 in
theorem c_X13_readLine (l : Launch) (D : va_G) (cy : Nat → ClassId) (sa sv : Nat → Nat) (A : Nat → Prop) (X : va_W) (a_mo a_mo_tape a_re a_re_who a_re_strong a_re_kind a_re_lane a_re_mood a_re_price a_re_loses a_re_name a_re_nameSort a_re_numberOf : Nat) (mo_thrown : Int32) (mo_trouble : Int32) (mo_where : Int32) (mo_war : Value) (mo_taped : Int32) (mo_size : Int32) (mo_spot : Int32) (mo_sort : Int32) (mo_place : Int32) (mo_number : Int32) (mo_fault : Int32) (mo_wrongAt : Int32) (mo_laneTold : Int32) (mo_word : Int64) (mo_v : Value) (mo_x : Value) (mo_past : Value) (mo_kept : Value) (mo_acts : Int32) (mo_marks : Int32) (mo_put : Value) (mo_bestPut : Value) (mo_bestSum : Int64) (mo_row : Value) (mo_best : Value) (mo_left : Value) (mo_bestSize : Int32) (mo_bestLeft : Int32) (mo_counts : Value) (mo_sets : Int32) (mo_foeHarm : Int32) (mo_ownHarm : Int32) (mo_across : Int32) (mo_sumFoe : Int32) (mo_sumOwn : Int32) (mo_sumWon : Int32) (mo_sumAcross : Int32) (mo_tape : Nat → Int32) (re_lanes : Int32) (re_deep : Int32) (re_told : Int32) (re_beasts : Int32) (re_cities : Int32) (re_passes : Int32) (re_turned : Int32) (re_names : Int32) (re_who : Nat → Int32) (re_strong : Nat → Int32) (re_kind : Nat → Int32) (re_lane : Nat → Int32) (re_mood : Nat → Int32) (re_price : Nat → Int32) (re_loses : Nat → Int32) (re_name : Nat → Int64) (re_nameSort : Nat → Int32) (re_numberOf : Nat → Int32) (mo_spot' : Int32) (mo_sort' : Int32) (mo_place' : Int32) (mo_number' : Int32) (mo_fault' : Int32) (mo_wrongAt' : Int32) (mo_laneTold' : Int32) (mo_word' : Int64) (re_lanes' : Int32) (re_deep' : Int32) (re_told' : Int32) (re_beasts' : Int32) (re_cities' : Int32) (re_passes' : Int32) (re_turned' : Int32) (re_names' : Int32) (re_who' : Nat → Int32) (re_strong' : Nat → Int32) (re_kind' : Nat → Int32) (re_lane' : Nat → Int32) (re_mood' : Nat → Int32) (re_price' : Nat → Int32) (re_loses' : Nat → Int32) (re_name' : Nat → Int64) (re_nameSort' : Nat → Int32) (re_numberOf' : Nat → Int32) (h : f_X13_readLine mo_size mo_spot mo_sort mo_place mo_number mo_fault mo_wrongAt mo_laneTold mo_word mo_tape re_lanes re_deep re_told re_beasts re_cities re_passes re_turned re_names re_who re_strong re_kind re_lane re_mood re_price re_loses re_name re_nameSort re_numberOf = some (mo_spot', mo_sort', mo_place', mo_number', mo_fault', mo_wrongAt', mo_laneTold', mo_word', re_lanes', re_deep', re_told', re_beasts', re_cities', re_passes', re_turned', re_names', re_who', re_strong', re_kind', re_lane', re_mood', re_price', re_loses', re_name', re_nameSort', re_numberOf')) : Met l yX13_readLine wo_X13_readLine ({ frames := 9, cells := 0, slots := 0, locals := 206 }) (wrPcS D cy sa sv A [.ref a_mo] ([(a_mo, .inr (13, [.int mo_thrown, .int mo_trouble, .int mo_where, mo_war, .ref a_re, .ref a_mo_tape, .int mo_taped, .int mo_size, .int mo_spot, .int mo_sort, .int mo_place, .int mo_number, .int mo_fault, .int mo_wrongAt, .int mo_laneTold, .long mo_word, mo_v, mo_x, mo_past, mo_kept, .int mo_acts, .int mo_marks, mo_put, mo_bestPut, .long mo_bestSum, mo_row, mo_best, mo_left, .int mo_bestSize, .int mo_bestLeft, mo_counts, .int mo_sets, .int mo_foeHarm, .int mo_ownHarm, .int mo_across, .int mo_sumFoe, .int mo_sumOwn, .int mo_sumWon, .int mo_sumAcross])), (a_mo_tape, .inl (cy 0, 900, .inl mo_tape)), (a_re, .inr (12, [.int re_lanes, .int re_deep, .int re_told, .int re_beasts, .int re_cities, .int re_passes, .int re_turned, .int re_names, .ref a_re_who, .ref a_re_strong, .ref a_re_kind, .ref a_re_lane, .ref a_re_mood, .ref a_re_price, .ref a_re_loses, .ref a_re_name, .ref a_re_nameSort, .ref a_re_numberOf])), (a_re_who, .inl (cy 1, 6, .inl re_who)), (a_re_strong, .inl (cy 1, 6, .inl re_strong)), (a_re_kind, .inl (cy 1, 5, .inl re_kind)), (a_re_lane, .inl (cy 1, 5, .inl re_lane)), (a_re_mood, .inl (cy 1, 5, .inl re_mood)), (a_re_price, .inl (cy 1, 5, .inl re_price)), (a_re_loses, .inl (cy 1, 36, .inl re_loses)), (a_re_name, .inl (cy 2, 11, .inr (.inl re_name))), (a_re_nameSort, .inl (cy 1, 11, .inl re_nameSort)), (a_re_numberOf, .inl (cy 1, 11, .inl re_numberOf))] ++ X)) (va_Qv (fun (_ : Unit) => True) (wB D A ([(a_mo, .inr (13, [.int mo_thrown, .int mo_trouble, .int mo_where, mo_war, .ref a_re, .ref a_mo_tape, .int mo_taped, .int mo_size, .int mo_spot', .int mo_sort', .int mo_place', .int mo_number', .int mo_fault', .int mo_wrongAt', .int mo_laneTold', .long mo_word', mo_v, mo_x, mo_past, mo_kept, .int mo_acts, .int mo_marks, mo_put, mo_bestPut, .long mo_bestSum, mo_row, mo_best, mo_left, .int mo_bestSize, .int mo_bestLeft, mo_counts, .int mo_sets, .int mo_foeHarm, .int mo_ownHarm, .int mo_across, .int mo_sumFoe, .int mo_sumOwn, .int mo_sumWon, .int mo_sumAcross])), (a_mo_tape, .inl (cy 0, 900, .inl mo_tape)), (a_re, .inr (12, [.int re_lanes', .int re_deep', .int re_told', .int re_beasts', .int re_cities', .int re_passes', .int re_turned', .int re_names', .ref a_re_who, .ref a_re_strong, .ref a_re_kind, .ref a_re_lane, .ref a_re_mood, .ref a_re_price, .ref a_re_loses, .ref a_re_name, .ref a_re_nameSort, .ref a_re_numberOf])), (a_re_who, .inl (cy 1, 6, .inl re_who')), (a_re_strong, .inl (cy 1, 6, .inl re_strong')), (a_re_kind, .inl (cy 1, 5, .inl re_kind')), (a_re_lane, .inl (cy 1, 5, .inl re_lane')), (a_re_mood, .inl (cy 1, 5, .inl re_mood')), (a_re_price, .inl (cy 1, 5, .inl re_price')), (a_re_loses, .inl (cy 1, 36, .inl re_loses')), (a_re_name, .inl (cy 2, 11, .inr (.inl re_name'))), (a_re_nameSort, .inl (cy 1, 11, .inl re_nameSort')), (a_re_numberOf, .inl (cy 1, 11, .inl re_numberOf'))] ++ X)) A) 0 0 A := by
  refine Met.ofW (cc := cX13_readLine) (maxL := 1) (ret := none) (by decide) rfl ?_
  intro p e s m args below meth c s₁ B hml hv
  obtain ⟨rfl, hP, hKN, hD, hA, hSS⟩ := hv
  have hK := hKN.1
  have hx := B.exec
  have hb := B.bytes
  have hr := B.returns
  have hts := wt_X13_readLine hKN.2.2 (([.ref a_mo] : List Value).toArray)
  have hown : s.vm.findClass RX13 = some m.cls := findClass_of_methodNamed B.named
  have hlocks := B.notSynchronized
  have hS : va_S A s.heap s.heap [] := va_S.rf
  have hl := lv_entry ([.ref a_mo]) (n := 1) (Nat.le_of_ble_eq_true rfl)
  rw [lg_entry_eq]
  generalize (lg_sl ([.ref a_mo]) ++ List.replicate (1 - (lg_sl ([.ref a_mo])).length) Slot.unset).toArray = ls at hl ⊢
  have hl : lv_has ls 1 [(0, .ref a_mo)] := hl
  unfold f_X13_readLine at h
  refine lv_aload_n hx hb dX13_readLine_0 rfl (lv_at hl 0 rfl) ?_
  refine va_ldcS hx hb hown (hSS.2.2.2 ("ElephantLineModel", 144, "field", 1) (List.mem_of_getElem? (i := 1) rfl)) dX13_readLine_1 ?_
  obtain ⟨r_1, hc_2, h⟩ := bd1_some h
  refine kVbS [.ref (sa 1)] [] ⟨hx, hb, hml, hown, hts⟩ (c_X13_isWord l D cy sa sv a_mo mo_thrown mo_trouble mo_where (mo_war) (.ref a_re) (.ref a_mo_tape) mo_taped mo_size mo_spot mo_sort mo_place mo_number mo_fault mo_wrongAt mo_laneTold mo_word (mo_v) (mo_x) (mo_past) (mo_kept) mo_acts mo_marks (mo_put) (mo_bestPut) mo_bestSum (mo_row) (mo_best) (mo_left) mo_bestSize mo_bestLeft (mo_counts) mo_sets mo_foeHarm mo_ownHarm mo_across mo_sumFoe mo_sumOwn mo_sumWon mo_sumAcross 1 (by decide) r_1 hc_2) gX13_readLine_X13_isWord rfl hd_X13_isWord ⟨Nat.le_of_ble_eq_true rfl, Nat.le_of_ble_eq_true rfl⟩ rfl rfl hKN (pXc hP [0] rfl) (hSS.kept hS).narrow 13 0 rfl rfl rfl hl.1 rfl (Nat.le_of_ble_eq_true rfl) dX13_readLine_3 ⟨Nat.le_of_ble_eq_true rfl, Nat.le_of_ble_eq_true rfl⟩ (fun nb_3 => ?_)
  refine lv_if_eq (tgt := 16) hx hb dX13_readLine_6 (by decide) (fun cd => ?_) (fun cd => ?_)
  · have h := ifT cd h
    refine lv_aload_n hx hb dX13_readLine_16 rfl (lv_at hl 0 rfl) ?_
    refine va_ldcS hx hb hown (hSS.2.2.2 ("ElephantLineModel", 146, "lane", 2) (List.mem_of_getElem? (i := 2) rfl)) dX13_readLine_17 ?_
    obtain ⟨r_4, hc_5, h⟩ := bd1_some h
    refine kVbS [.ref (sa 2)] [] ⟨hx, hb, hml, hown, hts⟩ (c_X13_isWord l D cy sa sv a_mo mo_thrown mo_trouble mo_where (mo_war) (.ref a_re) (.ref a_mo_tape) mo_taped mo_size mo_spot mo_sort mo_place mo_number mo_fault mo_wrongAt mo_laneTold mo_word (mo_v) (mo_x) (mo_past) (mo_kept) mo_acts mo_marks (mo_put) (mo_bestPut) mo_bestSum (mo_row) (mo_best) (mo_left) mo_bestSize mo_bestLeft (mo_counts) mo_sets mo_foeHarm mo_ownHarm mo_across mo_sumFoe mo_sumOwn mo_sumWon mo_sumAcross 2 (by decide) r_4 hc_5) gX13_readLine_X13_isWord rfl hd_X13_isWord ⟨Nat.le_of_ble_eq_true rfl, Nat.le_of_ble_eq_true rfl⟩ rfl rfl hKN (pXc hP [0] rfl) (hSS.kept hS).narrow 13 0 rfl rfl rfl hl.1 rfl (Nat.le_of_ble_eq_true rfl) dX13_readLine_19 ⟨Nat.le_of_ble_eq_true rfl, Nat.le_of_ble_eq_true rfl⟩ (fun nb_6 => ?_)
    refine lv_if_eq (tgt := 32) hx hb dX13_readLine_22 (by decide) (fun cd => ?_) (fun cd => ?_)
    · have h := ifT cd h
      refine lv_aload_n hx hb dX13_readLine_32 rfl (lv_at hl 0 rfl) ?_
      refine va_ldcS hx hb hown (hSS.2.2.2 ("ElephantLineModel", 148, "beast", 3) (List.mem_of_getElem? (i := 3) rfl)) dX13_readLine_33 ?_
      obtain ⟨r_7, hc_8, h⟩ := bd1_some h
      refine kVbS [.ref (sa 3)] [] ⟨hx, hb, hml, hown, hts⟩ (c_X13_isWord l D cy sa sv a_mo mo_thrown mo_trouble mo_where (mo_war) (.ref a_re) (.ref a_mo_tape) mo_taped mo_size mo_spot mo_sort mo_place mo_number mo_fault mo_wrongAt mo_laneTold mo_word (mo_v) (mo_x) (mo_past) (mo_kept) mo_acts mo_marks (mo_put) (mo_bestPut) mo_bestSum (mo_row) (mo_best) (mo_left) mo_bestSize mo_bestLeft (mo_counts) mo_sets mo_foeHarm mo_ownHarm mo_across mo_sumFoe mo_sumOwn mo_sumWon mo_sumAcross 3 (by decide) r_7 hc_8) gX13_readLine_X13_isWord rfl hd_X13_isWord ⟨Nat.le_of_ble_eq_true rfl, Nat.le_of_ble_eq_true rfl⟩ rfl rfl hKN (pXc hP [0] rfl) (hSS.kept hS).narrow 13 0 rfl rfl rfl hl.1 rfl (Nat.le_of_ble_eq_true rfl) dX13_readLine_35 ⟨Nat.le_of_ble_eq_true rfl, Nat.le_of_ble_eq_true rfl⟩ (fun nb_9 => ?_)
      refine lv_if_eq (tgt := 48) hx hb dX13_readLine_38 (by decide) (fun cd => ?_) (fun cd => ?_)
      · have h := ifT cd h
        refine lv_aload_n hx hb dX13_readLine_48 rfl (lv_at hl 0 rfl) ?_
        refine va_ldcS hx hb hown (hSS.2.2.2 ("ElephantLineModel", 150, "city", 4) (List.mem_of_getElem? (i := 4) rfl)) dX13_readLine_49 ?_
        obtain ⟨r_10, hc_11, h⟩ := bd1_some h
        refine kVbS [.ref (sa 4)] [] ⟨hx, hb, hml, hown, hts⟩ (c_X13_isWord l D cy sa sv a_mo mo_thrown mo_trouble mo_where (mo_war) (.ref a_re) (.ref a_mo_tape) mo_taped mo_size mo_spot mo_sort mo_place mo_number mo_fault mo_wrongAt mo_laneTold mo_word (mo_v) (mo_x) (mo_past) (mo_kept) mo_acts mo_marks (mo_put) (mo_bestPut) mo_bestSum (mo_row) (mo_best) (mo_left) mo_bestSize mo_bestLeft (mo_counts) mo_sets mo_foeHarm mo_ownHarm mo_across mo_sumFoe mo_sumOwn mo_sumWon mo_sumAcross 4 (by decide) r_10 hc_11) gX13_readLine_X13_isWord rfl hd_X13_isWord ⟨Nat.le_of_ble_eq_true rfl, Nat.le_of_ble_eq_true rfl⟩ rfl rfl hKN (pXc hP [0] rfl) (hSS.kept hS).narrow 13 0 rfl rfl rfl hl.1 rfl (Nat.le_of_ble_eq_true rfl) dX13_readLine_51 ⟨Nat.le_of_ble_eq_true rfl, Nat.le_of_ble_eq_true rfl⟩ (fun nb_12 => ?_)
        refine lv_if_eq (tgt := 64) hx hb dX13_readLine_54 (by decide) (fun cd => ?_) (fun cd => ?_)
        · have h := ifT cd h
          refine lv_aload_n hx hb dX13_readLine_64 rfl (lv_at hl 0 rfl) ?_
          refine va_ldcS hx hb hown (hSS.2.2.2 ("ElephantLineModel", 152, "pass", 5) (List.mem_of_getElem? (i := 5) rfl)) dX13_readLine_65 ?_
          obtain ⟨r_13, hc_14, h⟩ := bd1_some h
          refine kVbS [.ref (sa 5)] [] ⟨hx, hb, hml, hown, hts⟩ (c_X13_isWord l D cy sa sv a_mo mo_thrown mo_trouble mo_where (mo_war) (.ref a_re) (.ref a_mo_tape) mo_taped mo_size mo_spot mo_sort mo_place mo_number mo_fault mo_wrongAt mo_laneTold mo_word (mo_v) (mo_x) (mo_past) (mo_kept) mo_acts mo_marks (mo_put) (mo_bestPut) mo_bestSum (mo_row) (mo_best) (mo_left) mo_bestSize mo_bestLeft (mo_counts) mo_sets mo_foeHarm mo_ownHarm mo_across mo_sumFoe mo_sumOwn mo_sumWon mo_sumAcross 5 (by decide) r_13 hc_14) gX13_readLine_X13_isWord rfl hd_X13_isWord ⟨Nat.le_of_ble_eq_true rfl, Nat.le_of_ble_eq_true rfl⟩ rfl rfl hKN (pXc hP [0] rfl) (hSS.kept hS).narrow 13 0 rfl rfl rfl hl.1 rfl (Nat.le_of_ble_eq_true rfl) dX13_readLine_67 ⟨Nat.le_of_ble_eq_true rfl, Nat.le_of_ble_eq_true rfl⟩ (fun nb_15 => ?_)
          refine lv_if_eq (tgt := 80) hx hb dX13_readLine_70 (by decide) (fun cd => ?_) (fun cd => ?_)
          · have h := ifT cd h
            refine lv_aload_n hx hb dX13_readLine_80 rfl (lv_at hl 0 rfl) ?_
            refine va_ldcS hx hb hown (hSS.2.2.2 ("ElephantLineModel", 154, "turned", 6) (List.mem_of_getElem? (i := 6) rfl)) dX13_readLine_81 ?_
            obtain ⟨r_16, hc_17, h⟩ := bd1_some h
            refine kVbS [.ref (sa 6)] [] ⟨hx, hb, hml, hown, hts⟩ (c_X13_isWord l D cy sa sv a_mo mo_thrown mo_trouble mo_where (mo_war) (.ref a_re) (.ref a_mo_tape) mo_taped mo_size mo_spot mo_sort mo_place mo_number mo_fault mo_wrongAt mo_laneTold mo_word (mo_v) (mo_x) (mo_past) (mo_kept) mo_acts mo_marks (mo_put) (mo_bestPut) mo_bestSum (mo_row) (mo_best) (mo_left) mo_bestSize mo_bestLeft (mo_counts) mo_sets mo_foeHarm mo_ownHarm mo_across mo_sumFoe mo_sumOwn mo_sumWon mo_sumAcross 6 (by decide) r_16 hc_17) gX13_readLine_X13_isWord rfl hd_X13_isWord ⟨Nat.le_of_ble_eq_true rfl, Nat.le_of_ble_eq_true rfl⟩ rfl rfl hKN (pXc hP [0] rfl) (hSS.kept hS).narrow 13 0 rfl rfl rfl hl.1 rfl (Nat.le_of_ble_eq_true rfl) dX13_readLine_83 ⟨Nat.le_of_ble_eq_true rfl, Nat.le_of_ble_eq_true rfl⟩ (fun nb_18 => ?_)
            refine lv_if_eq (tgt := 96) hx hb dX13_readLine_86 (by decide) (fun cd => ?_) (fun cd => ?_)
            · have h := ifT cd h
              refine lv_aload_n hx hb dX13_readLine_96 rfl (lv_at hl 0 rfl) ?_
              refine lv_iconst (v := 1) hx hb dX13_readLine_97 (by decide) ?_
              obtain ⟨mo_sort_19, mo_fault_20, mo_wrongAt_21, hc_22, h⟩ := bd3_some h
              refine wVv [.int 1] [] ⟨hx, hb, hml, hown, hts⟩ (c_X13_flaw l D cy A ([(a_mo_tape, .inl (cy 0, 900, .inl mo_tape)), (a_re, .inr (12, [.int re_lanes, .int re_deep, .int re_told, .int re_beasts, .int re_cities, .int re_passes, .int re_turned, .int re_names, .ref a_re_who, .ref a_re_strong, .ref a_re_kind, .ref a_re_lane, .ref a_re_mood, .ref a_re_price, .ref a_re_loses, .ref a_re_name, .ref a_re_nameSort, .ref a_re_numberOf])), (a_re_who, .inl (cy 1, 6, .inl re_who)), (a_re_strong, .inl (cy 1, 6, .inl re_strong)), (a_re_kind, .inl (cy 1, 5, .inl re_kind)), (a_re_lane, .inl (cy 1, 5, .inl re_lane)), (a_re_mood, .inl (cy 1, 5, .inl re_mood)), (a_re_price, .inl (cy 1, 5, .inl re_price)), (a_re_loses, .inl (cy 1, 36, .inl re_loses)), (a_re_name, .inl (cy 2, 11, .inr (.inl re_name))), (a_re_nameSort, .inl (cy 1, 11, .inl re_nameSort)), (a_re_numberOf, .inl (cy 1, 11, .inl re_numberOf))] ++ X) a_mo mo_thrown mo_trouble mo_where (mo_war) (.ref a_re) (.ref a_mo_tape) mo_taped mo_size mo_spot mo_sort mo_place mo_number mo_fault mo_wrongAt mo_laneTold mo_word (mo_v) (mo_x) (mo_past) (mo_kept) mo_acts mo_marks (mo_put) (mo_bestPut) mo_bestSum (mo_row) (mo_best) (mo_left) mo_bestSize mo_bestLeft (mo_counts) mo_sets mo_foeHarm mo_ownHarm mo_across mo_sumFoe mo_sumOwn mo_sumWon mo_sumAcross (1 : Int32) mo_sort_19 mo_fault_20 mo_wrongAt_21 hc_22) gX13_readLine_X13_flaw rfl hd_X13_flaw ⟨Nat.le_of_ble_eq_true rfl, Nat.le_of_ble_eq_true rfl⟩ rfl rfl hKN (pX3 hP [0, 1, 2, 3, 4, 5, 6, 7, 8, 9, 10, 11, 12] rfl) (dX3 hD [0, 1, 2, 3, 4, 5, 6, 7, 8, 9, 10, 11, 12] rfl rfl) hS hA 13 0 rfl rfl rfl hl.1 rfl (Nat.le_of_ble_eq_true rfl) dX13_readLine_98 ⟨Nat.le_of_ble_eq_true rfl, Nat.le_of_ble_eq_true rfl⟩ (fun H locs hP hD hS => ?_)
              have hP := pX4 (L1 := [(a_mo, .inr (13, [.int mo_thrown, .int mo_trouble, .int mo_where, mo_war, .ref a_re, .ref a_mo_tape, .int mo_taped, .int mo_size, .int mo_spot, .int mo_sort_19, .int mo_place, .int mo_number, .int mo_fault_20, .int mo_wrongAt_21, .int mo_laneTold, .long mo_word, mo_v, mo_x, mo_past, mo_kept, .int mo_acts, .int mo_marks, mo_put, mo_bestPut, .long mo_bestSum, mo_row, mo_best, mo_left, .int mo_bestSize, .int mo_bestLeft, mo_counts, .int mo_sets, .int mo_foeHarm, .int mo_ownHarm, .int mo_across, .int mo_sumFoe, .int mo_sumOwn, .int mo_sumWon, .int mo_sumAcross])), (a_mo_tape, .inl (cy 0, 900, .inl mo_tape)), (a_re, .inr (12, [.int re_lanes, .int re_deep, .int re_told, .int re_beasts, .int re_cities, .int re_passes, .int re_turned, .int re_names, .ref a_re_who, .ref a_re_strong, .ref a_re_kind, .ref a_re_lane, .ref a_re_mood, .ref a_re_price, .ref a_re_loses, .ref a_re_name, .ref a_re_nameSort, .ref a_re_numberOf])), (a_re_who, .inl (cy 1, 6, .inl re_who)), (a_re_strong, .inl (cy 1, 6, .inl re_strong)), (a_re_kind, .inl (cy 1, 5, .inl re_kind)), (a_re_lane, .inl (cy 1, 5, .inl re_lane)), (a_re_mood, .inl (cy 1, 5, .inl re_mood)), (a_re_price, .inl (cy 1, 5, .inl re_price)), (a_re_loses, .inl (cy 1, 36, .inl re_loses)), (a_re_name, .inl (cy 2, 11, .inr (.inl re_name))), (a_re_nameSort, .inl (cy 1, 11, .inl re_nameSort)), (a_re_numberOf, .inl (cy 1, 11, .inl re_numberOf))]) hP [0, 1, 2, 3, 4, 5, 6, 7, 8, 9, 10, 11, 12] rfl
              have hD := dX4 (L1 := [(a_mo, .inr (13, [.int mo_thrown, .int mo_trouble, .int mo_where, mo_war, .ref a_re, .ref a_mo_tape, .int mo_taped, .int mo_size, .int mo_spot, .int mo_sort_19, .int mo_place, .int mo_number, .int mo_fault_20, .int mo_wrongAt_21, .int mo_laneTold, .long mo_word, mo_v, mo_x, mo_past, mo_kept, .int mo_acts, .int mo_marks, mo_put, mo_bestPut, .long mo_bestSum, mo_row, mo_best, mo_left, .int mo_bestSize, .int mo_bestLeft, mo_counts, .int mo_sets, .int mo_foeHarm, .int mo_ownHarm, .int mo_across, .int mo_sumFoe, .int mo_sumOwn, .int mo_sumWon, .int mo_sumAcross])), (a_mo_tape, .inl (cy 0, 900, .inl mo_tape)), (a_re, .inr (12, [.int re_lanes, .int re_deep, .int re_told, .int re_beasts, .int re_cities, .int re_passes, .int re_turned, .int re_names, .ref a_re_who, .ref a_re_strong, .ref a_re_kind, .ref a_re_lane, .ref a_re_mood, .ref a_re_price, .ref a_re_loses, .ref a_re_name, .ref a_re_nameSort, .ref a_re_numberOf])), (a_re_who, .inl (cy 1, 6, .inl re_who)), (a_re_strong, .inl (cy 1, 6, .inl re_strong)), (a_re_kind, .inl (cy 1, 5, .inl re_kind)), (a_re_lane, .inl (cy 1, 5, .inl re_lane)), (a_re_mood, .inl (cy 1, 5, .inl re_mood)), (a_re_price, .inl (cy 1, 5, .inl re_price)), (a_re_loses, .inl (cy 1, 36, .inl re_loses)), (a_re_name, .inl (cy 2, 11, .inr (.inl re_name))), (a_re_nameSort, .inl (cy 1, 11, .inl re_nameSort)), (a_re_numberOf, .inl (cy 1, 11, .inl re_numberOf))]) hD [0, 1, 2, 3, 4, 5, 6, 7, 8, 9, 10, 11, 12] rfl rfl
              have h0 := Option.some.inj h
              clear h
              obtain ⟨e1, h1⟩ := pjP h0
              clear h0
              subst e1
              obtain ⟨e2, h2⟩ := pjP h1
              clear h1
              subst e2
              obtain ⟨e3, h3⟩ := pjP h2
              clear h2
              subst e3
              obtain ⟨e4, h4⟩ := pjP h3
              clear h3
              subst e4
              obtain ⟨e5, h5⟩ := pjP h4
              clear h4
              subst e5
              obtain ⟨e6, h6⟩ := pjP h5
              clear h5
              subst e6
              obtain ⟨e7, h7⟩ := pjP h6
              clear h6
              subst e7
              obtain ⟨e8, h8⟩ := pjP h7
              clear h7
              subst e8
              obtain ⟨e9, h9⟩ := pjP h8
              clear h8
              subst e9
              obtain ⟨e10, h10⟩ := pjP h9
              clear h9
              subst e10
              obtain ⟨e11, h11⟩ := pjP h10
              clear h10
              subst e11
              obtain ⟨e12, h12⟩ := pjP h11
              clear h11
              subst e12
              obtain ⟨e13, h13⟩ := pjP h12
              clear h12
              subst e13
              obtain ⟨e14, h14⟩ := pjP h13
              clear h13
              subst e14
              obtain ⟨e15, h15⟩ := pjP h14
              clear h14
              subst e15
              obtain ⟨e16, h16⟩ := pjP h15
              clear h15
              subst e16
              obtain ⟨e17, h17⟩ := pjP h16
              clear h16
              subst e17
              obtain ⟨e18, h18⟩ := pjP h17
              clear h17
              subst e18
              obtain ⟨e19, h19⟩ := pjP h18
              clear h18
              subst e19
              obtain ⟨e20, h20⟩ := pjP h19
              clear h19
              subst e20
              obtain ⟨e21, h21⟩ := pjP h20
              clear h20
              subst e21
              obtain ⟨e22, h22⟩ := pjP h21
              clear h21
              subst e22
              obtain ⟨e23, h23⟩ := pjP h22
              clear h22
              subst e23
              obtain ⟨e24, h24⟩ := pjP h23
              clear h23
              subst e24
              obtain ⟨e25, h25⟩ := pjP h24
              clear h24
              subst e25
              subst h25
              exact W.vret hx hb hr (fun t ht _ => ⟨⟨(), rfl, trivial, by rw [ht]; exact hP, hD⟩, hS.F ht⟩) hS.2.2 dX13_readLine_101
            · have h := ifF cd h
              refine lv_aload_n hx hb dX13_readLine_89 rfl (lv_at hl 0 rfl) ?_
              obtain ⟨mo_spot_23, mo_sort_24, mo_place_25, mo_number_26, mo_fault_27, mo_wrongAt_28, mo_word_29, re_turned_30, hc_31, h⟩ := bd8_some h
              refine wVvS [] [] ⟨hx, hb, hml, hown, hts⟩ (c_X13_readTurned l D cy sa sv A ([(a_re_who, .inl (cy 1, 6, .inl re_who)), (a_re_strong, .inl (cy 1, 6, .inl re_strong)), (a_re_kind, .inl (cy 1, 5, .inl re_kind)), (a_re_lane, .inl (cy 1, 5, .inl re_lane)), (a_re_mood, .inl (cy 1, 5, .inl re_mood)), (a_re_price, .inl (cy 1, 5, .inl re_price)), (a_re_loses, .inl (cy 1, 36, .inl re_loses))] ++ X) a_mo a_mo_tape a_re a_re_name a_re_nameSort a_re_numberOf mo_thrown mo_trouble mo_where (mo_war) mo_taped mo_size mo_spot mo_sort mo_place mo_number mo_fault mo_wrongAt mo_laneTold mo_word (mo_v) (mo_x) (mo_past) (mo_kept) mo_acts mo_marks (mo_put) (mo_bestPut) mo_bestSum (mo_row) (mo_best) (mo_left) mo_bestSize mo_bestLeft (mo_counts) mo_sets mo_foeHarm mo_ownHarm mo_across mo_sumFoe mo_sumOwn mo_sumWon mo_sumAcross mo_tape re_lanes re_deep re_told re_beasts re_cities re_passes re_turned re_names (.ref a_re_who) (.ref a_re_strong) (.ref a_re_kind) (.ref a_re_lane) (.ref a_re_mood) (.ref a_re_price) (.ref a_re_loses) re_name re_nameSort re_numberOf mo_spot_23 mo_sort_24 mo_place_25 mo_number_26 mo_fault_27 mo_wrongAt_28 mo_word_29 re_turned_30 hc_31) gX13_readLine_X13_readTurned rfl hd_X13_readTurned ⟨Nat.le_of_ble_eq_true rfl, Nat.le_of_ble_eq_true rfl⟩ rfl rfl hKN (pX3 hP [0, 1, 2, 10, 11, 12, 3, 4, 5, 6, 7, 8, 9] rfl) (hSS.kept hS) (dX3 hD [0, 1, 2, 10, 11, 12, 3, 4, 5, 6, 7, 8, 9] rfl rfl) hS hA 13 0 rfl rfl rfl hl.1 rfl (Nat.le_of_ble_eq_true rfl) dX13_readLine_90 ⟨Nat.le_of_ble_eq_true rfl, Nat.le_of_ble_eq_true rfl⟩ (fun H locs hP hD hS => ?_)
              have hP := pX4 (L1 := [(a_mo, .inr (13, [.int mo_thrown, .int mo_trouble, .int mo_where, mo_war, .ref a_re, .ref a_mo_tape, .int mo_taped, .int mo_size, .int mo_spot_23, .int mo_sort_24, .int mo_place_25, .int mo_number_26, .int mo_fault_27, .int mo_wrongAt_28, .int mo_laneTold, .long mo_word_29, mo_v, mo_x, mo_past, mo_kept, .int mo_acts, .int mo_marks, mo_put, mo_bestPut, .long mo_bestSum, mo_row, mo_best, mo_left, .int mo_bestSize, .int mo_bestLeft, mo_counts, .int mo_sets, .int mo_foeHarm, .int mo_ownHarm, .int mo_across, .int mo_sumFoe, .int mo_sumOwn, .int mo_sumWon, .int mo_sumAcross])), (a_mo_tape, .inl (cy 0, 900, .inl mo_tape)), (a_re, .inr (12, [.int re_lanes, .int re_deep, .int re_told, .int re_beasts, .int re_cities, .int re_passes, .int re_turned_30, .int re_names, .ref a_re_who, .ref a_re_strong, .ref a_re_kind, .ref a_re_lane, .ref a_re_mood, .ref a_re_price, .ref a_re_loses, .ref a_re_name, .ref a_re_nameSort, .ref a_re_numberOf])), (a_re_who, .inl (cy 1, 6, .inl re_who)), (a_re_strong, .inl (cy 1, 6, .inl re_strong)), (a_re_kind, .inl (cy 1, 5, .inl re_kind)), (a_re_lane, .inl (cy 1, 5, .inl re_lane)), (a_re_mood, .inl (cy 1, 5, .inl re_mood)), (a_re_price, .inl (cy 1, 5, .inl re_price)), (a_re_loses, .inl (cy 1, 36, .inl re_loses)), (a_re_name, .inl (cy 2, 11, .inr (.inl re_name))), (a_re_nameSort, .inl (cy 1, 11, .inl re_nameSort)), (a_re_numberOf, .inl (cy 1, 11, .inl re_numberOf))]) hP [0, 1, 2, 6, 7, 8, 9, 10, 11, 12, 3, 4, 5] rfl
              have hD := dX4 (L1 := [(a_mo, .inr (13, [.int mo_thrown, .int mo_trouble, .int mo_where, mo_war, .ref a_re, .ref a_mo_tape, .int mo_taped, .int mo_size, .int mo_spot_23, .int mo_sort_24, .int mo_place_25, .int mo_number_26, .int mo_fault_27, .int mo_wrongAt_28, .int mo_laneTold, .long mo_word_29, mo_v, mo_x, mo_past, mo_kept, .int mo_acts, .int mo_marks, mo_put, mo_bestPut, .long mo_bestSum, mo_row, mo_best, mo_left, .int mo_bestSize, .int mo_bestLeft, mo_counts, .int mo_sets, .int mo_foeHarm, .int mo_ownHarm, .int mo_across, .int mo_sumFoe, .int mo_sumOwn, .int mo_sumWon, .int mo_sumAcross])), (a_mo_tape, .inl (cy 0, 900, .inl mo_tape)), (a_re, .inr (12, [.int re_lanes, .int re_deep, .int re_told, .int re_beasts, .int re_cities, .int re_passes, .int re_turned_30, .int re_names, .ref a_re_who, .ref a_re_strong, .ref a_re_kind, .ref a_re_lane, .ref a_re_mood, .ref a_re_price, .ref a_re_loses, .ref a_re_name, .ref a_re_nameSort, .ref a_re_numberOf])), (a_re_who, .inl (cy 1, 6, .inl re_who)), (a_re_strong, .inl (cy 1, 6, .inl re_strong)), (a_re_kind, .inl (cy 1, 5, .inl re_kind)), (a_re_lane, .inl (cy 1, 5, .inl re_lane)), (a_re_mood, .inl (cy 1, 5, .inl re_mood)), (a_re_price, .inl (cy 1, 5, .inl re_price)), (a_re_loses, .inl (cy 1, 36, .inl re_loses)), (a_re_name, .inl (cy 2, 11, .inr (.inl re_name))), (a_re_nameSort, .inl (cy 1, 11, .inl re_nameSort)), (a_re_numberOf, .inl (cy 1, 11, .inl re_numberOf))]) hD [0, 1, 2, 6, 7, 8, 9, 10, 11, 12, 3, 4, 5] rfl rfl
              refine lv_goto (tgt := 101) hx hb dX13_readLine_93 (by decide) ?_
              have h0 := Option.some.inj h
              clear h
              obtain ⟨e1, h1⟩ := pjP h0
              clear h0
              subst e1
              obtain ⟨e2, h2⟩ := pjP h1
              clear h1
              subst e2
              obtain ⟨e3, h3⟩ := pjP h2
              clear h2
              subst e3
              obtain ⟨e4, h4⟩ := pjP h3
              clear h3
              subst e4
              obtain ⟨e5, h5⟩ := pjP h4
              clear h4
              subst e5
              obtain ⟨e6, h6⟩ := pjP h5
              clear h5
              subst e6
              obtain ⟨e7, h7⟩ := pjP h6
              clear h6
              subst e7
              obtain ⟨e8, h8⟩ := pjP h7
              clear h7
              subst e8
              obtain ⟨e9, h9⟩ := pjP h8
              clear h8
              subst e9
              obtain ⟨e10, h10⟩ := pjP h9
              clear h9
              subst e10
              obtain ⟨e11, h11⟩ := pjP h10
              clear h10
              subst e11
              obtain ⟨e12, h12⟩ := pjP h11
              clear h11
              subst e12
              obtain ⟨e13, h13⟩ := pjP h12
              clear h12
              subst e13
              obtain ⟨e14, h14⟩ := pjP h13
              clear h13
              subst e14
              obtain ⟨e15, h15⟩ := pjP h14
              clear h14
              subst e15
              obtain ⟨e16, h16⟩ := pjP h15
              clear h15
              subst e16
              obtain ⟨e17, h17⟩ := pjP h16
              clear h16
              subst e17
              obtain ⟨e18, h18⟩ := pjP h17
              clear h17
              subst e18
              obtain ⟨e19, h19⟩ := pjP h18
              clear h18
              subst e19
              obtain ⟨e20, h20⟩ := pjP h19
              clear h19
              subst e20
              obtain ⟨e21, h21⟩ := pjP h20
              clear h20
              subst e21
              obtain ⟨e22, h22⟩ := pjP h21
              clear h21
              subst e22
              obtain ⟨e23, h23⟩ := pjP h22
              clear h22
              subst e23
              obtain ⟨e24, h24⟩ := pjP h23
              clear h23
              subst e24
              obtain ⟨e25, h25⟩ := pjP h24
              clear h24
              subst e25
              subst h25
              exact W.vret hx hb hr (fun t ht _ => ⟨⟨(), rfl, trivial, by rw [ht]; exact hP, hD⟩, hS.F ht⟩) hS.2.2 dX13_readLine_101
          · have h := ifF cd h
            refine lv_aload_n hx hb dX13_readLine_73 rfl (lv_at hl 0 rfl) ?_
            obtain ⟨mo_spot_32, mo_sort_33, mo_place_34, mo_number_35, mo_fault_36, mo_wrongAt_37, mo_word_38, re_passes_39, re_loses_40, hc_41, h⟩ := bd9_some h
            refine wVvS [] [] ⟨hx, hb, hml, hown, hts⟩ (c_X13_readPass l D cy sa sv A ([(a_re_who, .inl (cy 1, 6, .inl re_who)), (a_re_strong, .inl (cy 1, 6, .inl re_strong)), (a_re_kind, .inl (cy 1, 5, .inl re_kind)), (a_re_lane, .inl (cy 1, 5, .inl re_lane)), (a_re_mood, .inl (cy 1, 5, .inl re_mood)), (a_re_price, .inl (cy 1, 5, .inl re_price))] ++ X) a_mo a_mo_tape a_re a_re_loses a_re_name a_re_nameSort a_re_numberOf mo_thrown mo_trouble mo_where (mo_war) mo_taped mo_size mo_spot mo_sort mo_place mo_number mo_fault mo_wrongAt mo_laneTold mo_word (mo_v) (mo_x) (mo_past) (mo_kept) mo_acts mo_marks (mo_put) (mo_bestPut) mo_bestSum (mo_row) (mo_best) (mo_left) mo_bestSize mo_bestLeft (mo_counts) mo_sets mo_foeHarm mo_ownHarm mo_across mo_sumFoe mo_sumOwn mo_sumWon mo_sumAcross mo_tape re_lanes re_deep re_told re_beasts re_cities re_passes re_turned re_names (.ref a_re_who) (.ref a_re_strong) (.ref a_re_kind) (.ref a_re_lane) (.ref a_re_mood) (.ref a_re_price) re_loses re_name re_nameSort re_numberOf mo_spot_32 mo_sort_33 mo_place_34 mo_number_35 mo_fault_36 mo_wrongAt_37 mo_word_38 re_passes_39 re_loses_40 hc_41) gX13_readLine_X13_readPass rfl hd_X13_readPass ⟨Nat.le_of_ble_eq_true rfl, Nat.le_of_ble_eq_true rfl⟩ rfl rfl hKN (pX3 hP [0, 1, 2, 9, 10, 11, 12, 3, 4, 5, 6, 7, 8] rfl) (hSS.kept hS) (dX3 hD [0, 1, 2, 9, 10, 11, 12, 3, 4, 5, 6, 7, 8] rfl rfl) hS hA 13 0 rfl rfl rfl hl.1 rfl (Nat.le_of_ble_eq_true rfl) dX13_readLine_74 ⟨Nat.le_of_ble_eq_true rfl, Nat.le_of_ble_eq_true rfl⟩ (fun H locs hP hD hS => ?_)
            have hP := pX4 (L1 := [(a_mo, .inr (13, [.int mo_thrown, .int mo_trouble, .int mo_where, mo_war, .ref a_re, .ref a_mo_tape, .int mo_taped, .int mo_size, .int mo_spot_32, .int mo_sort_33, .int mo_place_34, .int mo_number_35, .int mo_fault_36, .int mo_wrongAt_37, .int mo_laneTold, .long mo_word_38, mo_v, mo_x, mo_past, mo_kept, .int mo_acts, .int mo_marks, mo_put, mo_bestPut, .long mo_bestSum, mo_row, mo_best, mo_left, .int mo_bestSize, .int mo_bestLeft, mo_counts, .int mo_sets, .int mo_foeHarm, .int mo_ownHarm, .int mo_across, .int mo_sumFoe, .int mo_sumOwn, .int mo_sumWon, .int mo_sumAcross])), (a_mo_tape, .inl (cy 0, 900, .inl mo_tape)), (a_re, .inr (12, [.int re_lanes, .int re_deep, .int re_told, .int re_beasts, .int re_cities, .int re_passes_39, .int re_turned, .int re_names, .ref a_re_who, .ref a_re_strong, .ref a_re_kind, .ref a_re_lane, .ref a_re_mood, .ref a_re_price, .ref a_re_loses, .ref a_re_name, .ref a_re_nameSort, .ref a_re_numberOf])), (a_re_who, .inl (cy 1, 6, .inl re_who)), (a_re_strong, .inl (cy 1, 6, .inl re_strong)), (a_re_kind, .inl (cy 1, 5, .inl re_kind)), (a_re_lane, .inl (cy 1, 5, .inl re_lane)), (a_re_mood, .inl (cy 1, 5, .inl re_mood)), (a_re_price, .inl (cy 1, 5, .inl re_price)), (a_re_loses, .inl (cy 1, 36, .inl re_loses_40)), (a_re_name, .inl (cy 2, 11, .inr (.inl re_name))), (a_re_nameSort, .inl (cy 1, 11, .inl re_nameSort)), (a_re_numberOf, .inl (cy 1, 11, .inl re_numberOf))]) hP [0, 1, 2, 7, 8, 9, 10, 11, 12, 3, 4, 5, 6] rfl
            have hD := dX4 (L1 := [(a_mo, .inr (13, [.int mo_thrown, .int mo_trouble, .int mo_where, mo_war, .ref a_re, .ref a_mo_tape, .int mo_taped, .int mo_size, .int mo_spot_32, .int mo_sort_33, .int mo_place_34, .int mo_number_35, .int mo_fault_36, .int mo_wrongAt_37, .int mo_laneTold, .long mo_word_38, mo_v, mo_x, mo_past, mo_kept, .int mo_acts, .int mo_marks, mo_put, mo_bestPut, .long mo_bestSum, mo_row, mo_best, mo_left, .int mo_bestSize, .int mo_bestLeft, mo_counts, .int mo_sets, .int mo_foeHarm, .int mo_ownHarm, .int mo_across, .int mo_sumFoe, .int mo_sumOwn, .int mo_sumWon, .int mo_sumAcross])), (a_mo_tape, .inl (cy 0, 900, .inl mo_tape)), (a_re, .inr (12, [.int re_lanes, .int re_deep, .int re_told, .int re_beasts, .int re_cities, .int re_passes_39, .int re_turned, .int re_names, .ref a_re_who, .ref a_re_strong, .ref a_re_kind, .ref a_re_lane, .ref a_re_mood, .ref a_re_price, .ref a_re_loses, .ref a_re_name, .ref a_re_nameSort, .ref a_re_numberOf])), (a_re_who, .inl (cy 1, 6, .inl re_who)), (a_re_strong, .inl (cy 1, 6, .inl re_strong)), (a_re_kind, .inl (cy 1, 5, .inl re_kind)), (a_re_lane, .inl (cy 1, 5, .inl re_lane)), (a_re_mood, .inl (cy 1, 5, .inl re_mood)), (a_re_price, .inl (cy 1, 5, .inl re_price)), (a_re_loses, .inl (cy 1, 36, .inl re_loses_40)), (a_re_name, .inl (cy 2, 11, .inr (.inl re_name))), (a_re_nameSort, .inl (cy 1, 11, .inl re_nameSort)), (a_re_numberOf, .inl (cy 1, 11, .inl re_numberOf))]) hD [0, 1, 2, 7, 8, 9, 10, 11, 12, 3, 4, 5, 6] rfl rfl
            refine lv_goto (tgt := 101) hx hb dX13_readLine_77 (by decide) ?_
            have h0 := Option.some.inj h
            clear h
            obtain ⟨e1, h1⟩ := pjP h0
            clear h0
            subst e1
            obtain ⟨e2, h2⟩ := pjP h1
            clear h1
            subst e2
            obtain ⟨e3, h3⟩ := pjP h2
            clear h2
            subst e3
            obtain ⟨e4, h4⟩ := pjP h3
            clear h3
            subst e4
            obtain ⟨e5, h5⟩ := pjP h4
            clear h4
            subst e5
            obtain ⟨e6, h6⟩ := pjP h5
            clear h5
            subst e6
            obtain ⟨e7, h7⟩ := pjP h6
            clear h6
            subst e7
            obtain ⟨e8, h8⟩ := pjP h7
            clear h7
            subst e8
            obtain ⟨e9, h9⟩ := pjP h8
            clear h8
            subst e9
            obtain ⟨e10, h10⟩ := pjP h9
            clear h9
            subst e10
            obtain ⟨e11, h11⟩ := pjP h10
            clear h10
            subst e11
            obtain ⟨e12, h12⟩ := pjP h11
            clear h11
            subst e12
            obtain ⟨e13, h13⟩ := pjP h12
            clear h12
            subst e13
            obtain ⟨e14, h14⟩ := pjP h13
            clear h13
            subst e14
            obtain ⟨e15, h15⟩ := pjP h14
            clear h14
            subst e15
            obtain ⟨e16, h16⟩ := pjP h15
            clear h15
            subst e16
            obtain ⟨e17, h17⟩ := pjP h16
            clear h16
            subst e17
            obtain ⟨e18, h18⟩ := pjP h17
            clear h17
            subst e18
            obtain ⟨e19, h19⟩ := pjP h18
            clear h18
            subst e19
            obtain ⟨e20, h20⟩ := pjP h19
            clear h19
            subst e20
            obtain ⟨e21, h21⟩ := pjP h20
            clear h20
            subst e21
            obtain ⟨e22, h22⟩ := pjP h21
            clear h21
            subst e22
            obtain ⟨e23, h23⟩ := pjP h22
            clear h22
            subst e23
            obtain ⟨e24, h24⟩ := pjP h23
            clear h23
            subst e24
            obtain ⟨e25, h25⟩ := pjP h24
            clear h24
            subst e25
            subst h25
            exact W.vret hx hb hr (fun t ht _ => ⟨⟨(), rfl, trivial, by rw [ht]; exact hP, hD⟩, hS.F ht⟩) hS.2.2 dX13_readLine_101
        · have h := ifF cd h
          refine lv_aload_n hx hb dX13_readLine_57 rfl (lv_at hl 0 rfl) ?_
          obtain ⟨mo_spot_42, mo_sort_43, mo_place_44, mo_number_45, mo_fault_46, mo_wrongAt_47, mo_word_48, re_cities_49, re_names_50, re_loses_51, re_name_52, re_nameSort_53, re_numberOf_54, hc_55, h⟩ := bd13_some h
          refine wVvS [] [] ⟨hx, hb, hml, hown, hts⟩ (c_X13_readCity l D cy sa sv A ([(a_re_who, .inl (cy 1, 6, .inl re_who)), (a_re_strong, .inl (cy 1, 6, .inl re_strong)), (a_re_kind, .inl (cy 1, 5, .inl re_kind)), (a_re_lane, .inl (cy 1, 5, .inl re_lane)), (a_re_mood, .inl (cy 1, 5, .inl re_mood)), (a_re_price, .inl (cy 1, 5, .inl re_price))] ++ X) a_mo a_mo_tape a_re a_re_loses a_re_name a_re_nameSort a_re_numberOf mo_thrown mo_trouble mo_where (mo_war) mo_taped mo_size mo_spot mo_sort mo_place mo_number mo_fault mo_wrongAt mo_laneTold mo_word (mo_v) (mo_x) (mo_past) (mo_kept) mo_acts mo_marks (mo_put) (mo_bestPut) mo_bestSum (mo_row) (mo_best) (mo_left) mo_bestSize mo_bestLeft (mo_counts) mo_sets mo_foeHarm mo_ownHarm mo_across mo_sumFoe mo_sumOwn mo_sumWon mo_sumAcross mo_tape re_lanes re_deep re_told re_beasts re_cities re_passes re_turned re_names (.ref a_re_who) (.ref a_re_strong) (.ref a_re_kind) (.ref a_re_lane) (.ref a_re_mood) (.ref a_re_price) re_loses re_name re_nameSort re_numberOf mo_spot_42 mo_sort_43 mo_place_44 mo_number_45 mo_fault_46 mo_wrongAt_47 mo_word_48 re_cities_49 re_names_50 re_loses_51 re_name_52 re_nameSort_53 re_numberOf_54 hc_55) gX13_readLine_X13_readCity rfl hd_X13_readCity ⟨Nat.le_of_ble_eq_true rfl, Nat.le_of_ble_eq_true rfl⟩ rfl rfl hKN (pX3 hP [0, 1, 2, 9, 10, 11, 12, 3, 4, 5, 6, 7, 8] rfl) (hSS.kept hS) (dX3 hD [0, 1, 2, 9, 10, 11, 12, 3, 4, 5, 6, 7, 8] rfl rfl) hS hA 13 0 rfl rfl rfl hl.1 rfl (Nat.le_of_ble_eq_true rfl) dX13_readLine_58 ⟨Nat.le_of_ble_eq_true rfl, Nat.le_of_ble_eq_true rfl⟩ (fun H locs hP hD hS => ?_)
          have hP := pX4 (L1 := [(a_mo, .inr (13, [.int mo_thrown, .int mo_trouble, .int mo_where, mo_war, .ref a_re, .ref a_mo_tape, .int mo_taped, .int mo_size, .int mo_spot_42, .int mo_sort_43, .int mo_place_44, .int mo_number_45, .int mo_fault_46, .int mo_wrongAt_47, .int mo_laneTold, .long mo_word_48, mo_v, mo_x, mo_past, mo_kept, .int mo_acts, .int mo_marks, mo_put, mo_bestPut, .long mo_bestSum, mo_row, mo_best, mo_left, .int mo_bestSize, .int mo_bestLeft, mo_counts, .int mo_sets, .int mo_foeHarm, .int mo_ownHarm, .int mo_across, .int mo_sumFoe, .int mo_sumOwn, .int mo_sumWon, .int mo_sumAcross])), (a_mo_tape, .inl (cy 0, 900, .inl mo_tape)), (a_re, .inr (12, [.int re_lanes, .int re_deep, .int re_told, .int re_beasts, .int re_cities_49, .int re_passes, .int re_turned, .int re_names_50, .ref a_re_who, .ref a_re_strong, .ref a_re_kind, .ref a_re_lane, .ref a_re_mood, .ref a_re_price, .ref a_re_loses, .ref a_re_name, .ref a_re_nameSort, .ref a_re_numberOf])), (a_re_who, .inl (cy 1, 6, .inl re_who)), (a_re_strong, .inl (cy 1, 6, .inl re_strong)), (a_re_kind, .inl (cy 1, 5, .inl re_kind)), (a_re_lane, .inl (cy 1, 5, .inl re_lane)), (a_re_mood, .inl (cy 1, 5, .inl re_mood)), (a_re_price, .inl (cy 1, 5, .inl re_price)), (a_re_loses, .inl (cy 1, 36, .inl re_loses_51)), (a_re_name, .inl (cy 2, 11, .inr (.inl re_name_52))), (a_re_nameSort, .inl (cy 1, 11, .inl re_nameSort_53)), (a_re_numberOf, .inl (cy 1, 11, .inl re_numberOf_54))]) hP [0, 1, 2, 7, 8, 9, 10, 11, 12, 3, 4, 5, 6] rfl
          have hD := dX4 (L1 := [(a_mo, .inr (13, [.int mo_thrown, .int mo_trouble, .int mo_where, mo_war, .ref a_re, .ref a_mo_tape, .int mo_taped, .int mo_size, .int mo_spot_42, .int mo_sort_43, .int mo_place_44, .int mo_number_45, .int mo_fault_46, .int mo_wrongAt_47, .int mo_laneTold, .long mo_word_48, mo_v, mo_x, mo_past, mo_kept, .int mo_acts, .int mo_marks, mo_put, mo_bestPut, .long mo_bestSum, mo_row, mo_best, mo_left, .int mo_bestSize, .int mo_bestLeft, mo_counts, .int mo_sets, .int mo_foeHarm, .int mo_ownHarm, .int mo_across, .int mo_sumFoe, .int mo_sumOwn, .int mo_sumWon, .int mo_sumAcross])), (a_mo_tape, .inl (cy 0, 900, .inl mo_tape)), (a_re, .inr (12, [.int re_lanes, .int re_deep, .int re_told, .int re_beasts, .int re_cities_49, .int re_passes, .int re_turned, .int re_names_50, .ref a_re_who, .ref a_re_strong, .ref a_re_kind, .ref a_re_lane, .ref a_re_mood, .ref a_re_price, .ref a_re_loses, .ref a_re_name, .ref a_re_nameSort, .ref a_re_numberOf])), (a_re_who, .inl (cy 1, 6, .inl re_who)), (a_re_strong, .inl (cy 1, 6, .inl re_strong)), (a_re_kind, .inl (cy 1, 5, .inl re_kind)), (a_re_lane, .inl (cy 1, 5, .inl re_lane)), (a_re_mood, .inl (cy 1, 5, .inl re_mood)), (a_re_price, .inl (cy 1, 5, .inl re_price)), (a_re_loses, .inl (cy 1, 36, .inl re_loses_51)), (a_re_name, .inl (cy 2, 11, .inr (.inl re_name_52))), (a_re_nameSort, .inl (cy 1, 11, .inl re_nameSort_53)), (a_re_numberOf, .inl (cy 1, 11, .inl re_numberOf_54))]) hD [0, 1, 2, 7, 8, 9, 10, 11, 12, 3, 4, 5, 6] rfl rfl
          refine lv_goto (tgt := 101) hx hb dX13_readLine_61 (by decide) ?_
          have h0 := Option.some.inj h
          clear h
          obtain ⟨e1, h1⟩ := pjP h0
          clear h0
          subst e1
          obtain ⟨e2, h2⟩ := pjP h1
          clear h1
          subst e2
          obtain ⟨e3, h3⟩ := pjP h2
          clear h2
          subst e3
          obtain ⟨e4, h4⟩ := pjP h3
          clear h3
          subst e4
          obtain ⟨e5, h5⟩ := pjP h4
          clear h4
          subst e5
          obtain ⟨e6, h6⟩ := pjP h5
          clear h5
          subst e6
          obtain ⟨e7, h7⟩ := pjP h6
          clear h6
          subst e7
          obtain ⟨e8, h8⟩ := pjP h7
          clear h7
          subst e8
          obtain ⟨e9, h9⟩ := pjP h8
          clear h8
          subst e9
          obtain ⟨e10, h10⟩ := pjP h9
          clear h9
          subst e10
          obtain ⟨e11, h11⟩ := pjP h10
          clear h10
          subst e11
          obtain ⟨e12, h12⟩ := pjP h11
          clear h11
          subst e12
          obtain ⟨e13, h13⟩ := pjP h12
          clear h12
          subst e13
          obtain ⟨e14, h14⟩ := pjP h13
          clear h13
          subst e14
          obtain ⟨e15, h15⟩ := pjP h14
          clear h14
          subst e15
          obtain ⟨e16, h16⟩ := pjP h15
          clear h15
          subst e16
          obtain ⟨e17, h17⟩ := pjP h16
          clear h16
          subst e17
          obtain ⟨e18, h18⟩ := pjP h17
          clear h17
          subst e18
          obtain ⟨e19, h19⟩ := pjP h18
          clear h18
          subst e19
          obtain ⟨e20, h20⟩ := pjP h19
          clear h19
          subst e20
          obtain ⟨e21, h21⟩ := pjP h20
          clear h20
          subst e21
          obtain ⟨e22, h22⟩ := pjP h21
          clear h21
          subst e22
          obtain ⟨e23, h23⟩ := pjP h22
          clear h22
          subst e23
          obtain ⟨e24, h24⟩ := pjP h23
          clear h23
          subst e24
          obtain ⟨e25, h25⟩ := pjP h24
          clear h24
          subst e25
          subst h25
          exact W.vret hx hb hr (fun t ht _ => ⟨⟨(), rfl, trivial, by rw [ht]; exact hP, hD⟩, hS.F ht⟩) hS.2.2 dX13_readLine_101
      · have h := ifF cd h
        refine lv_aload_n hx hb dX13_readLine_41 rfl (lv_at hl 0 rfl) ?_
        obtain ⟨mo_spot_56, mo_sort_57, mo_place_58, mo_number_59, mo_fault_60, mo_wrongAt_61, mo_word_62, re_beasts_63, re_names_64, re_kind_65, re_lane_66, re_mood_67, re_price_68, re_name_69, re_nameSort_70, re_numberOf_71, hc_72, h⟩ := bd16_some h
        refine wVvS [] [] ⟨hx, hb, hml, hown, hts⟩ (c_X13_readBeast l D cy sa sv A ([(a_re_who, .inl (cy 1, 6, .inl re_who)), (a_re_strong, .inl (cy 1, 6, .inl re_strong)), (a_re_loses, .inl (cy 1, 36, .inl re_loses))] ++ X) a_mo a_mo_tape a_re a_re_kind a_re_lane a_re_mood a_re_price a_re_name a_re_nameSort a_re_numberOf mo_thrown mo_trouble mo_where (mo_war) mo_taped mo_size mo_spot mo_sort mo_place mo_number mo_fault mo_wrongAt mo_laneTold mo_word (mo_v) (mo_x) (mo_past) (mo_kept) mo_acts mo_marks (mo_put) (mo_bestPut) mo_bestSum (mo_row) (mo_best) (mo_left) mo_bestSize mo_bestLeft (mo_counts) mo_sets mo_foeHarm mo_ownHarm mo_across mo_sumFoe mo_sumOwn mo_sumWon mo_sumAcross mo_tape re_lanes re_deep re_told re_beasts re_cities re_passes re_turned re_names (.ref a_re_who) (.ref a_re_strong) (.ref a_re_loses) re_kind re_lane re_mood re_price re_name re_nameSort re_numberOf mo_spot_56 mo_sort_57 mo_place_58 mo_number_59 mo_fault_60 mo_wrongAt_61 mo_word_62 re_beasts_63 re_names_64 re_kind_65 re_lane_66 re_mood_67 re_price_68 re_name_69 re_nameSort_70 re_numberOf_71 hc_72) gX13_readLine_X13_readBeast rfl hd_X13_readBeast ⟨Nat.le_of_ble_eq_true rfl, Nat.le_of_ble_eq_true rfl⟩ rfl rfl hKN (pX3 hP [0, 1, 2, 5, 6, 7, 8, 10, 11, 12, 3, 4, 9] rfl) (hSS.kept hS) (dX3 hD [0, 1, 2, 5, 6, 7, 8, 10, 11, 12, 3, 4, 9] rfl rfl) hS hA 13 0 rfl rfl rfl hl.1 rfl (Nat.le_of_ble_eq_true rfl) dX13_readLine_42 ⟨Nat.le_of_ble_eq_true rfl, Nat.le_of_ble_eq_true rfl⟩ (fun H locs hP hD hS => ?_)
        have hP := pX4 (L1 := [(a_mo, .inr (13, [.int mo_thrown, .int mo_trouble, .int mo_where, mo_war, .ref a_re, .ref a_mo_tape, .int mo_taped, .int mo_size, .int mo_spot_56, .int mo_sort_57, .int mo_place_58, .int mo_number_59, .int mo_fault_60, .int mo_wrongAt_61, .int mo_laneTold, .long mo_word_62, mo_v, mo_x, mo_past, mo_kept, .int mo_acts, .int mo_marks, mo_put, mo_bestPut, .long mo_bestSum, mo_row, mo_best, mo_left, .int mo_bestSize, .int mo_bestLeft, mo_counts, .int mo_sets, .int mo_foeHarm, .int mo_ownHarm, .int mo_across, .int mo_sumFoe, .int mo_sumOwn, .int mo_sumWon, .int mo_sumAcross])), (a_mo_tape, .inl (cy 0, 900, .inl mo_tape)), (a_re, .inr (12, [.int re_lanes, .int re_deep, .int re_told, .int re_beasts_63, .int re_cities, .int re_passes, .int re_turned, .int re_names_64, .ref a_re_who, .ref a_re_strong, .ref a_re_kind, .ref a_re_lane, .ref a_re_mood, .ref a_re_price, .ref a_re_loses, .ref a_re_name, .ref a_re_nameSort, .ref a_re_numberOf])), (a_re_who, .inl (cy 1, 6, .inl re_who)), (a_re_strong, .inl (cy 1, 6, .inl re_strong)), (a_re_kind, .inl (cy 1, 5, .inl re_kind_65)), (a_re_lane, .inl (cy 1, 5, .inl re_lane_66)), (a_re_mood, .inl (cy 1, 5, .inl re_mood_67)), (a_re_price, .inl (cy 1, 5, .inl re_price_68)), (a_re_loses, .inl (cy 1, 36, .inl re_loses)), (a_re_name, .inl (cy 2, 11, .inr (.inl re_name_69))), (a_re_nameSort, .inl (cy 1, 11, .inl re_nameSort_70)), (a_re_numberOf, .inl (cy 1, 11, .inl re_numberOf_71))]) hP [0, 1, 2, 10, 11, 3, 4, 5, 6, 12, 7, 8, 9] rfl
        have hD := dX4 (L1 := [(a_mo, .inr (13, [.int mo_thrown, .int mo_trouble, .int mo_where, mo_war, .ref a_re, .ref a_mo_tape, .int mo_taped, .int mo_size, .int mo_spot_56, .int mo_sort_57, .int mo_place_58, .int mo_number_59, .int mo_fault_60, .int mo_wrongAt_61, .int mo_laneTold, .long mo_word_62, mo_v, mo_x, mo_past, mo_kept, .int mo_acts, .int mo_marks, mo_put, mo_bestPut, .long mo_bestSum, mo_row, mo_best, mo_left, .int mo_bestSize, .int mo_bestLeft, mo_counts, .int mo_sets, .int mo_foeHarm, .int mo_ownHarm, .int mo_across, .int mo_sumFoe, .int mo_sumOwn, .int mo_sumWon, .int mo_sumAcross])), (a_mo_tape, .inl (cy 0, 900, .inl mo_tape)), (a_re, .inr (12, [.int re_lanes, .int re_deep, .int re_told, .int re_beasts_63, .int re_cities, .int re_passes, .int re_turned, .int re_names_64, .ref a_re_who, .ref a_re_strong, .ref a_re_kind, .ref a_re_lane, .ref a_re_mood, .ref a_re_price, .ref a_re_loses, .ref a_re_name, .ref a_re_nameSort, .ref a_re_numberOf])), (a_re_who, .inl (cy 1, 6, .inl re_who)), (a_re_strong, .inl (cy 1, 6, .inl re_strong)), (a_re_kind, .inl (cy 1, 5, .inl re_kind_65)), (a_re_lane, .inl (cy 1, 5, .inl re_lane_66)), (a_re_mood, .inl (cy 1, 5, .inl re_mood_67)), (a_re_price, .inl (cy 1, 5, .inl re_price_68)), (a_re_loses, .inl (cy 1, 36, .inl re_loses)), (a_re_name, .inl (cy 2, 11, .inr (.inl re_name_69))), (a_re_nameSort, .inl (cy 1, 11, .inl re_nameSort_70)), (a_re_numberOf, .inl (cy 1, 11, .inl re_numberOf_71))]) hD [0, 1, 2, 10, 11, 3, 4, 5, 6, 12, 7, 8, 9] rfl rfl
        refine lv_goto (tgt := 101) hx hb dX13_readLine_45 (by decide) ?_
        have h0 := Option.some.inj h
        clear h
        obtain ⟨e1, h1⟩ := pjP h0
        clear h0
        subst e1
        obtain ⟨e2, h2⟩ := pjP h1
        clear h1
        subst e2
        obtain ⟨e3, h3⟩ := pjP h2
        clear h2
        subst e3
        obtain ⟨e4, h4⟩ := pjP h3
        clear h3
        subst e4
        obtain ⟨e5, h5⟩ := pjP h4
        clear h4
        subst e5
        obtain ⟨e6, h6⟩ := pjP h5
        clear h5
        subst e6
        obtain ⟨e7, h7⟩ := pjP h6
        clear h6
        subst e7
        obtain ⟨e8, h8⟩ := pjP h7
        clear h7
        subst e8
        obtain ⟨e9, h9⟩ := pjP h8
        clear h8
        subst e9
        obtain ⟨e10, h10⟩ := pjP h9
        clear h9
        subst e10
        obtain ⟨e11, h11⟩ := pjP h10
        clear h10
        subst e11
        obtain ⟨e12, h12⟩ := pjP h11
        clear h11
        subst e12
        obtain ⟨e13, h13⟩ := pjP h12
        clear h12
        subst e13
        obtain ⟨e14, h14⟩ := pjP h13
        clear h13
        subst e14
        obtain ⟨e15, h15⟩ := pjP h14
        clear h14
        subst e15
        obtain ⟨e16, h16⟩ := pjP h15
        clear h15
        subst e16
        obtain ⟨e17, h17⟩ := pjP h16
        clear h16
        subst e17
        obtain ⟨e18, h18⟩ := pjP h17
        clear h17
        subst e18
        obtain ⟨e19, h19⟩ := pjP h18
        clear h18
        subst e19
        obtain ⟨e20, h20⟩ := pjP h19
        clear h19
        subst e20
        obtain ⟨e21, h21⟩ := pjP h20
        clear h20
        subst e21
        obtain ⟨e22, h22⟩ := pjP h21
        clear h21
        subst e22
        obtain ⟨e23, h23⟩ := pjP h22
        clear h22
        subst e23
        obtain ⟨e24, h24⟩ := pjP h23
        clear h23
        subst e24
        obtain ⟨e25, h25⟩ := pjP h24
        clear h24
        subst e25
        subst h25
        exact W.vret hx hb hr (fun t ht _ => ⟨⟨(), rfl, trivial, by rw [ht]; exact hP, hD⟩, hS.F ht⟩) hS.2.2 dX13_readLine_101
    · have h := ifF cd h
      refine lv_aload_n hx hb dX13_readLine_25 rfl (lv_at hl 0 rfl) ?_
      obtain ⟨mo_spot_73, mo_sort_74, mo_place_75, mo_number_76, mo_fault_77, mo_wrongAt_78, mo_laneTold_79, mo_word_80, re_told_81, re_who_82, re_strong_83, hc_84, h⟩ := bd11_some h
      refine wVvS [] [] ⟨hx, hb, hml, hown, hts⟩ (c_X13_readLane l D cy sa sv A ([(a_re_kind, .inl (cy 1, 5, .inl re_kind)), (a_re_lane, .inl (cy 1, 5, .inl re_lane)), (a_re_mood, .inl (cy 1, 5, .inl re_mood)), (a_re_price, .inl (cy 1, 5, .inl re_price)), (a_re_loses, .inl (cy 1, 36, .inl re_loses)), (a_re_name, .inl (cy 2, 11, .inr (.inl re_name))), (a_re_nameSort, .inl (cy 1, 11, .inl re_nameSort)), (a_re_numberOf, .inl (cy 1, 11, .inl re_numberOf))] ++ X) a_mo a_mo_tape a_re a_re_who a_re_strong mo_thrown mo_trouble mo_where (mo_war) mo_taped mo_size mo_spot mo_sort mo_place mo_number mo_fault mo_wrongAt mo_laneTold mo_word (mo_v) (mo_x) (mo_past) (mo_kept) mo_acts mo_marks (mo_put) (mo_bestPut) mo_bestSum (mo_row) (mo_best) (mo_left) mo_bestSize mo_bestLeft (mo_counts) mo_sets mo_foeHarm mo_ownHarm mo_across mo_sumFoe mo_sumOwn mo_sumWon mo_sumAcross mo_tape re_lanes re_deep re_told re_beasts re_cities re_passes re_turned re_names (.ref a_re_kind) (.ref a_re_lane) (.ref a_re_mood) (.ref a_re_price) (.ref a_re_loses) (.ref a_re_name) (.ref a_re_nameSort) (.ref a_re_numberOf) re_who re_strong mo_spot_73 mo_sort_74 mo_place_75 mo_number_76 mo_fault_77 mo_wrongAt_78 mo_laneTold_79 mo_word_80 re_told_81 re_who_82 re_strong_83 hc_84) gX13_readLine_X13_readLane rfl hd_X13_readLane ⟨Nat.le_of_ble_eq_true rfl, Nat.le_of_ble_eq_true rfl⟩ rfl rfl hKN (pX3 hP [0, 1, 2, 3, 4, 5, 6, 7, 8, 9, 10, 11, 12] rfl) (hSS.kept hS) (dX3 hD [0, 1, 2, 3, 4, 5, 6, 7, 8, 9, 10, 11, 12] rfl rfl) hS hA 13 0 rfl rfl rfl hl.1 rfl (Nat.le_of_ble_eq_true rfl) dX13_readLine_26 ⟨Nat.le_of_ble_eq_true rfl, Nat.le_of_ble_eq_true rfl⟩ (fun H locs hP hD hS => ?_)
      have hP := pX4 (L1 := [(a_mo, .inr (13, [.int mo_thrown, .int mo_trouble, .int mo_where, mo_war, .ref a_re, .ref a_mo_tape, .int mo_taped, .int mo_size, .int mo_spot_73, .int mo_sort_74, .int mo_place_75, .int mo_number_76, .int mo_fault_77, .int mo_wrongAt_78, .int mo_laneTold_79, .long mo_word_80, mo_v, mo_x, mo_past, mo_kept, .int mo_acts, .int mo_marks, mo_put, mo_bestPut, .long mo_bestSum, mo_row, mo_best, mo_left, .int mo_bestSize, .int mo_bestLeft, mo_counts, .int mo_sets, .int mo_foeHarm, .int mo_ownHarm, .int mo_across, .int mo_sumFoe, .int mo_sumOwn, .int mo_sumWon, .int mo_sumAcross])), (a_mo_tape, .inl (cy 0, 900, .inl mo_tape)), (a_re, .inr (12, [.int re_lanes, .int re_deep, .int re_told_81, .int re_beasts, .int re_cities, .int re_passes, .int re_turned, .int re_names, .ref a_re_who, .ref a_re_strong, .ref a_re_kind, .ref a_re_lane, .ref a_re_mood, .ref a_re_price, .ref a_re_loses, .ref a_re_name, .ref a_re_nameSort, .ref a_re_numberOf])), (a_re_who, .inl (cy 1, 6, .inl re_who_82)), (a_re_strong, .inl (cy 1, 6, .inl re_strong_83)), (a_re_kind, .inl (cy 1, 5, .inl re_kind)), (a_re_lane, .inl (cy 1, 5, .inl re_lane)), (a_re_mood, .inl (cy 1, 5, .inl re_mood)), (a_re_price, .inl (cy 1, 5, .inl re_price)), (a_re_loses, .inl (cy 1, 36, .inl re_loses)), (a_re_name, .inl (cy 2, 11, .inr (.inl re_name))), (a_re_nameSort, .inl (cy 1, 11, .inl re_nameSort)), (a_re_numberOf, .inl (cy 1, 11, .inl re_numberOf))]) hP [0, 1, 2, 3, 4, 5, 6, 7, 8, 9, 10, 11, 12] rfl
      have hD := dX4 (L1 := [(a_mo, .inr (13, [.int mo_thrown, .int mo_trouble, .int mo_where, mo_war, .ref a_re, .ref a_mo_tape, .int mo_taped, .int mo_size, .int mo_spot_73, .int mo_sort_74, .int mo_place_75, .int mo_number_76, .int mo_fault_77, .int mo_wrongAt_78, .int mo_laneTold_79, .long mo_word_80, mo_v, mo_x, mo_past, mo_kept, .int mo_acts, .int mo_marks, mo_put, mo_bestPut, .long mo_bestSum, mo_row, mo_best, mo_left, .int mo_bestSize, .int mo_bestLeft, mo_counts, .int mo_sets, .int mo_foeHarm, .int mo_ownHarm, .int mo_across, .int mo_sumFoe, .int mo_sumOwn, .int mo_sumWon, .int mo_sumAcross])), (a_mo_tape, .inl (cy 0, 900, .inl mo_tape)), (a_re, .inr (12, [.int re_lanes, .int re_deep, .int re_told_81, .int re_beasts, .int re_cities, .int re_passes, .int re_turned, .int re_names, .ref a_re_who, .ref a_re_strong, .ref a_re_kind, .ref a_re_lane, .ref a_re_mood, .ref a_re_price, .ref a_re_loses, .ref a_re_name, .ref a_re_nameSort, .ref a_re_numberOf])), (a_re_who, .inl (cy 1, 6, .inl re_who_82)), (a_re_strong, .inl (cy 1, 6, .inl re_strong_83)), (a_re_kind, .inl (cy 1, 5, .inl re_kind)), (a_re_lane, .inl (cy 1, 5, .inl re_lane)), (a_re_mood, .inl (cy 1, 5, .inl re_mood)), (a_re_price, .inl (cy 1, 5, .inl re_price)), (a_re_loses, .inl (cy 1, 36, .inl re_loses)), (a_re_name, .inl (cy 2, 11, .inr (.inl re_name))), (a_re_nameSort, .inl (cy 1, 11, .inl re_nameSort)), (a_re_numberOf, .inl (cy 1, 11, .inl re_numberOf))]) hD [0, 1, 2, 3, 4, 5, 6, 7, 8, 9, 10, 11, 12] rfl rfl
      refine lv_goto (tgt := 101) hx hb dX13_readLine_29 (by decide) ?_
      have h0 := Option.some.inj h
      clear h
      obtain ⟨e1, h1⟩ := pjP h0
      clear h0
      subst e1
      obtain ⟨e2, h2⟩ := pjP h1
      clear h1
      subst e2
      obtain ⟨e3, h3⟩ := pjP h2
      clear h2
      subst e3
      obtain ⟨e4, h4⟩ := pjP h3
      clear h3
      subst e4
      obtain ⟨e5, h5⟩ := pjP h4
      clear h4
      subst e5
      obtain ⟨e6, h6⟩ := pjP h5
      clear h5
      subst e6
      obtain ⟨e7, h7⟩ := pjP h6
      clear h6
      subst e7
      obtain ⟨e8, h8⟩ := pjP h7
      clear h7
      subst e8
      obtain ⟨e9, h9⟩ := pjP h8
      clear h8
      subst e9
      obtain ⟨e10, h10⟩ := pjP h9
      clear h9
      subst e10
      obtain ⟨e11, h11⟩ := pjP h10
      clear h10
      subst e11
      obtain ⟨e12, h12⟩ := pjP h11
      clear h11
      subst e12
      obtain ⟨e13, h13⟩ := pjP h12
      clear h12
      subst e13
      obtain ⟨e14, h14⟩ := pjP h13
      clear h13
      subst e14
      obtain ⟨e15, h15⟩ := pjP h14
      clear h14
      subst e15
      obtain ⟨e16, h16⟩ := pjP h15
      clear h15
      subst e16
      obtain ⟨e17, h17⟩ := pjP h16
      clear h16
      subst e17
      obtain ⟨e18, h18⟩ := pjP h17
      clear h17
      subst e18
      obtain ⟨e19, h19⟩ := pjP h18
      clear h18
      subst e19
      obtain ⟨e20, h20⟩ := pjP h19
      clear h19
      subst e20
      obtain ⟨e21, h21⟩ := pjP h20
      clear h20
      subst e21
      obtain ⟨e22, h22⟩ := pjP h21
      clear h21
      subst e22
      obtain ⟨e23, h23⟩ := pjP h22
      clear h22
      subst e23
      obtain ⟨e24, h24⟩ := pjP h23
      clear h23
      subst e24
      obtain ⟨e25, h25⟩ := pjP h24
      clear h24
      subst e25
      subst h25
      exact W.vret hx hb hr (fun t ht _ => ⟨⟨(), rfl, trivial, by rw [ht]; exact hP, hD⟩, hS.F ht⟩) hS.2.2 dX13_readLine_101
  · have h := ifF cd h
    refine lv_aload_n hx hb dX13_readLine_9 rfl (lv_at hl 0 rfl) ?_
    obtain ⟨mo_spot_85, mo_sort_86, mo_place_87, mo_number_88, mo_fault_89, mo_wrongAt_90, mo_word_91, re_lanes_92, re_deep_93, hc_94, h⟩ := bd9_some h
    refine wVvS [] [] ⟨hx, hb, hml, hown, hts⟩ (c_X13_readField l D cy sa sv A ([(a_re_who, .inl (cy 1, 6, .inl re_who)), (a_re_strong, .inl (cy 1, 6, .inl re_strong)), (a_re_kind, .inl (cy 1, 5, .inl re_kind)), (a_re_lane, .inl (cy 1, 5, .inl re_lane)), (a_re_mood, .inl (cy 1, 5, .inl re_mood)), (a_re_price, .inl (cy 1, 5, .inl re_price)), (a_re_loses, .inl (cy 1, 36, .inl re_loses)), (a_re_name, .inl (cy 2, 11, .inr (.inl re_name))), (a_re_nameSort, .inl (cy 1, 11, .inl re_nameSort)), (a_re_numberOf, .inl (cy 1, 11, .inl re_numberOf))] ++ X) a_mo a_mo_tape a_re mo_thrown mo_trouble mo_where (mo_war) mo_taped mo_size mo_spot mo_sort mo_place mo_number mo_fault mo_wrongAt mo_laneTold mo_word (mo_v) (mo_x) (mo_past) (mo_kept) mo_acts mo_marks (mo_put) (mo_bestPut) mo_bestSum (mo_row) (mo_best) (mo_left) mo_bestSize mo_bestLeft (mo_counts) mo_sets mo_foeHarm mo_ownHarm mo_across mo_sumFoe mo_sumOwn mo_sumWon mo_sumAcross mo_tape re_lanes re_deep re_told re_beasts re_cities re_passes re_turned re_names (.ref a_re_who) (.ref a_re_strong) (.ref a_re_kind) (.ref a_re_lane) (.ref a_re_mood) (.ref a_re_price) (.ref a_re_loses) (.ref a_re_name) (.ref a_re_nameSort) (.ref a_re_numberOf) mo_spot_85 mo_sort_86 mo_place_87 mo_number_88 mo_fault_89 mo_wrongAt_90 mo_word_91 re_lanes_92 re_deep_93 hc_94) gX13_readLine_X13_readField rfl hd_X13_readField ⟨Nat.le_of_ble_eq_true rfl, Nat.le_of_ble_eq_true rfl⟩ rfl rfl hKN (pX3 hP [0, 1, 2, 3, 4, 5, 6, 7, 8, 9, 10, 11, 12] rfl) (hSS.kept hS) (dX3 hD [0, 1, 2, 3, 4, 5, 6, 7, 8, 9, 10, 11, 12] rfl rfl) hS hA 13 0 rfl rfl rfl hl.1 rfl (Nat.le_of_ble_eq_true rfl) dX13_readLine_10 ⟨Nat.le_of_ble_eq_true rfl, Nat.le_of_ble_eq_true rfl⟩ (fun H locs hP hD hS => ?_)
    have hP := pX4 (L1 := [(a_mo, .inr (13, [.int mo_thrown, .int mo_trouble, .int mo_where, mo_war, .ref a_re, .ref a_mo_tape, .int mo_taped, .int mo_size, .int mo_spot_85, .int mo_sort_86, .int mo_place_87, .int mo_number_88, .int mo_fault_89, .int mo_wrongAt_90, .int mo_laneTold, .long mo_word_91, mo_v, mo_x, mo_past, mo_kept, .int mo_acts, .int mo_marks, mo_put, mo_bestPut, .long mo_bestSum, mo_row, mo_best, mo_left, .int mo_bestSize, .int mo_bestLeft, mo_counts, .int mo_sets, .int mo_foeHarm, .int mo_ownHarm, .int mo_across, .int mo_sumFoe, .int mo_sumOwn, .int mo_sumWon, .int mo_sumAcross])), (a_mo_tape, .inl (cy 0, 900, .inl mo_tape)), (a_re, .inr (12, [.int re_lanes_92, .int re_deep_93, .int re_told, .int re_beasts, .int re_cities, .int re_passes, .int re_turned, .int re_names, .ref a_re_who, .ref a_re_strong, .ref a_re_kind, .ref a_re_lane, .ref a_re_mood, .ref a_re_price, .ref a_re_loses, .ref a_re_name, .ref a_re_nameSort, .ref a_re_numberOf])), (a_re_who, .inl (cy 1, 6, .inl re_who)), (a_re_strong, .inl (cy 1, 6, .inl re_strong)), (a_re_kind, .inl (cy 1, 5, .inl re_kind)), (a_re_lane, .inl (cy 1, 5, .inl re_lane)), (a_re_mood, .inl (cy 1, 5, .inl re_mood)), (a_re_price, .inl (cy 1, 5, .inl re_price)), (a_re_loses, .inl (cy 1, 36, .inl re_loses)), (a_re_name, .inl (cy 2, 11, .inr (.inl re_name))), (a_re_nameSort, .inl (cy 1, 11, .inl re_nameSort)), (a_re_numberOf, .inl (cy 1, 11, .inl re_numberOf))]) hP [0, 1, 2, 3, 4, 5, 6, 7, 8, 9, 10, 11, 12] rfl
    have hD := dX4 (L1 := [(a_mo, .inr (13, [.int mo_thrown, .int mo_trouble, .int mo_where, mo_war, .ref a_re, .ref a_mo_tape, .int mo_taped, .int mo_size, .int mo_spot_85, .int mo_sort_86, .int mo_place_87, .int mo_number_88, .int mo_fault_89, .int mo_wrongAt_90, .int mo_laneTold, .long mo_word_91, mo_v, mo_x, mo_past, mo_kept, .int mo_acts, .int mo_marks, mo_put, mo_bestPut, .long mo_bestSum, mo_row, mo_best, mo_left, .int mo_bestSize, .int mo_bestLeft, mo_counts, .int mo_sets, .int mo_foeHarm, .int mo_ownHarm, .int mo_across, .int mo_sumFoe, .int mo_sumOwn, .int mo_sumWon, .int mo_sumAcross])), (a_mo_tape, .inl (cy 0, 900, .inl mo_tape)), (a_re, .inr (12, [.int re_lanes_92, .int re_deep_93, .int re_told, .int re_beasts, .int re_cities, .int re_passes, .int re_turned, .int re_names, .ref a_re_who, .ref a_re_strong, .ref a_re_kind, .ref a_re_lane, .ref a_re_mood, .ref a_re_price, .ref a_re_loses, .ref a_re_name, .ref a_re_nameSort, .ref a_re_numberOf])), (a_re_who, .inl (cy 1, 6, .inl re_who)), (a_re_strong, .inl (cy 1, 6, .inl re_strong)), (a_re_kind, .inl (cy 1, 5, .inl re_kind)), (a_re_lane, .inl (cy 1, 5, .inl re_lane)), (a_re_mood, .inl (cy 1, 5, .inl re_mood)), (a_re_price, .inl (cy 1, 5, .inl re_price)), (a_re_loses, .inl (cy 1, 36, .inl re_loses)), (a_re_name, .inl (cy 2, 11, .inr (.inl re_name))), (a_re_nameSort, .inl (cy 1, 11, .inl re_nameSort)), (a_re_numberOf, .inl (cy 1, 11, .inl re_numberOf))]) hD [0, 1, 2, 3, 4, 5, 6, 7, 8, 9, 10, 11, 12] rfl rfl
    refine lv_goto (tgt := 101) hx hb dX13_readLine_13 (by decide) ?_
    have h0 := Option.some.inj h
    clear h
    obtain ⟨e1, h1⟩ := pjP h0
    clear h0
    subst e1
    obtain ⟨e2, h2⟩ := pjP h1
    clear h1
    subst e2
    obtain ⟨e3, h3⟩ := pjP h2
    clear h2
    subst e3
    obtain ⟨e4, h4⟩ := pjP h3
    clear h3
    subst e4
    obtain ⟨e5, h5⟩ := pjP h4
    clear h4
    subst e5
    obtain ⟨e6, h6⟩ := pjP h5
    clear h5
    subst e6
    obtain ⟨e7, h7⟩ := pjP h6
    clear h6
    subst e7
    obtain ⟨e8, h8⟩ := pjP h7
    clear h7
    subst e8
    obtain ⟨e9, h9⟩ := pjP h8
    clear h8
    subst e9
    obtain ⟨e10, h10⟩ := pjP h9
    clear h9
    subst e10
    obtain ⟨e11, h11⟩ := pjP h10
    clear h10
    subst e11
    obtain ⟨e12, h12⟩ := pjP h11
    clear h11
    subst e12
    obtain ⟨e13, h13⟩ := pjP h12
    clear h12
    subst e13
    obtain ⟨e14, h14⟩ := pjP h13
    clear h13
    subst e14
    obtain ⟨e15, h15⟩ := pjP h14
    clear h14
    subst e15
    obtain ⟨e16, h16⟩ := pjP h15
    clear h15
    subst e16
    obtain ⟨e17, h17⟩ := pjP h16
    clear h16
    subst e17
    obtain ⟨e18, h18⟩ := pjP h17
    clear h17
    subst e18
    obtain ⟨e19, h19⟩ := pjP h18
    clear h18
    subst e19
    obtain ⟨e20, h20⟩ := pjP h19
    clear h19
    subst e20
    obtain ⟨e21, h21⟩ := pjP h20
    clear h20
    subst e21
    obtain ⟨e22, h22⟩ := pjP h21
    clear h21
    subst e22
    obtain ⟨e23, h23⟩ := pjP h22
    clear h22
    subst e23
    obtain ⟨e24, h24⟩ := pjP h23
    clear h23
    subst e24
    obtain ⟨e25, h25⟩ := pjP h24
    clear h24
    subst e25
    subst h25
    exact W.vret hx hb hr (fun t ht _ => ⟨⟨(), rfl, trivial, by rw [ht]; exact hP, hD⟩, hS.F ht⟩) hS.2.2 dX13_readLine_101
theorem hd_X13_holdOf : yX13_holdOf.cls = RX13 ∧ yX13_holdOf.cls ≠ "java/lang/invoke/MethodHandle" ∧ yX13_holdOf.cls ≠ "java/lang/invoke/VarHandle" ∧ (parseMethodDescriptor yX13_holdOf.desc).map (fun d => d.parameters.length) = some 1 := by decide +kernel
set_option maxHeartbeats 4000000 in
set_option maxRecDepth 100000 in
theorem c_X13_holdOf (l : Launch) (D : va_G) (cy : Nat → ClassId) (a_mo a_mo_v a_wa a_wa_kind a_wa_mood : Nat) (mo_thrown : Int32) (mo_trouble : Int32) (mo_where : Int32) (mo_read : Value) (mo_tape : Value) (mo_taped : Int32) (mo_size : Int32) (mo_spot : Int32) (mo_sort : Int32) (mo_place : Int32) (mo_number : Int32) (mo_fault : Int32) (mo_wrongAt : Int32) (mo_laneTold : Int32) (mo_word : Int64) (mo_x : Value) (mo_past : Value) (mo_kept : Value) (mo_acts : Int32) (mo_marks : Int32) (mo_put : Value) (mo_bestPut : Value) (mo_bestSum : Int64) (mo_row : Value) (mo_best : Value) (mo_left : Value) (mo_bestSize : Int32) (mo_bestLeft : Int32) (mo_counts : Value) (mo_sets : Int32) (mo_foeHarm : Int32) (mo_ownHarm : Int32) (mo_across : Int32) (mo_sumFoe : Int32) (mo_sumOwn : Int32) (mo_sumWon : Int32) (mo_sumAcross : Int32) (mo_v : Nat → Int32) (wa_lanes : Int32) (wa_deep : Int32) (wa_told : Int32) (wa_beasts : Int32) (wa_cities : Int32) (wa_passes : Int32) (wa_turned : Int32) (wa_names : Int32) (wa_who : Value) (wa_strong : Value) (wa_lane : Value) (wa_price : Value) (wa_loses : Value) (wa_name : Value) (wa_nameSort : Value) (wa_numberOf : Value) (wa_kind : Nat → Int32) (wa_mood : Nat → Int32) (p1 : Int32) (res : Int32) (h : f_X13_holdOf mo_v wa_kind wa_mood p1 = some (res)) : Met l yX13_holdOf wo_X13_holdOf ({ frames := 1, cells := 0, slots := 0, locals := 23 }) (roPc D cy [.ref a_mo, .int p1] [(a_mo, .inr (13, [.int mo_thrown, .int mo_trouble, .int mo_where, .ref a_wa, mo_read, mo_tape, .int mo_taped, .int mo_size, .int mo_spot, .int mo_sort, .int mo_place, .int mo_number, .int mo_fault, .int mo_wrongAt, .int mo_laneTold, .long mo_word, .ref a_mo_v, mo_x, mo_past, mo_kept, .int mo_acts, .int mo_marks, mo_put, mo_bestPut, .long mo_bestSum, mo_row, mo_best, mo_left, .int mo_bestSize, .int mo_bestLeft, mo_counts, .int mo_sets, .int mo_foeHarm, .int mo_ownHarm, .int mo_across, .int mo_sumFoe, .int mo_sumOwn, .int mo_sumWon, .int mo_sumAcross])), (a_mo_v, .inl (cy 1, 19, .inl mo_v)), (a_wa, .inr (12, [.int wa_lanes, .int wa_deep, .int wa_told, .int wa_beasts, .int wa_cities, .int wa_passes, .int wa_turned, .int wa_names, wa_who, wa_strong, .ref a_wa_kind, wa_lane, .ref a_wa_mood, wa_price, wa_loses, wa_name, wa_nameSort, wa_numberOf])), (a_wa_kind, .inl (cy 1, 5, .inl wa_kind)), (a_wa_mood, .inl (cy 1, 5, .inl wa_mood))]) (vp_Si (fun r => r = res)) 0 0 (fun _ => False) := by
  refine Met.ofW (cc := cX13_holdOf) (maxL := 2) (ret := (some .int)) (by decide) rfl ?_
  intro p e s m args below meth c s₁ B hml hv
  obtain ⟨rfl, hP, hKN⟩ := hv
  have hK := hKN.1
  have hx := B.exec
  have hb := B.bytes
  have hr := B.returns
  have hts := wt_X13_holdOf hKN.2.2 (([.ref a_mo, .int p1] : List Value).toArray)
  have hown : s.vm.findClass RX13 = some m.cls := findClass_of_methodNamed B.named
  have hlocks := B.notSynchronized
  have hX12 := wc_X12 hKN.2.2 (([.ref a_mo, .int p1] : List Value).toArray)
  have hX13 := wc_X13 hKN.2.2 (([.ref a_mo, .int p1] : List Value).toArray)
  have hl := lv_entry ([.ref a_mo, .int p1]) (n := 2) (Nat.le_of_ble_eq_true rfl)
  rw [lg_entry_eq]
  generalize (lg_sl ([.ref a_mo, .int p1]) ++ List.replicate (2 - (lg_sl ([.ref a_mo, .int p1])).length) Slot.unset).toArray = ls at hl ⊢
  have hl : lv_has ls 2 [(0, .ref a_mo), (1, .int p1)] := hl
  unfold f_X13_holdOf at h
  refine lv_aload_n hx hb dX13_holdOf_0 rfl (lv_at hl 0 rfl) ?_
  refine lv_iload_n hx hb dX13_holdOf_1 rfl (lv_at hl 1 rfl) ?_
  refine lv_aload_n hx hb dX13_holdOf_2 rfl (lv_at hl 0 rfl) ?_
  refine va_get (D := D) (ci := 13) (C := RX13) (T := TX13) (N := 39) (v := .ref a_wa) hx hb hX13 (fun _ q => q) hown hK hP 0 rfl rfl 3 (by decide) (hts (.fieldLink RX13 301 "ElephantLineModel" "war" "LElephantLineModel$War;") (by decide +kernel)) (fun _ h9 => h9) rfl dX13_holdOf_3 ?_
  refine va_getN (D := D) (ci := 12) (C := RX12) (T := TX12) (N := 18) (v := .ref a_wa_mood) hx hb hX12 (fun _ q => q) hown hK hP 2 rfl rfl 12 (by decide) (va_Nw.use rfl (hKN.2.1.1 ("ElephantLineModel", 275, "ElephantLineModel$War", "mood", "[I", "ElephantLineModel") (List.mem_of_getElem? (i := 79) rfl))) (fun _ h9 => h9) rfl dX13_holdOf_6 ?_
  refine lv_iload_n hx hb dX13_holdOf_9 rfl (lv_at hl 1 rfl) ?_
  obtain ⟨i_1, h⟩ := gIn_some h
  refine va_iald hx hb hK hP 4 1 rfl rfl i_1 dX13_holdOf_10 ?_
  refine lv_aload_n hx hb dX13_holdOf_11 rfl (lv_at hl 0 rfl) ?_
  refine va_get (D := D) (ci := 13) (C := RX13) (T := TX13) (N := 39) (v := .ref a_mo_v) hx hb hX13 (fun _ q => q) hown hK hP 0 rfl rfl 16 (by decide) (hts (.fieldLink RX13 17 "ElephantLineModel" "v" "[I") (by decide +kernel)) (fun _ h9 => h9) rfl dX13_holdOf_12 ?_
  refine lv_bipush (v := 17) hx hb dX13_holdOf_15 (by decide) ?_
  refine va_iald hx hb hK hP 1 1 rfl rfl (vpc (by decide)) dX13_holdOf_17 ?_
  refine lv_iconst (v := 1) hx hb dX13_holdOf_18 (by decide) ?_
  have jn27 : ∀ (t3_2 : Int32), nbv t3_2 → f_X13_holdOf_B27 mo_v wa_kind wa_mood p1 (wa_mood p1.toNatClampNeg) t3_2 = some (res) → ∀ ls : Array Slot, lv_has ls 2 [] → W p l e (headSpec wo_X13_holdOf ({ frames := 1, cells := 0, slots := 0, locals := 23 })).room s m (([.ref a_mo, .int p1] : List Value).toArray) below meth c s.heap [] 0 0 (MQ below (vp_Si (fun r => r = res)) (([.ref a_mo, .int p1] : List Value).toArray) s 0 0 (fun _ => False)) (F0 m 27 ls [.int t3_2, .int (wa_mood p1.toNatClampNeg), .int p1, .ref a_mo]) := by
    intro t3_2 hnb_t3_2 h ls hl
    unfold f_X13_holdOf_B27 at h
    obtain ⟨r_3, hc_4, h⟩ := bd1_some h
    refine kVi [.int p1, .int (wa_mood p1.toNatClampNeg), .int t3_2] [] ⟨hx, hb, hml, hown, hts⟩ (c_X13_holdBy l D cy a_mo a_wa a_wa_kind mo_thrown mo_trouble mo_where (mo_read) (mo_tape) mo_taped mo_size mo_spot mo_sort mo_place mo_number mo_fault mo_wrongAt mo_laneTold mo_word (.ref a_mo_v) (mo_x) (mo_past) (mo_kept) mo_acts mo_marks (mo_put) (mo_bestPut) mo_bestSum (mo_row) (mo_best) (mo_left) mo_bestSize mo_bestLeft (mo_counts) mo_sets mo_foeHarm mo_ownHarm mo_across mo_sumFoe mo_sumOwn mo_sumWon mo_sumAcross wa_lanes wa_deep wa_told wa_beasts wa_cities wa_passes wa_turned wa_names (wa_who) (wa_strong) (wa_lane) (.ref a_wa_mood) (wa_price) (wa_loses) (wa_name) (wa_nameSort) (wa_numberOf) wa_kind p1 (wa_mood p1.toNatClampNeg) t3_2 r_3 hc_4) gX13_holdOf_X13_holdBy rfl hd_X13_holdBy ⟨Nat.le_of_ble_eq_true rfl, Nat.le_of_ble_eq_true rfl⟩ rfl rfl hKN (hP.sub [0, 2, 3] rfl) 13 0 rfl rfl rfl hl.1 rfl (Nat.le_of_ble_eq_true rfl) dX13_holdOf_27 ⟨Nat.le_of_ble_eq_true rfl, Nat.le_of_ble_eq_true rfl⟩ ?_
    exact W.iret (v := r_3) hx hb hr (fun t ht _ => ⟨_, rfl, Option.some.inj h, ht⟩) (fun _ q => by cases q) dX13_holdOf_30
  refine lv_icmp_ne (tgt := 26) hx hb dX13_holdOf_19 (by decide) (fun cd => ?_) (fun cd => ?_)
  · have h := ifF cd h
    refine lv_iconst (v := 0) hx hb dX13_holdOf_26 (by decide) ?_
    exact jn27 (0 : Int32) nbv_0 h _ (lv_sub hl [] rfl)
  · have h := ifT cd h
    refine lv_iconst (v := 1) hx hb dX13_holdOf_22 (by decide) ?_
    refine lv_goto (tgt := 27) hx hb dX13_holdOf_23 (by decide) ?_
    exact jn27 (1 : Int32) nbv_1 h _ (lv_sub hl [] rfl)
theorem hd_X13_holds : yX13_holds.cls = RX13 ∧ yX13_holds.cls ≠ "java/lang/invoke/MethodHandle" ∧ yX13_holds.cls ≠ "java/lang/invoke/VarHandle" ∧ (parseMethodDescriptor yX13_holds.desc).map (fun d => d.parameters.length) = some 1 := by decide +kernel
set_option maxHeartbeats 4000000 in
set_option maxRecDepth 100000 in
theorem c_X13_holds (l : Launch) (D : va_G) (cy : Nat → ClassId) (a_mo a_mo_v a_wa a_wa_kind a_wa_mood : Nat) (mo_thrown : Int32) (mo_trouble : Int32) (mo_where : Int32) (mo_read : Value) (mo_tape : Value) (mo_taped : Int32) (mo_size : Int32) (mo_spot : Int32) (mo_sort : Int32) (mo_place : Int32) (mo_number : Int32) (mo_fault : Int32) (mo_wrongAt : Int32) (mo_laneTold : Int32) (mo_word : Int64) (mo_x : Value) (mo_past : Value) (mo_kept : Value) (mo_acts : Int32) (mo_marks : Int32) (mo_put : Value) (mo_bestPut : Value) (mo_bestSum : Int64) (mo_row : Value) (mo_best : Value) (mo_left : Value) (mo_bestSize : Int32) (mo_bestLeft : Int32) (mo_counts : Value) (mo_sets : Int32) (mo_foeHarm : Int32) (mo_ownHarm : Int32) (mo_across : Int32) (mo_sumFoe : Int32) (mo_sumOwn : Int32) (mo_sumWon : Int32) (mo_sumAcross : Int32) (mo_v : Nat → Int32) (wa_lanes : Int32) (wa_deep : Int32) (wa_told : Int32) (wa_beasts : Int32) (wa_cities : Int32) (wa_passes : Int32) (wa_turned : Int32) (wa_names : Int32) (wa_who : Value) (wa_strong : Value) (wa_lane : Value) (wa_price : Value) (wa_loses : Value) (wa_name : Value) (wa_nameSort : Value) (wa_numberOf : Value) (wa_kind : Nat → Int32) (wa_mood : Nat → Int32) (p1 : Int32) (res : Int64) (h : f_X13_holds mo_v wa_deep wa_kind wa_mood p1 = some (res)) : Met l yX13_holds wo_X13_holds ({ frames := 2, cells := 0, slots := 0, locals := 44 }) (roPc D cy [.ref a_mo, .int p1] [(a_mo, .inr (13, [.int mo_thrown, .int mo_trouble, .int mo_where, .ref a_wa, mo_read, mo_tape, .int mo_taped, .int mo_size, .int mo_spot, .int mo_sort, .int mo_place, .int mo_number, .int mo_fault, .int mo_wrongAt, .int mo_laneTold, .long mo_word, .ref a_mo_v, mo_x, mo_past, mo_kept, .int mo_acts, .int mo_marks, mo_put, mo_bestPut, .long mo_bestSum, mo_row, mo_best, mo_left, .int mo_bestSize, .int mo_bestLeft, mo_counts, .int mo_sets, .int mo_foeHarm, .int mo_ownHarm, .int mo_across, .int mo_sumFoe, .int mo_sumOwn, .int mo_sumWon, .int mo_sumAcross])), (a_mo_v, .inl (cy 1, 19, .inl mo_v)), (a_wa, .inr (12, [.int wa_lanes, .int wa_deep, .int wa_told, .int wa_beasts, .int wa_cities, .int wa_passes, .int wa_turned, .int wa_names, wa_who, wa_strong, .ref a_wa_kind, wa_lane, .ref a_wa_mood, wa_price, wa_loses, wa_name, wa_nameSort, wa_numberOf])), (a_wa_kind, .inl (cy 1, 5, .inl wa_kind)), (a_wa_mood, .inl (cy 1, 5, .inl wa_mood))]) (vp_Sl (fun r => r = res)) 0 0 (fun _ => False) := by
  refine Met.ofW (cc := cX13_holds) (maxL := 2) (ret := (some .long)) (by decide) rfl ?_
  intro p e s m args below meth c s₁ B hml hv
  obtain ⟨rfl, hP, hKN⟩ := hv
  have hK := hKN.1
  have hx := B.exec
  have hb := B.bytes
  have hr := B.returns
  have hts := wt_X13_holds hKN.2.2 (([.ref a_mo, .int p1] : List Value).toArray)
  have hown : s.vm.findClass RX13 = some m.cls := findClass_of_methodNamed B.named
  have hlocks := B.notSynchronized
  have hX12 := wc_X12 hKN.2.2 (([.ref a_mo, .int p1] : List Value).toArray)
  have hX13 := wc_X13 hKN.2.2 (([.ref a_mo, .int p1] : List Value).toArray)
  have hl := lv_entry ([.ref a_mo, .int p1]) (n := 2) (Nat.le_of_ble_eq_true rfl)
  rw [lg_entry_eq]
  generalize (lg_sl ([.ref a_mo, .int p1]) ++ List.replicate (2 - (lg_sl ([.ref a_mo, .int p1])).length) Slot.unset).toArray = ls at hl ⊢
  have hl : lv_has ls 2 [(0, .ref a_mo), (1, .int p1)] := hl
  unfold f_X13_holds at h
  refine lv_aload_n hx hb dX13_holds_0 rfl (lv_at hl 0 rfl) ?_
  refine lv_iload_n hx hb dX13_holds_1 rfl (lv_at hl 1 rfl) ?_
  obtain ⟨r_1, hc_2, h⟩ := bd1_some h
  refine kVb [.int p1] [] ⟨hx, hb, hml, hown, hts⟩ (c_X13_isDead l D cy a_mo a_mo_v mo_thrown mo_trouble mo_where (.ref a_wa) (mo_read) (mo_tape) mo_taped mo_size mo_spot mo_sort mo_place mo_number mo_fault mo_wrongAt mo_laneTold mo_word (mo_x) (mo_past) (mo_kept) mo_acts mo_marks (mo_put) (mo_bestPut) mo_bestSum (mo_row) (mo_best) (mo_left) mo_bestSize mo_bestLeft (mo_counts) mo_sets mo_foeHarm mo_ownHarm mo_across mo_sumFoe mo_sumOwn mo_sumWon mo_sumAcross mo_v p1 r_1 hc_2) gX13_holds_X13_isDead rfl hd_X13_isDead ⟨Nat.le_of_ble_eq_true rfl, Nat.le_of_ble_eq_true rfl⟩ rfl rfl hKN (hP.sub [0, 1] rfl) 13 0 rfl rfl rfl hl.1 rfl (Nat.le_of_ble_eq_true rfl) dX13_holds_2 ⟨Nat.le_of_ble_eq_true rfl, Nat.le_of_ble_eq_true rfl⟩ (fun nb_3 => ?_)
  refine lv_if_eq (tgt := 12) hx hb dX13_holds_5 (by decide) (fun cd => ?_) (fun cd => ?_)
  · have h := ifT cd h
    refine lv_aload_n hx hb dX13_holds_12 rfl (lv_at hl 0 rfl) ?_
    refine lv_iload_n hx hb dX13_holds_13 rfl (lv_at hl 1 rfl) ?_
    obtain ⟨r_4, hc_5, h⟩ := bd1_some h
    refine kVi [.int p1] [] ⟨hx, hb, hml, hown, hts⟩ (c_X13_holdOf l D cy a_mo a_mo_v a_wa a_wa_kind a_wa_mood mo_thrown mo_trouble mo_where (mo_read) (mo_tape) mo_taped mo_size mo_spot mo_sort mo_place mo_number mo_fault mo_wrongAt mo_laneTold mo_word (mo_x) (mo_past) (mo_kept) mo_acts mo_marks (mo_put) (mo_bestPut) mo_bestSum (mo_row) (mo_best) (mo_left) mo_bestSize mo_bestLeft (mo_counts) mo_sets mo_foeHarm mo_ownHarm mo_across mo_sumFoe mo_sumOwn mo_sumWon mo_sumAcross mo_v wa_lanes wa_deep wa_told wa_beasts wa_cities wa_passes wa_turned wa_names (wa_who) (wa_strong) (wa_lane) (wa_price) (wa_loses) (wa_name) (wa_nameSort) (wa_numberOf) wa_kind wa_mood p1 r_4 hc_5) gX13_holds_X13_holdOf rfl hd_X13_holdOf ⟨Nat.le_of_ble_eq_true rfl, Nat.le_of_ble_eq_true rfl⟩ rfl rfl hKN (hP.sub [0, 1, 2, 3, 4] rfl) 13 0 rfl rfl rfl hl.1 rfl (Nat.le_of_ble_eq_true rfl) dX13_holds_14 ⟨Nat.le_of_ble_eq_true rfl, Nat.le_of_ble_eq_true rfl⟩ ?_
    refine lv_i2l hx hb dX13_holds_17 rfl ?_
    refine lv_aload_n hx hb dX13_holds_18 rfl (lv_at hl 0 rfl) ?_
    refine va_get (D := D) (ci := 13) (C := RX13) (T := TX13) (N := 39) (v := .ref a_wa) hx hb hX13 (fun _ q => q) hown hK hP 0 rfl rfl 3 (by decide) (hts (.fieldLink RX13 301 "ElephantLineModel" "war" "LElephantLineModel$War;") (by decide +kernel)) (fun _ h9 => h9) rfl dX13_holds_19 ?_
    refine va_getN (D := D) (ci := 12) (C := RX12) (T := TX12) (N := 18) (v := .int wa_deep) hx hb hX12 (fun _ q => q) hown hK hP 2 rfl rfl 1 (by decide) (va_Nw.use rfl (hKN.2.1.1 ("ElephantLineModel", 223, "ElephantLineModel$War", "deep", "I", "ElephantLineModel") (List.mem_of_getElem? (i := 68) rfl))) (fun _ h9 => h9) rfl dX13_holds_22 ?_
    obtain ⟨r_6, hc_7, h⟩ := bd1_some h
    refine kSl [.long r_4.toInt64, .int wa_deep] [] ⟨hx, hb, hml, hown, hts⟩ (c_X13_power l D cy r_4.toInt64 wa_deep r_6 hc_7) gX13_holds_X13_power rfl hd_X13_power ⟨Nat.le_of_ble_eq_true rfl, Nat.le_of_ble_eq_true rfl⟩ rfl rfl hKN va_nil rfl hl.1 rfl (Nat.le_of_ble_eq_true rfl) dX13_holds_25 ⟨Nat.le_of_ble_eq_true rfl, Nat.le_of_ble_eq_true rfl⟩ ?_
    exact W.lret (v := r_6) hx hb hr (fun t ht _ => ⟨_, rfl, Option.some.inj h, ht⟩) (fun _ q => by cases q) dX13_holds_28
  · have h := ifF cd h
    refine lv_lconst (v := 0) hx hb dX13_holds_8 (by decide) ?_
    refine lv_goto (tgt := 28) hx hb dX13_holds_9 (by decide) ?_
    exact W.lret (v := 0) hx hb hr (fun t ht _ => ⟨_, rfl, Option.some.inj h, ht⟩) (fun _ q => by cases q) dX13_holds_28
theorem hd_X13_meanBy : yX13_meanBy.cls = RX13 ∧ yX13_meanBy.cls ≠ "java/lang/invoke/MethodHandle" ∧ yX13_meanBy.cls ≠ "java/lang/invoke/VarHandle" ∧ (parseMethodDescriptor yX13_meanBy.desc).map (fun d => d.parameters.length) = some 3 := by decide +kernel
set_option maxHeartbeats 4000000 in
set_option maxRecDepth 100000 in
theorem c_X13_meanBy (l : Launch) (D : va_G) (cy : Nat → ClassId) (a_mo a_mo_v a_wa a_wa_kind a_wa_mood : Nat) (mo_thrown : Int32) (mo_trouble : Int32) (mo_where : Int32) (mo_read : Value) (mo_tape : Value) (mo_taped : Int32) (mo_size : Int32) (mo_spot : Int32) (mo_sort : Int32) (mo_place : Int32) (mo_number : Int32) (mo_fault : Int32) (mo_wrongAt : Int32) (mo_laneTold : Int32) (mo_word : Int64) (mo_x : Value) (mo_past : Value) (mo_kept : Value) (mo_acts : Int32) (mo_marks : Int32) (mo_put : Value) (mo_bestPut : Value) (mo_bestSum : Int64) (mo_row : Value) (mo_best : Value) (mo_left : Value) (mo_bestSize : Int32) (mo_bestLeft : Int32) (mo_counts : Value) (mo_sets : Int32) (mo_foeHarm : Int32) (mo_ownHarm : Int32) (mo_across : Int32) (mo_sumFoe : Int32) (mo_sumOwn : Int32) (mo_sumWon : Int32) (mo_sumAcross : Int32) (mo_v : Nat → Int32) (wa_lanes : Int32) (wa_deep : Int32) (wa_told : Int32) (wa_beasts : Int32) (wa_cities : Int32) (wa_passes : Int32) (wa_turned : Int32) (wa_names : Int32) (wa_who : Value) (wa_strong : Value) (wa_lane : Value) (wa_price : Value) (wa_loses : Value) (wa_name : Value) (wa_nameSort : Value) (wa_numberOf : Value) (wa_kind : Nat → Int32) (wa_mood : Nat → Int32) (p1 : Int32) (p2 : Int32) (p3 : Int32) (res : Int64) (h : f_X13_meanBy mo_v wa_deep wa_kind wa_mood p1 p2 p3 = some (res)) : Met l yX13_meanBy wo_X13_meanBy ({ frames := 3, cells := 0, slots := 0, locals := 65 }) (roPc D cy [.ref a_mo, .int p1, .int p2, .int p3] [(a_mo, .inr (13, [.int mo_thrown, .int mo_trouble, .int mo_where, .ref a_wa, mo_read, mo_tape, .int mo_taped, .int mo_size, .int mo_spot, .int mo_sort, .int mo_place, .int mo_number, .int mo_fault, .int mo_wrongAt, .int mo_laneTold, .long mo_word, .ref a_mo_v, mo_x, mo_past, mo_kept, .int mo_acts, .int mo_marks, mo_put, mo_bestPut, .long mo_bestSum, mo_row, mo_best, mo_left, .int mo_bestSize, .int mo_bestLeft, mo_counts, .int mo_sets, .int mo_foeHarm, .int mo_ownHarm, .int mo_across, .int mo_sumFoe, .int mo_sumOwn, .int mo_sumWon, .int mo_sumAcross])), (a_mo_v, .inl (cy 1, 19, .inl mo_v)), (a_wa, .inr (12, [.int wa_lanes, .int wa_deep, .int wa_told, .int wa_beasts, .int wa_cities, .int wa_passes, .int wa_turned, .int wa_names, wa_who, wa_strong, .ref a_wa_kind, wa_lane, .ref a_wa_mood, wa_price, wa_loses, wa_name, wa_nameSort, wa_numberOf])), (a_wa_kind, .inl (cy 1, 5, .inl wa_kind)), (a_wa_mood, .inl (cy 1, 5, .inl wa_mood))]) (vp_Sl (fun r => r = res)) 0 0 (fun _ => False) := by
  refine Met.ofW (cc := cX13_meanBy) (maxL := 4) (ret := (some .long)) (by decide) rfl ?_
  intro p e s m args below meth c s₁ B hml hv
  obtain ⟨rfl, hP, hKN⟩ := hv
  have hK := hKN.1
  have hx := B.exec
  have hb := B.bytes
  have hr := B.returns
  have hts := wt_X13_meanBy hKN.2.2 (([.ref a_mo, .int p1, .int p2, .int p3] : List Value).toArray)
  have hown : s.vm.findClass RX13 = some m.cls := findClass_of_methodNamed B.named
  have hlocks := B.notSynchronized
  have hl := lv_entry ([.ref a_mo, .int p1, .int p2, .int p3]) (n := 4) (Nat.le_of_ble_eq_true rfl)
  rw [lg_entry_eq]
  generalize (lg_sl ([.ref a_mo, .int p1, .int p2, .int p3]) ++ List.replicate (4 - (lg_sl ([.ref a_mo, .int p1, .int p2, .int p3])).length) Slot.unset).toArray = ls at hl ⊢
  have hl : lv_has ls 4 [(0, .ref a_mo), (1, .int p1), (2, .int p2), (3, .int p3)] := hl
  unfold f_X13_meanBy at h
  refine lv_aload_n hx hb dX13_meanBy_0 rfl (lv_at hl 0 rfl) ?_
  refine lv_iload_n hx hb dX13_meanBy_1 rfl (lv_at hl 1 rfl) ?_
  obtain ⟨r_1, hc_2, h⟩ := bd1_some h
  refine kVl [.int p1] [] ⟨hx, hb, hml, hown, hts⟩ (c_X13_holds l D cy a_mo a_mo_v a_wa a_wa_kind a_wa_mood mo_thrown mo_trouble mo_where (mo_read) (mo_tape) mo_taped mo_size mo_spot mo_sort mo_place mo_number mo_fault mo_wrongAt mo_laneTold mo_word (mo_x) (mo_past) (mo_kept) mo_acts mo_marks (mo_put) (mo_bestPut) mo_bestSum (mo_row) (mo_best) (mo_left) mo_bestSize mo_bestLeft (mo_counts) mo_sets mo_foeHarm mo_ownHarm mo_across mo_sumFoe mo_sumOwn mo_sumWon mo_sumAcross mo_v wa_lanes wa_deep wa_told wa_beasts wa_cities wa_passes wa_turned wa_names (wa_who) (wa_strong) (wa_lane) (wa_price) (wa_loses) (wa_name) (wa_nameSort) (wa_numberOf) wa_kind wa_mood p1 r_1 hc_2) gX13_meanBy_X13_holds rfl hd_X13_holds ⟨Nat.le_of_ble_eq_true rfl, Nat.le_of_ble_eq_true rfl⟩ rfl rfl hKN (hP.sub [0, 1, 2, 3, 4] rfl) 13 0 rfl rfl rfl hl.1 rfl (Nat.le_of_ble_eq_true rfl) dX13_meanBy_2 ⟨Nat.le_of_ble_eq_true rfl, Nat.le_of_ble_eq_true rfl⟩ ?_
  refine lv_iload_n hx hb dX13_meanBy_5 rfl (lv_at hl 2 rfl) ?_
  refine lv_i2l hx hb dX13_meanBy_6 rfl ?_
  refine lv_lmul hx hb dX13_meanBy_7 ?_
  refine lv_iload_n hx hb dX13_meanBy_8 rfl (lv_at hl 3 rfl) ?_
  refine lv_if_eq (tgt := 34) hx hb dX13_meanBy_9 (by decide) (fun cd => ?_) (fun cd => ?_)
  · have h := ifT cd h
    refine lv_lconst (v := 0) hx hb dX13_meanBy_34 (by decide) ?_
    refine lv_ladd hx hb dX13_meanBy_35 ?_
    exact W.lret (v := (r_1 * p2.toInt64) + 0) hx hb hr (fun t ht _ => ⟨_, rfl, Option.some.inj h, ht⟩) (fun _ q => by cases q) dX13_meanBy_36
  · have h := ifF cd h
    refine lv_aload_n hx hb dX13_meanBy_12 rfl (lv_at hl 0 rfl) ?_
    obtain ⟨r_3, hc_4, h⟩ := bd1_some h
    refine kVl [] [.long (r_1 * p2.toInt64)] ⟨hx, hb, hml, hown, hts⟩ (c_X13_whole l D cy a_mo a_wa mo_thrown mo_trouble mo_where (mo_read) (mo_tape) mo_taped mo_size mo_spot mo_sort mo_place mo_number mo_fault mo_wrongAt mo_laneTold mo_word (.ref a_mo_v) (mo_x) (mo_past) (mo_kept) mo_acts mo_marks (mo_put) (mo_bestPut) mo_bestSum (mo_row) (mo_best) (mo_left) mo_bestSize mo_bestLeft (mo_counts) mo_sets mo_foeHarm mo_ownHarm mo_across mo_sumFoe mo_sumOwn mo_sumWon mo_sumAcross wa_lanes wa_deep wa_told wa_beasts wa_cities wa_passes wa_turned wa_names (wa_who) (wa_strong) (.ref a_wa_kind) (wa_lane) (.ref a_wa_mood) (wa_price) (wa_loses) (wa_name) (wa_nameSort) (wa_numberOf) r_3 hc_4) gX13_meanBy_X13_whole rfl hd_X13_whole ⟨Nat.le_of_ble_eq_true rfl, Nat.le_of_ble_eq_true rfl⟩ rfl rfl hKN (hP.sub [0, 2] rfl) 13 0 rfl rfl rfl hl.1 rfl (Nat.le_of_ble_eq_true rfl) dX13_meanBy_13 ⟨Nat.le_of_ble_eq_true rfl, Nat.le_of_ble_eq_true rfl⟩ ?_
    refine lv_aload_n hx hb dX13_meanBy_16 rfl (lv_at hl 0 rfl) ?_
    refine lv_iload_n hx hb dX13_meanBy_17 rfl (lv_at hl 1 rfl) ?_
    obtain ⟨r_5, hc_6, h⟩ := bd1_some h
    refine kVl [.int p1] [.long r_3, .long (r_1 * p2.toInt64)] ⟨hx, hb, hml, hown, hts⟩ (c_X13_holds l D cy a_mo a_mo_v a_wa a_wa_kind a_wa_mood mo_thrown mo_trouble mo_where (mo_read) (mo_tape) mo_taped mo_size mo_spot mo_sort mo_place mo_number mo_fault mo_wrongAt mo_laneTold mo_word (mo_x) (mo_past) (mo_kept) mo_acts mo_marks (mo_put) (mo_bestPut) mo_bestSum (mo_row) (mo_best) (mo_left) mo_bestSize mo_bestLeft (mo_counts) mo_sets mo_foeHarm mo_ownHarm mo_across mo_sumFoe mo_sumOwn mo_sumWon mo_sumAcross mo_v wa_lanes wa_deep wa_told wa_beasts wa_cities wa_passes wa_turned wa_names (wa_who) (wa_strong) (wa_lane) (wa_price) (wa_loses) (wa_name) (wa_nameSort) (wa_numberOf) wa_kind wa_mood p1 r_5 hc_6) gX13_meanBy_X13_holds rfl hd_X13_holds ⟨Nat.le_of_ble_eq_true rfl, Nat.le_of_ble_eq_true rfl⟩ rfl rfl hKN (hP.sub [0, 1, 2, 3, 4] rfl) 13 0 rfl rfl rfl hl.1 rfl (Nat.le_of_ble_eq_true rfl) dX13_meanBy_18 ⟨Nat.le_of_ble_eq_true rfl, Nat.le_of_ble_eq_true rfl⟩ ?_
    refine lv_lsub hx hb dX13_meanBy_21 ?_
    refine lv_aload_n hx hb dX13_meanBy_22 rfl (lv_at hl 0 rfl) ?_
    refine lv_iload_n hx hb dX13_meanBy_23 rfl (lv_at hl 1 rfl) ?_
    obtain ⟨r_7, hc_8, h⟩ := bd1_some h
    refine kVi [.int p1] [.long (r_3 - r_5), .long (r_1 * p2.toInt64)] ⟨hx, hb, hml, hown, hts⟩ (c_X13_forceOf l D cy a_mo a_mo_v a_wa a_wa_kind mo_thrown mo_trouble mo_where (mo_read) (mo_tape) mo_taped mo_size mo_spot mo_sort mo_place mo_number mo_fault mo_wrongAt mo_laneTold mo_word (mo_x) (mo_past) (mo_kept) mo_acts mo_marks (mo_put) (mo_bestPut) mo_bestSum (mo_row) (mo_best) (mo_left) mo_bestSize mo_bestLeft (mo_counts) mo_sets mo_foeHarm mo_ownHarm mo_across mo_sumFoe mo_sumOwn mo_sumWon mo_sumAcross mo_v wa_lanes wa_deep wa_told wa_beasts wa_cities wa_passes wa_turned wa_names (wa_who) (wa_strong) (wa_lane) (.ref a_wa_mood) (wa_price) (wa_loses) (wa_name) (wa_nameSort) (wa_numberOf) wa_kind p1 r_7 hc_8) gX13_meanBy_X13_forceOf rfl hd_X13_forceOf ⟨Nat.le_of_ble_eq_true rfl, Nat.le_of_ble_eq_true rfl⟩ rfl rfl hKN (hP.sub [0, 1, 2, 3] rfl) 13 0 rfl rfl rfl hl.1 rfl (Nat.le_of_ble_eq_true rfl) dX13_meanBy_24 ⟨Nat.le_of_ble_eq_true rfl, Nat.le_of_ble_eq_true rfl⟩ ?_
    refine lv_iconst (v := 2) hx hb dX13_meanBy_27 (by decide) ?_
    refine lv_idiv hx hb dX13_meanBy_28 (by decide) ?_
    refine lv_i2l hx hb dX13_meanBy_29 rfl ?_
    refine lv_lmul hx hb dX13_meanBy_30 ?_
    refine lv_goto (tgt := 35) hx hb dX13_meanBy_31 (by decide) ?_
    refine lv_ladd hx hb dX13_meanBy_35 ?_
    exact W.lret (v := (r_1 * p2.toInt64) + ((r_3 - r_5) * ((r_7 / 2).toInt64))) hx hb hr (fun t ht _ => ⟨_, rfl, Option.some.inj h, ht⟩) (fun _ q => by cases q) dX13_meanBy_36
