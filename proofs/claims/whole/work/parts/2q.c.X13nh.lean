set_option maxHeartbeats 4000000 in
set_option maxRecDepth 100000 in
theorem c_X13_size_n (l : Launch) (D : va_G) (cy : Nat → ClassId) (A : Nat → Prop) (X : va_W) (a_mo : Nat) (mo_thrown : Int32) (mo_trouble : Int32) (mo_where : Int32) (mo_read : Value) (mo_tape : Value) (mo_taped : Int32) (mo_size : Int32) (mo_spot : Int32) (mo_sort : Int32) (mo_place : Int32) (mo_number : Int32) (mo_fault : Int32) (mo_wrongAt : Int32) (mo_laneTold : Int32) (mo_word : Int64) (mo_v : Value) (mo_x : Value) (mo_past : Value) (mo_kept : Value) (mo_acts : Int32) (mo_marks : Int32) (mo_put : Value) (mo_bestPut : Value) (mo_bestSum : Int64) (mo_row : Value) (mo_best : Value) (mo_left : Value) (mo_bestSize : Int32) (mo_bestLeft : Int32) (mo_counts : Value) (mo_sets : Int32) (mo_foeHarm : Int32) (mo_ownHarm : Int32) (mo_across : Int32) (mo_sumFoe : Int32) (mo_sumOwn : Int32) (mo_sumWon : Int32) (mo_sumAcross : Int32) (p1 : Int32) (res : Int32) (mo_thrown' : Int32) (h : f_X13_size_n mo_thrown mo_taped p1 = some (res, mo_thrown')) : Met l yX13_size wo_X13_size ({ frames := 1, cells := 0, slots := 0, locals := 22 }) (wrPc D cy A [.ref a_mo, .int p1] ([(a_mo, .inr (13, [.int mo_thrown, .int mo_trouble, .int mo_where, .null, mo_read, mo_tape, .int mo_taped, .int mo_size, .int mo_spot, .int mo_sort, .int mo_place, .int mo_number, .int mo_fault, .int mo_wrongAt, .int mo_laneTold, .long mo_word, mo_v, mo_x, mo_past, mo_kept, .int mo_acts, .int mo_marks, mo_put, mo_bestPut, .long mo_bestSum, mo_row, mo_best, mo_left, .int mo_bestSize, .int mo_bestLeft, mo_counts, .int mo_sets, .int mo_foeHarm, .int mo_ownHarm, .int mo_across, .int mo_sumFoe, .int mo_sumOwn, .int mo_sumWon, .int mo_sumAcross]))] ++ X)) (va_Qi (fun (r : Int32) (_ : Unit) => r = res) (wB D A ([(a_mo, .inr (13, [.int mo_thrown', .int mo_trouble, .int mo_where, .null, mo_read, mo_tape, .int mo_taped, .int mo_size, .int mo_spot, .int mo_sort, .int mo_place, .int mo_number, .int mo_fault, .int mo_wrongAt, .int mo_laneTold, .long mo_word, mo_v, mo_x, mo_past, mo_kept, .int mo_acts, .int mo_marks, mo_put, mo_bestPut, .long mo_bestSum, mo_row, mo_best, mo_left, .int mo_bestSize, .int mo_bestLeft, mo_counts, .int mo_sets, .int mo_foeHarm, .int mo_ownHarm, .int mo_across, .int mo_sumFoe, .int mo_sumOwn, .int mo_sumWon, .int mo_sumAcross]))] ++ X)) A) 0 0 A := by
  refine Met.ofW (cc := cX13_size) (maxL := 2) (ret := (some .int)) (by decide) rfl ?_
  intro p e s m args below meth c s₁ B hml hv
  obtain ⟨rfl, hP, hKN, hD, hA⟩ := hv
  have hK := hKN.1
  have hx := B.exec
  have hb := B.bytes
  have hr := B.returns
  have hts := wt_X13_size hKN.2.2 (([.ref a_mo, .int p1] : List Value).toArray)
  have hown : s.vm.findClass RX13 = some m.cls := findClass_of_methodNamed B.named
  have hlocks := B.notSynchronized
  have hS : va_S A s.heap s.heap [] := va_S.rf
  have hX13 := wc_X13 hKN.2.2 (([.ref a_mo, .int p1] : List Value).toArray)
  have hl := lv_entry ([.ref a_mo, .int p1]) (n := 2) (Nat.le_of_ble_eq_true rfl)
  rw [lg_entry_eq]
  generalize (lg_sl ([.ref a_mo, .int p1]) ++ List.replicate (2 - (lg_sl ([.ref a_mo, .int p1])).length) Slot.unset).toArray = ls at hl ⊢
  have hl : lv_has ls 2 [(0, .ref a_mo), (1, .int p1)] := hl
  unfold f_X13_size_n at h
  refine lv_aload_n hx hb dX13_size_0 rfl (lv_at hl 0 rfl) ?_
  refine lv_iconst (v := 0) hx hb dX13_size_1 (by decide) ?_
  refine va_put (D := D) (ci := 13) (C := RX13) (T := TX13) (N := 39) (v := .int 0) (ty := .int) hx hb hX13 (fun _ q => q) tyX13 tyX13_ok nmX13 hown hK hP hD hS 0 rfl rfl 0 (by decide) (hts (.fieldLink RX13 48 "ElephantLineModel" "thrown" "I") (by decide +kernel)) (fun _ h9 => h9) rfl (tyX13_ok 0 (by decide)) rfl rfl (Nat.le_of_ble_eq_true rfl) dX13_size_2 (fun H locs hP hD hS => ?_)
  refine lv_iload_n hx hb dX13_size_5 rfl (lv_at hl 1 rfl) ?_
  refine lv_bipush (v := 11) hx hb dX13_size_6 (by decide) ?_
  refine lv_icmp_ne (tgt := 16) hx hb dX13_size_8 (by decide) (fun cd => ?_) (fun cd => ?_)
  · have h := ifF cd h
    refine lv_iload_n hx hb dX13_size_16 rfl (lv_at hl 1 rfl) ?_
    refine lv_iconst (v := 0) hx hb dX13_size_17 (by decide) ?_
    refine lv_bipush (v := 10) hx hb dX13_size_18 (by decide) ?_
    have hP : va_P D vwCl ([(a_mo, .inr (13, [.int 0, .int mo_trouble, .int mo_where, .null, mo_read, mo_tape, .int mo_taped, .int mo_size, .int mo_spot, .int mo_sort, .int mo_place, .int mo_number, .int mo_fault, .int mo_wrongAt, .int mo_laneTold, .long mo_word, mo_v, mo_x, mo_past, mo_kept, .int mo_acts, .int mo_marks, mo_put, mo_bestPut, .long mo_bestSum, mo_row, mo_best, mo_left, .int mo_bestSize, .int mo_bestLeft, mo_counts, .int mo_sets, .int mo_foeHarm, .int mo_ownHarm, .int mo_across, .int mo_sumFoe, .int mo_sumOwn, .int mo_sumWon, .int mo_sumAcross]))] ++ X) H := hP
    have hD : va_D A ([(a_mo, .inr (13, [.int 0, .int mo_trouble, .int mo_where, .null, mo_read, mo_tape, .int mo_taped, .int mo_size, .int mo_spot, .int mo_sort, .int mo_place, .int mo_number, .int mo_fault, .int mo_wrongAt, .int mo_laneTold, .long mo_word, mo_v, mo_x, mo_past, mo_kept, .int mo_acts, .int mo_marks, mo_put, mo_bestPut, .long mo_bestSum, mo_row, mo_best, mo_left, .int mo_bestSize, .int mo_bestLeft, mo_counts, .int mo_sets, .int mo_foeHarm, .int mo_ownHarm, .int mo_across, .int mo_sumFoe, .int mo_sumOwn, .int mo_sumWon, .int mo_sumAcross]))] ++ X) := hD
    obtain ⟨r_1, hc_2, h⟩ := bd1_some h
    refine kSb [.int p1, .int 0, .int 10] [] ⟨hx, hb, hml, hown, hts⟩ (c_X13_in l D cy p1 (0 : Int32) (10 : Int32) r_1 hc_2) gX13_size_X13_in rfl hd_X13_in ⟨Nat.le_of_ble_eq_true rfl, Nat.le_of_ble_eq_true rfl⟩ rfl rfl hKN va_nil rfl hl.1 rfl (Nat.le_of_ble_eq_true rfl) dX13_size_20 ⟨Nat.le_of_ble_eq_true rfl, Nat.le_of_ble_eq_true rfl⟩ (fun nb_3 => ?_)
    refine lv_if_ne (tgt := 28) hx hb dX13_size_23 (by decide) (fun cd => ?_) (fun cd => ?_)
    · have h := ifF cd h
      refine lv_aload_n hx hb dX13_size_28 rfl (lv_at hl 0 rfl) ?_
      refine va_get (D := D) (ci := 13) (C := RX13) (T := TX13) (N := 39) (v := .null) hx hb hX13 (fun _ q => q) hown hK hP 0 rfl rfl 3 (by decide) (hts (.fieldLink RX13 301 "ElephantLineModel" "war" "LElephantLineModel$War;") (by decide +kernel)) (fun _ h9 => h9) rfl dX13_size_29 ?_
      refine lv_ifnonnullN hx hb dX13_size_32 ?_
      refine lv_iconst (v := 0) hx hb dX13_size_35 (by decide) ?_
      cases h
      exact W.iret hx hb hr (fun t ht _ => ⟨⟨_, (), rfl, rfl, by rw [ht]; exact hP, hD⟩, hS.F ht⟩) hS.2.2 dX13_size_36
    · have h := ifT cd h
      refine lv_iconst (v := (-1)) hx hb dX13_size_26 (by decide) ?_
      cases h
      exact W.iret hx hb hr (fun t ht _ => ⟨⟨_, (), rfl, rfl, by rw [ht]; exact hP, hD⟩, hS.F ht⟩) hS.2.2 dX13_size_27
  · have h := ifT cd h
    refine lv_aload_n hx hb dX13_size_11 rfl (lv_at hl 0 rfl) ?_
    refine va_get (D := D) (ci := 13) (C := RX13) (T := TX13) (N := 39) (v := .int mo_taped) hx hb hX13 (fun _ q => q) hown hK hP 0 rfl rfl 6 (by decide) (hts (.fieldLink RX13 294 "ElephantLineModel" "taped" "I") (by decide +kernel)) (fun _ h9 => h9) rfl dX13_size_12 ?_
    cases h
    exact W.iret hx hb hr (fun t ht _ => ⟨⟨_, (), rfl, rfl, by rw [ht]; exact hP, hD⟩, hS.F ht⟩) hS.2.2 dX13_size_15
