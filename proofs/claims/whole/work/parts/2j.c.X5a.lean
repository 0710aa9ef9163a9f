theorem hd_X5_forget : yX5_forget.cls = RX5 ∧ yX5_forget.cls ≠ "java/lang/invoke/MethodHandle" ∧ yX5_forget.cls ≠ "java/lang/invoke/VarHandle" ∧ (parseMethodDescriptor yX5_forget.desc).map (fun d => d.parameters.length) = some 0 := by decide +kernel
set_option maxHeartbeats 4000000 in
set_option maxRecDepth 100000 in
theorem c_X5_forget (l : Launch) (D : va_G) (cy : Nat → ClassId) (A : Nat → Prop) (X : va_W) (a_pa : Nat) (pa_kept : Value) (pa_marked : Value) (pa_latest : Int32) (pa_acts : Int32) (pa_marks : Int32) (pa_acts' : Int32) (pa_marks' : Int32) (h : f_X5_forget pa_acts pa_marks = some (pa_acts', pa_marks')) : Met l yX5_forget wo_X5_forget ({ frames := 0, cells := 0, slots := 0, locals := 0 }) (wrPc D cy A [.ref a_pa] ([(a_pa, .inr (5, [pa_kept, pa_marked, .int pa_latest, .int pa_acts, .int pa_marks]))] ++ X)) (va_Qv (fun (_ : Unit) => True) (wB D A ([(a_pa, .inr (5, [pa_kept, pa_marked, .int pa_latest, .int pa_acts', .int pa_marks']))] ++ X)) A) 0 0 A := by
  refine Met.ofW (cc := cX5_forget) (maxL := 1) (ret := none) (by decide) rfl ?_
  intro p e s m args below meth c s₁ B hml hv
  obtain ⟨rfl, hP, hKN, hD, hA⟩ := hv
  have hK := hKN.1
  have hx := B.exec
  have hb := B.bytes
  have hr := B.returns
  have hts := wt_X5_forget hKN.2.2 (([.ref a_pa] : List Value).toArray)
  have hown : s.vm.findClass RX5 = some m.cls := findClass_of_methodNamed B.named
  have hlocks := B.notSynchronized
  have hS : va_S A s.heap s.heap [] := va_S.rf
  have hX5 := wc_X5 hKN.2.2 (([.ref a_pa] : List Value).toArray)
  have hl := lv_entry ([.ref a_pa]) (n := 1) (Nat.le_of_ble_eq_true rfl)
  rw [lg_entry_eq]
  generalize (lg_sl ([.ref a_pa]) ++ List.replicate (1 - (lg_sl ([.ref a_pa])).length) Slot.unset).toArray = ls at hl ⊢
  have hl : lv_has ls 1 [(0, .ref a_pa)] := hl
  unfold f_X5_forget at h
  refine lv_aload_n hx hb dX5_forget_0 rfl (lv_at hl 0 rfl) ?_
  refine lv_iconst (v := 0) hx hb dX5_forget_1 (by decide) ?_
  refine va_put (D := D) (ci := 5) (C := RX5) (T := TX5) (N := 5) (v := .int 0) (ty := .int) hx hb hX5 (fun _ q => q) tyX5 tyX5_ok nmX5 hown hK hP hD hS 0 rfl rfl 3 (by decide) (hts (.fieldLink RX5 21 "ElephantLine$Past" "acts" "I") (by decide +kernel)) (fun _ h9 => h9) rfl (tyX5_ok 3 (by decide)) rfl rfl (Nat.le_of_ble_eq_true rfl) dX5_forget_2 (fun H locs hP hD hS => ?_)
  refine lv_aload_n hx hb dX5_forget_5 rfl (lv_at hl 0 rfl) ?_
  refine lv_iconst (v := 0) hx hb dX5_forget_6 (by decide) ?_
  refine va_put (D := D) (ci := 5) (C := RX5) (T := TX5) (N := 5) (v := .int 0) (ty := .int) hx hb hX5 (fun _ q => q) tyX5 tyX5_ok nmX5 hown hK hP hD hS 0 rfl rfl 4 (by decide) (hts (.fieldLink RX5 25 "ElephantLine$Past" "marks" "I") (by decide +kernel)) (fun _ h9 => h9) rfl (tyX5_ok 4 (by decide)) rfl rfl (Nat.le_of_ble_eq_true rfl) dX5_forget_7 (fun H locs hP hD hS => ?_)
  cases h
  exact W.vret hx hb hr (fun t ht _ => ⟨⟨(), rfl, trivial, by rw [ht]; exact hP, hD⟩, hS.F ht⟩) hS.2.2 dX5_forget_10
theorem hd_X5_keep : yX5_keep.cls = RX5 ∧ yX5_keep.cls ≠ "java/lang/invoke/MethodHandle" ∧ yX5_keep.cls ≠ "java/lang/invoke/VarHandle" ∧ (parseMethodDescriptor yX5_keep.desc).map (fun d => d.parameters.length) = some 1 := by decide +kernel
set_option maxHeartbeats 4000000 in
set_option maxRecDepth 100000 in
theorem c_X5_keep (l : Launch) (D : va_G) (cy : Nat → ClassId) (A : Nat → Prop) (X : va_W) (a_no a_no_strong a_no_at a_no_wounds a_pa a_pa_kept a_ks a_ks_strong a_ks_at a_ks_wounds : Nat) (no_dead : Int32) (no_wet : Int32) (no_drawn : Int32) (no_strong : Nat → Int32) (no_at : Nat → Int32) (no_wounds : Nat → Int32) (pa_marked : Value) (pa_latest : Int32) (pa_acts : Int32) (pa_marks : Int32) (pa_kept : Nat → Option Nat) (ks_dead : Int32) (ks_wet : Int32) (ks_drawn : Int32) (ks_strong : Nat → Int32) (ks_at : Nat → Int32) (ks_wounds : Nat → Int32) (pa_latest' : Int32) (pa_acts' : Int32) (ks_dead' : Int32) (ks_wet' : Int32) (ks_drawn' : Int32) (ks_strong' : Nat → Int32) (ks_at' : Nat → Int32) (ks_wounds' : Nat → Int32) (h : f_X5_keep no_dead no_wet no_drawn no_strong no_at no_wounds pa_latest pa_acts pa_kept ks_dead ks_wet ks_drawn ks_strong ks_at ks_wounds = some (pa_latest', pa_acts', ks_dead', ks_wet', ks_drawn', ks_strong', ks_at', ks_wounds')) (hnb_no_wet : nbv no_wet) (hks : ∀ i : Int32, i = (if 16 ≤ pa_latest + 1 then 0 else pa_latest + 1) → vp_in i 16 → pa_kept i.toNatClampNeg = some a_ks) : Met l yX5_keep wo_X5_keep ({ frames := 2, cells := 0, slots := 0, locals := 39 }) (wrPc D cy A [.ref a_pa, .ref a_no] ([(a_no, .inr (8, [.ref a_no_strong, .ref a_no_at, .ref a_no_wounds, .int no_dead, .int no_wet, .int no_drawn])), (a_no_strong, .inl (cy 1, 6, .inl no_strong)), (a_no_at, .inl (cy 1, 5, .inl no_at)), (a_no_wounds, .inl (cy 1, 5, .inl no_wounds)), (a_pa, .inr (5, [.ref a_pa_kept, pa_marked, .int pa_latest, .int pa_acts, .int pa_marks])), (a_pa_kept, .inl (cy 4, 16, .inr (.inr (.inr (.inr pa_kept))))), (a_ks, .inr (8, [.ref a_ks_strong, .ref a_ks_at, .ref a_ks_wounds, .int ks_dead, .int ks_wet, .int ks_drawn])), (a_ks_strong, .inl (cy 1, 6, .inl ks_strong)), (a_ks_at, .inl (cy 1, 5, .inl ks_at)), (a_ks_wounds, .inl (cy 1, 5, .inl ks_wounds))] ++ X)) (va_Qv (fun (_ : Unit) => True) (wB D A ([(a_no, .inr (8, [.ref a_no_strong, .ref a_no_at, .ref a_no_wounds, .int no_dead, .int no_wet, .int no_drawn])), (a_no_strong, .inl (cy 1, 6, .inl no_strong)), (a_no_at, .inl (cy 1, 5, .inl no_at)), (a_no_wounds, .inl (cy 1, 5, .inl no_wounds)), (a_pa, .inr (5, [.ref a_pa_kept, pa_marked, .int pa_latest', .int pa_acts', .int pa_marks])), (a_pa_kept, .inl (cy 4, 16, .inr (.inr (.inr (.inr pa_kept))))), (a_ks, .inr (8, [.ref a_ks_strong, .ref a_ks_at, .ref a_ks_wounds, .int ks_dead', .int ks_wet', .int ks_drawn'])), (a_ks_strong, .inl (cy 1, 6, .inl ks_strong')), (a_ks_at, .inl (cy 1, 5, .inl ks_at')), (a_ks_wounds, .inl (cy 1, 5, .inl ks_wounds'))] ++ X)) A) 0 0 A := by
  refine Met.ofW (cc := cX5_keep) (maxL := 2) (ret := none) (by decide) rfl ?_
  intro p e s m args below meth c s₁ B hml hv
  obtain ⟨rfl, hP, hKN, hD, hA⟩ := hv
  have hK := hKN.1
  have hx := B.exec
  have hb := B.bytes
  have hr := B.returns
  have hts := wt_X5_keep hKN.2.2 (([.ref a_pa, .ref a_no] : List Value).toArray)
  have hown : s.vm.findClass RX5 = some m.cls := findClass_of_methodNamed B.named
  have hlocks := B.notSynchronized
  have hS : va_S A s.heap s.heap [] := va_S.rf
  have hX5 := wc_X5 hKN.2.2 (([.ref a_pa, .ref a_no] : List Value).toArray)
  have hl := lv_entry ([.ref a_pa, .ref a_no]) (n := 2) (Nat.le_of_ble_eq_true rfl)
  rw [lg_entry_eq]
  generalize (lg_sl ([.ref a_pa, .ref a_no]) ++ List.replicate (2 - (lg_sl ([.ref a_pa, .ref a_no])).length) Slot.unset).toArray = ls at hl ⊢
  have hl : lv_has ls 2 [(0, .ref a_pa), (1, .ref a_no)] := hl
  unfold f_X5_keep at h
  refine lv_aload_n hx hb dX5_keep_0 rfl (lv_at hl 0 rfl) ?_
  refine lv_aload_n hx hb dX5_keep_1 rfl (lv_at hl 0 rfl) ?_
  refine va_get (D := D) (ci := 5) (C := RX5) (T := TX5) (N := 5) (v := .int pa_latest) hx hb hX5 (fun _ q => q) hown hK hP 4 rfl rfl 2 (by decide) (hts (.fieldLink RX5 28 "ElephantLine$Past" "latest" "I") (by decide +kernel)) (fun _ h9 => h9) rfl dX5_keep_2 ?_
  refine lv_iconst (v := 1) hx hb dX5_keep_5 (by decide) ?_
  refine lv_iadd hx hb dX5_keep_6 ?_
  refine lv_bipush (v := 16) hx hb dX5_keep_7 (by decide) ?_
  refine lv_icmp_ge (tgt := 21) hx hb dX5_keep_9 (by decide) (fun cd => ?_) (fun cd => ?_)
  · have h := ifT cd h
    refine lv_iconst (v := 0) hx hb dX5_keep_21 (by decide) ?_
    refine va_put (D := D) (ci := 5) (C := RX5) (T := TX5) (N := 5) (v := .int 0) (ty := .int) hx hb hX5 (fun _ q => q) tyX5 tyX5_ok nmX5 hown hK hP hD hS 4 rfl rfl 2 (by decide) (hts (.fieldLink RX5 28 "ElephantLine$Past" "latest" "I") (by decide +kernel)) (fun _ h9 => h9) rfl (tyX5_ok 2 (by decide)) rfl rfl (Nat.le_of_ble_eq_true rfl) dX5_keep_22 (fun H locs hP hD hS => ?_)
    refine lv_aload_n hx hb dX5_keep_25 rfl (lv_at hl 0 rfl) ?_
    refine va_get (D := D) (ci := 5) (C := RX5) (T := TX5) (N := 5) (v := .ref a_pa_kept) hx hb hX5 (fun _ q => q) hown hK hP 4 rfl rfl 0 (by decide) (hts (.fieldLink RX5 11 "ElephantLine$Past" "kept" "[LElephantLine$Stand;") (by decide +kernel)) (fun _ h9 => h9) rfl dX5_keep_26 ?_
    refine lv_aload_n hx hb dX5_keep_29 rfl (lv_at hl 0 rfl) ?_
    refine va_get (D := D) (ci := 5) (C := RX5) (T := TX5) (N := 5) (v := .int 0) hx hb hX5 (fun _ q => q) hown hK hP 4 rfl rfl 2 (by decide) (hts (.fieldLink RX5 28 "ElephantLine$Past" "latest" "I") (by decide +kernel)) (fun _ h9 => h9) rfl dX5_keep_30 ?_
    obtain ⟨i_1, h⟩ := gIn_some h
    refine va_aldq hx hb hK hP 5 4 rfl rfl i_1 dX5_keep_33 ?_
    rw [show va_rf (pa_kept (0 : Int32).toNatClampNeg) = Value.ref a_ks from by rw [hks (0 : Int32) (by first | rfl | exact (if_pos cd).symm | exact (if_neg cd).symm) i_1]; rfl]
    refine lv_aload_n hx hb dX5_keep_34 rfl (lv_at hl 1 rfl) ?_
    have hP : va_P D vwCl ([(a_no, .inr (8, [.ref a_no_strong, .ref a_no_at, .ref a_no_wounds, .int no_dead, .int no_wet, .int no_drawn])), (a_no_strong, .inl (cy 1, 6, .inl no_strong)), (a_no_at, .inl (cy 1, 5, .inl no_at)), (a_no_wounds, .inl (cy 1, 5, .inl no_wounds)), (a_pa, .inr (5, [.ref a_pa_kept, pa_marked, .int 0, .int pa_acts, .int pa_marks])), (a_pa_kept, .inl (cy 4, 16, .inr (.inr (.inr (.inr pa_kept))))), (a_ks, .inr (8, [.ref a_ks_strong, .ref a_ks_at, .ref a_ks_wounds, .int ks_dead, .int ks_wet, .int ks_drawn])), (a_ks_strong, .inl (cy 1, 6, .inl ks_strong)), (a_ks_at, .inl (cy 1, 5, .inl ks_at)), (a_ks_wounds, .inl (cy 1, 5, .inl ks_wounds))] ++ X) H := hP
    have hD : va_D A ([(a_no, .inr (8, [.ref a_no_strong, .ref a_no_at, .ref a_no_wounds, .int no_dead, .int no_wet, .int no_drawn])), (a_no_strong, .inl (cy 1, 6, .inl no_strong)), (a_no_at, .inl (cy 1, 5, .inl no_at)), (a_no_wounds, .inl (cy 1, 5, .inl no_wounds)), (a_pa, .inr (5, [.ref a_pa_kept, pa_marked, .int 0, .int pa_acts, .int pa_marks])), (a_pa_kept, .inl (cy 4, 16, .inr (.inr (.inr (.inr pa_kept))))), (a_ks, .inr (8, [.ref a_ks_strong, .ref a_ks_at, .ref a_ks_wounds, .int ks_dead, .int ks_wet, .int ks_drawn])), (a_ks_strong, .inl (cy 1, 6, .inl ks_strong)), (a_ks_at, .inl (cy 1, 5, .inl ks_at)), (a_ks_wounds, .inl (cy 1, 5, .inl ks_wounds))] ++ X) := hD
    obtain ⟨ks_dead_2, ks_wet_3, ks_drawn_4, ks_strong_5, ks_at_6, ks_wounds_7, hc_8, h⟩ := bd6_some h
    refine wVv [.ref a_no] [] ⟨hx, hb, hml, hown, hts⟩ (c_X8_copyOf l D cy A ([(a_pa, .inr (5, [.ref a_pa_kept, pa_marked, .int 0, .int pa_acts, .int pa_marks])), (a_pa_kept, .inl (cy 4, 16, .inr (.inr (.inr (.inr pa_kept)))))] ++ X) a_ks a_ks_strong a_ks_at a_ks_wounds a_no a_no_strong a_no_at a_no_wounds ks_dead ks_wet ks_drawn ks_strong ks_at ks_wounds no_dead no_wet no_drawn no_strong no_at no_wounds ks_dead_2 ks_wet_3 ks_drawn_4 ks_strong_5 ks_at_6 ks_wounds_7 hc_8 hnb_no_wet) gX5_keep_X8_copyOf rfl hd_X8_copyOf ⟨Nat.le_of_ble_eq_true rfl, Nat.le_of_ble_eq_true rfl⟩ rfl rfl hKN (pX3 hP [6, 7, 8, 9, 0, 1, 2, 3, 4, 5] rfl) (dX3 hD [6, 7, 8, 9, 0, 1, 2, 3, 4, 5] rfl rfl) hS hA 8 0 rfl rfl rfl hl.1 rfl (Nat.le_of_ble_eq_true rfl) dX5_keep_35 ⟨Nat.le_of_ble_eq_true rfl, Nat.le_of_ble_eq_true rfl⟩ (fun H locs hP hD hS => ?_)
    have hP := pX4 (L1 := [(a_no, .inr (8, [.ref a_no_strong, .ref a_no_at, .ref a_no_wounds, .int no_dead, .int no_wet, .int no_drawn])), (a_no_strong, .inl (cy 1, 6, .inl no_strong)), (a_no_at, .inl (cy 1, 5, .inl no_at)), (a_no_wounds, .inl (cy 1, 5, .inl no_wounds)), (a_pa, .inr (5, [.ref a_pa_kept, pa_marked, .int 0, .int pa_acts, .int pa_marks])), (a_pa_kept, .inl (cy 4, 16, .inr (.inr (.inr (.inr pa_kept))))), (a_ks, .inr (8, [.ref a_ks_strong, .ref a_ks_at, .ref a_ks_wounds, .int ks_dead_2, .int ks_wet_3, .int ks_drawn_4])), (a_ks_strong, .inl (cy 1, 6, .inl ks_strong_5)), (a_ks_at, .inl (cy 1, 5, .inl ks_at_6)), (a_ks_wounds, .inl (cy 1, 5, .inl ks_wounds_7))]) hP [4, 5, 6, 7, 8, 9, 0, 1, 2, 3] rfl
    have hD := dX4 (L1 := [(a_no, .inr (8, [.ref a_no_strong, .ref a_no_at, .ref a_no_wounds, .int no_dead, .int no_wet, .int no_drawn])), (a_no_strong, .inl (cy 1, 6, .inl no_strong)), (a_no_at, .inl (cy 1, 5, .inl no_at)), (a_no_wounds, .inl (cy 1, 5, .inl no_wounds)), (a_pa, .inr (5, [.ref a_pa_kept, pa_marked, .int 0, .int pa_acts, .int pa_marks])), (a_pa_kept, .inl (cy 4, 16, .inr (.inr (.inr (.inr pa_kept))))), (a_ks, .inr (8, [.ref a_ks_strong, .ref a_ks_at, .ref a_ks_wounds, .int ks_dead_2, .int ks_wet_3, .int ks_drawn_4])), (a_ks_strong, .inl (cy 1, 6, .inl ks_strong_5)), (a_ks_at, .inl (cy 1, 5, .inl ks_at_6)), (a_ks_wounds, .inl (cy 1, 5, .inl ks_wounds_7))]) hD [4, 5, 6, 7, 8, 9, 0, 1, 2, 3] rfl rfl
    refine lv_aload_n hx hb dX5_keep_38 rfl (lv_at hl 0 rfl) ?_
    refine lv_bipush (v := 16) hx hb dX5_keep_39 (by decide) ?_
    refine lv_aload_n hx hb dX5_keep_41 rfl (lv_at hl 0 rfl) ?_
    refine va_get (D := D) (ci := 5) (C := RX5) (T := TX5) (N := 5) (v := .int pa_acts) hx hb hX5 (fun _ q => q) hown hK hP 4 rfl rfl 3 (by decide) (hts (.fieldLink RX5 21 "ElephantLine$Past" "acts" "I") (by decide +kernel)) (fun _ h9 => h9) rfl dX5_keep_42 ?_
    refine lv_iconst (v := 1) hx hb dX5_keep_45 (by decide) ?_
    refine lv_iadd hx hb dX5_keep_46 ?_
    refine va_mmin hx hb (hml.trans hl.1.symm) hown (hts (.methodLink RX5 35 Lib.Math.min.name) (by decide +kernel)) (hts (.static Lib.Math.min.name) (by decide +kernel)) (hts (.initialized "java/lang/Math") (by decide +kernel)) (hts (.code Lib.Math.min.name Lib.Math.min.code 2 (some .int)) (by decide +kernel)) (Nat.le_of_ble_eq_true rfl) (Nat.le_of_ble_eq_true rfl) (Nat.le_of_ble_eq_true rfl) (Nat.le_of_ble_eq_true rfl) dX5_keep_47 ?_
    refine va_put (D := D) (ci := 5) (C := RX5) (T := TX5) (N := 5) (v := .int (if (pa_acts + 1) < 16 then pa_acts + 1 else 16)) (ty := .int) hx hb hX5 (fun _ q => q) tyX5 tyX5_ok nmX5 hown hK hP hD hS 4 rfl rfl 3 (by decide) (hts (.fieldLink RX5 21 "ElephantLine$Past" "acts" "I") (by decide +kernel)) (fun _ h9 => h9) rfl (tyX5_ok 3 (by decide)) rfl rfl (Nat.le_of_ble_eq_true rfl) dX5_keep_50 (fun H locs hP hD hS => ?_)
    cases h
    exact W.vret hx hb hr (fun t ht _ => ⟨⟨(), rfl, trivial, by rw [ht]; exact hP, hD⟩, hS.F ht⟩) hS.2.2 dX5_keep_53
  · have h := ifF cd h
    refine lv_aload_n hx hb dX5_keep_12 rfl (lv_at hl 0 rfl) ?_
    refine va_get (D := D) (ci := 5) (C := RX5) (T := TX5) (N := 5) (v := .int pa_latest) hx hb hX5 (fun _ q => q) hown hK hP 4 rfl rfl 2 (by decide) (hts (.fieldLink RX5 28 "ElephantLine$Past" "latest" "I") (by decide +kernel)) (fun _ h9 => h9) rfl dX5_keep_13 ?_
    refine lv_iconst (v := 1) hx hb dX5_keep_16 (by decide) ?_
    refine lv_iadd hx hb dX5_keep_17 ?_
    refine lv_goto (tgt := 22) hx hb dX5_keep_18 (by decide) ?_
    refine va_put (D := D) (ci := 5) (C := RX5) (T := TX5) (N := 5) (v := .int (pa_latest + 1)) (ty := .int) hx hb hX5 (fun _ q => q) tyX5 tyX5_ok nmX5 hown hK hP hD hS 4 rfl rfl 2 (by decide) (hts (.fieldLink RX5 28 "ElephantLine$Past" "latest" "I") (by decide +kernel)) (fun _ h9 => h9) rfl (tyX5_ok 2 (by decide)) rfl rfl (Nat.le_of_ble_eq_true rfl) dX5_keep_22 (fun H locs hP hD hS => ?_)
    refine lv_aload_n hx hb dX5_keep_25 rfl (lv_at hl 0 rfl) ?_
    refine va_get (D := D) (ci := 5) (C := RX5) (T := TX5) (N := 5) (v := .ref a_pa_kept) hx hb hX5 (fun _ q => q) hown hK hP 4 rfl rfl 0 (by decide) (hts (.fieldLink RX5 11 "ElephantLine$Past" "kept" "[LElephantLine$Stand;") (by decide +kernel)) (fun _ h9 => h9) rfl dX5_keep_26 ?_
    refine lv_aload_n hx hb dX5_keep_29 rfl (lv_at hl 0 rfl) ?_
    refine va_get (D := D) (ci := 5) (C := RX5) (T := TX5) (N := 5) (v := .int (pa_latest + 1)) hx hb hX5 (fun _ q => q) hown hK hP 4 rfl rfl 2 (by decide) (hts (.fieldLink RX5 28 "ElephantLine$Past" "latest" "I") (by decide +kernel)) (fun _ h9 => h9) rfl dX5_keep_30 ?_
    obtain ⟨i_9, h⟩ := gIn_some h
    refine va_aldq hx hb hK hP 5 4 rfl rfl i_9 dX5_keep_33 ?_
    rw [show va_rf (pa_kept (pa_latest + 1).toNatClampNeg) = Value.ref a_ks from by rw [hks (pa_latest + 1) (by first | rfl | exact (if_pos cd).symm | exact (if_neg cd).symm) i_9]; rfl]
    refine lv_aload_n hx hb dX5_keep_34 rfl (lv_at hl 1 rfl) ?_
    have hP : va_P D vwCl ([(a_no, .inr (8, [.ref a_no_strong, .ref a_no_at, .ref a_no_wounds, .int no_dead, .int no_wet, .int no_drawn])), (a_no_strong, .inl (cy 1, 6, .inl no_strong)), (a_no_at, .inl (cy 1, 5, .inl no_at)), (a_no_wounds, .inl (cy 1, 5, .inl no_wounds)), (a_pa, .inr (5, [.ref a_pa_kept, pa_marked, .int (pa_latest + 1), .int pa_acts, .int pa_marks])), (a_pa_kept, .inl (cy 4, 16, .inr (.inr (.inr (.inr pa_kept))))), (a_ks, .inr (8, [.ref a_ks_strong, .ref a_ks_at, .ref a_ks_wounds, .int ks_dead, .int ks_wet, .int ks_drawn])), (a_ks_strong, .inl (cy 1, 6, .inl ks_strong)), (a_ks_at, .inl (cy 1, 5, .inl ks_at)), (a_ks_wounds, .inl (cy 1, 5, .inl ks_wounds))] ++ X) H := hP
    have hD : va_D A ([(a_no, .inr (8, [.ref a_no_strong, .ref a_no_at, .ref a_no_wounds, .int no_dead, .int no_wet, .int no_drawn])), (a_no_strong, .inl (cy 1, 6, .inl no_strong)), (a_no_at, .inl (cy 1, 5, .inl no_at)), (a_no_wounds, .inl (cy 1, 5, .inl no_wounds)), (a_pa, .inr (5, [.ref a_pa_kept, pa_marked, .int (pa_latest + 1), .int pa_acts, .int pa_marks])), (a_pa_kept, .inl (cy 4, 16, .inr (.inr (.inr (.inr pa_kept))))), (a_ks, .inr (8, [.ref a_ks_strong, .ref a_ks_at, .ref a_ks_wounds, .int ks_dead, .int ks_wet, .int ks_drawn])), (a_ks_strong, .inl (cy 1, 6, .inl ks_strong)), (a_ks_at, .inl (cy 1, 5, .inl ks_at)), (a_ks_wounds, .inl (cy 1, 5, .inl ks_wounds))] ++ X) := hD
    obtain ⟨ks_dead_10, ks_wet_11, ks_drawn_12, ks_strong_13, ks_at_14, ks_wounds_15, hc_16, h⟩ := bd6_some h
    refine wVv [.ref a_no] [] ⟨hx, hb, hml, hown, hts⟩ (c_X8_copyOf l D cy A ([(a_pa, .inr (5, [.ref a_pa_kept, pa_marked, .int (pa_latest + 1), .int pa_acts, .int pa_marks])), (a_pa_kept, .inl (cy 4, 16, .inr (.inr (.inr (.inr pa_kept)))))] ++ X) a_ks a_ks_strong a_ks_at a_ks_wounds a_no a_no_strong a_no_at a_no_wounds ks_dead ks_wet ks_drawn ks_strong ks_at ks_wounds no_dead no_wet no_drawn no_strong no_at no_wounds ks_dead_10 ks_wet_11 ks_drawn_12 ks_strong_13 ks_at_14 ks_wounds_15 hc_16 hnb_no_wet) gX5_keep_X8_copyOf rfl hd_X8_copyOf ⟨Nat.le_of_ble_eq_true rfl, Nat.le_of_ble_eq_true rfl⟩ rfl rfl hKN (pX3 hP [6, 7, 8, 9, 0, 1, 2, 3, 4, 5] rfl) (dX3 hD [6, 7, 8, 9, 0, 1, 2, 3, 4, 5] rfl rfl) hS hA 8 0 rfl rfl rfl hl.1 rfl (Nat.le_of_ble_eq_true rfl) dX5_keep_35 ⟨Nat.le_of_ble_eq_true rfl, Nat.le_of_ble_eq_true rfl⟩ (fun H locs hP hD hS => ?_)
    have hP := pX4 (L1 := [(a_no, .inr (8, [.ref a_no_strong, .ref a_no_at, .ref a_no_wounds, .int no_dead, .int no_wet, .int no_drawn])), (a_no_strong, .inl (cy 1, 6, .inl no_strong)), (a_no_at, .inl (cy 1, 5, .inl no_at)), (a_no_wounds, .inl (cy 1, 5, .inl no_wounds)), (a_pa, .inr (5, [.ref a_pa_kept, pa_marked, .int (pa_latest + 1), .int pa_acts, .int pa_marks])), (a_pa_kept, .inl (cy 4, 16, .inr (.inr (.inr (.inr pa_kept))))), (a_ks, .inr (8, [.ref a_ks_strong, .ref a_ks_at, .ref a_ks_wounds, .int ks_dead_10, .int ks_wet_11, .int ks_drawn_12])), (a_ks_strong, .inl (cy 1, 6, .inl ks_strong_13)), (a_ks_at, .inl (cy 1, 5, .inl ks_at_14)), (a_ks_wounds, .inl (cy 1, 5, .inl ks_wounds_15))]) hP [4, 5, 6, 7, 8, 9, 0, 1, 2, 3] rfl
    have hD := dX4 (L1 := [(a_no, .inr (8, [.ref a_no_strong, .ref a_no_at, .ref a_no_wounds, .int no_dead, .int no_wet, .int no_drawn])), (a_no_strong, .inl (cy 1, 6, .inl no_strong)), (a_no_at, .inl (cy 1, 5, .inl no_at)), (a_no_wounds, .inl (cy 1, 5, .inl no_wounds)), (a_pa, .inr (5, [.ref a_pa_kept, pa_marked, .int (pa_latest + 1), .int pa_acts, .int pa_marks])), (a_pa_kept, .inl (cy 4, 16, .inr (.inr (.inr (.inr pa_kept))))), (a_ks, .inr (8, [.ref a_ks_strong, .ref a_ks_at, .ref a_ks_wounds, .int ks_dead_10, .int ks_wet_11, .int ks_drawn_12])), (a_ks_strong, .inl (cy 1, 6, .inl ks_strong_13)), (a_ks_at, .inl (cy 1, 5, .inl ks_at_14)), (a_ks_wounds, .inl (cy 1, 5, .inl ks_wounds_15))]) hD [4, 5, 6, 7, 8, 9, 0, 1, 2, 3] rfl rfl
    refine lv_aload_n hx hb dX5_keep_38 rfl (lv_at hl 0 rfl) ?_
    refine lv_bipush (v := 16) hx hb dX5_keep_39 (by decide) ?_
    refine lv_aload_n hx hb dX5_keep_41 rfl (lv_at hl 0 rfl) ?_
    refine va_get (D := D) (ci := 5) (C := RX5) (T := TX5) (N := 5) (v := .int pa_acts) hx hb hX5 (fun _ q => q) hown hK hP 4 rfl rfl 3 (by decide) (hts (.fieldLink RX5 21 "ElephantLine$Past" "acts" "I") (by decide +kernel)) (fun _ h9 => h9) rfl dX5_keep_42 ?_
    refine lv_iconst (v := 1) hx hb dX5_keep_45 (by decide) ?_
    refine lv_iadd hx hb dX5_keep_46 ?_
    refine va_mmin hx hb (hml.trans hl.1.symm) hown (hts (.methodLink RX5 35 Lib.Math.min.name) (by decide +kernel)) (hts (.static Lib.Math.min.name) (by decide +kernel)) (hts (.initialized "java/lang/Math") (by decide +kernel)) (hts (.code Lib.Math.min.name Lib.Math.min.code 2 (some .int)) (by decide +kernel)) (Nat.le_of_ble_eq_true rfl) (Nat.le_of_ble_eq_true rfl) (Nat.le_of_ble_eq_true rfl) (Nat.le_of_ble_eq_true rfl) dX5_keep_47 ?_
    refine va_put (D := D) (ci := 5) (C := RX5) (T := TX5) (N := 5) (v := .int (if (pa_acts + 1) < 16 then pa_acts + 1 else 16)) (ty := .int) hx hb hX5 (fun _ q => q) tyX5 tyX5_ok nmX5 hown hK hP hD hS 4 rfl rfl 3 (by decide) (hts (.fieldLink RX5 21 "ElephantLine$Past" "acts" "I") (by decide +kernel)) (fun _ h9 => h9) rfl (tyX5_ok 3 (by decide)) rfl rfl (Nat.le_of_ble_eq_true rfl) dX5_keep_50 (fun H locs hP hD hS => ?_)
    cases h
    exact W.vret hx hb hr (fun t ht _ => ⟨⟨(), rfl, trivial, by rw [ht]; exact hP, hD⟩, hS.F ht⟩) hS.2.2 dX5_keep_53
theorem hd_X5_takeBack : yX5_takeBack.cls = RX5 ∧ yX5_takeBack.cls ≠ "java/lang/invoke/MethodHandle" ∧ yX5_takeBack.cls ≠ "java/lang/invoke/VarHandle" ∧ (parseMethodDescriptor yX5_takeBack.desc).map (fun d => d.parameters.length) = some 1 := by decide +kernel
set_option maxHeartbeats 4000000 in
set_option maxRecDepth 100000 in
theorem c_X5_takeBack (l : Launch) (D : va_G) (cy : Nat → ClassId) (A : Nat → Prop) (X : va_W) (a_no a_no_strong a_no_at a_no_wounds a_pa a_pa_kept a_ks a_ks_strong a_ks_at a_ks_wounds : Nat) (no_dead : Int32) (no_wet : Int32) (no_drawn : Int32) (no_strong : Nat → Int32) (no_at : Nat → Int32) (no_wounds : Nat → Int32) (pa_marked : Value) (pa_latest : Int32) (pa_acts : Int32) (pa_marks : Int32) (pa_kept : Nat → Option Nat) (ks_dead : Int32) (ks_wet : Int32) (ks_drawn : Int32) (ks_strong : Nat → Int32) (ks_at : Nat → Int32) (ks_wounds : Nat → Int32) (res : Int32) (no_dead' : Int32) (no_wet' : Int32) (no_drawn' : Int32) (no_strong' : Nat → Int32) (no_at' : Nat → Int32) (no_wounds' : Nat → Int32) (pa_latest' : Int32) (pa_acts' : Int32) (h : f_X5_takeBack no_dead no_wet no_drawn no_strong no_at no_wounds pa_latest pa_acts pa_kept ks_dead ks_wet ks_drawn ks_strong ks_at ks_wounds = some (res, no_dead', no_wet', no_drawn', no_strong', no_at', no_wounds', pa_latest', pa_acts')) (hnb_ks_wet : nbv ks_wet) (hks : ∀ i : Int32, i = pa_latest → vp_in i 16 → pa_kept i.toNatClampNeg = some a_ks) : Met l yX5_takeBack wo_X5_takeBack ({ frames := 2, cells := 0, slots := 0, locals := 39 }) (wrPc D cy A [.ref a_pa, .ref a_no] ([(a_no, .inr (8, [.ref a_no_strong, .ref a_no_at, .ref a_no_wounds, .int no_dead, .int no_wet, .int no_drawn])), (a_no_strong, .inl (cy 1, 6, .inl no_strong)), (a_no_at, .inl (cy 1, 5, .inl no_at)), (a_no_wounds, .inl (cy 1, 5, .inl no_wounds)), (a_pa, .inr (5, [.ref a_pa_kept, pa_marked, .int pa_latest, .int pa_acts, .int pa_marks])), (a_pa_kept, .inl (cy 4, 16, .inr (.inr (.inr (.inr pa_kept))))), (a_ks, .inr (8, [.ref a_ks_strong, .ref a_ks_at, .ref a_ks_wounds, .int ks_dead, .int ks_wet, .int ks_drawn])), (a_ks_strong, .inl (cy 1, 6, .inl ks_strong)), (a_ks_at, .inl (cy 1, 5, .inl ks_at)), (a_ks_wounds, .inl (cy 1, 5, .inl ks_wounds))] ++ X)) (va_Qi (fun (r : Int32) (_ : Unit) => r = res ∧ nbv r) (wB D A ([(a_no, .inr (8, [.ref a_no_strong, .ref a_no_at, .ref a_no_wounds, .int no_dead', .int no_wet', .int no_drawn'])), (a_no_strong, .inl (cy 1, 6, .inl no_strong')), (a_no_at, .inl (cy 1, 5, .inl no_at')), (a_no_wounds, .inl (cy 1, 5, .inl no_wounds')), (a_pa, .inr (5, [.ref a_pa_kept, pa_marked, .int pa_latest', .int pa_acts', .int pa_marks])), (a_pa_kept, .inl (cy 4, 16, .inr (.inr (.inr (.inr pa_kept))))), (a_ks, .inr (8, [.ref a_ks_strong, .ref a_ks_at, .ref a_ks_wounds, .int ks_dead, .int ks_wet, .int ks_drawn])), (a_ks_strong, .inl (cy 1, 6, .inl ks_strong)), (a_ks_at, .inl (cy 1, 5, .inl ks_at)), (a_ks_wounds, .inl (cy 1, 5, .inl ks_wounds))] ++ X)) A) 0 0 A := by
  refine Met.ofW (cc := cX5_takeBack) (maxL := 2) (ret := (some .boolean)) (by decide) rfl ?_
  intro p e s m args below meth c s₁ B hml hv
  obtain ⟨rfl, hP, hKN, hD, hA⟩ := hv
  have hK := hKN.1
  have hx := B.exec
  have hb := B.bytes
  have hr := B.returns
  have hts := wt_X5_takeBack hKN.2.2 (([.ref a_pa, .ref a_no] : List Value).toArray)
  have hown : s.vm.findClass RX5 = some m.cls := findClass_of_methodNamed B.named
  have hlocks := B.notSynchronized
  have hS : va_S A s.heap s.heap [] := va_S.rf
  have hX5 := wc_X5 hKN.2.2 (([.ref a_pa, .ref a_no] : List Value).toArray)
  have hl := lv_entry ([.ref a_pa, .ref a_no]) (n := 2) (Nat.le_of_ble_eq_true rfl)
  rw [lg_entry_eq]
  generalize (lg_sl ([.ref a_pa, .ref a_no]) ++ List.replicate (2 - (lg_sl ([.ref a_pa, .ref a_no])).length) Slot.unset).toArray = ls at hl ⊢
  have hl : lv_has ls 2 [(0, .ref a_pa), (1, .ref a_no)] := hl
  unfold f_X5_takeBack at h
  refine lv_aload_n hx hb dX5_takeBack_0 rfl (lv_at hl 0 rfl) ?_
  refine va_get (D := D) (ci := 5) (C := RX5) (T := TX5) (N := 5) (v := .int pa_acts) hx hb hX5 (fun _ q => q) hown hK hP 4 rfl rfl 3 (by decide) (hts (.fieldLink RX5 21 "ElephantLine$Past" "acts" "I") (by decide +kernel)) (fun _ h9 => h9) rfl dX5_takeBack_1 ?_
  refine lv_if_ne (tgt := 9) hx hb dX5_takeBack_4 (by decide) (fun cd => ?_) (fun cd => ?_)
  · have h := ifF cd h
    refine lv_aload_n hx hb dX5_takeBack_9 rfl (lv_at hl 1 rfl) ?_
    refine lv_aload_n hx hb dX5_takeBack_10 rfl (lv_at hl 0 rfl) ?_
    refine va_get (D := D) (ci := 5) (C := RX5) (T := TX5) (N := 5) (v := .ref a_pa_kept) hx hb hX5 (fun _ q => q) hown hK hP 4 rfl rfl 0 (by decide) (hts (.fieldLink RX5 11 "ElephantLine$Past" "kept" "[LElephantLine$Stand;") (by decide +kernel)) (fun _ h9 => h9) rfl dX5_takeBack_11 ?_
    refine lv_aload_n hx hb dX5_takeBack_14 rfl (lv_at hl 0 rfl) ?_
    refine va_get (D := D) (ci := 5) (C := RX5) (T := TX5) (N := 5) (v := .int pa_latest) hx hb hX5 (fun _ q => q) hown hK hP 4 rfl rfl 2 (by decide) (hts (.fieldLink RX5 28 "ElephantLine$Past" "latest" "I") (by decide +kernel)) (fun _ h9 => h9) rfl dX5_takeBack_15 ?_
    obtain ⟨i_1, h⟩ := gIn_some h
    refine va_aldq hx hb hK hP 5 4 rfl rfl i_1 dX5_takeBack_18 ?_
    rw [show va_rf (pa_kept pa_latest.toNatClampNeg) = Value.ref a_ks from by rw [hks pa_latest (by first | rfl | exact (if_pos cd).symm | exact (if_neg cd).symm) i_1]; rfl]
    obtain ⟨no_dead_2, no_wet_3, no_drawn_4, no_strong_5, no_at_6, no_wounds_7, hc_8, h⟩ := bd6_some h
    refine wVv [.ref a_ks] [] ⟨hx, hb, hml, hown, hts⟩ (c_X8_copyOf l D cy A ([(a_pa, .inr (5, [.ref a_pa_kept, pa_marked, .int pa_latest, .int pa_acts, .int pa_marks])), (a_pa_kept, .inl (cy 4, 16, .inr (.inr (.inr (.inr pa_kept)))))] ++ X) a_no a_no_strong a_no_at a_no_wounds a_ks a_ks_strong a_ks_at a_ks_wounds no_dead no_wet no_drawn no_strong no_at no_wounds ks_dead ks_wet ks_drawn ks_strong ks_at ks_wounds no_dead_2 no_wet_3 no_drawn_4 no_strong_5 no_at_6 no_wounds_7 hc_8 hnb_ks_wet) gX5_takeBack_X8_copyOf rfl hd_X8_copyOf ⟨Nat.le_of_ble_eq_true rfl, Nat.le_of_ble_eq_true rfl⟩ rfl rfl hKN (pX3 hP [0, 1, 2, 3, 6, 7, 8, 9, 4, 5] rfl) (dX3 hD [0, 1, 2, 3, 6, 7, 8, 9, 4, 5] rfl rfl) hS hA 8 0 rfl rfl rfl hl.1 rfl (Nat.le_of_ble_eq_true rfl) dX5_takeBack_19 ⟨Nat.le_of_ble_eq_true rfl, Nat.le_of_ble_eq_true rfl⟩ (fun H locs hP hD hS => ?_)
    have hP := pX4 (L1 := [(a_no, .inr (8, [.ref a_no_strong, .ref a_no_at, .ref a_no_wounds, .int no_dead_2, .int no_wet_3, .int no_drawn_4])), (a_no_strong, .inl (cy 1, 6, .inl no_strong_5)), (a_no_at, .inl (cy 1, 5, .inl no_at_6)), (a_no_wounds, .inl (cy 1, 5, .inl no_wounds_7)), (a_pa, .inr (5, [.ref a_pa_kept, pa_marked, .int pa_latest, .int pa_acts, .int pa_marks])), (a_pa_kept, .inl (cy 4, 16, .inr (.inr (.inr (.inr pa_kept))))), (a_ks, .inr (8, [.ref a_ks_strong, .ref a_ks_at, .ref a_ks_wounds, .int ks_dead, .int ks_wet, .int ks_drawn])), (a_ks_strong, .inl (cy 1, 6, .inl ks_strong)), (a_ks_at, .inl (cy 1, 5, .inl ks_at)), (a_ks_wounds, .inl (cy 1, 5, .inl ks_wounds))]) hP [0, 1, 2, 3, 8, 9, 4, 5, 6, 7] rfl
    have hD := dX4 (L1 := [(a_no, .inr (8, [.ref a_no_strong, .ref a_no_at, .ref a_no_wounds, .int no_dead_2, .int no_wet_3, .int no_drawn_4])), (a_no_strong, .inl (cy 1, 6, .inl no_strong_5)), (a_no_at, .inl (cy 1, 5, .inl no_at_6)), (a_no_wounds, .inl (cy 1, 5, .inl no_wounds_7)), (a_pa, .inr (5, [.ref a_pa_kept, pa_marked, .int pa_latest, .int pa_acts, .int pa_marks])), (a_pa_kept, .inl (cy 4, 16, .inr (.inr (.inr (.inr pa_kept))))), (a_ks, .inr (8, [.ref a_ks_strong, .ref a_ks_at, .ref a_ks_wounds, .int ks_dead, .int ks_wet, .int ks_drawn])), (a_ks_strong, .inl (cy 1, 6, .inl ks_strong)), (a_ks_at, .inl (cy 1, 5, .inl ks_at)), (a_ks_wounds, .inl (cy 1, 5, .inl ks_wounds))]) hD [0, 1, 2, 3, 8, 9, 4, 5, 6, 7] rfl rfl
    refine lv_aload_n hx hb dX5_takeBack_22 rfl (lv_at hl 0 rfl) ?_
    refine lv_aload_n hx hb dX5_takeBack_23 rfl (lv_at hl 0 rfl) ?_
    refine va_get (D := D) (ci := 5) (C := RX5) (T := TX5) (N := 5) (v := .int pa_latest) hx hb hX5 (fun _ q => q) hown hK hP 4 rfl rfl 2 (by decide) (hts (.fieldLink RX5 28 "ElephantLine$Past" "latest" "I") (by decide +kernel)) (fun _ h9 => h9) rfl dX5_takeBack_24 ?_
    have jn41 : ∀ (t1_9 : Int32), f_X5_takeBack_B41 pa_kept ks_dead ks_wet ks_drawn ks_strong ks_at ks_wounds t1_9 no_dead_2 no_wet_3 no_drawn_4 no_strong_5 no_at_6 no_wounds_7 pa_latest pa_acts = some (res, no_dead', no_wet', no_drawn', no_strong', no_at', no_wounds', pa_latest', pa_acts') → ∀ (H : Heap) (locs : List Loc), va_P D vwCl ([(a_no, .inr (8, [.ref a_no_strong, .ref a_no_at, .ref a_no_wounds, .int no_dead_2, .int no_wet_3, .int no_drawn_4])), (a_no_strong, .inl (cy 1, 6, .inl no_strong_5)), (a_no_at, .inl (cy 1, 5, .inl no_at_6)), (a_no_wounds, .inl (cy 1, 5, .inl no_wounds_7)), (a_pa, .inr (5, [.ref a_pa_kept, pa_marked, .int pa_latest, .int pa_acts, .int pa_marks])), (a_pa_kept, .inl (cy 4, 16, .inr (.inr (.inr (.inr pa_kept))))), (a_ks, .inr (8, [.ref a_ks_strong, .ref a_ks_at, .ref a_ks_wounds, .int ks_dead, .int ks_wet, .int ks_drawn])), (a_ks_strong, .inl (cy 1, 6, .inl ks_strong)), (a_ks_at, .inl (cy 1, 5, .inl ks_at)), (a_ks_wounds, .inl (cy 1, 5, .inl ks_wounds))] ++ X) H → va_D A ([(a_no, .inr (8, [.ref a_no_strong, .ref a_no_at, .ref a_no_wounds, .int no_dead_2, .int no_wet_3, .int no_drawn_4])), (a_no_strong, .inl (cy 1, 6, .inl no_strong_5)), (a_no_at, .inl (cy 1, 5, .inl no_at_6)), (a_no_wounds, .inl (cy 1, 5, .inl no_wounds_7)), (a_pa, .inr (5, [.ref a_pa_kept, pa_marked, .int pa_latest, .int pa_acts, .int pa_marks])), (a_pa_kept, .inl (cy 4, 16, .inr (.inr (.inr (.inr pa_kept))))), (a_ks, .inr (8, [.ref a_ks_strong, .ref a_ks_at, .ref a_ks_wounds, .int ks_dead, .int ks_wet, .int ks_drawn])), (a_ks_strong, .inl (cy 1, 6, .inl ks_strong)), (a_ks_at, .inl (cy 1, 5, .inl ks_at)), (a_ks_wounds, .inl (cy 1, 5, .inl ks_wounds))] ++ X) → va_S A s.heap H locs → ∀ ls : Array Slot, lv_has ls 2 [(0, .ref a_pa)] → W p l e (headSpec wo_X5_takeBack ({ frames := 2, cells := 0, slots := 0, locals := 39 })).room s m (([.ref a_pa, .ref a_no] : List Value).toArray) below meth c H locs 0 0 (MQ below (va_Qi (fun (r : Int32) (_ : Unit) => r = res ∧ nbv r) (wB D A ([(a_no, .inr (8, [.ref a_no_strong, .ref a_no_at, .ref a_no_wounds, .int no_dead', .int no_wet', .int no_drawn'])), (a_no_strong, .inl (cy 1, 6, .inl no_strong')), (a_no_at, .inl (cy 1, 5, .inl no_at')), (a_no_wounds, .inl (cy 1, 5, .inl no_wounds')), (a_pa, .inr (5, [.ref a_pa_kept, pa_marked, .int pa_latest', .int pa_acts', .int pa_marks])), (a_pa_kept, .inl (cy 4, 16, .inr (.inr (.inr (.inr pa_kept))))), (a_ks, .inr (8, [.ref a_ks_strong, .ref a_ks_at, .ref a_ks_wounds, .int ks_dead, .int ks_wet, .int ks_drawn])), (a_ks_strong, .inl (cy 1, 6, .inl ks_strong)), (a_ks_at, .inl (cy 1, 5, .inl ks_at)), (a_ks_wounds, .inl (cy 1, 5, .inl ks_wounds))] ++ X)) A) (([.ref a_pa, .ref a_no] : List Value).toArray) s 0 0 A) (F0 m 41 ls [.int t1_9, .ref a_pa]) := by
      intro t1_9 h H locs hP hD hS ls hl
      unfold f_X5_takeBack_B41 at h
      refine va_put (D := D) (ci := 5) (C := RX5) (T := TX5) (N := 5) (v := .int t1_9) (ty := .int) hx hb hX5 (fun _ q => q) tyX5 tyX5_ok nmX5 hown hK hP hD hS 4 rfl rfl 2 (by decide) (hts (.fieldLink RX5 28 "ElephantLine$Past" "latest" "I") (by decide +kernel)) (fun _ h9 => h9) rfl (tyX5_ok 2 (by decide)) rfl rfl (Nat.le_of_ble_eq_true rfl) dX5_takeBack_41 (fun H locs hP hD hS => ?_)
      refine lv_aload_n hx hb dX5_takeBack_44 rfl (lv_at hl 0 rfl) ?_
      refine lv_dup hx hb dX5_takeBack_45 rfl ?_
      refine va_get (D := D) (ci := 5) (C := RX5) (T := TX5) (N := 5) (v := .int pa_acts) hx hb hX5 (fun _ q => q) hown hK hP 4 rfl rfl 3 (by decide) (hts (.fieldLink RX5 21 "ElephantLine$Past" "acts" "I") (by decide +kernel)) (fun _ h9 => h9) rfl dX5_takeBack_46 ?_
      refine lv_iconst (v := 1) hx hb dX5_takeBack_49 (by decide) ?_
      refine lv_isub hx hb dX5_takeBack_50 ?_
      refine va_put (D := D) (ci := 5) (C := RX5) (T := TX5) (N := 5) (v := .int (pa_acts - 1)) (ty := .int) hx hb hX5 (fun _ q => q) tyX5 tyX5_ok nmX5 hown hK hP hD hS 4 rfl rfl 3 (by decide) (hts (.fieldLink RX5 21 "ElephantLine$Past" "acts" "I") (by decide +kernel)) (fun _ h9 => h9) rfl (tyX5_ok 3 (by decide)) rfl rfl (Nat.le_of_ble_eq_true rfl) dX5_takeBack_51 (fun H locs hP hD hS => ?_)
      refine lv_iconst (v := 1) hx hb dX5_takeBack_54 (by decide) ?_
      cases h
      exact W.zret (ty := .boolean) hx hb hr (nbv.n nbv_1) (fun t ht _ => ⟨⟨_, (), rfl, ⟨rfl, nbv_1⟩, by rw [ht]; exact hP, hD⟩, hS.F ht⟩) hS.2.2 dX5_takeBack_55
    refine lv_if_le (tgt := 39) hx hb dX5_takeBack_27 (by decide) (fun cd => ?_) (fun cd => ?_)
    · have h := ifT cd h
      refine lv_bipush (v := 15) hx hb dX5_takeBack_39 (by decide) ?_
      exact jn41 (15 : Int32) h _ _ hP hD hS _ (lv_sub hl [0] rfl)
    · have h := ifF cd h
      refine lv_aload_n hx hb dX5_takeBack_30 rfl (lv_at hl 0 rfl) ?_
      refine va_get (D := D) (ci := 5) (C := RX5) (T := TX5) (N := 5) (v := .int pa_latest) hx hb hX5 (fun _ q => q) hown hK hP 4 rfl rfl 2 (by decide) (hts (.fieldLink RX5 28 "ElephantLine$Past" "latest" "I") (by decide +kernel)) (fun _ h9 => h9) rfl dX5_takeBack_31 ?_
      refine lv_iconst (v := 1) hx hb dX5_takeBack_34 (by decide) ?_
      refine lv_isub hx hb dX5_takeBack_35 ?_
      refine lv_goto (tgt := 41) hx hb dX5_takeBack_36 (by decide) ?_
      exact jn41 (pa_latest - 1) h _ _ hP hD hS _ (lv_sub hl [0] rfl)
  · have h := ifT cd h
    refine lv_iconst (v := 0) hx hb dX5_takeBack_7 (by decide) ?_
    cases h
    exact W.zret (ty := .boolean) hx hb hr (nbv.n nbv_0) (fun t ht _ => ⟨⟨_, (), rfl, ⟨rfl, nbv_0⟩, by rw [ht]; exact hP, hD⟩, hS.F ht⟩) hS.2.2 dX5_takeBack_8
theorem hd_X5_addMark : yX5_addMark.cls = RX5 ∧ yX5_addMark.cls ≠ "java/lang/invoke/MethodHandle" ∧ yX5_addMark.cls ≠ "java/lang/invoke/VarHandle" ∧ (parseMethodDescriptor yX5_addMark.desc).map (fun d => d.parameters.length) = some 1 := by decide +kernel
set_option maxHeartbeats 4000000 in
set_option maxRecDepth 100000 in
theorem c_X5_addMark (l : Launch) (D : va_G) (cy : Nat → ClassId) (A : Nat → Prop) (X : va_W) (a_no a_no_strong a_no_at a_no_wounds a_pa a_pa_marked a_mk a_mk_strong a_mk_at a_mk_wounds : Nat) (no_dead : Int32) (no_wet : Int32) (no_drawn : Int32) (no_strong : Nat → Int32) (no_at : Nat → Int32) (no_wounds : Nat → Int32) (pa_kept : Value) (pa_latest : Int32) (pa_acts : Int32) (pa_marks : Int32) (pa_marked : Nat → Option Nat) (mk_dead : Int32) (mk_wet : Int32) (mk_drawn : Int32) (mk_strong : Nat → Int32) (mk_at : Nat → Int32) (mk_wounds : Nat → Int32) (res : Int32) (pa_marks' : Int32) (mk_dead' : Int32) (mk_wet' : Int32) (mk_drawn' : Int32) (mk_strong' : Nat → Int32) (mk_at' : Nat → Int32) (mk_wounds' : Nat → Int32) (h : f_X5_addMark no_dead no_wet no_drawn no_strong no_at no_wounds pa_marks pa_marked mk_dead mk_wet mk_drawn mk_strong mk_at mk_wounds = some (res, pa_marks', mk_dead', mk_wet', mk_drawn', mk_strong', mk_at', mk_wounds')) (hnb_no_wet : nbv no_wet) (hmk : ∀ i : Int32, i = pa_marks → vp_in i 3 → pa_marked i.toNatClampNeg = some a_mk) : Met l yX5_addMark wo_X5_addMark ({ frames := 2, cells := 0, slots := 0, locals := 39 }) (wrPc D cy A [.ref a_pa, .ref a_no] ([(a_no, .inr (8, [.ref a_no_strong, .ref a_no_at, .ref a_no_wounds, .int no_dead, .int no_wet, .int no_drawn])), (a_no_strong, .inl (cy 1, 6, .inl no_strong)), (a_no_at, .inl (cy 1, 5, .inl no_at)), (a_no_wounds, .inl (cy 1, 5, .inl no_wounds)), (a_pa, .inr (5, [pa_kept, .ref a_pa_marked, .int pa_latest, .int pa_acts, .int pa_marks])), (a_pa_marked, .inl (cy 4, 3, .inr (.inr (.inr (.inr pa_marked))))), (a_mk, .inr (8, [.ref a_mk_strong, .ref a_mk_at, .ref a_mk_wounds, .int mk_dead, .int mk_wet, .int mk_drawn])), (a_mk_strong, .inl (cy 1, 6, .inl mk_strong)), (a_mk_at, .inl (cy 1, 5, .inl mk_at)), (a_mk_wounds, .inl (cy 1, 5, .inl mk_wounds))] ++ X)) (va_Qi (fun (r : Int32) (_ : Unit) => r = res) (wB D A ([(a_no, .inr (8, [.ref a_no_strong, .ref a_no_at, .ref a_no_wounds, .int no_dead, .int no_wet, .int no_drawn])), (a_no_strong, .inl (cy 1, 6, .inl no_strong)), (a_no_at, .inl (cy 1, 5, .inl no_at)), (a_no_wounds, .inl (cy 1, 5, .inl no_wounds)), (a_pa, .inr (5, [pa_kept, .ref a_pa_marked, .int pa_latest, .int pa_acts, .int pa_marks'])), (a_pa_marked, .inl (cy 4, 3, .inr (.inr (.inr (.inr pa_marked))))), (a_mk, .inr (8, [.ref a_mk_strong, .ref a_mk_at, .ref a_mk_wounds, .int mk_dead', .int mk_wet', .int mk_drawn'])), (a_mk_strong, .inl (cy 1, 6, .inl mk_strong')), (a_mk_at, .inl (cy 1, 5, .inl mk_at')), (a_mk_wounds, .inl (cy 1, 5, .inl mk_wounds'))] ++ X)) A) 0 0 A := by
  refine Met.ofW (cc := cX5_addMark) (maxL := 2) (ret := (some .int)) (by decide) rfl ?_
  intro p e s m args below meth c s₁ B hml hv
  obtain ⟨rfl, hP, hKN, hD, hA⟩ := hv
  have hK := hKN.1
  have hx := B.exec
  have hb := B.bytes
  have hr := B.returns
  have hts := wt_X5_addMark hKN.2.2 (([.ref a_pa, .ref a_no] : List Value).toArray)
  have hown : s.vm.findClass RX5 = some m.cls := findClass_of_methodNamed B.named
  have hlocks := B.notSynchronized
  have hS : va_S A s.heap s.heap [] := va_S.rf
  have hX5 := wc_X5 hKN.2.2 (([.ref a_pa, .ref a_no] : List Value).toArray)
  have hl := lv_entry ([.ref a_pa, .ref a_no]) (n := 2) (Nat.le_of_ble_eq_true rfl)
  rw [lg_entry_eq]
  generalize (lg_sl ([.ref a_pa, .ref a_no]) ++ List.replicate (2 - (lg_sl ([.ref a_pa, .ref a_no])).length) Slot.unset).toArray = ls at hl ⊢
  have hl : lv_has ls 2 [(0, .ref a_pa), (1, .ref a_no)] := hl
  unfold f_X5_addMark at h
  refine lv_aload_n hx hb dX5_addMark_0 rfl (lv_at hl 0 rfl) ?_
  refine va_get (D := D) (ci := 5) (C := RX5) (T := TX5) (N := 5) (v := .int pa_marks) hx hb hX5 (fun _ q => q) hown hK hP 4 rfl rfl 4 (by decide) (hts (.fieldLink RX5 25 "ElephantLine$Past" "marks" "I") (by decide +kernel)) (fun _ h9 => h9) rfl dX5_addMark_1 ?_
  refine lv_iconst (v := 3) hx hb dX5_addMark_4 (by decide) ?_
  refine lv_icmp_lt (tgt := 10) hx hb dX5_addMark_5 (by decide) (fun cd => ?_) (fun cd => ?_)
  · have h := ifT cd h
    refine lv_aload_n hx hb dX5_addMark_10 rfl (lv_at hl 0 rfl) ?_
    refine va_get (D := D) (ci := 5) (C := RX5) (T := TX5) (N := 5) (v := .ref a_pa_marked) hx hb hX5 (fun _ q => q) hown hK hP 4 rfl rfl 1 (by decide) (hts (.fieldLink RX5 17 "ElephantLine$Past" "marked" "[LElephantLine$Stand;") (by decide +kernel)) (fun _ h9 => h9) rfl dX5_addMark_11 ?_
    refine lv_aload_n hx hb dX5_addMark_14 rfl (lv_at hl 0 rfl) ?_
    refine va_get (D := D) (ci := 5) (C := RX5) (T := TX5) (N := 5) (v := .int pa_marks) hx hb hX5 (fun _ q => q) hown hK hP 4 rfl rfl 4 (by decide) (hts (.fieldLink RX5 25 "ElephantLine$Past" "marks" "I") (by decide +kernel)) (fun _ h9 => h9) rfl dX5_addMark_15 ?_
    obtain ⟨i_1, h⟩ := gIn_some h
    refine va_aldq hx hb hK hP 5 4 rfl rfl i_1 dX5_addMark_18 ?_
    rw [show va_rf (pa_marked pa_marks.toNatClampNeg) = Value.ref a_mk from by rw [hmk pa_marks (by first | rfl | exact (if_pos cd).symm | exact (if_neg cd).symm) i_1]; rfl]
    refine lv_aload_n hx hb dX5_addMark_19 rfl (lv_at hl 1 rfl) ?_
    obtain ⟨mk_dead_2, mk_wet_3, mk_drawn_4, mk_strong_5, mk_at_6, mk_wounds_7, hc_8, h⟩ := bd6_some h
    refine wVv [.ref a_no] [] ⟨hx, hb, hml, hown, hts⟩ (c_X8_copyOf l D cy A ([(a_pa, .inr (5, [pa_kept, .ref a_pa_marked, .int pa_latest, .int pa_acts, .int pa_marks])), (a_pa_marked, .inl (cy 4, 3, .inr (.inr (.inr (.inr pa_marked)))))] ++ X) a_mk a_mk_strong a_mk_at a_mk_wounds a_no a_no_strong a_no_at a_no_wounds mk_dead mk_wet mk_drawn mk_strong mk_at mk_wounds no_dead no_wet no_drawn no_strong no_at no_wounds mk_dead_2 mk_wet_3 mk_drawn_4 mk_strong_5 mk_at_6 mk_wounds_7 hc_8 hnb_no_wet) gX5_addMark_X8_copyOf rfl hd_X8_copyOf ⟨Nat.le_of_ble_eq_true rfl, Nat.le_of_ble_eq_true rfl⟩ rfl rfl hKN (pX3 hP [6, 7, 8, 9, 0, 1, 2, 3, 4, 5] rfl) (dX3 hD [6, 7, 8, 9, 0, 1, 2, 3, 4, 5] rfl rfl) hS hA 8 0 rfl rfl rfl hl.1 rfl (Nat.le_of_ble_eq_true rfl) dX5_addMark_20 ⟨Nat.le_of_ble_eq_true rfl, Nat.le_of_ble_eq_true rfl⟩ (fun H locs hP hD hS => ?_)
    have hP := pX4 (L1 := [(a_no, .inr (8, [.ref a_no_strong, .ref a_no_at, .ref a_no_wounds, .int no_dead, .int no_wet, .int no_drawn])), (a_no_strong, .inl (cy 1, 6, .inl no_strong)), (a_no_at, .inl (cy 1, 5, .inl no_at)), (a_no_wounds, .inl (cy 1, 5, .inl no_wounds)), (a_pa, .inr (5, [pa_kept, .ref a_pa_marked, .int pa_latest, .int pa_acts, .int pa_marks])), (a_pa_marked, .inl (cy 4, 3, .inr (.inr (.inr (.inr pa_marked))))), (a_mk, .inr (8, [.ref a_mk_strong, .ref a_mk_at, .ref a_mk_wounds, .int mk_dead_2, .int mk_wet_3, .int mk_drawn_4])), (a_mk_strong, .inl (cy 1, 6, .inl mk_strong_5)), (a_mk_at, .inl (cy 1, 5, .inl mk_at_6)), (a_mk_wounds, .inl (cy 1, 5, .inl mk_wounds_7))]) hP [4, 5, 6, 7, 8, 9, 0, 1, 2, 3] rfl
    have hD := dX4 (L1 := [(a_no, .inr (8, [.ref a_no_strong, .ref a_no_at, .ref a_no_wounds, .int no_dead, .int no_wet, .int no_drawn])), (a_no_strong, .inl (cy 1, 6, .inl no_strong)), (a_no_at, .inl (cy 1, 5, .inl no_at)), (a_no_wounds, .inl (cy 1, 5, .inl no_wounds)), (a_pa, .inr (5, [pa_kept, .ref a_pa_marked, .int pa_latest, .int pa_acts, .int pa_marks])), (a_pa_marked, .inl (cy 4, 3, .inr (.inr (.inr (.inr pa_marked))))), (a_mk, .inr (8, [.ref a_mk_strong, .ref a_mk_at, .ref a_mk_wounds, .int mk_dead_2, .int mk_wet_3, .int mk_drawn_4])), (a_mk_strong, .inl (cy 1, 6, .inl mk_strong_5)), (a_mk_at, .inl (cy 1, 5, .inl mk_at_6)), (a_mk_wounds, .inl (cy 1, 5, .inl mk_wounds_7))]) hD [4, 5, 6, 7, 8, 9, 0, 1, 2, 3] rfl rfl
    refine lv_aload_n hx hb dX5_addMark_23 rfl (lv_at hl 0 rfl) ?_
    refine lv_dup hx hb dX5_addMark_24 rfl ?_
    refine va_get (D := D) (ci := 5) (C := RX5) (T := TX5) (N := 5) (v := .int pa_marks) hx hb hX5 (fun _ q => q) hown hK hP 4 rfl rfl 4 (by decide) (hts (.fieldLink RX5 25 "ElephantLine$Past" "marks" "I") (by decide +kernel)) (fun _ h9 => h9) rfl dX5_addMark_25 ?_
    refine lv_iconst (v := 1) hx hb dX5_addMark_28 (by decide) ?_
    refine lv_iadd hx hb dX5_addMark_29 ?_
    refine va_put (D := D) (ci := 5) (C := RX5) (T := TX5) (N := 5) (v := .int (pa_marks + 1)) (ty := .int) hx hb hX5 (fun _ q => q) tyX5 tyX5_ok nmX5 hown hK hP hD hS 4 rfl rfl 4 (by decide) (hts (.fieldLink RX5 25 "ElephantLine$Past" "marks" "I") (by decide +kernel)) (fun _ h9 => h9) rfl (tyX5_ok 4 (by decide)) rfl rfl (Nat.le_of_ble_eq_true rfl) dX5_addMark_30 (fun H locs hP hD hS => ?_)
    refine lv_aload_n hx hb dX5_addMark_33 rfl (lv_at hl 0 rfl) ?_
    refine va_get (D := D) (ci := 5) (C := RX5) (T := TX5) (N := 5) (v := .int (pa_marks + 1)) hx hb hX5 (fun _ q => q) hown hK hP 4 rfl rfl 4 (by decide) (hts (.fieldLink RX5 25 "ElephantLine$Past" "marks" "I") (by decide +kernel)) (fun _ h9 => h9) rfl dX5_addMark_34 ?_
    refine lv_iconst (v := 1) hx hb dX5_addMark_37 (by decide) ?_
    refine lv_isub hx hb dX5_addMark_38 ?_
    cases h
    exact W.iret hx hb hr (fun t ht _ => ⟨⟨_, (), rfl, rfl, by rw [ht]; exact hP, hD⟩, hS.F ht⟩) hS.2.2 dX5_addMark_39
  · have h := ifF cd h
    refine lv_iconst (v := (-1)) hx hb dX5_addMark_8 (by decide) ?_
    cases h
    exact W.iret hx hb hr (fun t ht _ => ⟨⟨_, (), rfl, rfl, by rw [ht]; exact hP, hD⟩, hS.F ht⟩) hS.2.2 dX5_addMark_9
theorem hd_X5_goBack : yX5_goBack.cls = RX5 ∧ yX5_goBack.cls ≠ "java/lang/invoke/MethodHandle" ∧ yX5_goBack.cls ≠ "java/lang/invoke/VarHandle" ∧ (parseMethodDescriptor yX5_goBack.desc).map (fun d => d.parameters.length) = some 2 := by decide +kernel
set_option maxHeartbeats 4000000 in
set_option maxRecDepth 100000 in
theorem c_X5_goBack (l : Launch) (D : va_G) (cy : Nat → ClassId) (A : Nat → Prop) (X : va_W) (a_no a_no_strong a_no_at a_no_wounds a_pa a_pa_marked a_mk a_mk_strong a_mk_at a_mk_wounds : Nat) (no_dead : Int32) (no_wet : Int32) (no_drawn : Int32) (no_strong : Nat → Int32) (no_at : Nat → Int32) (no_wounds : Nat → Int32) (pa_kept : Value) (pa_latest : Int32) (pa_acts : Int32) (pa_marks : Int32) (pa_marked : Nat → Option Nat) (mk_dead : Int32) (mk_wet : Int32) (mk_drawn : Int32) (mk_strong : Nat → Int32) (mk_at : Nat → Int32) (mk_wounds : Nat → Int32) (p1 : Int32) (res : Int32) (no_dead' : Int32) (no_wet' : Int32) (no_drawn' : Int32) (no_strong' : Nat → Int32) (no_at' : Nat → Int32) (no_wounds' : Nat → Int32) (pa_acts' : Int32) (h : f_X5_goBack no_dead no_wet no_drawn no_strong no_at no_wounds pa_acts pa_marks pa_marked mk_dead mk_wet mk_drawn mk_strong mk_at mk_wounds p1 = some (res, no_dead', no_wet', no_drawn', no_strong', no_at', no_wounds', pa_acts')) (hnb_mk_wet : nbv mk_wet) (hmk : ∀ i : Int32, i = p1 → vp_in i 3 → pa_marked i.toNatClampNeg = some a_mk) : Met l yX5_goBack wo_X5_goBack ({ frames := 2, cells := 0, slots := 0, locals := 39 }) (wrPc D cy A [.ref a_pa, .int p1, .ref a_no] ([(a_no, .inr (8, [.ref a_no_strong, .ref a_no_at, .ref a_no_wounds, .int no_dead, .int no_wet, .int no_drawn])), (a_no_strong, .inl (cy 1, 6, .inl no_strong)), (a_no_at, .inl (cy 1, 5, .inl no_at)), (a_no_wounds, .inl (cy 1, 5, .inl no_wounds)), (a_pa, .inr (5, [pa_kept, .ref a_pa_marked, .int pa_latest, .int pa_acts, .int pa_marks])), (a_pa_marked, .inl (cy 4, 3, .inr (.inr (.inr (.inr pa_marked))))), (a_mk, .inr (8, [.ref a_mk_strong, .ref a_mk_at, .ref a_mk_wounds, .int mk_dead, .int mk_wet, .int mk_drawn])), (a_mk_strong, .inl (cy 1, 6, .inl mk_strong)), (a_mk_at, .inl (cy 1, 5, .inl mk_at)), (a_mk_wounds, .inl (cy 1, 5, .inl mk_wounds))] ++ X)) (va_Qi (fun (r : Int32) (_ : Unit) => r = res ∧ nbv r) (wB D A ([(a_no, .inr (8, [.ref a_no_strong, .ref a_no_at, .ref a_no_wounds, .int no_dead', .int no_wet', .int no_drawn'])), (a_no_strong, .inl (cy 1, 6, .inl no_strong')), (a_no_at, .inl (cy 1, 5, .inl no_at')), (a_no_wounds, .inl (cy 1, 5, .inl no_wounds')), (a_pa, .inr (5, [pa_kept, .ref a_pa_marked, .int pa_latest, .int pa_acts', .int pa_marks])), (a_pa_marked, .inl (cy 4, 3, .inr (.inr (.inr (.inr pa_marked))))), (a_mk, .inr (8, [.ref a_mk_strong, .ref a_mk_at, .ref a_mk_wounds, .int mk_dead, .int mk_wet, .int mk_drawn])), (a_mk_strong, .inl (cy 1, 6, .inl mk_strong)), (a_mk_at, .inl (cy 1, 5, .inl mk_at)), (a_mk_wounds, .inl (cy 1, 5, .inl mk_wounds))] ++ X)) A) 0 0 A := by
  refine Met.ofW (cc := cX5_goBack) (maxL := 3) (ret := (some .boolean)) (by decide) rfl ?_
  intro p e s m args below meth c s₁ B hml hv
  obtain ⟨rfl, hP, hKN, hD, hA⟩ := hv
  have hK := hKN.1
  have hx := B.exec
  have hb := B.bytes
  have hr := B.returns
  have hts := wt_X5_goBack hKN.2.2 (([.ref a_pa, .int p1, .ref a_no] : List Value).toArray)
  have hown : s.vm.findClass RX5 = some m.cls := findClass_of_methodNamed B.named
  have hlocks := B.notSynchronized
  have hS : va_S A s.heap s.heap [] := va_S.rf
  have hX5 := wc_X5 hKN.2.2 (([.ref a_pa, .int p1, .ref a_no] : List Value).toArray)
  have hl := lv_entry ([.ref a_pa, .int p1, .ref a_no]) (n := 3) (Nat.le_of_ble_eq_true rfl)
  rw [lg_entry_eq]
  generalize (lg_sl ([.ref a_pa, .int p1, .ref a_no]) ++ List.replicate (3 - (lg_sl ([.ref a_pa, .int p1, .ref a_no])).length) Slot.unset).toArray = ls at hl ⊢
  have hl : lv_has ls 3 [(0, .ref a_pa), (1, .int p1), (2, .ref a_no)] := hl
  unfold f_X5_goBack at h
  refine lv_iload_n hx hb dX5_goBack_0 rfl (lv_at hl 1 rfl) ?_
  refine lv_if_lt (tgt := 17) hx hb dX5_goBack_1 (by decide) (fun cd => ?_) (fun cd => ?_)
  · have h := ifT cd h
    refine lv_iconst (v := 0) hx hb dX5_goBack_17 (by decide) ?_
    cases h
    exact W.zret (ty := .boolean) hx hb hr (nbv.n nbv_0) (fun t ht _ => ⟨⟨_, (), rfl, ⟨rfl, nbv_0⟩, by rw [ht]; exact hP, hD⟩, hS.F ht⟩) hS.2.2 dX5_goBack_18
  · have h := ifF cd h
    refine lv_iload_n hx hb dX5_goBack_4 rfl (lv_at hl 1 rfl) ?_
    refine lv_aload_n hx hb dX5_goBack_5 rfl (lv_at hl 0 rfl) ?_
    refine va_get (D := D) (ci := 5) (C := RX5) (T := TX5) (N := 5) (v := .int pa_marks) hx hb hX5 (fun _ q => q) hown hK hP 4 rfl rfl 4 (by decide) (hts (.fieldLink RX5 25 "ElephantLine$Past" "marks" "I") (by decide +kernel)) (fun _ h9 => h9) rfl dX5_goBack_6 ?_
    refine lv_icmp_ge (tgt := 17) hx hb dX5_goBack_9 (by decide) (fun cd => ?_) (fun cd => ?_)
    · have h := ifT cd h
      refine lv_iconst (v := 0) hx hb dX5_goBack_17 (by decide) ?_
      cases h
      exact W.zret (ty := .boolean) hx hb hr (nbv.n nbv_0) (fun t ht _ => ⟨⟨_, (), rfl, ⟨rfl, nbv_0⟩, by rw [ht]; exact hP, hD⟩, hS.F ht⟩) hS.2.2 dX5_goBack_18
    · have h := ifF cd h
      refine lv_iload_n hx hb dX5_goBack_12 rfl (lv_at hl 1 rfl) ?_
      refine lv_iconst (v := 3) hx hb dX5_goBack_13 (by decide) ?_
      refine lv_icmp_lt (tgt := 19) hx hb dX5_goBack_14 (by decide) (fun cd => ?_) (fun cd => ?_)
      · have h := ifT cd h
        refine lv_aload_n hx hb dX5_goBack_19 rfl (lv_at hl 2 rfl) ?_
        refine lv_aload_n hx hb dX5_goBack_20 rfl (lv_at hl 0 rfl) ?_
        refine va_get (D := D) (ci := 5) (C := RX5) (T := TX5) (N := 5) (v := .ref a_pa_marked) hx hb hX5 (fun _ q => q) hown hK hP 4 rfl rfl 1 (by decide) (hts (.fieldLink RX5 17 "ElephantLine$Past" "marked" "[LElephantLine$Stand;") (by decide +kernel)) (fun _ h9 => h9) rfl dX5_goBack_21 ?_
        refine lv_iload_n hx hb dX5_goBack_24 rfl (lv_at hl 1 rfl) ?_
        obtain ⟨i_1, h⟩ := gIn_some h
        refine va_aldq hx hb hK hP 5 4 rfl rfl i_1 dX5_goBack_25 ?_
        rw [show va_rf (pa_marked p1.toNatClampNeg) = Value.ref a_mk from by rw [hmk p1 (by first | rfl | exact (if_pos cd).symm | exact (if_neg cd).symm) i_1]; rfl]
        obtain ⟨no_dead_2, no_wet_3, no_drawn_4, no_strong_5, no_at_6, no_wounds_7, hc_8, h⟩ := bd6_some h
        refine wVv [.ref a_mk] [] ⟨hx, hb, hml, hown, hts⟩ (c_X8_copyOf l D cy A ([(a_pa, .inr (5, [pa_kept, .ref a_pa_marked, .int pa_latest, .int pa_acts, .int pa_marks])), (a_pa_marked, .inl (cy 4, 3, .inr (.inr (.inr (.inr pa_marked)))))] ++ X) a_no a_no_strong a_no_at a_no_wounds a_mk a_mk_strong a_mk_at a_mk_wounds no_dead no_wet no_drawn no_strong no_at no_wounds mk_dead mk_wet mk_drawn mk_strong mk_at mk_wounds no_dead_2 no_wet_3 no_drawn_4 no_strong_5 no_at_6 no_wounds_7 hc_8 hnb_mk_wet) gX5_goBack_X8_copyOf rfl hd_X8_copyOf ⟨Nat.le_of_ble_eq_true rfl, Nat.le_of_ble_eq_true rfl⟩ rfl rfl hKN (pX3 hP [0, 1, 2, 3, 6, 7, 8, 9, 4, 5] rfl) (dX3 hD [0, 1, 2, 3, 6, 7, 8, 9, 4, 5] rfl rfl) hS hA 8 0 rfl rfl rfl hl.1 rfl (Nat.le_of_ble_eq_true rfl) dX5_goBack_26 ⟨Nat.le_of_ble_eq_true rfl, Nat.le_of_ble_eq_true rfl⟩ (fun H locs hP hD hS => ?_)
        have hP := pX4 (L1 := [(a_no, .inr (8, [.ref a_no_strong, .ref a_no_at, .ref a_no_wounds, .int no_dead_2, .int no_wet_3, .int no_drawn_4])), (a_no_strong, .inl (cy 1, 6, .inl no_strong_5)), (a_no_at, .inl (cy 1, 5, .inl no_at_6)), (a_no_wounds, .inl (cy 1, 5, .inl no_wounds_7)), (a_pa, .inr (5, [pa_kept, .ref a_pa_marked, .int pa_latest, .int pa_acts, .int pa_marks])), (a_pa_marked, .inl (cy 4, 3, .inr (.inr (.inr (.inr pa_marked))))), (a_mk, .inr (8, [.ref a_mk_strong, .ref a_mk_at, .ref a_mk_wounds, .int mk_dead, .int mk_wet, .int mk_drawn])), (a_mk_strong, .inl (cy 1, 6, .inl mk_strong)), (a_mk_at, .inl (cy 1, 5, .inl mk_at)), (a_mk_wounds, .inl (cy 1, 5, .inl mk_wounds))]) hP [0, 1, 2, 3, 8, 9, 4, 5, 6, 7] rfl
        have hD := dX4 (L1 := [(a_no, .inr (8, [.ref a_no_strong, .ref a_no_at, .ref a_no_wounds, .int no_dead_2, .int no_wet_3, .int no_drawn_4])), (a_no_strong, .inl (cy 1, 6, .inl no_strong_5)), (a_no_at, .inl (cy 1, 5, .inl no_at_6)), (a_no_wounds, .inl (cy 1, 5, .inl no_wounds_7)), (a_pa, .inr (5, [pa_kept, .ref a_pa_marked, .int pa_latest, .int pa_acts, .int pa_marks])), (a_pa_marked, .inl (cy 4, 3, .inr (.inr (.inr (.inr pa_marked))))), (a_mk, .inr (8, [.ref a_mk_strong, .ref a_mk_at, .ref a_mk_wounds, .int mk_dead, .int mk_wet, .int mk_drawn])), (a_mk_strong, .inl (cy 1, 6, .inl mk_strong)), (a_mk_at, .inl (cy 1, 5, .inl mk_at)), (a_mk_wounds, .inl (cy 1, 5, .inl mk_wounds))]) hD [0, 1, 2, 3, 8, 9, 4, 5, 6, 7] rfl rfl
        refine lv_aload_n hx hb dX5_goBack_29 rfl (lv_at hl 0 rfl) ?_
        refine lv_iconst (v := 0) hx hb dX5_goBack_30 (by decide) ?_
        refine va_put (D := D) (ci := 5) (C := RX5) (T := TX5) (N := 5) (v := .int 0) (ty := .int) hx hb hX5 (fun _ q => q) tyX5 tyX5_ok nmX5 hown hK hP hD hS 4 rfl rfl 3 (by decide) (hts (.fieldLink RX5 21 "ElephantLine$Past" "acts" "I") (by decide +kernel)) (fun _ h9 => h9) rfl (tyX5_ok 3 (by decide)) rfl rfl (Nat.le_of_ble_eq_true rfl) dX5_goBack_31 (fun H locs hP hD hS => ?_)
        refine lv_iconst (v := 1) hx hb dX5_goBack_34 (by decide) ?_
        cases h
        exact W.zret (ty := .boolean) hx hb hr (nbv.n nbv_1) (fun t ht _ => ⟨⟨_, (), rfl, ⟨rfl, nbv_1⟩, by rw [ht]; exact hP, hD⟩, hS.F ht⟩) hS.2.2 dX5_goBack_35
      · have h := ifF cd h
        refine lv_iconst (v := 0) hx hb dX5_goBack_17 (by decide) ?_
        cases h
        exact W.zret (ty := .boolean) hx hb hr (nbv.n nbv_0) (fun t ht _ => ⟨⟨_, (), rfl, ⟨rfl, nbv_0⟩, by rw [ht]; exact hP, hD⟩, hS.F ht⟩) hS.2.2 dX5_goBack_18
