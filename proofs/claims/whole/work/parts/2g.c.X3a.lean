theorem hd_X3_lostOn : yX3_lostOn.cls ≠ "java/lang/invoke/MethodHandle" ∧ yX3_lostOn.cls ≠ "java/lang/invoke/VarHandle" ∧ (parseMethodDescriptor yX3_lostOn.desc).map (fun d => d.parameters.length) = some 2 := by decide +kernel
set_option maxHeartbeats 4000000 in
set_option maxRecDepth 100000 in
theorem c_X3_lostOn (l : Launch) (D : va_G) (cy : Nat → ClassId) (p0 : Int32) (p1 : Int32) (res : Int32) (h : f_X3_lostOn  p0 p1 = some (res)) : Met l yX3_lostOn wo_X3_lostOn ({ frames := 0, cells := 0, slots := 0, locals := 0 }) (roPc D cy [.int p0, .int p1] []) (vp_Si (fun r => r = res)) 0 0 (fun _ => False) := by
  refine Met.ofW (cc := cX3_lostOn) (maxL := 2) (ret := (some .int)) (by decide) rfl ?_
  intro p e s m args below meth c s₁ B hml hv
  obtain ⟨rfl, hP, hKN⟩ := hv
  have hK := hKN.1
  have hx := B.exec
  have hb := B.bytes
  have hr := B.returns
  have hts := wt_X3_lostOn hKN.2.2 (([.int p0, .int p1] : List Value).toArray)
  have hown : s.vm.findClass RX3 = some m.cls := findClass_of_methodNamed B.named
  have hlocks := B.notSynchronized
  have hl := lv_entry ([.int p0, .int p1]) (n := 2) (Nat.le_of_ble_eq_true rfl)
  rw [lg_entry_eq]
  generalize (lg_sl ([.int p0, .int p1]) ++ List.replicate (2 - (lg_sl ([.int p0, .int p1])).length) Slot.unset).toArray = ls at hl ⊢
  have hl : lv_has ls 2 [(0, .int p0), (1, .int p1)] := hl
  unfold f_X3_lostOn at h
  refine lv_iload_n hx hb dX3_lostOn_0 rfl (lv_at hl 0 rfl) ?_
  refine lv_iload_n hx hb dX3_lostOn_1 rfl (lv_at hl 1 rfl) ?_
  refine lv_imul hx hb dX3_lostOn_2 ?_
  refine lv_bipush (v := 99) hx hb dX3_lostOn_3 (by decide) ?_
  refine lv_iadd hx hb dX3_lostOn_5 ?_
  refine lv_bipush (v := 100) hx hb dX3_lostOn_6 (by decide) ?_
  refine lv_idiv hx hb dX3_lostOn_8 (by decide) ?_
  exact W.iret (v := ((p0 * p1) + 99) / 100) hx hb hr (fun t ht _ => ⟨_, rfl, Option.some.inj h, ht⟩) (fun _ q => by cases q) dX3_lostOn_9
theorem hd_X3_citiesOnWay : yX3_citiesOnWay.cls = RX3 ∧ yX3_citiesOnWay.cls ≠ "java/lang/invoke/MethodHandle" ∧ yX3_citiesOnWay.cls ≠ "java/lang/invoke/VarHandle" ∧ (parseMethodDescriptor yX3_citiesOnWay.desc).map (fun d => d.parameters.length) = some 0 := by decide +kernel
set_option maxHeartbeats 4000000 in
set_option maxRecDepth 100000 in
theorem c_X3_citiesOnWay (l : Launch) (D : va_G) (cy : Nat → ClassId) (a_ma : Nat) (ma_land : Value) (ma_walked : Value) (ma_way : Value) (ma_cities : Int32) (ma_come : Int32) (res : Int32) (h : f_X3_citiesOnWay ma_cities = some (res)) : Met l yX3_citiesOnWay wo_X3_citiesOnWay ({ frames := 0, cells := 0, slots := 0, locals := 0 }) (roPc D cy [.ref a_ma] [(a_ma, .inr (3, [ma_land, ma_walked, ma_way, .int ma_cities, .int ma_come]))]) (vp_Si (fun r => r = res)) 0 0 (fun _ => False) := by
  refine Met.ofW (cc := cX3_citiesOnWay) (maxL := 1) (ret := (some .int)) (by decide) rfl ?_
  intro p e s m args below meth c s₁ B hml hv
  obtain ⟨rfl, hP, hKN⟩ := hv
  have hK := hKN.1
  have hx := B.exec
  have hb := B.bytes
  have hr := B.returns
  have hts := wt_X3_citiesOnWay hKN.2.2 (([.ref a_ma] : List Value).toArray)
  have hown : s.vm.findClass RX3 = some m.cls := findClass_of_methodNamed B.named
  have hlocks := B.notSynchronized
  have hX3 := wc_X3 hKN.2.2 (([.ref a_ma] : List Value).toArray)
  have hl := lv_entry ([.ref a_ma]) (n := 1) (Nat.le_of_ble_eq_true rfl)
  rw [lg_entry_eq]
  generalize (lg_sl ([.ref a_ma]) ++ List.replicate (1 - (lg_sl ([.ref a_ma])).length) Slot.unset).toArray = ls at hl ⊢
  have hl : lv_has ls 1 [(0, .ref a_ma)] := hl
  unfold f_X3_citiesOnWay at h
  refine lv_aload_n hx hb dX3_citiesOnWay_0 rfl (lv_at hl 0 rfl) ?_
  refine va_get (D := D) (ci := 3) (C := RX3) (T := TX3) (N := 5) (v := .int ma_cities) hx hb hX3 (fun _ q => q) hown hK hP 0 rfl rfl 3 (by decide) (hts (.fieldLink RX3 22 "ElephantLine$Marching" "cities" "I") (by decide +kernel)) (fun _ h9 => h9) rfl dX3_citiesOnWay_1 ?_
  exact W.iret (v := ma_cities) hx hb hr (fun t ht _ => ⟨_, rfl, Option.some.inj h, ht⟩) (fun _ q => by cases q) dX3_citiesOnWay_4
theorem hd_X3_cityOnWay : yX3_cityOnWay.cls = RX3 ∧ yX3_cityOnWay.cls ≠ "java/lang/invoke/MethodHandle" ∧ yX3_cityOnWay.cls ≠ "java/lang/invoke/VarHandle" ∧ (parseMethodDescriptor yX3_cityOnWay.desc).map (fun d => d.parameters.length) = some 1 := by decide +kernel
set_option maxHeartbeats 4000000 in
set_option maxRecDepth 100000 in
theorem c_X3_cityOnWay (l : Launch) (D : va_G) (cy : Nat → ClassId) (a_ma a_ma_way : Nat) (ma_land : Value) (ma_walked : Value) (ma_cities : Int32) (ma_come : Int32) (ma_way : Nat → Int32) (p1 : Int32) (res : Int32) (h : f_X3_cityOnWay ma_cities ma_way p1 = some (res)) : Met l yX3_cityOnWay wo_X3_cityOnWay ({ frames := 0, cells := 0, slots := 0, locals := 0 }) (roPc D cy [.ref a_ma, .int p1] [(a_ma, .inr (3, [ma_land, ma_walked, .ref a_ma_way, .int ma_cities, .int ma_come])), (a_ma_way, .inl (cy 1, 6, .inl ma_way))]) (vp_Si (fun r => r = res)) 0 0 (fun _ => False) := by
  refine Met.ofW (cc := cX3_cityOnWay) (maxL := 2) (ret := (some .int)) (by decide) rfl ?_
  intro p e s m args below meth c s₁ B hml hv
  obtain ⟨rfl, hP, hKN⟩ := hv
  have hK := hKN.1
  have hx := B.exec
  have hb := B.bytes
  have hr := B.returns
  have hts := wt_X3_cityOnWay hKN.2.2 (([.ref a_ma, .int p1] : List Value).toArray)
  have hown : s.vm.findClass RX3 = some m.cls := findClass_of_methodNamed B.named
  have hlocks := B.notSynchronized
  have hX3 := wc_X3 hKN.2.2 (([.ref a_ma, .int p1] : List Value).toArray)
  have hl := lv_entry ([.ref a_ma, .int p1]) (n := 2) (Nat.le_of_ble_eq_true rfl)
  rw [lg_entry_eq]
  generalize (lg_sl ([.ref a_ma, .int p1]) ++ List.replicate (2 - (lg_sl ([.ref a_ma, .int p1])).length) Slot.unset).toArray = ls at hl ⊢
  have hl : lv_has ls 2 [(0, .ref a_ma), (1, .int p1)] := hl
  unfold f_X3_cityOnWay at h
  refine lv_iload_n hx hb dX3_cityOnWay_0 rfl (lv_at hl 1 rfl) ?_
  refine lv_if_lt (tgt := 21) hx hb dX3_cityOnWay_1 (by decide) (fun cd => ?_) (fun cd => ?_)
  · have h := ifT cd h
    refine lv_iconst (v := (-1)) hx hb dX3_cityOnWay_21 (by decide) ?_
    exact W.iret (v := (-1)) hx hb hr (fun t ht _ => ⟨_, rfl, Option.some.inj h, ht⟩) (fun _ q => by cases q) dX3_cityOnWay_22
  · have h := ifF cd h
    refine lv_iload_n hx hb dX3_cityOnWay_4 rfl (lv_at hl 1 rfl) ?_
    refine lv_aload_n hx hb dX3_cityOnWay_5 rfl (lv_at hl 0 rfl) ?_
    refine va_get (D := D) (ci := 3) (C := RX3) (T := TX3) (N := 5) (v := .int ma_cities) hx hb hX3 (fun _ q => q) hown hK hP 0 rfl rfl 3 (by decide) (hts (.fieldLink RX3 22 "ElephantLine$Marching" "cities" "I") (by decide +kernel)) (fun _ h9 => h9) rfl dX3_cityOnWay_6 ?_
    refine lv_icmp_ge (tgt := 21) hx hb dX3_cityOnWay_9 (by decide) (fun cd => ?_) (fun cd => ?_)
    · have h := ifT cd h
      refine lv_iconst (v := (-1)) hx hb dX3_cityOnWay_21 (by decide) ?_
      exact W.iret (v := (-1)) hx hb hr (fun t ht _ => ⟨_, rfl, Option.some.inj h, ht⟩) (fun _ q => by cases q) dX3_cityOnWay_22
    · have h := ifF cd h
      refine lv_aload_n hx hb dX3_cityOnWay_12 rfl (lv_at hl 0 rfl) ?_
      refine va_get (D := D) (ci := 3) (C := RX3) (T := TX3) (N := 5) (v := .ref a_ma_way) hx hb hX3 (fun _ q => q) hown hK hP 0 rfl rfl 2 (by decide) (hts (.fieldLink RX3 15 "ElephantLine$Marching" "way" "[I") (by decide +kernel)) (fun _ h9 => h9) rfl dX3_cityOnWay_13 ?_
      refine lv_iload_n hx hb dX3_cityOnWay_16 rfl (lv_at hl 1 rfl) ?_
      obtain ⟨i_1, h⟩ := gIn_some h
      refine va_iald hx hb hK hP 1 1 rfl rfl i_1 dX3_cityOnWay_17 ?_
      refine lv_goto (tgt := 22) hx hb dX3_cityOnWay_18 (by decide) ?_
      exact W.iret (v := ma_way p1.toNatClampNeg) hx hb hr (fun t ht _ => ⟨_, rfl, Option.some.inj h, ht⟩) (fun _ q => by cases q) dX3_cityOnWay_22
theorem hd_X3_keepIfBetter : yX3_keepIfBetter.cls = RX3 ∧ yX3_keepIfBetter.cls ≠ "java/lang/invoke/MethodHandle" ∧ yX3_keepIfBetter.cls ≠ "java/lang/invoke/VarHandle" ∧ (parseMethodDescriptor yX3_keepIfBetter.desc).map (fun d => d.parameters.length) = some 2 := by decide +kernel
set_option maxHeartbeats 4000000 in
set_option maxRecDepth 100000 in
theorem c_X3_keepIfBetter (l : Launch) (D : va_G) (cy : Nat → ClassId) (A : Nat → Prop) (X : va_W) (a_ma a_ma_walked a_ma_way : Nat) (ma_land : Value) (ma_cities : Int32) (ma_come : Int32) (ma_walked : Nat → Int32) (ma_way : Nat → Int32) (p1 : Int32) (p2 : Int32) (ma_cities' : Int32) (ma_come' : Int32) (ma_way' : Nat → Int32) (h : f_X3_keepIfBetter ma_cities ma_come ma_walked ma_way p1 p2 = some (ma_cities', ma_come', ma_way')) : Met l yX3_keepIfBetter wo_X3_keepIfBetter ({ frames := 1, cells := 0, slots := 0, locals := 18 }) (wrPc D cy A [.ref a_ma, .int p1, .int p2] ([(a_ma, .inr (3, [ma_land, .ref a_ma_walked, .ref a_ma_way, .int ma_cities, .int ma_come])), (a_ma_walked, .inl (cy 1, 6, .inl ma_walked)), (a_ma_way, .inl (cy 1, 6, .inl ma_way))] ++ X)) (va_Qv (fun (_ : Unit) => True) (wB D A ([(a_ma, .inr (3, [ma_land, .ref a_ma_walked, .ref a_ma_way, .int ma_cities', .int ma_come'])), (a_ma_walked, .inl (cy 1, 6, .inl ma_walked)), (a_ma_way, .inl (cy 1, 6, .inl ma_way'))] ++ X)) A) 0 0 A := by
  refine Met.ofW (cc := cX3_keepIfBetter) (maxL := 3) (ret := none) (by decide) rfl ?_
  intro p e s m args below meth c s₁ B hml hv
  obtain ⟨rfl, hP, hKN, hD, hA⟩ := hv
  have hK := hKN.1
  have hx := B.exec
  have hb := B.bytes
  have hr := B.returns
  have hts := wt_X3_keepIfBetter hKN.2.2 (([.ref a_ma, .int p1, .int p2] : List Value).toArray)
  have hown : s.vm.findClass RX3 = some m.cls := findClass_of_methodNamed B.named
  have hlocks := B.notSynchronized
  have hS : va_S A s.heap s.heap [] := va_S.rf
  have hX3 := wc_X3 hKN.2.2 (([.ref a_ma, .int p1, .int p2] : List Value).toArray)
  have hl := lv_entry ([.ref a_ma, .int p1, .int p2]) (n := 3) (Nat.le_of_ble_eq_true rfl)
  rw [lg_entry_eq]
  generalize (lg_sl ([.ref a_ma, .int p1, .int p2]) ++ List.replicate (3 - (lg_sl ([.ref a_ma, .int p1, .int p2])).length) Slot.unset).toArray = ls at hl ⊢
  have hl : lv_has ls 3 [(0, .ref a_ma), (1, .int p1), (2, .int p2)] := hl
  unfold f_X3_keepIfBetter at h
  refine lv_iload_n hx hb dX3_keepIfBetter_0 rfl (lv_at hl 1 rfl) ?_
  refine lv_aload_n hx hb dX3_keepIfBetter_1 rfl (lv_at hl 0 rfl) ?_
  refine va_get (D := D) (ci := 3) (C := RX3) (T := TX3) (N := 5) (v := .int ma_come) hx hb hX3 (fun _ q => q) hown hK hP 0 rfl rfl 4 (by decide) (hts (.fieldLink RX3 26 "ElephantLine$Marching" "come" "I") (by decide +kernel)) (fun _ h9 => h9) rfl dX3_keepIfBetter_2 ?_
  refine lv_icmp_le (tgt := 37) hx hb dX3_keepIfBetter_5 (by decide) (fun cd => ?_) (fun cd => ?_)
  · have h := ifT cd h
    cases h
    exact W.vret hx hb hr (fun t ht _ => ⟨⟨(), rfl, trivial, by rw [ht]; exact hP, hD⟩, hS.F ht⟩) hS.2.2 dX3_keepIfBetter_37
  · have h := ifF cd h
    refine lv_aload_n hx hb dX3_keepIfBetter_8 rfl (lv_at hl 0 rfl) ?_
    refine lv_iload_n hx hb dX3_keepIfBetter_9 rfl (lv_at hl 1 rfl) ?_
    refine va_put (D := D) (ci := 3) (C := RX3) (T := TX3) (N := 5) (v := .int p1) (ty := .int) hx hb hX3 (fun _ q => q) tyX3 tyX3_ok nmX3 hown hK hP hD hS 0 rfl rfl 4 (by decide) (hts (.fieldLink RX3 26 "ElephantLine$Marching" "come" "I") (by decide +kernel)) (fun _ h9 => h9) rfl (tyX3_ok 4 (by decide)) rfl rfl (Nat.le_of_ble_eq_true rfl) dX3_keepIfBetter_10 (fun H locs hP hD hS => ?_)
    refine lv_aload_n hx hb dX3_keepIfBetter_13 rfl (lv_at hl 0 rfl) ?_
    refine lv_iload_n hx hb dX3_keepIfBetter_14 rfl (lv_at hl 2 rfl) ?_
    refine va_put (D := D) (ci := 3) (C := RX3) (T := TX3) (N := 5) (v := .int p2) (ty := .int) hx hb hX3 (fun _ q => q) tyX3 tyX3_ok nmX3 hown hK hP hD hS 0 rfl rfl 3 (by decide) (hts (.fieldLink RX3 22 "ElephantLine$Marching" "cities" "I") (by decide +kernel)) (fun _ h9 => h9) rfl (tyX3_ok 3 (by decide)) rfl rfl (Nat.le_of_ble_eq_true rfl) dX3_keepIfBetter_15 (fun H locs hP hD hS => ?_)
    refine lv_aload_n hx hb dX3_keepIfBetter_18 rfl (lv_at hl 0 rfl) ?_
    refine va_get (D := D) (ci := 3) (C := RX3) (T := TX3) (N := 5) (v := .ref a_ma_walked) hx hb hX3 (fun _ q => q) hown hK hP 0 rfl rfl 1 (by decide) (hts (.fieldLink RX3 9 "ElephantLine$Marching" "walked" "[I") (by decide +kernel)) (fun _ h9 => h9) rfl dX3_keepIfBetter_19 ?_
    refine lv_iconst (v := 0) hx hb dX3_keepIfBetter_22 (by decide) ?_
    refine lv_aload_n hx hb dX3_keepIfBetter_23 rfl (lv_at hl 0 rfl) ?_
    refine va_get (D := D) (ci := 3) (C := RX3) (T := TX3) (N := 5) (v := .ref a_ma_way) hx hb hX3 (fun _ q => q) hown hK hP 0 rfl rfl 2 (by decide) (hts (.fieldLink RX3 15 "ElephantLine$Marching" "way" "[I") (by decide +kernel)) (fun _ h9 => h9) rfl dX3_keepIfBetter_24 ?_
    refine lv_iconst (v := 0) hx hb dX3_keepIfBetter_27 (by decide) ?_
    refine lv_iload_n hx hb dX3_keepIfBetter_28 rfl (lv_at hl 2 rfl) ?_
    refine lv_bipush (v := 6) hx hb dX3_keepIfBetter_29 (by decide) ?_
    refine va_mmin hx hb (hml.trans hl.1.symm) hown (hts (.methodLink RX3 47 Lib.Math.min.name) (by decide +kernel)) (hts (.static Lib.Math.min.name) (by decide +kernel)) (hts (.initialized "java/lang/Math") (by decide +kernel)) (hts (.code Lib.Math.min.name Lib.Math.min.code 2 (some .int)) (by decide +kernel)) (Nat.le_of_ble_eq_true rfl) (Nat.le_of_ble_eq_true rfl) (Nat.le_of_ble_eq_true rfl) (Nat.le_of_ble_eq_true rfl) dX3_keepIfBetter_31 ?_
    obtain ⟨i_1, h⟩ := gCp_some h
    refine va_copyi hx hb (hml.trans hl.1.symm) hown (hts (.methodLink RX3 52 arraycopyName) (by decide +kernel)) (hts (.native arraycopyName) (by decide +kernel)) (hts (.static arraycopyName) (by decide +kernel)) (hts (.initialized "java/lang/System") (by decide +kernel)) hK hP hD hS 1 2 1 1 rfl rfl rfl rfl rfl (by decide) (by decide) i_1.1 (i_1.2 _ (by decide)) (i_1.2 _ (by decide)) (fun _ _ => rfl) (Nat.le_of_ble_eq_true rfl) (Nat.le_of_ble_eq_true rfl) dX3_keepIfBetter_34 (fun H locs hP hD hS => ?_)
    cases h
    exact W.vret hx hb hr (fun t ht _ => ⟨⟨(), rfl, trivial, by rw [ht]; exact hP, hD⟩, hS.F ht⟩) hS.2.2 dX3_keepIfBetter_37
theorem hd_X3_neighboursOf : yX3_neighboursOf.cls = RX3 ∧ yX3_neighboursOf.cls ≠ "java/lang/invoke/MethodHandle" ∧ yX3_neighboursOf.cls ≠ "java/lang/invoke/VarHandle" ∧ (parseMethodDescriptor yX3_neighboursOf.desc).map (fun d => d.parameters.length) = some 1 := by decide +kernel
set_option maxHeartbeats 4000000 in
set_option maxRecDepth 100000 in
theorem c_X3_neighboursOf (l : Launch) (D : va_G) (cy : Nat → ClassId) (a_la a_la_passBetween a_ma : Nat) (la_lanes : Int32) (la_deep : Int32) (la_lanesTold : Int32) (la_who : Value) (la_firstStrong : Value) (la_beasts : Int32) (la_kind : Value) (la_firstLane : Value) (la_mood : Value) (la_price : Value) (la_cities : Int32) (la_passes : Int32) (la_turned : Int32) (la_passBetween : Nat → Int32) (ma_walked : Value) (ma_way : Value) (ma_cities : Int32) (ma_come : Int32) (p1 : Int32) (res : Int32) (h : f_X3_neighboursOf la_cities la_passBetween p1 = some (res)) : Met l yX3_neighboursOf wo_X3_neighboursOf ({ frames := 2, cells := 0, slots := 0, locals := 43 }) (roPc D cy [.ref a_ma, .int p1] [(a_la, .inr (2, [.int la_lanes, .int la_deep, .int la_lanesTold, la_who, la_firstStrong, .int la_beasts, la_kind, la_firstLane, la_mood, la_price, .int la_cities, .int la_passes, .ref a_la_passBetween, .int la_turned])), (a_la_passBetween, .inl (cy 1, 36, .inl la_passBetween)), (a_ma, .inr (3, [.ref a_la, ma_walked, ma_way, .int ma_cities, .int ma_come]))]) (vp_Si (fun r => r = res)) 0 0 (fun _ => False) := by
  refine Met.ofW (cc := cX3_neighboursOf) (maxL := 4) (ret := (some .int)) (by decide) rfl ?_
  intro p e s m args below meth c s₁ B hml hv
  obtain ⟨rfl, hP, hKN⟩ := hv
  have hK := hKN.1
  have hx := B.exec
  have hb := B.bytes
  have hr := B.returns
  have hts := wt_X3_neighboursOf hKN.2.2 (([.ref a_ma, .int p1] : List Value).toArray)
  have hown : s.vm.findClass RX3 = some m.cls := findClass_of_methodNamed B.named
  have hlocks := B.notSynchronized
  have hX2 := wc_X2 hKN.2.2 (([.ref a_ma, .int p1] : List Value).toArray)
  have hX3 := wc_X3 hKN.2.2 (([.ref a_ma, .int p1] : List Value).toArray)
  have hl := lv_entry ([.ref a_ma, .int p1]) (n := 4) (Nat.le_of_ble_eq_true rfl)
  rw [lg_entry_eq]
  generalize (lg_sl ([.ref a_ma, .int p1]) ++ List.replicate (4 - (lg_sl ([.ref a_ma, .int p1])).length) Slot.unset).toArray = ls at hl ⊢
  have hl : lv_has ls 4 [(0, .ref a_ma), (1, .int p1)] := hl
  unfold f_X3_neighboursOf at h
  refine lv_iconst (v := 0) hx hb dX3_neighboursOf_0 (by decide) ?_
  refine lv_istore_n (lv' := [(2, .int 0), (0, .ref a_ma), (1, .int p1)]) hx hb dX3_neighboursOf_1 rfl hl (by decide) rfl (fun ls hl => ?_)
  refine lv_iconst (v := 0) hx hb dX3_neighboursOf_2 (by decide) ?_
  refine lv_istore_n (lv' := [(3, .int 0), (2, .int 0), (0, .ref a_ma), (1, .int p1)]) hx hb dX3_neighboursOf_3 rfl hl (by decide) rfl (fun ls hl => ?_)
  have lp4 : ∀ (n4 : Nat) (x2_1 : Int32) (x3_2 : Int32), f_X3_neighboursOf_L4 la_cities la_passBetween p1 n4 x2_1 x3_2 = some (res) → ∀ ls : Array Slot, lv_has ls 4 [(0, .ref a_ma), (1, .int p1), (2, .int x2_1), (3, .int x3_2)] → W p l e (headSpec wo_X3_neighboursOf ({ frames := 2, cells := 0, slots := 0, locals := 43 })).room s m (([.ref a_ma, .int p1] : List Value).toArray) below meth c s.heap [] 0 0 (MQ below (vp_Si (fun r => r = res)) (([.ref a_ma, .int p1] : List Value).toArray) s 0 0 (fun _ => False)) (F0 m 4 ls []) := by
    intro n4
    induction n4 with
    | zero => intro x2_1 x3_2 h; exact absurd (show (none : Option (Int32)) = some _ from h) (by intro q; cases q)
    | succ n4 ih4 =>
      intro x2_1 x3_2 h ls hl
      have h : f_X3_neighboursOf_b4 la_cities la_passBetween p1 (f_X3_neighboursOf_L4 la_cities la_passBetween p1 n4) x2_1 x3_2 = some (res) := h
      unfold f_X3_neighboursOf_b4 at h
      refine lv_iload_n hx hb dX3_neighboursOf_4 rfl (lv_at hl 3 rfl) ?_
      refine lv_aload_n hx hb dX3_neighboursOf_5 rfl (lv_at hl 0 rfl) ?_
      refine va_get (D := D) (ci := 3) (C := RX3) (T := TX3) (N := 5) (v := .ref a_la) hx hb hX3 (fun _ q => q) hown hK hP 2 rfl rfl 0 (by decide) (hts (.fieldLink RX3 18 "ElephantLine$Marching" "land" "LElephantLine$Land;") (by decide +kernel)) (fun _ h9 => h9) rfl dX3_neighboursOf_6 ?_
      refine va_getN (D := D) (ci := 2) (C := RX2) (T := TX2) (N := 14) (v := .int la_cities) hx hb hX2 (fun _ q => q) hown hK hP 0 rfl rfl 10 (by decide) (va_Nw.use rfl (hKN.2.1.1 ("ElephantLine$Marching", 37, "ElephantLine$Land", "cities", "I", "ElephantLine") (List.mem_of_getElem? (i := 29) rfl))) (fun _ h9 => h9) rfl dX3_neighboursOf_9 ?_
      refine lv_icmp_ge (tgt := 44) hx hb dX3_neighboursOf_12 (by decide) (fun cd => ?_) (fun cd => ?_)
      · have h := ifT cd h
        refine lv_iload_n hx hb dX3_neighboursOf_44 rfl (lv_at hl 2 rfl) ?_
        exact W.iret (v := x2_1) hx hb hr (fun t ht _ => ⟨_, rfl, Option.some.inj h, ht⟩) (fun _ q => by cases q) dX3_neighboursOf_45
      · have h := ifF cd h
        refine lv_iload_n hx hb dX3_neighboursOf_15 rfl (lv_at hl 2 rfl) ?_
        refine lv_aload_n hx hb dX3_neighboursOf_16 rfl (lv_at hl 0 rfl) ?_
        refine va_get (D := D) (ci := 3) (C := RX3) (T := TX3) (N := 5) (v := .ref a_la) hx hb hX3 (fun _ q => q) hown hK hP 2 rfl rfl 0 (by decide) (hts (.fieldLink RX3 18 "ElephantLine$Marching" "land" "LElephantLine$Land;") (by decide +kernel)) (fun _ h9 => h9) rfl dX3_neighboursOf_17 ?_
        refine lv_iload_n hx hb dX3_neighboursOf_20 rfl (lv_at hl 1 rfl) ?_
        refine lv_iload_n hx hb dX3_neighboursOf_21 rfl (lv_at hl 3 rfl) ?_
        obtain ⟨r_3, hc_4, h⟩ := bd1_some h
        refine kVi [.int p1, .int x3_2] [.int x2_1] ⟨hx, hb, hml, hown, hts⟩ (c_X2_lossBetween l D cy a_la a_la_passBetween la_lanes la_deep la_lanesTold (la_who) (la_firstStrong) la_beasts (la_kind) (la_firstLane) (la_mood) (la_price) la_cities la_passes la_turned la_passBetween p1 x3_2 r_3 hc_4) gX3_neighboursOf_X2_lossBetween rfl hd_X2_lossBetween ⟨Nat.le_of_ble_eq_true rfl, Nat.le_of_ble_eq_true rfl⟩ rfl rfl hKN (hP.sub [0, 1] rfl) 2 0 rfl rfl rfl hl.1 rfl (Nat.le_of_ble_eq_true rfl) dX3_neighboursOf_22 ⟨Nat.le_of_ble_eq_true rfl, Nat.le_of_ble_eq_true rfl⟩ ?_
        refine lv_iconst (v := (-1)) hx hb dX3_neighboursOf_25 (by decide) ?_
        have jn36 : ∀ (t1_5 : Int32), f_X3_neighboursOf_B36 (f_X3_neighboursOf_L4 la_cities la_passBetween p1 n4) la_cities la_passBetween p1 x3_2 x2_1 t1_5 = some (res) → ∀ ls : Array Slot, lv_has ls 4 [(0, .ref a_ma), (1, .int p1), (3, .int x3_2)] → W p l e (headSpec wo_X3_neighboursOf ({ frames := 2, cells := 0, slots := 0, locals := 43 })).room s m (([.ref a_ma, .int p1] : List Value).toArray) below meth c s.heap [] 0 0 (MQ below (vp_Si (fun r => r = res)) (([.ref a_ma, .int p1] : List Value).toArray) s 0 0 (fun _ => False)) (F0 m 36 ls [.int t1_5, .int x2_1]) := by
          intro t1_5 h ls hl
          unfold f_X3_neighboursOf_B36 at h
          refine lv_ior hx hb dX3_neighboursOf_36 ?_
          refine lv_istore_n (lv' := [(2, .int (x2_1 ||| t1_5)), (0, .ref a_ma), (1, .int p1), (3, .int x3_2)]) hx hb dX3_neighboursOf_37 rfl hl (by decide) rfl (fun ls hl => ?_)
          refine lv_iinc (v := x3_2 + 1) (lv' := [(3, .int (x3_2 + 1)), (2, .int (x2_1 ||| t1_5)), (0, .ref a_ma), (1, .int p1)]) hx hb dX3_neighboursOf_38 hl (k := 3) rfl (by first | rfl | decide) (by decide) rfl (fun ls hl => ?_)
          refine lv_goto (tgt := 4) hx hb dX3_neighboursOf_41 (by decide) ?_
          exact ih4 (x2_1 ||| t1_5) (x3_2 + 1) h _ (lv_sub hl [2, 3, 1, 0] rfl)
        refine lv_icmp_eq (tgt := 35) hx hb dX3_neighboursOf_26 (by decide) (fun cd => ?_) (fun cd => ?_)
        · have h := ifT cd h
          refine lv_iconst (v := 0) hx hb dX3_neighboursOf_35 (by decide) ?_
          exact jn36 (0 : Int32) h _ (lv_sub hl [0, 1, 3] rfl)
        · have h := ifF cd h
          refine lv_iconst (v := 1) hx hb dX3_neighboursOf_29 (by decide) ?_
          refine lv_iload_n hx hb dX3_neighboursOf_30 rfl (lv_at hl 3 rfl) ?_
          refine lv_ishl hx hb dX3_neighboursOf_31 ?_
          refine lv_goto (tgt := 36) hx hb dX3_neighboursOf_32 (by decide) ?_
          exact jn36 ((1 : Int32) <<< (x3_2 &&& 31)) h _ (lv_sub hl [0, 1, 3] rfl)
  exact lp4 fuelN (0 : Int32) (0 : Int32) h _ (lv_sub hl [2, 3, 1, 0] rfl)
theorem hd_X3_walk : yX3_walk.cls = RX3 ∧ yX3_walk.cls ≠ "java/lang/invoke/MethodHandle" ∧ yX3_walk.cls ≠ "java/lang/invoke/VarHandle" ∧ (parseMethodDescriptor yX3_walk.desc).map (fun d => d.parameters.length) = some 5 := by decide +kernel
set_option maxHeartbeats 4000000 in
set_option maxRecDepth 100000 in
theorem c_X3_walk_0 (l : Launch) (D : va_G) (cy : Nat → ClassId) (A : Nat → Prop) (X : va_W) (a_la a_la_passBetween a_ma a_ma_walked a_ma_way : Nat) (la_lanes : Int32) (la_deep : Int32) (la_lanesTold : Int32) (la_who : Value) (la_firstStrong : Value) (la_beasts : Int32) (la_kind : Value) (la_firstLane : Value) (la_mood : Value) (la_price : Value) (la_cities : Int32) (la_passes : Int32) (la_turned : Int32) (la_passBetween : Nat → Int32) (ma_cities : Int32) (ma_come : Int32) (ma_walked : Nat → Int32) (ma_way : Nat → Int32) (p1 : Int32) (p2 : Int32) (p3 : Int32) (p4 : Int32) (p5 : Int32) (ma_cities' : Int32) (ma_come' : Int32) (ma_walked' : Nat → Int32) (ma_way' : Nat → Int32) (h : f_X3_walk 0 la_cities la_passBetween ma_cities ma_come ma_walked ma_way p1 p2 p3 p4 p5 = some (ma_cities', ma_come', ma_walked', ma_way')) : Met l yX3_walk wo_X3_walk ({ frames := 2, cells := 0, slots := 0, locals := 43 }) (wrPc D cy A [.ref a_ma, .int p1, .int p2, .int p3, .int p4, .int p5] ([(a_la, .inr (2, [.int la_lanes, .int la_deep, .int la_lanesTold, la_who, la_firstStrong, .int la_beasts, la_kind, la_firstLane, la_mood, la_price, .int la_cities, .int la_passes, .ref a_la_passBetween, .int la_turned])), (a_la_passBetween, .inl (cy 1, 36, .inl la_passBetween)), (a_ma, .inr (3, [.ref a_la, .ref a_ma_walked, .ref a_ma_way, .int ma_cities, .int ma_come])), (a_ma_walked, .inl (cy 1, 6, .inl ma_walked)), (a_ma_way, .inl (cy 1, 6, .inl ma_way))] ++ X)) (va_Qv (fun (_ : Unit) => True) (wB D A ([(a_la, .inr (2, [.int la_lanes, .int la_deep, .int la_lanesTold, la_who, la_firstStrong, .int la_beasts, la_kind, la_firstLane, la_mood, la_price, .int la_cities, .int la_passes, .ref a_la_passBetween, .int la_turned])), (a_la_passBetween, .inl (cy 1, 36, .inl la_passBetween)), (a_ma, .inr (3, [.ref a_la, .ref a_ma_walked, .ref a_ma_way, .int ma_cities', .int ma_come'])), (a_ma_walked, .inl (cy 1, 6, .inl ma_walked')), (a_ma_way, .inl (cy 1, 6, .inl ma_way'))] ++ X)) A) 0 0 A := by
  exact absurd (show (none : Option (Int32 × Int32 × (Nat → Int32) × (Nat → Int32))) = some _ from h) (by intro q; cases q)
set_option maxHeartbeats 4000000 in
set_option maxRecDepth 100000 in
theorem c_X3_walk_1 (l : Launch) (D : va_G) (cy : Nat → ClassId) (A : Nat → Prop) (X : va_W) (a_la a_la_passBetween a_ma a_ma_walked a_ma_way : Nat) (la_lanes : Int32) (la_deep : Int32) (la_lanesTold : Int32) (la_who : Value) (la_firstStrong : Value) (la_beasts : Int32) (la_kind : Value) (la_firstLane : Value) (la_mood : Value) (la_price : Value) (la_cities : Int32) (la_passes : Int32) (la_turned : Int32) (la_passBetween : Nat → Int32) (ma_cities : Int32) (ma_come : Int32) (ma_walked : Nat → Int32) (ma_way : Nat → Int32) (p1 : Int32) (p2 : Int32) (p3 : Int32) (p4 : Int32) (p5 : Int32) (ma_cities' : Int32) (ma_come' : Int32) (ma_walked' : Nat → Int32) (ma_way' : Nat → Int32) (h : f_X3_walk 1 la_cities la_passBetween ma_cities ma_come ma_walked ma_way p1 p2 p3 p4 p5 = some (ma_cities', ma_come', ma_walked', ma_way')) : Met l yX3_walk wo_X3_walk ({ frames := 3, cells := 0, slots := 0, locals := 70 }) (wrPc D cy A [.ref a_ma, .int p1, .int p2, .int p3, .int p4, .int p5] ([(a_la, .inr (2, [.int la_lanes, .int la_deep, .int la_lanesTold, la_who, la_firstStrong, .int la_beasts, la_kind, la_firstLane, la_mood, la_price, .int la_cities, .int la_passes, .ref a_la_passBetween, .int la_turned])), (a_la_passBetween, .inl (cy 1, 36, .inl la_passBetween)), (a_ma, .inr (3, [.ref a_la, .ref a_ma_walked, .ref a_ma_way, .int ma_cities, .int ma_come])), (a_ma_walked, .inl (cy 1, 6, .inl ma_walked)), (a_ma_way, .inl (cy 1, 6, .inl ma_way))] ++ X)) (va_Qv (fun (_ : Unit) => True) (wB D A ([(a_la, .inr (2, [.int la_lanes, .int la_deep, .int la_lanesTold, la_who, la_firstStrong, .int la_beasts, la_kind, la_firstLane, la_mood, la_price, .int la_cities, .int la_passes, .ref a_la_passBetween, .int la_turned])), (a_la_passBetween, .inl (cy 1, 36, .inl la_passBetween)), (a_ma, .inr (3, [.ref a_la, .ref a_ma_walked, .ref a_ma_way, .int ma_cities', .int ma_come'])), (a_ma_walked, .inl (cy 1, 6, .inl ma_walked')), (a_ma_way, .inl (cy 1, 6, .inl ma_way'))] ++ X)) A) 0 0 A := by
  refine Met.ofW (cc := cX3_walk) (maxL := 8) (ret := none) (by decide) rfl ?_
  intro p e s m args below meth c s₁ B hml hv
  obtain ⟨rfl, hP, hKN, hD, hA⟩ := hv
  have hK := hKN.1
  have hx := B.exec
  have hb := B.bytes
  have hr := B.returns
  have hts := wt_X3_walk hKN.2.2 (([.ref a_ma, .int p1, .int p2, .int p3, .int p4, .int p5] : List Value).toArray)
  have hown : s.vm.findClass RX3 = some m.cls := findClass_of_methodNamed B.named
  have hlocks := B.notSynchronized
  have hS : va_S A s.heap s.heap [] := va_S.rf
  have hX2 := wc_X2 hKN.2.2 (([.ref a_ma, .int p1, .int p2, .int p3, .int p4, .int p5] : List Value).toArray)
  have hX3 := wc_X3 hKN.2.2 (([.ref a_ma, .int p1, .int p2, .int p3, .int p4, .int p5] : List Value).toArray)
  have hl := lv_entry ([.ref a_ma, .int p1, .int p2, .int p3, .int p4, .int p5]) (n := 8) (Nat.le_of_ble_eq_true rfl)
  rw [lg_entry_eq]
  generalize (lg_sl ([.ref a_ma, .int p1, .int p2, .int p3, .int p4, .int p5]) ++ List.replicate (8 - (lg_sl ([.ref a_ma, .int p1, .int p2, .int p3, .int p4, .int p5])).length) Slot.unset).toArray = ls at hl ⊢
  have hl : lv_has ls 8 [(0, .ref a_ma), (1, .int p1), (2, .int p2), (3, .int p3), (4, .int p4), (5, .int p5)] := hl
  have h : f_X3_walk_r (f_X3_walk 0) la_cities la_passBetween ma_cities ma_come ma_walked ma_way p1 p2 p3 p4 p5 = some (ma_cities', ma_come', ma_walked', ma_way') := h
  unfold f_X3_walk_r at h
  refine lv_iload hx hb dX3_walk_0 (lv_at hl 4 rfl) ?_
  refine lv_bipush (v := 6) hx hb dX3_walk_2 (by decide) ?_
  refine lv_icmp_lt (tgt := 8) hx hb dX3_walk_4 (by decide) (fun cd => ?_) (fun cd => ?_)
  · have h := ifT cd h
    refine lv_aload_n hx hb dX3_walk_8 rfl (lv_at hl 0 rfl) ?_
    refine va_get (D := D) (ci := 3) (C := RX3) (T := TX3) (N := 5) (v := .ref a_ma_walked) hx hb hX3 (fun _ q => q) hown hK hP 2 rfl rfl 1 (by decide) (hts (.fieldLink RX3 9 "ElephantLine$Marching" "walked" "[I") (by decide +kernel)) (fun _ h9 => h9) rfl dX3_walk_9 ?_
    refine lv_iload hx hb dX3_walk_12 (lv_at hl 4 rfl) ?_
    refine lv_iload_n hx hb dX3_walk_14 rfl (lv_at hl 1 rfl) ?_
    obtain ⟨i_1, h⟩ := gIn_some h
    refine va_iast hx hb hK hP hD hS 3 1 rfl rfl i_1 dX3_walk_15 (fun H locs hP hD hS => ?_)
    refine lv_iload_n hx hb dX3_walk_16 rfl (lv_at hl 1 rfl) ?_
    refine lv_iload_n hx hb dX3_walk_17 rfl (lv_at hl 2 rfl) ?_
    refine lv_icmp_ne (tgt := 31) hx hb dX3_walk_18 (by decide) (fun cd => ?_) (fun cd => ?_)
    · have h := ifF cd h
      refine lv_iconst (v := 0) hx hb dX3_walk_31 (by decide) ?_
      refine lv_istore (lv' := [(6, .int 0), (0, .ref a_ma), (1, .int p1), (2, .int p2), (3, .int p3), (4, .int p4), (5, .int p5)]) hx hb dX3_walk_32 hl (by decide) rfl (fun ls hl => ?_)
      have lp34 : ∀ (n34 : Nat) (x6_2 : Int32) (ma_cities_3 : Int32) (ma_come_4 : Int32) (ma_walked_5 : Nat → Int32) (ma_way_6 : Nat → Int32), f_X3_walk_L34 (f_X3_walk 0) la_cities la_passBetween p1 p2 p3 p4 p5 n34 x6_2 ma_cities_3 ma_come_4 ma_walked_5 ma_way_6 = some (ma_cities', ma_come', ma_walked', ma_way') → ∀ (H : Heap) (locs : List Loc), va_P D vwCl ([(a_la, .inr (2, [.int la_lanes, .int la_deep, .int la_lanesTold, la_who, la_firstStrong, .int la_beasts, la_kind, la_firstLane, la_mood, la_price, .int la_cities, .int la_passes, .ref a_la_passBetween, .int la_turned])), (a_la_passBetween, .inl (cy 1, 36, .inl la_passBetween)), (a_ma, .inr (3, [.ref a_la, .ref a_ma_walked, .ref a_ma_way, .int ma_cities_3, .int ma_come_4])), (a_ma_walked, .inl (cy 1, 6, .inl ma_walked_5)), (a_ma_way, .inl (cy 1, 6, .inl ma_way_6))] ++ X) H → va_D A ([(a_la, .inr (2, [.int la_lanes, .int la_deep, .int la_lanesTold, la_who, la_firstStrong, .int la_beasts, la_kind, la_firstLane, la_mood, la_price, .int la_cities, .int la_passes, .ref a_la_passBetween, .int la_turned])), (a_la_passBetween, .inl (cy 1, 36, .inl la_passBetween)), (a_ma, .inr (3, [.ref a_la, .ref a_ma_walked, .ref a_ma_way, .int ma_cities_3, .int ma_come_4])), (a_ma_walked, .inl (cy 1, 6, .inl ma_walked_5)), (a_ma_way, .inl (cy 1, 6, .inl ma_way_6))] ++ X) → va_S A s.heap H locs → ∀ ls : Array Slot, lv_has ls 8 [(0, .ref a_ma), (1, .int p1), (2, .int p2), (3, .int p3), (4, .int p4), (5, .int p5), (6, .int x6_2)] → W p l e (headSpec wo_X3_walk ({ frames := 3, cells := 0, slots := 0, locals := 70 })).room s m (([.ref a_ma, .int p1, .int p2, .int p3, .int p4, .int p5] : List Value).toArray) below meth c H locs 0 0 (MQ below (va_Qv (fun (_ : Unit) => True) (wB D A ([(a_la, .inr (2, [.int la_lanes, .int la_deep, .int la_lanesTold, la_who, la_firstStrong, .int la_beasts, la_kind, la_firstLane, la_mood, la_price, .int la_cities, .int la_passes, .ref a_la_passBetween, .int la_turned])), (a_la_passBetween, .inl (cy 1, 36, .inl la_passBetween)), (a_ma, .inr (3, [.ref a_la, .ref a_ma_walked, .ref a_ma_way, .int ma_cities', .int ma_come'])), (a_ma_walked, .inl (cy 1, 6, .inl ma_walked')), (a_ma_way, .inl (cy 1, 6, .inl ma_way'))] ++ X)) A) (([.ref a_ma, .int p1, .int p2, .int p3, .int p4, .int p5] : List Value).toArray) s 0 0 A) (F0 m 34 ls []) := by
        intro n34
        induction n34 with
        | zero => intro x6_2 ma_cities_3 ma_come_4 ma_walked_5 ma_way_6 h; exact absurd (show (none : Option (Int32 × Int32 × (Nat → Int32) × (Nat → Int32))) = some _ from h) (by intro q; cases q)
        | succ n34 ih34 =>
          intro x6_2 ma_cities_3 ma_come_4 ma_walked_5 ma_way_6 h H locs hP hD hS ls hl
          have h : f_X3_walk_b34 (f_X3_walk 0) la_cities la_passBetween p1 p2 p3 p4 p5 (f_X3_walk_L34 (f_X3_walk 0) la_cities la_passBetween p1 p2 p3 p4 p5 n34) x6_2 ma_cities_3 ma_come_4 ma_walked_5 ma_way_6 = some (ma_cities', ma_come', ma_walked', ma_way') := h
          unfold f_X3_walk_b34 at h
          refine lv_iload hx hb dX3_walk_34 (lv_at hl 6 rfl) ?_
          refine lv_aload_n hx hb dX3_walk_36 rfl (lv_at hl 0 rfl) ?_
          refine va_get (D := D) (ci := 3) (C := RX3) (T := TX3) (N := 5) (v := .ref a_la) hx hb hX3 (fun _ q => q) hown hK hP 2 rfl rfl 0 (by decide) (hts (.fieldLink RX3 18 "ElephantLine$Marching" "land" "LElephantLine$Land;") (by decide +kernel)) (fun _ h9 => h9) rfl dX3_walk_37 ?_
          refine va_getN (D := D) (ci := 2) (C := RX2) (T := TX2) (N := 14) (v := .int la_cities) hx hb hX2 (fun _ q => q) hown hK hP 0 rfl rfl 10 (by decide) (va_Nw.use rfl (hKN.2.1.1 ("ElephantLine$Marching", 37, "ElephantLine$Land", "cities", "I", "ElephantLine") (List.mem_of_getElem? (i := 29) rfl))) (fun _ h9 => h9) rfl dX3_walk_40 ?_
          refine lv_icmp_ge (tgt := 106) hx hb dX3_walk_43 (by decide) (fun cd => ?_) (fun cd => ?_)
          · have h := ifT cd h
            cases h
            exact W.vret hx hb hr (fun t ht _ => ⟨⟨(), rfl, trivial, by rw [ht]; exact hP, hD⟩, hS.F ht⟩) hS.2.2 dX3_walk_106
          · have h := ifF cd h
            refine lv_aload_n hx hb dX3_walk_46 rfl (lv_at hl 0 rfl) ?_
            refine va_get (D := D) (ci := 3) (C := RX3) (T := TX3) (N := 5) (v := .ref a_la) hx hb hX3 (fun _ q => q) hown hK hP 2 rfl rfl 0 (by decide) (hts (.fieldLink RX3 18 "ElephantLine$Marching" "land" "LElephantLine$Land;") (by decide +kernel)) (fun _ h9 => h9) rfl dX3_walk_47 ?_
            refine lv_iload_n hx hb dX3_walk_50 rfl (lv_at hl 1 rfl) ?_
            refine lv_iload hx hb dX3_walk_51 (lv_at hl 6 rfl) ?_
            obtain ⟨r_7, hc_8, h⟩ := bd1_some h
            refine kVi [.int p1, .int x6_2] [] ⟨hx, hb, hml, hown, hts⟩ (c_X2_lossBetween l D cy a_la a_la_passBetween la_lanes la_deep la_lanesTold (la_who) (la_firstStrong) la_beasts (la_kind) (la_firstLane) (la_mood) (la_price) la_cities la_passes la_turned la_passBetween p1 x6_2 r_7 hc_8) gX3_walk_X2_lossBetween rfl hd_X2_lossBetween ⟨Nat.le_of_ble_eq_true rfl, Nat.le_of_ble_eq_true rfl⟩ rfl rfl hKN (pXc hP [0, 1] rfl) 2 0 rfl rfl rfl hl.1 rfl (Nat.le_of_ble_eq_true rfl) dX3_walk_53 ⟨Nat.le_of_ble_eq_true rfl, Nat.le_of_ble_eq_true rfl⟩ ?_
            refine lv_istore (lv' := [(7, .int r_7), (0, .ref a_ma), (1, .int p1), (2, .int p2), (3, .int p3), (4, .int p4), (5, .int p5), (6, .int x6_2)]) hx hb dX3_walk_56 hl (by decide) rfl (fun ls hl => ?_)
            refine lv_iload hx hb dX3_walk_58 (lv_at hl 0 rfl) ?_
            refine lv_iconst (v := (-1)) hx hb dX3_walk_60 (by decide) ?_
            have jn100 : ∀ (ma_cities_9 : Int32) (ma_come_10 : Int32) (ma_walked_11 : Nat → Int32) (ma_way_12 : Nat → Int32), f_X3_walk_B100 (f_X3_walk_L34 (f_X3_walk 0) la_cities la_passBetween p1 p2 p3 p4 p5 n34) (f_X3_walk 0) la_cities la_passBetween p1 p2 p3 p4 p5 x6_2 ma_cities_9 ma_come_10 ma_walked_11 ma_way_12 = some (ma_cities', ma_come', ma_walked', ma_way') → ∀ (H : Heap) (locs : List Loc), va_P D vwCl ([(a_la, .inr (2, [.int la_lanes, .int la_deep, .int la_lanesTold, la_who, la_firstStrong, .int la_beasts, la_kind, la_firstLane, la_mood, la_price, .int la_cities, .int la_passes, .ref a_la_passBetween, .int la_turned])), (a_la_passBetween, .inl (cy 1, 36, .inl la_passBetween)), (a_ma, .inr (3, [.ref a_la, .ref a_ma_walked, .ref a_ma_way, .int ma_cities_9, .int ma_come_10])), (a_ma_walked, .inl (cy 1, 6, .inl ma_walked_11)), (a_ma_way, .inl (cy 1, 6, .inl ma_way_12))] ++ X) H → va_D A ([(a_la, .inr (2, [.int la_lanes, .int la_deep, .int la_lanesTold, la_who, la_firstStrong, .int la_beasts, la_kind, la_firstLane, la_mood, la_price, .int la_cities, .int la_passes, .ref a_la_passBetween, .int la_turned])), (a_la_passBetween, .inl (cy 1, 36, .inl la_passBetween)), (a_ma, .inr (3, [.ref a_la, .ref a_ma_walked, .ref a_ma_way, .int ma_cities_9, .int ma_come_10])), (a_ma_walked, .inl (cy 1, 6, .inl ma_walked_11)), (a_ma_way, .inl (cy 1, 6, .inl ma_way_12))] ++ X) → va_S A s.heap H locs → ∀ ls : Array Slot, lv_has ls 8 [(0, .ref a_ma), (1, .int p1), (2, .int p2), (3, .int p3), (4, .int p4), (5, .int p5), (6, .int x6_2)] → W p l e (headSpec wo_X3_walk ({ frames := 3, cells := 0, slots := 0, locals := 70 })).room s m (([.ref a_ma, .int p1, .int p2, .int p3, .int p4, .int p5] : List Value).toArray) below meth c H locs 0 0 (MQ below (va_Qv (fun (_ : Unit) => True) (wB D A ([(a_la, .inr (2, [.int la_lanes, .int la_deep, .int la_lanesTold, la_who, la_firstStrong, .int la_beasts, la_kind, la_firstLane, la_mood, la_price, .int la_cities, .int la_passes, .ref a_la_passBetween, .int la_turned])), (a_la_passBetween, .inl (cy 1, 36, .inl la_passBetween)), (a_ma, .inr (3, [.ref a_la, .ref a_ma_walked, .ref a_ma_way, .int ma_cities', .int ma_come'])), (a_ma_walked, .inl (cy 1, 6, .inl ma_walked')), (a_ma_way, .inl (cy 1, 6, .inl ma_way'))] ++ X)) A) (([.ref a_ma, .int p1, .int p2, .int p3, .int p4, .int p5] : List Value).toArray) s 0 0 A) (F0 m 100 ls []) := by
              intro ma_cities_9 ma_come_10 ma_walked_11 ma_way_12 h H locs hP hD hS ls hl
              unfold f_X3_walk_B100 at h
              refine lv_iinc (v := x6_2 + 1) (lv' := [(6, .int (x6_2 + 1)), (0, .ref a_ma), (1, .int p1), (2, .int p2), (3, .int p3), (4, .int p4), (5, .int p5)]) hx hb dX3_walk_100 hl (k := 6) rfl (by first | rfl | decide) (by decide) rfl (fun ls hl => ?_)
              refine lv_goto (tgt := 34) hx hb dX3_walk_103 (by decide) ?_
              exact ih34 (x6_2 + 1) ma_cities_9 ma_come_10 ma_walked_11 ma_way_12 h _ _ hP hD hS _ (lv_sub hl [1, 2, 3, 4, 5, 6, 0] rfl)
            refine lv_icmp_eq (tgt := 100) hx hb dX3_walk_61 (by decide) (fun cd => ?_) (fun cd => ?_)
            · have h := ifT cd h
              exact jn100 ma_cities_3 ma_come_4 ma_walked_5 ma_way_6 h _ _ hP hD hS _ (lv_sub hl [1, 2, 3, 4, 5, 6, 7] rfl)
            · have h := ifF cd h
              refine lv_iload hx hb dX3_walk_64 (lv_at hl 6 rfl) ?_
              refine lv_iload hx hb dX3_walk_66 (lv_at hl 7 rfl) ?_
              refine lv_ishr hx hb dX3_walk_68 ?_
              refine lv_iconst (v := 1) hx hb dX3_walk_69 (by decide) ?_
              refine lv_iand hx hb dX3_walk_70 ?_
              refine lv_if_ne (tgt := 100) hx hb dX3_walk_71 (by decide) (fun cd => ?_) (fun cd => ?_)
              · have h := ifF cd h
                exact jn100 ma_cities_3 ma_come_4 ma_walked_5 ma_way_6 h _ _ hP hD hS _ (lv_sub hl [1, 2, 3, 4, 5, 6, 7] rfl)
              · have h := ifT cd h
                refine lv_aload_n hx hb dX3_walk_74 rfl (lv_at hl 1 rfl) ?_
                refine lv_iload hx hb dX3_walk_75 (lv_at hl 7 rfl) ?_
                refine lv_iload_n hx hb dX3_walk_77 rfl (lv_at hl 3 rfl) ?_
                refine lv_iload_n hx hb dX3_walk_78 rfl (lv_at hl 4 rfl) ?_
                refine lv_iload_n hx hb dX3_walk_79 rfl (lv_at hl 4 rfl) ?_
                refine lv_iload hx hb dX3_walk_80 (lv_at hl 0 rfl) ?_
                obtain ⟨r_13, hc_14, h⟩ := bd1_some h
                refine kSi [.int p3, .int r_7] [.int p3, .int p2, .int x6_2, .ref a_ma] ⟨hx, hb, hml, hown, hts⟩ (c_X3_lostOn l D cy p3 r_7 r_13 hc_14) gX3_walk_X3_lostOn rfl hd_X3_lostOn ⟨Nat.le_of_ble_eq_true rfl, Nat.le_of_ble_eq_true rfl⟩ rfl rfl hKN va_nil rfl hl.1 rfl (Nat.le_of_ble_eq_true rfl) dX3_walk_82 ⟨Nat.le_of_ble_eq_true rfl, Nat.le_of_ble_eq_true rfl⟩ ?_
                refine lv_isub hx hb dX3_walk_85 ?_
                refine lv_iload hx hb dX3_walk_86 (lv_at hl 5 rfl) ?_
                refine lv_iconst (v := 1) hx hb dX3_walk_88 (by decide) ?_
                refine lv_iadd hx hb dX3_walk_89 ?_
                refine lv_iload hx hb dX3_walk_90 (lv_at hl 6 rfl) ?_
                refine lv_iconst (v := 1) hx hb dX3_walk_92 (by decide) ?_
                refine lv_iload hx hb dX3_walk_93 (lv_at hl 7 rfl) ?_
                refine lv_ishl hx hb dX3_walk_95 ?_
                refine lv_ior hx hb dX3_walk_96 ?_
                obtain ⟨ma_cities_15, ma_come_16, ma_walked_17, ma_way_18, hc_19, h⟩ := bd4_some h
                refine wVv [.int x6_2, .int p2, .int (p3 - r_13), .int (p4 + 1), .int (p5 ||| ((1 : Int32) <<< (x6_2 &&& 31)))] [] ⟨hx, hb, hml, hown, hts⟩ (c_X3_walk_0 l D cy A X a_la a_la_passBetween a_ma a_ma_walked a_ma_way la_lanes la_deep la_lanesTold (la_who) (la_firstStrong) la_beasts (la_kind) (la_firstLane) (la_mood) (la_price) la_cities la_passes la_turned la_passBetween ma_cities_3 ma_come_4 ma_walked_5 ma_way_6 x6_2 p2 (p3 - r_13) (p4 + 1) (p5 ||| ((1 : Int32) <<< (x6_2 &&& 31))) ma_cities_15 ma_come_16 ma_walked_17 ma_way_18 hc_19) gX3_walk_X3_walk rfl hd_X3_walk ⟨Nat.le_of_ble_eq_true rfl, Nat.le_of_ble_eq_true rfl⟩ rfl rfl hKN hP hD hS hA 3 2 rfl rfl rfl hl.1 rfl (Nat.le_of_ble_eq_true rfl) dX3_walk_97 ⟨Nat.le_of_ble_eq_true rfl, Nat.le_of_ble_eq_true rfl⟩ (fun H locs hP hD hS => ?_)
                exact jn100 ma_cities_15 ma_come_16 ma_walked_17 ma_way_18 h _ _ hP hD hS _ (lv_sub hl [1, 2, 3, 4, 5, 6, 7] rfl)
      exact lp34 fuelN (0 : Int32) ma_cities ma_come (upd ma_walked p4.toNatClampNeg p1) ma_way h _ _ hP hD hS _ (lv_sub hl [1, 2, 3, 4, 5, 6, 0] rfl)
    · have h := ifT cd h
      refine lv_aload_n hx hb dX3_walk_21 rfl (lv_at hl 0 rfl) ?_
      refine lv_iload_n hx hb dX3_walk_22 rfl (lv_at hl 3 rfl) ?_
      refine lv_iload hx hb dX3_walk_23 (lv_at hl 4 rfl) ?_
      refine lv_iconst (v := 1) hx hb dX3_walk_25 (by decide) ?_
      refine lv_iadd hx hb dX3_walk_26 ?_
      have hP : va_P D vwCl ([(a_la, .inr (2, [.int la_lanes, .int la_deep, .int la_lanesTold, la_who, la_firstStrong, .int la_beasts, la_kind, la_firstLane, la_mood, la_price, .int la_cities, .int la_passes, .ref a_la_passBetween, .int la_turned])), (a_la_passBetween, .inl (cy 1, 36, .inl la_passBetween)), (a_ma, .inr (3, [.ref a_la, .ref a_ma_walked, .ref a_ma_way, .int ma_cities, .int ma_come])), (a_ma_walked, .inl (cy 1, 6, .inl (upd ma_walked p4.toNatClampNeg p1))), (a_ma_way, .inl (cy 1, 6, .inl ma_way))] ++ X) H := hP
      have hD : va_D A ([(a_la, .inr (2, [.int la_lanes, .int la_deep, .int la_lanesTold, la_who, la_firstStrong, .int la_beasts, la_kind, la_firstLane, la_mood, la_price, .int la_cities, .int la_passes, .ref a_la_passBetween, .int la_turned])), (a_la_passBetween, .inl (cy 1, 36, .inl la_passBetween)), (a_ma, .inr (3, [.ref a_la, .ref a_ma_walked, .ref a_ma_way, .int ma_cities, .int ma_come])), (a_ma_walked, .inl (cy 1, 6, .inl (upd ma_walked p4.toNatClampNeg p1))), (a_ma_way, .inl (cy 1, 6, .inl ma_way))] ++ X) := hD
      obtain ⟨ma_cities_20, ma_come_21, ma_way_22, hc_23, h⟩ := bd3_some h
      refine wVv [.int p3, .int (p4 + 1)] [] ⟨hx, hb, hml, hown, hts⟩ (c_X3_keepIfBetter l D cy A ([(a_la, .inr (2, [.int la_lanes, .int la_deep, .int la_lanesTold, la_who, la_firstStrong, .int la_beasts, la_kind, la_firstLane, la_mood, la_price, .int la_cities, .int la_passes, .ref a_la_passBetween, .int la_turned])), (a_la_passBetween, .inl (cy 1, 36, .inl la_passBetween))] ++ X) a_ma a_ma_walked a_ma_way (.ref a_la) ma_cities ma_come (upd ma_walked p4.toNatClampNeg p1) ma_way p3 (p4 + 1) ma_cities_20 ma_come_21 ma_way_22 hc_23) gX3_walk_X3_keepIfBetter rfl hd_X3_keepIfBetter ⟨Nat.le_of_ble_eq_true rfl, Nat.le_of_ble_eq_true rfl⟩ rfl rfl hKN (pX3 hP [2, 3, 4, 0, 1] rfl) (dX3 hD [2, 3, 4, 0, 1] rfl rfl) hS hA 3 0 rfl rfl rfl hl.1 rfl (Nat.le_of_ble_eq_true rfl) dX3_walk_27 ⟨Nat.le_of_ble_eq_true rfl, Nat.le_of_ble_eq_true rfl⟩ (fun H locs hP hD hS => ?_)
      have hP := pX4 (L1 := [(a_la, .inr (2, [.int la_lanes, .int la_deep, .int la_lanesTold, la_who, la_firstStrong, .int la_beasts, la_kind, la_firstLane, la_mood, la_price, .int la_cities, .int la_passes, .ref a_la_passBetween, .int la_turned])), (a_la_passBetween, .inl (cy 1, 36, .inl la_passBetween)), (a_ma, .inr (3, [.ref a_la, .ref a_ma_walked, .ref a_ma_way, .int ma_cities_20, .int ma_come_21])), (a_ma_walked, .inl (cy 1, 6, .inl (upd ma_walked p4.toNatClampNeg p1))), (a_ma_way, .inl (cy 1, 6, .inl ma_way_22))]) hP [3, 4, 0, 1, 2] rfl
      have hD := dX4 (L1 := [(a_la, .inr (2, [.int la_lanes, .int la_deep, .int la_lanesTold, la_who, la_firstStrong, .int la_beasts, la_kind, la_firstLane, la_mood, la_price, .int la_cities, .int la_passes, .ref a_la_passBetween, .int la_turned])), (a_la_passBetween, .inl (cy 1, 36, .inl la_passBetween)), (a_ma, .inr (3, [.ref a_la, .ref a_ma_walked, .ref a_ma_way, .int ma_cities_20, .int ma_come_21])), (a_ma_walked, .inl (cy 1, 6, .inl (upd ma_walked p4.toNatClampNeg p1))), (a_ma_way, .inl (cy 1, 6, .inl ma_way_22))]) hD [3, 4, 0, 1, 2] rfl rfl
      cases h
      exact W.vret hx hb hr (fun t ht _ => ⟨⟨(), rfl, trivial, by rw [ht]; exact hP, hD⟩, hS.F ht⟩) hS.2.2 dX3_walk_30
  · have h := ifF cd h
    cases h
    exact W.vret hx hb hr (fun t ht _ => ⟨⟨(), rfl, trivial, by rw [ht]; exact hP, hD⟩, hS.F ht⟩) hS.2.2 dX3_walk_7
set_option maxHeartbeats 4000000 in
set_option maxRecDepth 100000 in
theorem c_X3_walk_2 (l : Launch) (D : va_G) (cy : Nat → ClassId) (A : Nat → Prop) (X : va_W) (a_la a_la_passBetween a_ma a_ma_walked a_ma_way : Nat) (la_lanes : Int32) (la_deep : Int32) (la_lanesTold : Int32) (la_who : Value) (la_firstStrong : Value) (la_beasts : Int32) (la_kind : Value) (la_firstLane : Value) (la_mood : Value) (la_price : Value) (la_cities : Int32) (la_passes : Int32) (la_turned : Int32) (la_passBetween : Nat → Int32) (ma_cities : Int32) (ma_come : Int32) (ma_walked : Nat → Int32) (ma_way : Nat → Int32) (p1 : Int32) (p2 : Int32) (p3 : Int32) (p4 : Int32) (p5 : Int32) (ma_cities' : Int32) (ma_come' : Int32) (ma_walked' : Nat → Int32) (ma_way' : Nat → Int32) (h : f_X3_walk 2 la_cities la_passBetween ma_cities ma_come ma_walked ma_way p1 p2 p3 p4 p5 = some (ma_cities', ma_come', ma_walked', ma_way')) : Met l yX3_walk wo_X3_walk ({ frames := 4, cells := 0, slots := 0, locals := 97 }) (wrPc D cy A [.ref a_ma, .int p1, .int p2, .int p3, .int p4, .int p5] ([(a_la, .inr (2, [.int la_lanes, .int la_deep, .int la_lanesTold, la_who, la_firstStrong, .int la_beasts, la_kind, la_firstLane, la_mood, la_price, .int la_cities, .int la_passes, .ref a_la_passBetween, .int la_turned])), (a_la_passBetween, .inl (cy 1, 36, .inl la_passBetween)), (a_ma, .inr (3, [.ref a_la, .ref a_ma_walked, .ref a_ma_way, .int ma_cities, .int ma_come])), (a_ma_walked, .inl (cy 1, 6, .inl ma_walked)), (a_ma_way, .inl (cy 1, 6, .inl ma_way))] ++ X)) (va_Qv (fun (_ : Unit) => True) (wB D A ([(a_la, .inr (2, [.int la_lanes, .int la_deep, .int la_lanesTold, la_who, la_firstStrong, .int la_beasts, la_kind, la_firstLane, la_mood, la_price, .int la_cities, .int la_passes, .ref a_la_passBetween, .int la_turned])), (a_la_passBetween, .inl (cy 1, 36, .inl la_passBetween)), (a_ma, .inr (3, [.ref a_la, .ref a_ma_walked, .ref a_ma_way, .int ma_cities', .int ma_come'])), (a_ma_walked, .inl (cy 1, 6, .inl ma_walked')), (a_ma_way, .inl (cy 1, 6, .inl ma_way'))] ++ X)) A) 0 0 A := by
  refine Met.ofW (cc := cX3_walk) (maxL := 8) (ret := none) (by decide) rfl ?_
  intro p e s m args below meth c s₁ B hml hv
  obtain ⟨rfl, hP, hKN, hD, hA⟩ := hv
  have hK := hKN.1
  have hx := B.exec
  have hb := B.bytes
  have hr := B.returns
  have hts := wt_X3_walk hKN.2.2 (([.ref a_ma, .int p1, .int p2, .int p3, .int p4, .int p5] : List Value).toArray)
  have hown : s.vm.findClass RX3 = some m.cls := findClass_of_methodNamed B.named
  have hlocks := B.notSynchronized
  have hS : va_S A s.heap s.heap [] := va_S.rf
  have hX2 := wc_X2 hKN.2.2 (([.ref a_ma, .int p1, .int p2, .int p3, .int p4, .int p5] : List Value).toArray)
  have hX3 := wc_X3 hKN.2.2 (([.ref a_ma, .int p1, .int p2, .int p3, .int p4, .int p5] : List Value).toArray)
  have hl := lv_entry ([.ref a_ma, .int p1, .int p2, .int p3, .int p4, .int p5]) (n := 8) (Nat.le_of_ble_eq_true rfl)
  rw [lg_entry_eq]
  generalize (lg_sl ([.ref a_ma, .int p1, .int p2, .int p3, .int p4, .int p5]) ++ List.replicate (8 - (lg_sl ([.ref a_ma, .int p1, .int p2, .int p3, .int p4, .int p5])).length) Slot.unset).toArray = ls at hl ⊢
  have hl : lv_has ls 8 [(0, .ref a_ma), (1, .int p1), (2, .int p2), (3, .int p3), (4, .int p4), (5, .int p5)] := hl
  have h : f_X3_walk_r (f_X3_walk 1) la_cities la_passBetween ma_cities ma_come ma_walked ma_way p1 p2 p3 p4 p5 = some (ma_cities', ma_come', ma_walked', ma_way') := h
  unfold f_X3_walk_r at h
  refine lv_iload hx hb dX3_walk_0 (lv_at hl 4 rfl) ?_
  refine lv_bipush (v := 6) hx hb dX3_walk_2 (by decide) ?_
  refine lv_icmp_lt (tgt := 8) hx hb dX3_walk_4 (by decide) (fun cd => ?_) (fun cd => ?_)
  · have h := ifT cd h
    refine lv_aload_n hx hb dX3_walk_8 rfl (lv_at hl 0 rfl) ?_
    refine va_get (D := D) (ci := 3) (C := RX3) (T := TX3) (N := 5) (v := .ref a_ma_walked) hx hb hX3 (fun _ q => q) hown hK hP 2 rfl rfl 1 (by decide) (hts (.fieldLink RX3 9 "ElephantLine$Marching" "walked" "[I") (by decide +kernel)) (fun _ h9 => h9) rfl dX3_walk_9 ?_
    refine lv_iload hx hb dX3_walk_12 (lv_at hl 4 rfl) ?_
    refine lv_iload_n hx hb dX3_walk_14 rfl (lv_at hl 1 rfl) ?_
    obtain ⟨i_1, h⟩ := gIn_some h
    refine va_iast hx hb hK hP hD hS 3 1 rfl rfl i_1 dX3_walk_15 (fun H locs hP hD hS => ?_)
    refine lv_iload_n hx hb dX3_walk_16 rfl (lv_at hl 1 rfl) ?_
    refine lv_iload_n hx hb dX3_walk_17 rfl (lv_at hl 2 rfl) ?_
    refine lv_icmp_ne (tgt := 31) hx hb dX3_walk_18 (by decide) (fun cd => ?_) (fun cd => ?_)
    · have h := ifF cd h
      refine lv_iconst (v := 0) hx hb dX3_walk_31 (by decide) ?_
      refine lv_istore (lv' := [(6, .int 0), (0, .ref a_ma), (1, .int p1), (2, .int p2), (3, .int p3), (4, .int p4), (5, .int p5)]) hx hb dX3_walk_32 hl (by decide) rfl (fun ls hl => ?_)
      have lp34 : ∀ (n34 : Nat) (x6_2 : Int32) (ma_cities_3 : Int32) (ma_come_4 : Int32) (ma_walked_5 : Nat → Int32) (ma_way_6 : Nat → Int32), f_X3_walk_L34 (f_X3_walk 1) la_cities la_passBetween p1 p2 p3 p4 p5 n34 x6_2 ma_cities_3 ma_come_4 ma_walked_5 ma_way_6 = some (ma_cities', ma_come', ma_walked', ma_way') → ∀ (H : Heap) (locs : List Loc), va_P D vwCl ([(a_la, .inr (2, [.int la_lanes, .int la_deep, .int la_lanesTold, la_who, la_firstStrong, .int la_beasts, la_kind, la_firstLane, la_mood, la_price, .int la_cities, .int la_passes, .ref a_la_passBetween, .int la_turned])), (a_la_passBetween, .inl (cy 1, 36, .inl la_passBetween)), (a_ma, .inr (3, [.ref a_la, .ref a_ma_walked, .ref a_ma_way, .int ma_cities_3, .int ma_come_4])), (a_ma_walked, .inl (cy 1, 6, .inl ma_walked_5)), (a_ma_way, .inl (cy 1, 6, .inl ma_way_6))] ++ X) H → va_D A ([(a_la, .inr (2, [.int la_lanes, .int la_deep, .int la_lanesTold, la_who, la_firstStrong, .int la_beasts, la_kind, la_firstLane, la_mood, la_price, .int la_cities, .int la_passes, .ref a_la_passBetween, .int la_turned])), (a_la_passBetween, .inl (cy 1, 36, .inl la_passBetween)), (a_ma, .inr (3, [.ref a_la, .ref a_ma_walked, .ref a_ma_way, .int ma_cities_3, .int ma_come_4])), (a_ma_walked, .inl (cy 1, 6, .inl ma_walked_5)), (a_ma_way, .inl (cy 1, 6, .inl ma_way_6))] ++ X) → va_S A s.heap H locs → ∀ ls : Array Slot, lv_has ls 8 [(0, .ref a_ma), (1, .int p1), (2, .int p2), (3, .int p3), (4, .int p4), (5, .int p5), (6, .int x6_2)] → W p l e (headSpec wo_X3_walk ({ frames := 4, cells := 0, slots := 0, locals := 97 })).room s m (([.ref a_ma, .int p1, .int p2, .int p3, .int p4, .int p5] : List Value).toArray) below meth c H locs 0 0 (MQ below (va_Qv (fun (_ : Unit) => True) (wB D A ([(a_la, .inr (2, [.int la_lanes, .int la_deep, .int la_lanesTold, la_who, la_firstStrong, .int la_beasts, la_kind, la_firstLane, la_mood, la_price, .int la_cities, .int la_passes, .ref a_la_passBetween, .int la_turned])), (a_la_passBetween, .inl (cy 1, 36, .inl la_passBetween)), (a_ma, .inr (3, [.ref a_la, .ref a_ma_walked, .ref a_ma_way, .int ma_cities', .int ma_come'])), (a_ma_walked, .inl (cy 1, 6, .inl ma_walked')), (a_ma_way, .inl (cy 1, 6, .inl ma_way'))] ++ X)) A) (([.ref a_ma, .int p1, .int p2, .int p3, .int p4, .int p5] : List Value).toArray) s 0 0 A) (F0 m 34 ls []) := by
        intro n34
        induction n34 with
        | zero => intro x6_2 ma_cities_3 ma_come_4 ma_walked_5 ma_way_6 h; exact absurd (show (none : Option (Int32 × Int32 × (Nat → Int32) × (Nat → Int32))) = some _ from h) (by intro q; cases q)
        | succ n34 ih34 =>
          intro x6_2 ma_cities_3 ma_come_4 ma_walked_5 ma_way_6 h H locs hP hD hS ls hl
          have h : f_X3_walk_b34 (f_X3_walk 1) la_cities la_passBetween p1 p2 p3 p4 p5 (f_X3_walk_L34 (f_X3_walk 1) la_cities la_passBetween p1 p2 p3 p4 p5 n34) x6_2 ma_cities_3 ma_come_4 ma_walked_5 ma_way_6 = some (ma_cities', ma_come', ma_walked', ma_way') := h
          unfold f_X3_walk_b34 at h
          refine lv_iload hx hb dX3_walk_34 (lv_at hl 6 rfl) ?_
          refine lv_aload_n hx hb dX3_walk_36 rfl (lv_at hl 0 rfl) ?_
          refine va_get (D := D) (ci := 3) (C := RX3) (T := TX3) (N := 5) (v := .ref a_la) hx hb hX3 (fun _ q => q) hown hK hP 2 rfl rfl 0 (by decide) (hts (.fieldLink RX3 18 "ElephantLine$Marching" "land" "LElephantLine$Land;") (by decide +kernel)) (fun _ h9 => h9) rfl dX3_walk_37 ?_
          refine va_getN (D := D) (ci := 2) (C := RX2) (T := TX2) (N := 14) (v := .int la_cities) hx hb hX2 (fun _ q => q) hown hK hP 0 rfl rfl 10 (by decide) (va_Nw.use rfl (hKN.2.1.1 ("ElephantLine$Marching", 37, "ElephantLine$Land", "cities", "I", "ElephantLine") (List.mem_of_getElem? (i := 29) rfl))) (fun _ h9 => h9) rfl dX3_walk_40 ?_
          refine lv_icmp_ge (tgt := 106) hx hb dX3_walk_43 (by decide) (fun cd => ?_) (fun cd => ?_)
          · have h := ifT cd h
            cases h
            exact W.vret hx hb hr (fun t ht _ => ⟨⟨(), rfl, trivial, by rw [ht]; exact hP, hD⟩, hS.F ht⟩) hS.2.2 dX3_walk_106
          · have h := ifF cd h
            refine lv_aload_n hx hb dX3_walk_46 rfl (lv_at hl 0 rfl) ?_
            refine va_get (D := D) (ci := 3) (C := RX3) (T := TX3) (N := 5) (v := .ref a_la) hx hb hX3 (fun _ q => q) hown hK hP 2 rfl rfl 0 (by decide) (hts (.fieldLink RX3 18 "ElephantLine$Marching" "land" "LElephantLine$Land;") (by decide +kernel)) (fun _ h9 => h9) rfl dX3_walk_47 ?_
            refine lv_iload_n hx hb dX3_walk_50 rfl (lv_at hl 1 rfl) ?_
            refine lv_iload hx hb dX3_walk_51 (lv_at hl 6 rfl) ?_
            obtain ⟨r_7, hc_8, h⟩ := bd1_some h
            refine kVi [.int p1, .int x6_2] [] ⟨hx, hb, hml, hown, hts⟩ (c_X2_lossBetween l D cy a_la a_la_passBetween la_lanes la_deep la_lanesTold (la_who) (la_firstStrong) la_beasts (la_kind) (la_firstLane) (la_mood) (la_price) la_cities la_passes la_turned la_passBetween p1 x6_2 r_7 hc_8) gX3_walk_X2_lossBetween rfl hd_X2_lossBetween ⟨Nat.le_of_ble_eq_true rfl, Nat.le_of_ble_eq_true rfl⟩ rfl rfl hKN (pXc hP [0, 1] rfl) 2 0 rfl rfl rfl hl.1 rfl (Nat.le_of_ble_eq_true rfl) dX3_walk_53 ⟨Nat.le_of_ble_eq_true rfl, Nat.le_of_ble_eq_true rfl⟩ ?_
            refine lv_istore (lv' := [(7, .int r_7), (0, .ref a_ma), (1, .int p1), (2, .int p2), (3, .int p3), (4, .int p4), (5, .int p5), (6, .int x6_2)]) hx hb dX3_walk_56 hl (by decide) rfl (fun ls hl => ?_)
            refine lv_iload hx hb dX3_walk_58 (lv_at hl 0 rfl) ?_
            refine lv_iconst (v := (-1)) hx hb dX3_walk_60 (by decide) ?_
            have jn100 : ∀ (ma_cities_9 : Int32) (ma_come_10 : Int32) (ma_walked_11 : Nat → Int32) (ma_way_12 : Nat → Int32), f_X3_walk_B100 (f_X3_walk_L34 (f_X3_walk 1) la_cities la_passBetween p1 p2 p3 p4 p5 n34) (f_X3_walk 1) la_cities la_passBetween p1 p2 p3 p4 p5 x6_2 ma_cities_9 ma_come_10 ma_walked_11 ma_way_12 = some (ma_cities', ma_come', ma_walked', ma_way') → ∀ (H : Heap) (locs : List Loc), va_P D vwCl ([(a_la, .inr (2, [.int la_lanes, .int la_deep, .int la_lanesTold, la_who, la_firstStrong, .int la_beasts, la_kind, la_firstLane, la_mood, la_price, .int la_cities, .int la_passes, .ref a_la_passBetween, .int la_turned])), (a_la_passBetween, .inl (cy 1, 36, .inl la_passBetween)), (a_ma, .inr (3, [.ref a_la, .ref a_ma_walked, .ref a_ma_way, .int ma_cities_9, .int ma_come_10])), (a_ma_walked, .inl (cy 1, 6, .inl ma_walked_11)), (a_ma_way, .inl (cy 1, 6, .inl ma_way_12))] ++ X) H → va_D A ([(a_la, .inr (2, [.int la_lanes, .int la_deep, .int la_lanesTold, la_who, la_firstStrong, .int la_beasts, la_kind, la_firstLane, la_mood, la_price, .int la_cities, .int la_passes, .ref a_la_passBetween, .int la_turned])), (a_la_passBetween, .inl (cy 1, 36, .inl la_passBetween)), (a_ma, .inr (3, [.ref a_la, .ref a_ma_walked, .ref a_ma_way, .int ma_cities_9, .int ma_come_10])), (a_ma_walked, .inl (cy 1, 6, .inl ma_walked_11)), (a_ma_way, .inl (cy 1, 6, .inl ma_way_12))] ++ X) → va_S A s.heap H locs → ∀ ls : Array Slot, lv_has ls 8 [(0, .ref a_ma), (1, .int p1), (2, .int p2), (3, .int p3), (4, .int p4), (5, .int p5), (6, .int x6_2)] → W p l e (headSpec wo_X3_walk ({ frames := 4, cells := 0, slots := 0, locals := 97 })).room s m (([.ref a_ma, .int p1, .int p2, .int p3, .int p4, .int p5] : List Value).toArray) below meth c H locs 0 0 (MQ below (va_Qv (fun (_ : Unit) => True) (wB D A ([(a_la, .inr (2, [.int la_lanes, .int la_deep, .int la_lanesTold, la_who, la_firstStrong, .int la_beasts, la_kind, la_firstLane, la_mood, la_price, .int la_cities, .int la_passes, .ref a_la_passBetween, .int la_turned])), (a_la_passBetween, .inl (cy 1, 36, .inl la_passBetween)), (a_ma, .inr (3, [.ref a_la, .ref a_ma_walked, .ref a_ma_way, .int ma_cities', .int ma_come'])), (a_ma_walked, .inl (cy 1, 6, .inl ma_walked')), (a_ma_way, .inl (cy 1, 6, .inl ma_way'))] ++ X)) A) (([.ref a_ma, .int p1, .int p2, .int p3, .int p4, .int p5] : List Value).toArray) s 0 0 A) (F0 m 100 ls []) := by
              intro ma_cities_9 ma_come_10 ma_walked_11 ma_way_12 h H locs hP hD hS ls hl
              unfold f_X3_walk_B100 at h
              refine lv_iinc (v := x6_2 + 1) (lv' := [(6, .int (x6_2 + 1)), (0, .ref a_ma), (1, .int p1), (2, .int p2), (3, .int p3), (4, .int p4), (5, .int p5)]) hx hb dX3_walk_100 hl (k := 6) rfl (by first | rfl | decide) (by decide) rfl (fun ls hl => ?_)
              refine lv_goto (tgt := 34) hx hb dX3_walk_103 (by decide) ?_
              exact ih34 (x6_2 + 1) ma_cities_9 ma_come_10 ma_walked_11 ma_way_12 h _ _ hP hD hS _ (lv_sub hl [1, 2, 3, 4, 5, 6, 0] rfl)
            refine lv_icmp_eq (tgt := 100) hx hb dX3_walk_61 (by decide) (fun cd => ?_) (fun cd => ?_)
            · have h := ifT cd h
              exact jn100 ma_cities_3 ma_come_4 ma_walked_5 ma_way_6 h _ _ hP hD hS _ (lv_sub hl [1, 2, 3, 4, 5, 6, 7] rfl)
            · have h := ifF cd h
              refine lv_iload hx hb dX3_walk_64 (lv_at hl 6 rfl) ?_
              refine lv_iload hx hb dX3_walk_66 (lv_at hl 7 rfl) ?_
              refine lv_ishr hx hb dX3_walk_68 ?_
              refine lv_iconst (v := 1) hx hb dX3_walk_69 (by decide) ?_
              refine lv_iand hx hb dX3_walk_70 ?_
              refine lv_if_ne (tgt := 100) hx hb dX3_walk_71 (by decide) (fun cd => ?_) (fun cd => ?_)
              · have h := ifF cd h
                exact jn100 ma_cities_3 ma_come_4 ma_walked_5 ma_way_6 h _ _ hP hD hS _ (lv_sub hl [1, 2, 3, 4, 5, 6, 7] rfl)
              · have h := ifT cd h
                refine lv_aload_n hx hb dX3_walk_74 rfl (lv_at hl 1 rfl) ?_
                refine lv_iload hx hb dX3_walk_75 (lv_at hl 7 rfl) ?_
                refine lv_iload_n hx hb dX3_walk_77 rfl (lv_at hl 3 rfl) ?_
                refine lv_iload_n hx hb dX3_walk_78 rfl (lv_at hl 4 rfl) ?_
                refine lv_iload_n hx hb dX3_walk_79 rfl (lv_at hl 4 rfl) ?_
                refine lv_iload hx hb dX3_walk_80 (lv_at hl 0 rfl) ?_
                obtain ⟨r_13, hc_14, h⟩ := bd1_some h
                refine kSi [.int p3, .int r_7] [.int p3, .int p2, .int x6_2, .ref a_ma] ⟨hx, hb, hml, hown, hts⟩ (c_X3_lostOn l D cy p3 r_7 r_13 hc_14) gX3_walk_X3_lostOn rfl hd_X3_lostOn ⟨Nat.le_of_ble_eq_true rfl, Nat.le_of_ble_eq_true rfl⟩ rfl rfl hKN va_nil rfl hl.1 rfl (Nat.le_of_ble_eq_true rfl) dX3_walk_82 ⟨Nat.le_of_ble_eq_true rfl, Nat.le_of_ble_eq_true rfl⟩ ?_
                refine lv_isub hx hb dX3_walk_85 ?_
                refine lv_iload hx hb dX3_walk_86 (lv_at hl 5 rfl) ?_
                refine lv_iconst (v := 1) hx hb dX3_walk_88 (by decide) ?_
                refine lv_iadd hx hb dX3_walk_89 ?_
                refine lv_iload hx hb dX3_walk_90 (lv_at hl 6 rfl) ?_
                refine lv_iconst (v := 1) hx hb dX3_walk_92 (by decide) ?_
                refine lv_iload hx hb dX3_walk_93 (lv_at hl 7 rfl) ?_
                refine lv_ishl hx hb dX3_walk_95 ?_
                refine lv_ior hx hb dX3_walk_96 ?_
                obtain ⟨ma_cities_15, ma_come_16, ma_walked_17, ma_way_18, hc_19, h⟩ := bd4_some h
                refine wVv [.int x6_2, .int p2, .int (p3 - r_13), .int (p4 + 1), .int (p5 ||| ((1 : Int32) <<< (x6_2 &&& 31)))] [] ⟨hx, hb, hml, hown, hts⟩ (c_X3_walk_1 l D cy A X a_la a_la_passBetween a_ma a_ma_walked a_ma_way la_lanes la_deep la_lanesTold (la_who) (la_firstStrong) la_beasts (la_kind) (la_firstLane) (la_mood) (la_price) la_cities la_passes la_turned la_passBetween ma_cities_3 ma_come_4 ma_walked_5 ma_way_6 x6_2 p2 (p3 - r_13) (p4 + 1) (p5 ||| ((1 : Int32) <<< (x6_2 &&& 31))) ma_cities_15 ma_come_16 ma_walked_17 ma_way_18 hc_19) gX3_walk_X3_walk rfl hd_X3_walk ⟨Nat.le_of_ble_eq_true rfl, Nat.le_of_ble_eq_true rfl⟩ rfl rfl hKN hP hD hS hA 3 2 rfl rfl rfl hl.1 rfl (Nat.le_of_ble_eq_true rfl) dX3_walk_97 ⟨Nat.le_of_ble_eq_true rfl, Nat.le_of_ble_eq_true rfl⟩ (fun H locs hP hD hS => ?_)
                exact jn100 ma_cities_15 ma_come_16 ma_walked_17 ma_way_18 h _ _ hP hD hS _ (lv_sub hl [1, 2, 3, 4, 5, 6, 7] rfl)
      exact lp34 fuelN (0 : Int32) ma_cities ma_come (upd ma_walked p4.toNatClampNeg p1) ma_way h _ _ hP hD hS _ (lv_sub hl [1, 2, 3, 4, 5, 6, 0] rfl)
    · have h := ifT cd h
      refine lv_aload_n hx hb dX3_walk_21 rfl (lv_at hl 0 rfl) ?_
      refine lv_iload_n hx hb dX3_walk_22 rfl (lv_at hl 3 rfl) ?_
      refine lv_iload hx hb dX3_walk_23 (lv_at hl 4 rfl) ?_
      refine lv_iconst (v := 1) hx hb dX3_walk_25 (by decide) ?_
      refine lv_iadd hx hb dX3_walk_26 ?_
      have hP : va_P D vwCl ([(a_la, .inr (2, [.int la_lanes, .int la_deep, .int la_lanesTold, la_who, la_firstStrong, .int la_beasts, la_kind, la_firstLane, la_mood, la_price, .int la_cities, .int la_passes, .ref a_la_passBetween, .int la_turned])), (a_la_passBetween, .inl (cy 1, 36, .inl la_passBetween)), (a_ma, .inr (3, [.ref a_la, .ref a_ma_walked, .ref a_ma_way, .int ma_cities, .int ma_come])), (a_ma_walked, .inl (cy 1, 6, .inl (upd ma_walked p4.toNatClampNeg p1))), (a_ma_way, .inl (cy 1, 6, .inl ma_way))] ++ X) H := hP
      have hD : va_D A ([(a_la, .inr (2, [.int la_lanes, .int la_deep, .int la_lanesTold, la_who, la_firstStrong, .int la_beasts, la_kind, la_firstLane, la_mood, la_price, .int la_cities, .int la_passes, .ref a_la_passBetween, .int la_turned])), (a_la_passBetween, .inl (cy 1, 36, .inl la_passBetween)), (a_ma, .inr (3, [.ref a_la, .ref a_ma_walked, .ref a_ma_way, .int ma_cities, .int ma_come])), (a_ma_walked, .inl (cy 1, 6, .inl (upd ma_walked p4.toNatClampNeg p1))), (a_ma_way, .inl (cy 1, 6, .inl ma_way))] ++ X) := hD
      obtain ⟨ma_cities_20, ma_come_21, ma_way_22, hc_23, h⟩ := bd3_some h
      refine wVv [.int p3, .int (p4 + 1)] [] ⟨hx, hb, hml, hown, hts⟩ (c_X3_keepIfBetter l D cy A ([(a_la, .inr (2, [.int la_lanes, .int la_deep, .int la_lanesTold, la_who, la_firstStrong, .int la_beasts, la_kind, la_firstLane, la_mood, la_price, .int la_cities, .int la_passes, .ref a_la_passBetween, .int la_turned])), (a_la_passBetween, .inl (cy 1, 36, .inl la_passBetween))] ++ X) a_ma a_ma_walked a_ma_way (.ref a_la) ma_cities ma_come (upd ma_walked p4.toNatClampNeg p1) ma_way p3 (p4 + 1) ma_cities_20 ma_come_21 ma_way_22 hc_23) gX3_walk_X3_keepIfBetter rfl hd_X3_keepIfBetter ⟨Nat.le_of_ble_eq_true rfl, Nat.le_of_ble_eq_true rfl⟩ rfl rfl hKN (pX3 hP [2, 3, 4, 0, 1] rfl) (dX3 hD [2, 3, 4, 0, 1] rfl rfl) hS hA 3 0 rfl rfl rfl hl.1 rfl (Nat.le_of_ble_eq_true rfl) dX3_walk_27 ⟨Nat.le_of_ble_eq_true rfl, Nat.le_of_ble_eq_true rfl⟩ (fun H locs hP hD hS => ?_)
      have hP := pX4 (L1 := [(a_la, .inr (2, [.int la_lanes, .int la_deep, .int la_lanesTold, la_who, la_firstStrong, .int la_beasts, la_kind, la_firstLane, la_mood, la_price, .int la_cities, .int la_passes, .ref a_la_passBetween, .int la_turned])), (a_la_passBetween, .inl (cy 1, 36, .inl la_passBetween)), (a_ma, .inr (3, [.ref a_la, .ref a_ma_walked, .ref a_ma_way, .int ma_cities_20, .int ma_come_21])), (a_ma_walked, .inl (cy 1, 6, .inl (upd ma_walked p4.toNatClampNeg p1))), (a_ma_way, .inl (cy 1, 6, .inl ma_way_22))]) hP [3, 4, 0, 1, 2] rfl
      have hD := dX4 (L1 := [(a_la, .inr (2, [.int la_lanes, .int la_deep, .int la_lanesTold, la_who, la_firstStrong, .int la_beasts, la_kind, la_firstLane, la_mood, la_price, .int la_cities, .int la_passes, .ref a_la_passBetween, .int la_turned])), (a_la_passBetween, .inl (cy 1, 36, .inl la_passBetween)), (a_ma, .inr (3, [.ref a_la, .ref a_ma_walked, .ref a_ma_way, .int ma_cities_20, .int ma_come_21])), (a_ma_walked, .inl (cy 1, 6, .inl (upd ma_walked p4.toNatClampNeg p1))), (a_ma_way, .inl (cy 1, 6, .inl ma_way_22))]) hD [3, 4, 0, 1, 2] rfl rfl
      cases h
      exact W.vret hx hb hr (fun t ht _ => ⟨⟨(), rfl, trivial, by rw [ht]; exact hP, hD⟩, hS.F ht⟩) hS.2.2 dX3_walk_30
  · have h := ifF cd h
    cases h
    exact W.vret hx hb hr (fun t ht _ => ⟨⟨(), rfl, trivial, by rw [ht]; exact hP, hD⟩, hS.F ht⟩) hS.2.2 dX3_walk_7
set_option maxHeartbeats 4000000 in
set_option maxRecDepth 100000 in
theorem c_X3_walk_3 (l : Launch) (D : va_G) (cy : Nat → ClassId) (A : Nat → Prop) (X : va_W) (a_la a_la_passBetween a_ma a_ma_walked a_ma_way : Nat) (la_lanes : Int32) (la_deep : Int32) (la_lanesTold : Int32) (la_who : Value) (la_firstStrong : Value) (la_beasts : Int32) (la_kind : Value) (la_firstLane : Value) (la_mood : Value) (la_price : Value) (la_cities : Int32) (la_passes : Int32) (la_turned : Int32) (la_passBetween : Nat → Int32) (ma_cities : Int32) (ma_come : Int32) (ma_walked : Nat → Int32) (ma_way : Nat → Int32) (p1 : Int32) (p2 : Int32) (p3 : Int32) (p4 : Int32) (p5 : Int32) (ma_cities' : Int32) (ma_come' : Int32) (ma_walked' : Nat → Int32) (ma_way' : Nat → Int32) (h : f_X3_walk 3 la_cities la_passBetween ma_cities ma_come ma_walked ma_way p1 p2 p3 p4 p5 = some (ma_cities', ma_come', ma_walked', ma_way')) : Met l yX3_walk wo_X3_walk ({ frames := 5, cells := 0, slots := 0, locals := 124 }) (wrPc D cy A [.ref a_ma, .int p1, .int p2, .int p3, .int p4, .int p5] ([(a_la, .inr (2, [.int la_lanes, .int la_deep, .int la_lanesTold, la_who, la_firstStrong, .int la_beasts, la_kind, la_firstLane, la_mood, la_price, .int la_cities, .int la_passes, .ref a_la_passBetween, .int la_turned])), (a_la_passBetween, .inl (cy 1, 36, .inl la_passBetween)), (a_ma, .inr (3, [.ref a_la, .ref a_ma_walked, .ref a_ma_way, .int ma_cities, .int ma_come])), (a_ma_walked, .inl (cy 1, 6, .inl ma_walked)), (a_ma_way, .inl (cy 1, 6, .inl ma_way))] ++ X)) (va_Qv (fun (_ : Unit) => True) (wB D A ([(a_la, .inr (2, [.int la_lanes, .int la_deep, .int la_lanesTold, la_who, la_firstStrong, .int la_beasts, la_kind, la_firstLane, la_mood, la_price, .int la_cities, .int la_passes, .ref a_la_passBetween, .int la_turned])), (a_la_passBetween, .inl (cy 1, 36, .inl la_passBetween)), (a_ma, .inr (3, [.ref a_la, .ref a_ma_walked, .ref a_ma_way, .int ma_cities', .int ma_come'])), (a_ma_walked, .inl (cy 1, 6, .inl ma_walked')), (a_ma_way, .inl (cy 1, 6, .inl ma_way'))] ++ X)) A) 0 0 A := by
  refine Met.ofW (cc := cX3_walk) (maxL := 8) (ret := none) (by decide) rfl ?_
  intro p e s m args below meth c s₁ B hml hv
  obtain ⟨rfl, hP, hKN, hD, hA⟩ := hv
  have hK := hKN.1
  have hx := B.exec
  have hb := B.bytes
  have hr := B.returns
  have hts := wt_X3_walk hKN.2.2 (([.ref a_ma, .int p1, .int p2, .int p3, .int p4, .int p5] : List Value).toArray)
  have hown : s.vm.findClass RX3 = some m.cls := findClass_of_methodNamed B.named
  have hlocks := B.notSynchronized
  have hS : va_S A s.heap s.heap [] := va_S.rf
  have hX2 := wc_X2 hKN.2.2 (([.ref a_ma, .int p1, .int p2, .int p3, .int p4, .int p5] : List Value).toArray)
  have hX3 := wc_X3 hKN.2.2 (([.ref a_ma, .int p1, .int p2, .int p3, .int p4, .int p5] : List Value).toArray)
  have hl := lv_entry ([.ref a_ma, .int p1, .int p2, .int p3, .int p4, .int p5]) (n := 8) (Nat.le_of_ble_eq_true rfl)
  rw [lg_entry_eq]
  generalize (lg_sl ([.ref a_ma, .int p1, .int p2, .int p3, .int p4, .int p5]) ++ List.replicate (8 - (lg_sl ([.ref a_ma, .int p1, .int p2, .int p3, .int p4, .int p5])).length) Slot.unset).toArray = ls at hl ⊢
  have hl : lv_has ls 8 [(0, .ref a_ma), (1, .int p1), (2, .int p2), (3, .int p3), (4, .int p4), (5, .int p5)] := hl
  have h : f_X3_walk_r (f_X3_walk 2) la_cities la_passBetween ma_cities ma_come ma_walked ma_way p1 p2 p3 p4 p5 = some (ma_cities', ma_come', ma_walked', ma_way') := h
  unfold f_X3_walk_r at h
  refine lv_iload hx hb dX3_walk_0 (lv_at hl 4 rfl) ?_
  refine lv_bipush (v := 6) hx hb dX3_walk_2 (by decide) ?_
  refine lv_icmp_lt (tgt := 8) hx hb dX3_walk_4 (by decide) (fun cd => ?_) (fun cd => ?_)
  · have h := ifT cd h
    refine lv_aload_n hx hb dX3_walk_8 rfl (lv_at hl 0 rfl) ?_
    refine va_get (D := D) (ci := 3) (C := RX3) (T := TX3) (N := 5) (v := .ref a_ma_walked) hx hb hX3 (fun _ q => q) hown hK hP 2 rfl rfl 1 (by decide) (hts (.fieldLink RX3 9 "ElephantLine$Marching" "walked" "[I") (by decide +kernel)) (fun _ h9 => h9) rfl dX3_walk_9 ?_
    refine lv_iload hx hb dX3_walk_12 (lv_at hl 4 rfl) ?_
    refine lv_iload_n hx hb dX3_walk_14 rfl (lv_at hl 1 rfl) ?_
    obtain ⟨i_1, h⟩ := gIn_some h
    refine va_iast hx hb hK hP hD hS 3 1 rfl rfl i_1 dX3_walk_15 (fun H locs hP hD hS => ?_)
    refine lv_iload_n hx hb dX3_walk_16 rfl (lv_at hl 1 rfl) ?_
    refine lv_iload_n hx hb dX3_walk_17 rfl (lv_at hl 2 rfl) ?_
    refine lv_icmp_ne (tgt := 31) hx hb dX3_walk_18 (by decide) (fun cd => ?_) (fun cd => ?_)
    · have h := ifF cd h
      refine lv_iconst (v := 0) hx hb dX3_walk_31 (by decide) ?_
      refine lv_istore (lv' := [(6, .int 0), (0, .ref a_ma), (1, .int p1), (2, .int p2), (3, .int p3), (4, .int p4), (5, .int p5)]) hx hb dX3_walk_32 hl (by decide) rfl (fun ls hl => ?_)
      have lp34 : ∀ (n34 : Nat) (x6_2 : Int32) (ma_cities_3 : Int32) (ma_come_4 : Int32) (ma_walked_5 : Nat → Int32) (ma_way_6 : Nat → Int32), f_X3_walk_L34 (f_X3_walk 2) la_cities la_passBetween p1 p2 p3 p4 p5 n34 x6_2 ma_cities_3 ma_come_4 ma_walked_5 ma_way_6 = some (ma_cities', ma_come', ma_walked', ma_way') → ∀ (H : Heap) (locs : List Loc), va_P D vwCl ([(a_la, .inr (2, [.int la_lanes, .int la_deep, .int la_lanesTold, la_who, la_firstStrong, .int la_beasts, la_kind, la_firstLane, la_mood, la_price, .int la_cities, .int la_passes, .ref a_la_passBetween, .int la_turned])), (a_la_passBetween, .inl (cy 1, 36, .inl la_passBetween)), (a_ma, .inr (3, [.ref a_la, .ref a_ma_walked, .ref a_ma_way, .int ma_cities_3, .int ma_come_4])), (a_ma_walked, .inl (cy 1, 6, .inl ma_walked_5)), (a_ma_way, .inl (cy 1, 6, .inl ma_way_6))] ++ X) H → va_D A ([(a_la, .inr (2, [.int la_lanes, .int la_deep, .int la_lanesTold, la_who, la_firstStrong, .int la_beasts, la_kind, la_firstLane, la_mood, la_price, .int la_cities, .int la_passes, .ref a_la_passBetween, .int la_turned])), (a_la_passBetween, .inl (cy 1, 36, .inl la_passBetween)), (a_ma, .inr (3, [.ref a_la, .ref a_ma_walked, .ref a_ma_way, .int ma_cities_3, .int ma_come_4])), (a_ma_walked, .inl (cy 1, 6, .inl ma_walked_5)), (a_ma_way, .inl (cy 1, 6, .inl ma_way_6))] ++ X) → va_S A s.heap H locs → ∀ ls : Array Slot, lv_has ls 8 [(0, .ref a_ma), (1, .int p1), (2, .int p2), (3, .int p3), (4, .int p4), (5, .int p5), (6, .int x6_2)] → W p l e (headSpec wo_X3_walk ({ frames := 5, cells := 0, slots := 0, locals := 124 })).room s m (([.ref a_ma, .int p1, .int p2, .int p3, .int p4, .int p5] : List Value).toArray) below meth c H locs 0 0 (MQ below (va_Qv (fun (_ : Unit) => True) (wB D A ([(a_la, .inr (2, [.int la_lanes, .int la_deep, .int la_lanesTold, la_who, la_firstStrong, .int la_beasts, la_kind, la_firstLane, la_mood, la_price, .int la_cities, .int la_passes, .ref a_la_passBetween, .int la_turned])), (a_la_passBetween, .inl (cy 1, 36, .inl la_passBetween)), (a_ma, .inr (3, [.ref a_la, .ref a_ma_walked, .ref a_ma_way, .int ma_cities', .int ma_come'])), (a_ma_walked, .inl (cy 1, 6, .inl ma_walked')), (a_ma_way, .inl (cy 1, 6, .inl ma_way'))] ++ X)) A) (([.ref a_ma, .int p1, .int p2, .int p3, .int p4, .int p5] : List Value).toArray) s 0 0 A) (F0 m 34 ls []) := by
        intro n34
        induction n34 with
        | zero => intro x6_2 ma_cities_3 ma_come_4 ma_walked_5 ma_way_6 h; exact absurd (show (none : Option (Int32 × Int32 × (Nat → Int32) × (Nat → Int32))) = some _ from h) (by intro q; cases q)
        | succ n34 ih34 =>
          intro x6_2 ma_cities_3 ma_come_4 ma_walked_5 ma_way_6 h H locs hP hD hS ls hl
          have h : f_X3_walk_b34 (f_X3_walk 2) la_cities la_passBetween p1 p2 p3 p4 p5 (f_X3_walk_L34 (f_X3_walk 2) la_cities la_passBetween p1 p2 p3 p4 p5 n34) x6_2 ma_cities_3 ma_come_4 ma_walked_5 ma_way_6 = some (ma_cities', ma_come', ma_walked', ma_way') := h
          unfold f_X3_walk_b34 at h
          refine lv_iload hx hb dX3_walk_34 (lv_at hl 6 rfl) ?_
          refine lv_aload_n hx hb dX3_walk_36 rfl (lv_at hl 0 rfl) ?_
          refine va_get (D := D) (ci := 3) (C := RX3) (T := TX3) (N := 5) (v := .ref a_la) hx hb hX3 (fun _ q => q) hown hK hP 2 rfl rfl 0 (by decide) (hts (.fieldLink RX3 18 "ElephantLine$Marching" "land" "LElephantLine$Land;") (by decide +kernel)) (fun _ h9 => h9) rfl dX3_walk_37 ?_
          refine va_getN (D := D) (ci := 2) (C := RX2) (T := TX2) (N := 14) (v := .int la_cities) hx hb hX2 (fun _ q => q) hown hK hP 0 rfl rfl 10 (by decide) (va_Nw.use rfl (hKN.2.1.1 ("ElephantLine$Marching", 37, "ElephantLine$Land", "cities", "I", "ElephantLine") (List.mem_of_getElem? (i := 29) rfl))) (fun _ h9 => h9) rfl dX3_walk_40 ?_
          refine lv_icmp_ge (tgt := 106) hx hb dX3_walk_43 (by decide) (fun cd => ?_) (fun cd => ?_)
          · have h := ifT cd h
            cases h
            exact W.vret hx hb hr (fun t ht _ => ⟨⟨(), rfl, trivial, by rw [ht]; exact hP, hD⟩, hS.F ht⟩) hS.2.2 dX3_walk_106
          · have h := ifF cd h
            refine lv_aload_n hx hb dX3_walk_46 rfl (lv_at hl 0 rfl) ?_
            refine va_get (D := D) (ci := 3) (C := RX3) (T := TX3) (N := 5) (v := .ref a_la) hx hb hX3 (fun _ q => q) hown hK hP 2 rfl rfl 0 (by decide) (hts (.fieldLink RX3 18 "ElephantLine$Marching" "land" "LElephantLine$Land;") (by decide +kernel)) (fun _ h9 => h9) rfl dX3_walk_47 ?_
            refine lv_iload_n hx hb dX3_walk_50 rfl (lv_at hl 1 rfl) ?_
            refine lv_iload hx hb dX3_walk_51 (lv_at hl 6 rfl) ?_
            obtain ⟨r_7, hc_8, h⟩ := bd1_some h
            refine kVi [.int p1, .int x6_2] [] ⟨hx, hb, hml, hown, hts⟩ (c_X2_lossBetween l D cy a_la a_la_passBetween la_lanes la_deep la_lanesTold (la_who) (la_firstStrong) la_beasts (la_kind) (la_firstLane) (la_mood) (la_price) la_cities la_passes la_turned la_passBetween p1 x6_2 r_7 hc_8) gX3_walk_X2_lossBetween rfl hd_X2_lossBetween ⟨Nat.le_of_ble_eq_true rfl, Nat.le_of_ble_eq_true rfl⟩ rfl rfl hKN (pXc hP [0, 1] rfl) 2 0 rfl rfl rfl hl.1 rfl (Nat.le_of_ble_eq_true rfl) dX3_walk_53 ⟨Nat.le_of_ble_eq_true rfl, Nat.le_of_ble_eq_true rfl⟩ ?_
            refine lv_istore (lv' := [(7, .int r_7), (0, .ref a_ma), (1, .int p1), (2, .int p2), (3, .int p3), (4, .int p4), (5, .int p5), (6, .int x6_2)]) hx hb dX3_walk_56 hl (by decide) rfl (fun ls hl => ?_)
            refine lv_iload hx hb dX3_walk_58 (lv_at hl 0 rfl) ?_
            refine lv_iconst (v := (-1)) hx hb dX3_walk_60 (by decide) ?_
            have jn100 : ∀ (ma_cities_9 : Int32) (ma_come_10 : Int32) (ma_walked_11 : Nat → Int32) (ma_way_12 : Nat → Int32), f_X3_walk_B100 (f_X3_walk_L34 (f_X3_walk 2) la_cities la_passBetween p1 p2 p3 p4 p5 n34) (f_X3_walk 2) la_cities la_passBetween p1 p2 p3 p4 p5 x6_2 ma_cities_9 ma_come_10 ma_walked_11 ma_way_12 = some (ma_cities', ma_come', ma_walked', ma_way') → ∀ (H : Heap) (locs : List Loc), va_P D vwCl ([(a_la, .inr (2, [.int la_lanes, .int la_deep, .int la_lanesTold, la_who, la_firstStrong, .int la_beasts, la_kind, la_firstLane, la_mood, la_price, .int la_cities, .int la_passes, .ref a_la_passBetween, .int la_turned])), (a_la_passBetween, .inl (cy 1, 36, .inl la_passBetween)), (a_ma, .inr (3, [.ref a_la, .ref a_ma_walked, .ref a_ma_way, .int ma_cities_9, .int ma_come_10])), (a_ma_walked, .inl (cy 1, 6, .inl ma_walked_11)), (a_ma_way, .inl (cy 1, 6, .inl ma_way_12))] ++ X) H → va_D A ([(a_la, .inr (2, [.int la_lanes, .int la_deep, .int la_lanesTold, la_who, la_firstStrong, .int la_beasts, la_kind, la_firstLane, la_mood, la_price, .int la_cities, .int la_passes, .ref a_la_passBetween, .int la_turned])), (a_la_passBetween, .inl (cy 1, 36, .inl la_passBetween)), (a_ma, .inr (3, [.ref a_la, .ref a_ma_walked, .ref a_ma_way, .int ma_cities_9, .int ma_come_10])), (a_ma_walked, .inl (cy 1, 6, .inl ma_walked_11)), (a_ma_way, .inl (cy 1, 6, .inl ma_way_12))] ++ X) → va_S A s.heap H locs → ∀ ls : Array Slot, lv_has ls 8 [(0, .ref a_ma), (1, .int p1), (2, .int p2), (3, .int p3), (4, .int p4), (5, .int p5), (6, .int x6_2)] → W p l e (headSpec wo_X3_walk ({ frames := 5, cells := 0, slots := 0, locals := 124 })).room s m (([.ref a_ma, .int p1, .int p2, .int p3, .int p4, .int p5] : List Value).toArray) below meth c H locs 0 0 (MQ below (va_Qv (fun (_ : Unit) => True) (wB D A ([(a_la, .inr (2, [.int la_lanes, .int la_deep, .int la_lanesTold, la_who, la_firstStrong, .int la_beasts, la_kind, la_firstLane, la_mood, la_price, .int la_cities, .int la_passes, .ref a_la_passBetween, .int la_turned])), (a_la_passBetween, .inl (cy 1, 36, .inl la_passBetween)), (a_ma, .inr (3, [.ref a_la, .ref a_ma_walked, .ref a_ma_way, .int ma_cities', .int ma_come'])), (a_ma_walked, .inl (cy 1, 6, .inl ma_walked')), (a_ma_way, .inl (cy 1, 6, .inl ma_way'))] ++ X)) A) (([.ref a_ma, .int p1, .int p2, .int p3, .int p4, .int p5] : List Value).toArray) s 0 0 A) (F0 m 100 ls []) := by
              intro ma_cities_9 ma_come_10 ma_walked_11 ma_way_12 h H locs hP hD hS ls hl
              unfold f_X3_walk_B100 at h
              refine lv_iinc (v := x6_2 + 1) (lv' := [(6, .int (x6_2 + 1)), (0, .ref a_ma), (1, .int p1), (2, .int p2), (3, .int p3), (4, .int p4), (5, .int p5)]) hx hb dX3_walk_100 hl (k := 6) rfl (by first | rfl | decide) (by decide) rfl (fun ls hl => ?_)
              refine lv_goto (tgt := 34) hx hb dX3_walk_103 (by decide) ?_
              exact ih34 (x6_2 + 1) ma_cities_9 ma_come_10 ma_walked_11 ma_way_12 h _ _ hP hD hS _ (lv_sub hl [1, 2, 3, 4, 5, 6, 0] rfl)
            refine lv_icmp_eq (tgt := 100) hx hb dX3_walk_61 (by decide) (fun cd => ?_) (fun cd => ?_)
            · have h := ifT cd h
              exact jn100 ma_cities_3 ma_come_4 ma_walked_5 ma_way_6 h _ _ hP hD hS _ (lv_sub hl [1, 2, 3, 4, 5, 6, 7] rfl)
            · have h := ifF cd h
              refine lv_iload hx hb dX3_walk_64 (lv_at hl 6 rfl) ?_
              refine lv_iload hx hb dX3_walk_66 (lv_at hl 7 rfl) ?_
              refine lv_ishr hx hb dX3_walk_68 ?_
              refine lv_iconst (v := 1) hx hb dX3_walk_69 (by decide) ?_
              refine lv_iand hx hb dX3_walk_70 ?_
              refine lv_if_ne (tgt := 100) hx hb dX3_walk_71 (by decide) (fun cd => ?_) (fun cd => ?_)
              · have h := ifF cd h
                exact jn100 ma_cities_3 ma_come_4 ma_walked_5 ma_way_6 h _ _ hP hD hS _ (lv_sub hl [1, 2, 3, 4, 5, 6, 7] rfl)
              · have h := ifT cd h
                refine lv_aload_n hx hb dX3_walk_74 rfl (lv_at hl 1 rfl) ?_
                refine lv_iload hx hb dX3_walk_75 (lv_at hl 7 rfl) ?_
                refine lv_iload_n hx hb dX3_walk_77 rfl (lv_at hl 3 rfl) ?_
                refine lv_iload_n hx hb dX3_walk_78 rfl (lv_at hl 4 rfl) ?_
                refine lv_iload_n hx hb dX3_walk_79 rfl (lv_at hl 4 rfl) ?_
                refine lv_iload hx hb dX3_walk_80 (lv_at hl 0 rfl) ?_
                obtain ⟨r_13, hc_14, h⟩ := bd1_some h
                refine kSi [.int p3, .int r_7] [.int p3, .int p2, .int x6_2, .ref a_ma] ⟨hx, hb, hml, hown, hts⟩ (c_X3_lostOn l D cy p3 r_7 r_13 hc_14) gX3_walk_X3_lostOn rfl hd_X3_lostOn ⟨Nat.le_of_ble_eq_true rfl, Nat.le_of_ble_eq_true rfl⟩ rfl rfl hKN va_nil rfl hl.1 rfl (Nat.le_of_ble_eq_true rfl) dX3_walk_82 ⟨Nat.le_of_ble_eq_true rfl, Nat.le_of_ble_eq_true rfl⟩ ?_
                refine lv_isub hx hb dX3_walk_85 ?_
                refine lv_iload hx hb dX3_walk_86 (lv_at hl 5 rfl) ?_
                refine lv_iconst (v := 1) hx hb dX3_walk_88 (by decide) ?_
                refine lv_iadd hx hb dX3_walk_89 ?_
                refine lv_iload hx hb dX3_walk_90 (lv_at hl 6 rfl) ?_
                refine lv_iconst (v := 1) hx hb dX3_walk_92 (by decide) ?_
                refine lv_iload hx hb dX3_walk_93 (lv_at hl 7 rfl) ?_
                refine lv_ishl hx hb dX3_walk_95 ?_
                refine lv_ior hx hb dX3_walk_96 ?_
                obtain ⟨ma_cities_15, ma_come_16, ma_walked_17, ma_way_18, hc_19, h⟩ := bd4_some h
                refine wVv [.int x6_2, .int p2, .int (p3 - r_13), .int (p4 + 1), .int (p5 ||| ((1 : Int32) <<< (x6_2 &&& 31)))] [] ⟨hx, hb, hml, hown, hts⟩ (c_X3_walk_2 l D cy A X a_la a_la_passBetween a_ma a_ma_walked a_ma_way la_lanes la_deep la_lanesTold (la_who) (la_firstStrong) la_beasts (la_kind) (la_firstLane) (la_mood) (la_price) la_cities la_passes la_turned la_passBetween ma_cities_3 ma_come_4 ma_walked_5 ma_way_6 x6_2 p2 (p3 - r_13) (p4 + 1) (p5 ||| ((1 : Int32) <<< (x6_2 &&& 31))) ma_cities_15 ma_come_16 ma_walked_17 ma_way_18 hc_19) gX3_walk_X3_walk rfl hd_X3_walk ⟨Nat.le_of_ble_eq_true rfl, Nat.le_of_ble_eq_true rfl⟩ rfl rfl hKN hP hD hS hA 3 2 rfl rfl rfl hl.1 rfl (Nat.le_of_ble_eq_true rfl) dX3_walk_97 ⟨Nat.le_of_ble_eq_true rfl, Nat.le_of_ble_eq_true rfl⟩ (fun H locs hP hD hS => ?_)
                exact jn100 ma_cities_15 ma_come_16 ma_walked_17 ma_way_18 h _ _ hP hD hS _ (lv_sub hl [1, 2, 3, 4, 5, 6, 7] rfl)
      exact lp34 fuelN (0 : Int32) ma_cities ma_come (upd ma_walked p4.toNatClampNeg p1) ma_way h _ _ hP hD hS _ (lv_sub hl [1, 2, 3, 4, 5, 6, 0] rfl)
    · have h := ifT cd h
      refine lv_aload_n hx hb dX3_walk_21 rfl (lv_at hl 0 rfl) ?_
      refine lv_iload_n hx hb dX3_walk_22 rfl (lv_at hl 3 rfl) ?_
      refine lv_iload hx hb dX3_walk_23 (lv_at hl 4 rfl) ?_
      refine lv_iconst (v := 1) hx hb dX3_walk_25 (by decide) ?_
      refine lv_iadd hx hb dX3_walk_26 ?_
      have hP : va_P D vwCl ([(a_la, .inr (2, [.int la_lanes, .int la_deep, .int la_lanesTold, la_who, la_firstStrong, .int la_beasts, la_kind, la_firstLane, la_mood, la_price, .int la_cities, .int la_passes, .ref a_la_passBetween, .int la_turned])), (a_la_passBetween, .inl (cy 1, 36, .inl la_passBetween)), (a_ma, .inr (3, [.ref a_la, .ref a_ma_walked, .ref a_ma_way, .int ma_cities, .int ma_come])), (a_ma_walked, .inl (cy 1, 6, .inl (upd ma_walked p4.toNatClampNeg p1))), (a_ma_way, .inl (cy 1, 6, .inl ma_way))] ++ X) H := hP
      have hD : va_D A ([(a_la, .inr (2, [.int la_lanes, .int la_deep, .int la_lanesTold, la_who, la_firstStrong, .int la_beasts, la_kind, la_firstLane, la_mood, la_price, .int la_cities, .int la_passes, .ref a_la_passBetween, .int la_turned])), (a_la_passBetween, .inl (cy 1, 36, .inl la_passBetween)), (a_ma, .inr (3, [.ref a_la, .ref a_ma_walked, .ref a_ma_way, .int ma_cities, .int ma_come])), (a_ma_walked, .inl (cy 1, 6, .inl (upd ma_walked p4.toNatClampNeg p1))), (a_ma_way, .inl (cy 1, 6, .inl ma_way))] ++ X) := hD
      obtain ⟨ma_cities_20, ma_come_21, ma_way_22, hc_23, h⟩ := bd3_some h
      refine wVv [.int p3, .int (p4 + 1)] [] ⟨hx, hb, hml, hown, hts⟩ (c_X3_keepIfBetter l D cy A ([(a_la, .inr (2, [.int la_lanes, .int la_deep, .int la_lanesTold, la_who, la_firstStrong, .int la_beasts, la_kind, la_firstLane, la_mood, la_price, .int la_cities, .int la_passes, .ref a_la_passBetween, .int la_turned])), (a_la_passBetween, .inl (cy 1, 36, .inl la_passBetween))] ++ X) a_ma a_ma_walked a_ma_way (.ref a_la) ma_cities ma_come (upd ma_walked p4.toNatClampNeg p1) ma_way p3 (p4 + 1) ma_cities_20 ma_come_21 ma_way_22 hc_23) gX3_walk_X3_keepIfBetter rfl hd_X3_keepIfBetter ⟨Nat.le_of_ble_eq_true rfl, Nat.le_of_ble_eq_true rfl⟩ rfl rfl hKN (pX3 hP [2, 3, 4, 0, 1] rfl) (dX3 hD [2, 3, 4, 0, 1] rfl rfl) hS hA 3 0 rfl rfl rfl hl.1 rfl (Nat.le_of_ble_eq_true rfl) dX3_walk_27 ⟨Nat.le_of_ble_eq_true rfl, Nat.le_of_ble_eq_true rfl⟩ (fun H locs hP hD hS => ?_)
      have hP := pX4 (L1 := [(a_la, .inr (2, [.int la_lanes, .int la_deep, .int la_lanesTold, la_who, la_firstStrong, .int la_beasts, la_kind, la_firstLane, la_mood, la_price, .int la_cities, .int la_passes, .ref a_la_passBetween, .int la_turned])), (a_la_passBetween, .inl (cy 1, 36, .inl la_passBetween)), (a_ma, .inr (3, [.ref a_la, .ref a_ma_walked, .ref a_ma_way, .int ma_cities_20, .int ma_come_21])), (a_ma_walked, .inl (cy 1, 6, .inl (upd ma_walked p4.toNatClampNeg p1))), (a_ma_way, .inl (cy 1, 6, .inl ma_way_22))]) hP [3, 4, 0, 1, 2] rfl
      have hD := dX4 (L1 := [(a_la, .inr (2, [.int la_lanes, .int la_deep, .int la_lanesTold, la_who, la_firstStrong, .int la_beasts, la_kind, la_firstLane, la_mood, la_price, .int la_cities, .int la_passes, .ref a_la_passBetween, .int la_turned])), (a_la_passBetween, .inl (cy 1, 36, .inl la_passBetween)), (a_ma, .inr (3, [.ref a_la, .ref a_ma_walked, .ref a_ma_way, .int ma_cities_20, .int ma_come_21])), (a_ma_walked, .inl (cy 1, 6, .inl (upd ma_walked p4.toNatClampNeg p1))), (a_ma_way, .inl (cy 1, 6, .inl ma_way_22))]) hD [3, 4, 0, 1, 2] rfl rfl
      cases h
      exact W.vret hx hb hr (fun t ht _ => ⟨⟨(), rfl, trivial, by rw [ht]; exact hP, hD⟩, hS.F ht⟩) hS.2.2 dX3_walk_30
  · have h := ifF cd h
    cases h
    exact W.vret hx hb hr (fun t ht _ => ⟨⟨(), rfl, trivial, by rw [ht]; exact hP, hD⟩, hS.F ht⟩) hS.2.2 dX3_walk_7
set_option maxHeartbeats 4000000 in
set_option maxRecDepth 100000 in
theorem c_X3_walk_4 (l : Launch) (D : va_G) (cy : Nat → ClassId) (A : Nat → Prop) (X : va_W) (a_la a_la_passBetween a_ma a_ma_walked a_ma_way : Nat) (la_lanes : Int32) (la_deep : Int32) (la_lanesTold : Int32) (la_who : Value) (la_firstStrong : Value) (la_beasts : Int32) (la_kind : Value) (la_firstLane : Value) (la_mood : Value) (la_price : Value) (la_cities : Int32) (la_passes : Int32) (la_turned : Int32) (la_passBetween : Nat → Int32) (ma_cities : Int32) (ma_come : Int32) (ma_walked : Nat → Int32) (ma_way : Nat → Int32) (p1 : Int32) (p2 : Int32) (p3 : Int32) (p4 : Int32) (p5 : Int32) (ma_cities' : Int32) (ma_come' : Int32) (ma_walked' : Nat → Int32) (ma_way' : Nat → Int32) (h : f_X3_walk 4 la_cities la_passBetween ma_cities ma_come ma_walked ma_way p1 p2 p3 p4 p5 = some (ma_cities', ma_come', ma_walked', ma_way')) : Met l yX3_walk wo_X3_walk ({ frames := 6, cells := 0, slots := 0, locals := 151 }) (wrPc D cy A [.ref a_ma, .int p1, .int p2, .int p3, .int p4, .int p5] ([(a_la, .inr (2, [.int la_lanes, .int la_deep, .int la_lanesTold, la_who, la_firstStrong, .int la_beasts, la_kind, la_firstLane, la_mood, la_price, .int la_cities, .int la_passes, .ref a_la_passBetween, .int la_turned])), (a_la_passBetween, .inl (cy 1, 36, .inl la_passBetween)), (a_ma, .inr (3, [.ref a_la, .ref a_ma_walked, .ref a_ma_way, .int ma_cities, .int ma_come])), (a_ma_walked, .inl (cy 1, 6, .inl ma_walked)), (a_ma_way, .inl (cy 1, 6, .inl ma_way))] ++ X)) (va_Qv (fun (_ : Unit) => True) (wB D A ([(a_la, .inr (2, [.int la_lanes, .int la_deep, .int la_lanesTold, la_who, la_firstStrong, .int la_beasts, la_kind, la_firstLane, la_mood, la_price, .int la_cities, .int la_passes, .ref a_la_passBetween, .int la_turned])), (a_la_passBetween, .inl (cy 1, 36, .inl la_passBetween)), (a_ma, .inr (3, [.ref a_la, .ref a_ma_walked, .ref a_ma_way, .int ma_cities', .int ma_come'])), (a_ma_walked, .inl (cy 1, 6, .inl ma_walked')), (a_ma_way, .inl (cy 1, 6, .inl ma_way'))] ++ X)) A) 0 0 A := by
  refine Met.ofW (cc := cX3_walk) (maxL := 8) (ret := none) (by decide) rfl ?_
  intro p e s m args below meth c s₁ B hml hv
  obtain ⟨rfl, hP, hKN, hD, hA⟩ := hv
  have hK := hKN.1
  have hx := B.exec
  have hb := B.bytes
  have hr := B.returns
  have hts := wt_X3_walk hKN.2.2 (([.ref a_ma, .int p1, .int p2, .int p3, .int p4, .int p5] : List Value).toArray)
  have hown : s.vm.findClass RX3 = some m.cls := findClass_of_methodNamed B.named
  have hlocks := B.notSynchronized
  have hS : va_S A s.heap s.heap [] := va_S.rf
  have hX2 := wc_X2 hKN.2.2 (([.ref a_ma, .int p1, .int p2, .int p3, .int p4, .int p5] : List Value).toArray)
  have hX3 := wc_X3 hKN.2.2 (([.ref a_ma, .int p1, .int p2, .int p3, .int p4, .int p5] : List Value).toArray)
  have hl := lv_entry ([.ref a_ma, .int p1, .int p2, .int p3, .int p4, .int p5]) (n := 8) (Nat.le_of_ble_eq_true rfl)
  rw [lg_entry_eq]
  generalize (lg_sl ([.ref a_ma, .int p1, .int p2, .int p3, .int p4, .int p5]) ++ List.replicate (8 - (lg_sl ([.ref a_ma, .int p1, .int p2, .int p3, .int p4, .int p5])).length) Slot.unset).toArray = ls at hl ⊢
  have hl : lv_has ls 8 [(0, .ref a_ma), (1, .int p1), (2, .int p2), (3, .int p3), (4, .int p4), (5, .int p5)] := hl
  have h : f_X3_walk_r (f_X3_walk 3) la_cities la_passBetween ma_cities ma_come ma_walked ma_way p1 p2 p3 p4 p5 = some (ma_cities', ma_come', ma_walked', ma_way') := h
  unfold f_X3_walk_r at h
  refine lv_iload hx hb dX3_walk_0 (lv_at hl 4 rfl) ?_
  refine lv_bipush (v := 6) hx hb dX3_walk_2 (by decide) ?_
  refine lv_icmp_lt (tgt := 8) hx hb dX3_walk_4 (by decide) (fun cd => ?_) (fun cd => ?_)
  · have h := ifT cd h
    refine lv_aload_n hx hb dX3_walk_8 rfl (lv_at hl 0 rfl) ?_
    refine va_get (D := D) (ci := 3) (C := RX3) (T := TX3) (N := 5) (v := .ref a_ma_walked) hx hb hX3 (fun _ q => q) hown hK hP 2 rfl rfl 1 (by decide) (hts (.fieldLink RX3 9 "ElephantLine$Marching" "walked" "[I") (by decide +kernel)) (fun _ h9 => h9) rfl dX3_walk_9 ?_
    refine lv_iload hx hb dX3_walk_12 (lv_at hl 4 rfl) ?_
    refine lv_iload_n hx hb dX3_walk_14 rfl (lv_at hl 1 rfl) ?_
    obtain ⟨i_1, h⟩ := gIn_some h
    refine va_iast hx hb hK hP hD hS 3 1 rfl rfl i_1 dX3_walk_15 (fun H locs hP hD hS => ?_)
    refine lv_iload_n hx hb dX3_walk_16 rfl (lv_at hl 1 rfl) ?_
    refine lv_iload_n hx hb dX3_walk_17 rfl (lv_at hl 2 rfl) ?_
    refine lv_icmp_ne (tgt := 31) hx hb dX3_walk_18 (by decide) (fun cd => ?_) (fun cd => ?_)
    · have h := ifF cd h
      refine lv_iconst (v := 0) hx hb dX3_walk_31 (by decide) ?_
      refine lv_istore (lv' := [(6, .int 0), (0, .ref a_ma), (1, .int p1), (2, .int p2), (3, .int p3), (4, .int p4), (5, .int p5)]) hx hb dX3_walk_32 hl (by decide) rfl (fun ls hl => ?_)
      have lp34 : ∀ (n34 : Nat) (x6_2 : Int32) (ma_cities_3 : Int32) (ma_come_4 : Int32) (ma_walked_5 : Nat → Int32) (ma_way_6 : Nat → Int32), f_X3_walk_L34 (f_X3_walk 3) la_cities la_passBetween p1 p2 p3 p4 p5 n34 x6_2 ma_cities_3 ma_come_4 ma_walked_5 ma_way_6 = some (ma_cities', ma_come', ma_walked', ma_way') → ∀ (H : Heap) (locs : List Loc), va_P D vwCl ([(a_la, .inr (2, [.int la_lanes, .int la_deep, .int la_lanesTold, la_who, la_firstStrong, .int la_beasts, la_kind, la_firstLane, la_mood, la_price, .int la_cities, .int la_passes, .ref a_la_passBetween, .int la_turned])), (a_la_passBetween, .inl (cy 1, 36, .inl la_passBetween)), (a_ma, .inr (3, [.ref a_la, .ref a_ma_walked, .ref a_ma_way, .int ma_cities_3, .int ma_come_4])), (a_ma_walked, .inl (cy 1, 6, .inl ma_walked_5)), (a_ma_way, .inl (cy 1, 6, .inl ma_way_6))] ++ X) H → va_D A ([(a_la, .inr (2, [.int la_lanes, .int la_deep, .int la_lanesTold, la_who, la_firstStrong, .int la_beasts, la_kind, la_firstLane, la_mood, la_price, .int la_cities, .int la_passes, .ref a_la_passBetween, .int la_turned])), (a_la_passBetween, .inl (cy 1, 36, .inl la_passBetween)), (a_ma, .inr (3, [.ref a_la, .ref a_ma_walked, .ref a_ma_way, .int ma_cities_3, .int ma_come_4])), (a_ma_walked, .inl (cy 1, 6, .inl ma_walked_5)), (a_ma_way, .inl (cy 1, 6, .inl ma_way_6))] ++ X) → va_S A s.heap H locs → ∀ ls : Array Slot, lv_has ls 8 [(0, .ref a_ma), (1, .int p1), (2, .int p2), (3, .int p3), (4, .int p4), (5, .int p5), (6, .int x6_2)] → W p l e (headSpec wo_X3_walk ({ frames := 6, cells := 0, slots := 0, locals := 151 })).room s m (([.ref a_ma, .int p1, .int p2, .int p3, .int p4, .int p5] : List Value).toArray) below meth c H locs 0 0 (MQ below (va_Qv (fun (_ : Unit) => True) (wB D A ([(a_la, .inr (2, [.int la_lanes, .int la_deep, .int la_lanesTold, la_who, la_firstStrong, .int la_beasts, la_kind, la_firstLane, la_mood, la_price, .int la_cities, .int la_passes, .ref a_la_passBetween, .int la_turned])), (a_la_passBetween, .inl (cy 1, 36, .inl la_passBetween)), (a_ma, .inr (3, [.ref a_la, .ref a_ma_walked, .ref a_ma_way, .int ma_cities', .int ma_come'])), (a_ma_walked, .inl (cy 1, 6, .inl ma_walked')), (a_ma_way, .inl (cy 1, 6, .inl ma_way'))] ++ X)) A) (([.ref a_ma, .int p1, .int p2, .int p3, .int p4, .int p5] : List Value).toArray) s 0 0 A) (F0 m 34 ls []) := by
        intro n34
        induction n34 with
        | zero => intro x6_2 ma_cities_3 ma_come_4 ma_walked_5 ma_way_6 h; exact absurd (show (none : Option (Int32 × Int32 × (Nat → Int32) × (Nat → Int32))) = some _ from h) (by intro q; cases q)
        | succ n34 ih34 =>
          intro x6_2 ma_cities_3 ma_come_4 ma_walked_5 ma_way_6 h H locs hP hD hS ls hl
          have h : f_X3_walk_b34 (f_X3_walk 3) la_cities la_passBetween p1 p2 p3 p4 p5 (f_X3_walk_L34 (f_X3_walk 3) la_cities la_passBetween p1 p2 p3 p4 p5 n34) x6_2 ma_cities_3 ma_come_4 ma_walked_5 ma_way_6 = some (ma_cities', ma_come', ma_walked', ma_way') := h
          unfold f_X3_walk_b34 at h
          refine lv_iload hx hb dX3_walk_34 (lv_at hl 6 rfl) ?_
          refine lv_aload_n hx hb dX3_walk_36 rfl (lv_at hl 0 rfl) ?_
          refine va_get (D := D) (ci := 3) (C := RX3) (T := TX3) (N := 5) (v := .ref a_la) hx hb hX3 (fun _ q => q) hown hK hP 2 rfl rfl 0 (by decide) (hts (.fieldLink RX3 18 "ElephantLine$Marching" "land" "LElephantLine$Land;") (by decide +kernel)) (fun _ h9 => h9) rfl dX3_walk_37 ?_
          refine va_getN (D := D) (ci := 2) (C := RX2) (T := TX2) (N := 14) (v := .int la_cities) hx hb hX2 (fun _ q => q) hown hK hP 0 rfl rfl 10 (by decide) (va_Nw.use rfl (hKN.2.1.1 ("ElephantLine$Marching", 37, "ElephantLine$Land", "cities", "I", "ElephantLine") (List.mem_of_getElem? (i := 29) rfl))) (fun _ h9 => h9) rfl dX3_walk_40 ?_
          refine lv_icmp_ge (tgt := 106) hx hb dX3_walk_43 (by decide) (fun cd => ?_) (fun cd => ?_)
          · have h := ifT cd h
            cases h
            exact W.vret hx hb hr (fun t ht _ => ⟨⟨(), rfl, trivial, by rw [ht]; exact hP, hD⟩, hS.F ht⟩) hS.2.2 dX3_walk_106
          · have h := ifF cd h
            refine lv_aload_n hx hb dX3_walk_46 rfl (lv_at hl 0 rfl) ?_
            refine va_get (D := D) (ci := 3) (C := RX3) (T := TX3) (N := 5) (v := .ref a_la) hx hb hX3 (fun _ q => q) hown hK hP 2 rfl rfl 0 (by decide) (hts (.fieldLink RX3 18 "ElephantLine$Marching" "land" "LElephantLine$Land;") (by decide +kernel)) (fun _ h9 => h9) rfl dX3_walk_47 ?_
            refine lv_iload_n hx hb dX3_walk_50 rfl (lv_at hl 1 rfl) ?_
            refine lv_iload hx hb dX3_walk_51 (lv_at hl 6 rfl) ?_
            obtain ⟨r_7, hc_8, h⟩ := bd1_some h
            refine kVi [.int p1, .int x6_2] [] ⟨hx, hb, hml, hown, hts⟩ (c_X2_lossBetween l D cy a_la a_la_passBetween la_lanes la_deep la_lanesTold (la_who) (la_firstStrong) la_beasts (la_kind) (la_firstLane) (la_mood) (la_price) la_cities la_passes la_turned la_passBetween p1 x6_2 r_7 hc_8) gX3_walk_X2_lossBetween rfl hd_X2_lossBetween ⟨Nat.le_of_ble_eq_true rfl, Nat.le_of_ble_eq_true rfl⟩ rfl rfl hKN (pXc hP [0, 1] rfl) 2 0 rfl rfl rfl hl.1 rfl (Nat.le_of_ble_eq_true rfl) dX3_walk_53 ⟨Nat.le_of_ble_eq_true rfl, Nat.le_of_ble_eq_true rfl⟩ ?_
            refine lv_istore (lv' := [(7, .int r_7), (0, .ref a_ma), (1, .int p1), (2, .int p2), (3, .int p3), (4, .int p4), (5, .int p5), (6, .int x6_2)]) hx hb dX3_walk_56 hl (by decide) rfl (fun ls hl => ?_)
            refine lv_iload hx hb dX3_walk_58 (lv_at hl 0 rfl) ?_
            refine lv_iconst (v := (-1)) hx hb dX3_walk_60 (by decide) ?_
            have jn100 : ∀ (ma_cities_9 : Int32) (ma_come_10 : Int32) (ma_walked_11 : Nat → Int32) (ma_way_12 : Nat → Int32), f_X3_walk_B100 (f_X3_walk_L34 (f_X3_walk 3) la_cities la_passBetween p1 p2 p3 p4 p5 n34) (f_X3_walk 3) la_cities la_passBetween p1 p2 p3 p4 p5 x6_2 ma_cities_9 ma_come_10 ma_walked_11 ma_way_12 = some (ma_cities', ma_come', ma_walked', ma_way') → ∀ (H : Heap) (locs : List Loc), va_P D vwCl ([(a_la, .inr (2, [.int la_lanes, .int la_deep, .int la_lanesTold, la_who, la_firstStrong, .int la_beasts, la_kind, la_firstLane, la_mood, la_price, .int la_cities, .int la_passes, .ref a_la_passBetween, .int la_turned])), (a_la_passBetween, .inl (cy 1, 36, .inl la_passBetween)), (a_ma, .inr (3, [.ref a_la, .ref a_ma_walked, .ref a_ma_way, .int ma_cities_9, .int ma_come_10])), (a_ma_walked, .inl (cy 1, 6, .inl ma_walked_11)), (a_ma_way, .inl (cy 1, 6, .inl ma_way_12))] ++ X) H → va_D A ([(a_la, .inr (2, [.int la_lanes, .int la_deep, .int la_lanesTold, la_who, la_firstStrong, .int la_beasts, la_kind, la_firstLane, la_mood, la_price, .int la_cities, .int la_passes, .ref a_la_passBetween, .int la_turned])), (a_la_passBetween, .inl (cy 1, 36, .inl la_passBetween)), (a_ma, .inr (3, [.ref a_la, .ref a_ma_walked, .ref a_ma_way, .int ma_cities_9, .int ma_come_10])), (a_ma_walked, .inl (cy 1, 6, .inl ma_walked_11)), (a_ma_way, .inl (cy 1, 6, .inl ma_way_12))] ++ X) → va_S A s.heap H locs → ∀ ls : Array Slot, lv_has ls 8 [(0, .ref a_ma), (1, .int p1), (2, .int p2), (3, .int p3), (4, .int p4), (5, .int p5), (6, .int x6_2)] → W p l e (headSpec wo_X3_walk ({ frames := 6, cells := 0, slots := 0, locals := 151 })).room s m (([.ref a_ma, .int p1, .int p2, .int p3, .int p4, .int p5] : List Value).toArray) below meth c H locs 0 0 (MQ below (va_Qv (fun (_ : Unit) => True) (wB D A ([(a_la, .inr (2, [.int la_lanes, .int la_deep, .int la_lanesTold, la_who, la_firstStrong, .int la_beasts, la_kind, la_firstLane, la_mood, la_price, .int la_cities, .int la_passes, .ref a_la_passBetween, .int la_turned])), (a_la_passBetween, .inl (cy 1, 36, .inl la_passBetween)), (a_ma, .inr (3, [.ref a_la, .ref a_ma_walked, .ref a_ma_way, .int ma_cities', .int ma_come'])), (a_ma_walked, .inl (cy 1, 6, .inl ma_walked')), (a_ma_way, .inl (cy 1, 6, .inl ma_way'))] ++ X)) A) (([.ref a_ma, .int p1, .int p2, .int p3, .int p4, .int p5] : List Value).toArray) s 0 0 A) (F0 m 100 ls []) := by
              intro ma_cities_9 ma_come_10 ma_walked_11 ma_way_12 h H locs hP hD hS ls hl
              unfold f_X3_walk_B100 at h
              refine lv_iinc (v := x6_2 + 1) (lv' := [(6, .int (x6_2 + 1)), (0, .ref a_ma), (1, .int p1), (2, .int p2), (3, .int p3), (4, .int p4), (5, .int p5)]) hx hb dX3_walk_100 hl (k := 6) rfl (by first | rfl | decide) (by decide) rfl (fun ls hl => ?_)
              refine lv_goto (tgt := 34) hx hb dX3_walk_103 (by decide) ?_
              exact ih34 (x6_2 + 1) ma_cities_9 ma_come_10 ma_walked_11 ma_way_12 h _ _ hP hD hS _ (lv_sub hl [1, 2, 3, 4, 5, 6, 0] rfl)
            refine lv_icmp_eq (tgt := 100) hx hb dX3_walk_61 (by decide) (fun cd => ?_) (fun cd => ?_)
            · have h := ifT cd h
              exact jn100 ma_cities_3 ma_come_4 ma_walked_5 ma_way_6 h _ _ hP hD hS _ (lv_sub hl [1, 2, 3, 4, 5, 6, 7] rfl)
            · have h := ifF cd h
              refine lv_iload hx hb dX3_walk_64 (lv_at hl 6 rfl) ?_
              refine lv_iload hx hb dX3_walk_66 (lv_at hl 7 rfl) ?_
              refine lv_ishr hx hb dX3_walk_68 ?_
              refine lv_iconst (v := 1) hx hb dX3_walk_69 (by decide) ?_
              refine lv_iand hx hb dX3_walk_70 ?_
              refine lv_if_ne (tgt := 100) hx hb dX3_walk_71 (by decide) (fun cd => ?_) (fun cd => ?_)
              · have h := ifF cd h
                exact jn100 ma_cities_3 ma_come_4 ma_walked_5 ma_way_6 h _ _ hP hD hS _ (lv_sub hl [1, 2, 3, 4, 5, 6, 7] rfl)
              · have h := ifT cd h
                refine lv_aload_n hx hb dX3_walk_74 rfl (lv_at hl 1 rfl) ?_
                refine lv_iload hx hb dX3_walk_75 (lv_at hl 7 rfl) ?_
                refine lv_iload_n hx hb dX3_walk_77 rfl (lv_at hl 3 rfl) ?_
                refine lv_iload_n hx hb dX3_walk_78 rfl (lv_at hl 4 rfl) ?_
                refine lv_iload_n hx hb dX3_walk_79 rfl (lv_at hl 4 rfl) ?_
                refine lv_iload hx hb dX3_walk_80 (lv_at hl 0 rfl) ?_
                obtain ⟨r_13, hc_14, h⟩ := bd1_some h
                refine kSi [.int p3, .int r_7] [.int p3, .int p2, .int x6_2, .ref a_ma] ⟨hx, hb, hml, hown, hts⟩ (c_X3_lostOn l D cy p3 r_7 r_13 hc_14) gX3_walk_X3_lostOn rfl hd_X3_lostOn ⟨Nat.le_of_ble_eq_true rfl, Nat.le_of_ble_eq_true rfl⟩ rfl rfl hKN va_nil rfl hl.1 rfl (Nat.le_of_ble_eq_true rfl) dX3_walk_82 ⟨Nat.le_of_ble_eq_true rfl, Nat.le_of_ble_eq_true rfl⟩ ?_
                refine lv_isub hx hb dX3_walk_85 ?_
                refine lv_iload hx hb dX3_walk_86 (lv_at hl 5 rfl) ?_
                refine lv_iconst (v := 1) hx hb dX3_walk_88 (by decide) ?_
                refine lv_iadd hx hb dX3_walk_89 ?_
                refine lv_iload hx hb dX3_walk_90 (lv_at hl 6 rfl) ?_
                refine lv_iconst (v := 1) hx hb dX3_walk_92 (by decide) ?_
                refine lv_iload hx hb dX3_walk_93 (lv_at hl 7 rfl) ?_
                refine lv_ishl hx hb dX3_walk_95 ?_
                refine lv_ior hx hb dX3_walk_96 ?_
                obtain ⟨ma_cities_15, ma_come_16, ma_walked_17, ma_way_18, hc_19, h⟩ := bd4_some h
                refine wVv [.int x6_2, .int p2, .int (p3 - r_13), .int (p4 + 1), .int (p5 ||| ((1 : Int32) <<< (x6_2 &&& 31)))] [] ⟨hx, hb, hml, hown, hts⟩ (c_X3_walk_3 l D cy A X a_la a_la_passBetween a_ma a_ma_walked a_ma_way la_lanes la_deep la_lanesTold (la_who) (la_firstStrong) la_beasts (la_kind) (la_firstLane) (la_mood) (la_price) la_cities la_passes la_turned la_passBetween ma_cities_3 ma_come_4 ma_walked_5 ma_way_6 x6_2 p2 (p3 - r_13) (p4 + 1) (p5 ||| ((1 : Int32) <<< (x6_2 &&& 31))) ma_cities_15 ma_come_16 ma_walked_17 ma_way_18 hc_19) gX3_walk_X3_walk rfl hd_X3_walk ⟨Nat.le_of_ble_eq_true rfl, Nat.le_of_ble_eq_true rfl⟩ rfl rfl hKN hP hD hS hA 3 2 rfl rfl rfl hl.1 rfl (Nat.le_of_ble_eq_true rfl) dX3_walk_97 ⟨Nat.le_of_ble_eq_true rfl, Nat.le_of_ble_eq_true rfl⟩ (fun H locs hP hD hS => ?_)
                exact jn100 ma_cities_15 ma_come_16 ma_walked_17 ma_way_18 h _ _ hP hD hS _ (lv_sub hl [1, 2, 3, 4, 5, 6, 7] rfl)
      exact lp34 fuelN (0 : Int32) ma_cities ma_come (upd ma_walked p4.toNatClampNeg p1) ma_way h _ _ hP hD hS _ (lv_sub hl [1, 2, 3, 4, 5, 6, 0] rfl)
    · have h := ifT cd h
      refine lv_aload_n hx hb dX3_walk_21 rfl (lv_at hl 0 rfl) ?_
      refine lv_iload_n hx hb dX3_walk_22 rfl (lv_at hl 3 rfl) ?_
      refine lv_iload hx hb dX3_walk_23 (lv_at hl 4 rfl) ?_
      refine lv_iconst (v := 1) hx hb dX3_walk_25 (by decide) ?_
      refine lv_iadd hx hb dX3_walk_26 ?_
      have hP : va_P D vwCl ([(a_la, .inr (2, [.int la_lanes, .int la_deep, .int la_lanesTold, la_who, la_firstStrong, .int la_beasts, la_kind, la_firstLane, la_mood, la_price, .int la_cities, .int la_passes, .ref a_la_passBetween, .int la_turned])), (a_la_passBetween, .inl (cy 1, 36, .inl la_passBetween)), (a_ma, .inr (3, [.ref a_la, .ref a_ma_walked, .ref a_ma_way, .int ma_cities, .int ma_come])), (a_ma_walked, .inl (cy 1, 6, .inl (upd ma_walked p4.toNatClampNeg p1))), (a_ma_way, .inl (cy 1, 6, .inl ma_way))] ++ X) H := hP
      have hD : va_D A ([(a_la, .inr (2, [.int la_lanes, .int la_deep, .int la_lanesTold, la_who, la_firstStrong, .int la_beasts, la_kind, la_firstLane, la_mood, la_price, .int la_cities, .int la_passes, .ref a_la_passBetween, .int la_turned])), (a_la_passBetween, .inl (cy 1, 36, .inl la_passBetween)), (a_ma, .inr (3, [.ref a_la, .ref a_ma_walked, .ref a_ma_way, .int ma_cities, .int ma_come])), (a_ma_walked, .inl (cy 1, 6, .inl (upd ma_walked p4.toNatClampNeg p1))), (a_ma_way, .inl (cy 1, 6, .inl ma_way))] ++ X) := hD
      obtain ⟨ma_cities_20, ma_come_21, ma_way_22, hc_23, h⟩ := bd3_some h
      refine wVv [.int p3, .int (p4 + 1)] [] ⟨hx, hb, hml, hown, hts⟩ (c_X3_keepIfBetter l D cy A ([(a_la, .inr (2, [.int la_lanes, .int la_deep, .int la_lanesTold, la_who, la_firstStrong, .int la_beasts, la_kind, la_firstLane, la_mood, la_price, .int la_cities, .int la_passes, .ref a_la_passBetween, .int la_turned])), (a_la_passBetween, .inl (cy 1, 36, .inl la_passBetween))] ++ X) a_ma a_ma_walked a_ma_way (.ref a_la) ma_cities ma_come (upd ma_walked p4.toNatClampNeg p1) ma_way p3 (p4 + 1) ma_cities_20 ma_come_21 ma_way_22 hc_23) gX3_walk_X3_keepIfBetter rfl hd_X3_keepIfBetter ⟨Nat.le_of_ble_eq_true rfl, Nat.le_of_ble_eq_true rfl⟩ rfl rfl hKN (pX3 hP [2, 3, 4, 0, 1] rfl) (dX3 hD [2, 3, 4, 0, 1] rfl rfl) hS hA 3 0 rfl rfl rfl hl.1 rfl (Nat.le_of_ble_eq_true rfl) dX3_walk_27 ⟨Nat.le_of_ble_eq_true rfl, Nat.le_of_ble_eq_true rfl⟩ (fun H locs hP hD hS => ?_)
      have hP := pX4 (L1 := [(a_la, .inr (2, [.int la_lanes, .int la_deep, .int la_lanesTold, la_who, la_firstStrong, .int la_beasts, la_kind, la_firstLane, la_mood, la_price, .int la_cities, .int la_passes, .ref a_la_passBetween, .int la_turned])), (a_la_passBetween, .inl (cy 1, 36, .inl la_passBetween)), (a_ma, .inr (3, [.ref a_la, .ref a_ma_walked, .ref a_ma_way, .int ma_cities_20, .int ma_come_21])), (a_ma_walked, .inl (cy 1, 6, .inl (upd ma_walked p4.toNatClampNeg p1))), (a_ma_way, .inl (cy 1, 6, .inl ma_way_22))]) hP [3, 4, 0, 1, 2] rfl
      have hD := dX4 (L1 := [(a_la, .inr (2, [.int la_lanes, .int la_deep, .int la_lanesTold, la_who, la_firstStrong, .int la_beasts, la_kind, la_firstLane, la_mood, la_price, .int la_cities, .int la_passes, .ref a_la_passBetween, .int la_turned])), (a_la_passBetween, .inl (cy 1, 36, .inl la_passBetween)), (a_ma, .inr (3, [.ref a_la, .ref a_ma_walked, .ref a_ma_way, .int ma_cities_20, .int ma_come_21])), (a_ma_walked, .inl (cy 1, 6, .inl (upd ma_walked p4.toNatClampNeg p1))), (a_ma_way, .inl (cy 1, 6, .inl ma_way_22))]) hD [3, 4, 0, 1, 2] rfl rfl
      cases h
      exact W.vret hx hb hr (fun t ht _ => ⟨⟨(), rfl, trivial, by rw [ht]; exact hP, hD⟩, hS.F ht⟩) hS.2.2 dX3_walk_30
  · have h := ifF cd h
    cases h
    exact W.vret hx hb hr (fun t ht _ => ⟨⟨(), rfl, trivial, by rw [ht]; exact hP, hD⟩, hS.F ht⟩) hS.2.2 dX3_walk_7
set_option maxHeartbeats 4000000 in
set_option maxRecDepth 100000 in
theorem c_X3_walk_5 (l : Launch) (D : va_G) (cy : Nat → ClassId) (A : Nat → Prop) (X : va_W) (a_la a_la_passBetween a_ma a_ma_walked a_ma_way : Nat) (la_lanes : Int32) (la_deep : Int32) (la_lanesTold : Int32) (la_who : Value) (la_firstStrong : Value) (la_beasts : Int32) (la_kind : Value) (la_firstLane : Value) (la_mood : Value) (la_price : Value) (la_cities : Int32) (la_passes : Int32) (la_turned : Int32) (la_passBetween : Nat → Int32) (ma_cities : Int32) (ma_come : Int32) (ma_walked : Nat → Int32) (ma_way : Nat → Int32) (p1 : Int32) (p2 : Int32) (p3 : Int32) (p4 : Int32) (p5 : Int32) (ma_cities' : Int32) (ma_come' : Int32) (ma_walked' : Nat → Int32) (ma_way' : Nat → Int32) (h : f_X3_walk 5 la_cities la_passBetween ma_cities ma_come ma_walked ma_way p1 p2 p3 p4 p5 = some (ma_cities', ma_come', ma_walked', ma_way')) : Met l yX3_walk wo_X3_walk ({ frames := 7, cells := 0, slots := 0, locals := 178 }) (wrPc D cy A [.ref a_ma, .int p1, .int p2, .int p3, .int p4, .int p5] ([(a_la, .inr (2, [.int la_lanes, .int la_deep, .int la_lanesTold, la_who, la_firstStrong, .int la_beasts, la_kind, la_firstLane, la_mood, la_price, .int la_cities, .int la_passes, .ref a_la_passBetween, .int la_turned])), (a_la_passBetween, .inl (cy 1, 36, .inl la_passBetween)), (a_ma, .inr (3, [.ref a_la, .ref a_ma_walked, .ref a_ma_way, .int ma_cities, .int ma_come])), (a_ma_walked, .inl (cy 1, 6, .inl ma_walked)), (a_ma_way, .inl (cy 1, 6, .inl ma_way))] ++ X)) (va_Qv (fun (_ : Unit) => True) (wB D A ([(a_la, .inr (2, [.int la_lanes, .int la_deep, .int la_lanesTold, la_who, la_firstStrong, .int la_beasts, la_kind, la_firstLane, la_mood, la_price, .int la_cities, .int la_passes, .ref a_la_passBetween, .int la_turned])), (a_la_passBetween, .inl (cy 1, 36, .inl la_passBetween)), (a_ma, .inr (3, [.ref a_la, .ref a_ma_walked, .ref a_ma_way, .int ma_cities', .int ma_come'])), (a_ma_walked, .inl (cy 1, 6, .inl ma_walked')), (a_ma_way, .inl (cy 1, 6, .inl ma_way'))] ++ X)) A) 0 0 A := by
  refine Met.ofW (cc := cX3_walk) (maxL := 8) (ret := none) (by decide) rfl ?_
  intro p e s m args below meth c s₁ B hml hv
  obtain ⟨rfl, hP, hKN, hD, hA⟩ := hv
  have hK := hKN.1
  have hx := B.exec
  have hb := B.bytes
  have hr := B.returns
  have hts := wt_X3_walk hKN.2.2 (([.ref a_ma, .int p1, .int p2, .int p3, .int p4, .int p5] : List Value).toArray)
  have hown : s.vm.findClass RX3 = some m.cls := findClass_of_methodNamed B.named
  have hlocks := B.notSynchronized
  have hS : va_S A s.heap s.heap [] := va_S.rf
  have hX2 := wc_X2 hKN.2.2 (([.ref a_ma, .int p1, .int p2, .int p3, .int p4, .int p5] : List Value).toArray)
  have hX3 := wc_X3 hKN.2.2 (([.ref a_ma, .int p1, .int p2, .int p3, .int p4, .int p5] : List Value).toArray)
  have hl := lv_entry ([.ref a_ma, .int p1, .int p2, .int p3, .int p4, .int p5]) (n := 8) (Nat.le_of_ble_eq_true rfl)
  rw [lg_entry_eq]
  generalize (lg_sl ([.ref a_ma, .int p1, .int p2, .int p3, .int p4, .int p5]) ++ List.replicate (8 - (lg_sl ([.ref a_ma, .int p1, .int p2, .int p3, .int p4, .int p5])).length) Slot.unset).toArray = ls at hl ⊢
  have hl : lv_has ls 8 [(0, .ref a_ma), (1, .int p1), (2, .int p2), (3, .int p3), (4, .int p4), (5, .int p5)] := hl
  have h : f_X3_walk_r (f_X3_walk 4) la_cities la_passBetween ma_cities ma_come ma_walked ma_way p1 p2 p3 p4 p5 = some (ma_cities', ma_come', ma_walked', ma_way') := h
  unfold f_X3_walk_r at h
  refine lv_iload hx hb dX3_walk_0 (lv_at hl 4 rfl) ?_
  refine lv_bipush (v := 6) hx hb dX3_walk_2 (by decide) ?_
  refine lv_icmp_lt (tgt := 8) hx hb dX3_walk_4 (by decide) (fun cd => ?_) (fun cd => ?_)
  · have h := ifT cd h
    refine lv_aload_n hx hb dX3_walk_8 rfl (lv_at hl 0 rfl) ?_
    refine va_get (D := D) (ci := 3) (C := RX3) (T := TX3) (N := 5) (v := .ref a_ma_walked) hx hb hX3 (fun _ q => q) hown hK hP 2 rfl rfl 1 (by decide) (hts (.fieldLink RX3 9 "ElephantLine$Marching" "walked" "[I") (by decide +kernel)) (fun _ h9 => h9) rfl dX3_walk_9 ?_
    refine lv_iload hx hb dX3_walk_12 (lv_at hl 4 rfl) ?_
    refine lv_iload_n hx hb dX3_walk_14 rfl (lv_at hl 1 rfl) ?_
    obtain ⟨i_1, h⟩ := gIn_some h
    refine va_iast hx hb hK hP hD hS 3 1 rfl rfl i_1 dX3_walk_15 (fun H locs hP hD hS => ?_)
    refine lv_iload_n hx hb dX3_walk_16 rfl (lv_at hl 1 rfl) ?_
    refine lv_iload_n hx hb dX3_walk_17 rfl (lv_at hl 2 rfl) ?_
    refine lv_icmp_ne (tgt := 31) hx hb dX3_walk_18 (by decide) (fun cd => ?_) (fun cd => ?_)
    · have h := ifF cd h
      refine lv_iconst (v := 0) hx hb dX3_walk_31 (by decide) ?_
      refine lv_istore (lv' := [(6, .int 0), (0, .ref a_ma), (1, .int p1), (2, .int p2), (3, .int p3), (4, .int p4), (5, .int p5)]) hx hb dX3_walk_32 hl (by decide) rfl (fun ls hl => ?_)
      have lp34 : ∀ (n34 : Nat) (x6_2 : Int32) (ma_cities_3 : Int32) (ma_come_4 : Int32) (ma_walked_5 : Nat → Int32) (ma_way_6 : Nat → Int32), f_X3_walk_L34 (f_X3_walk 4) la_cities la_passBetween p1 p2 p3 p4 p5 n34 x6_2 ma_cities_3 ma_come_4 ma_walked_5 ma_way_6 = some (ma_cities', ma_come', ma_walked', ma_way') → ∀ (H : Heap) (locs : List Loc), va_P D vwCl ([(a_la, .inr (2, [.int la_lanes, .int la_deep, .int la_lanesTold, la_who, la_firstStrong, .int la_beasts, la_kind, la_firstLane, la_mood, la_price, .int la_cities, .int la_passes, .ref a_la_passBetween, .int la_turned])), (a_la_passBetween, .inl (cy 1, 36, .inl la_passBetween)), (a_ma, .inr (3, [.ref a_la, .ref a_ma_walked, .ref a_ma_way, .int ma_cities_3, .int ma_come_4])), (a_ma_walked, .inl (cy 1, 6, .inl ma_walked_5)), (a_ma_way, .inl (cy 1, 6, .inl ma_way_6))] ++ X) H → va_D A ([(a_la, .inr (2, [.int la_lanes, .int la_deep, .int la_lanesTold, la_who, la_firstStrong, .int la_beasts, la_kind, la_firstLane, la_mood, la_price, .int la_cities, .int la_passes, .ref a_la_passBetween, .int la_turned])), (a_la_passBetween, .inl (cy 1, 36, .inl la_passBetween)), (a_ma, .inr (3, [.ref a_la, .ref a_ma_walked, .ref a_ma_way, .int ma_cities_3, .int ma_come_4])), (a_ma_walked, .inl (cy 1, 6, .inl ma_walked_5)), (a_ma_way, .inl (cy 1, 6, .inl ma_way_6))] ++ X) → va_S A s.heap H locs → ∀ ls : Array Slot, lv_has ls 8 [(0, .ref a_ma), (1, .int p1), (2, .int p2), (3, .int p3), (4, .int p4), (5, .int p5), (6, .int x6_2)] → W p l e (headSpec wo_X3_walk ({ frames := 7, cells := 0, slots := 0, locals := 178 })).room s m (([.ref a_ma, .int p1, .int p2, .int p3, .int p4, .int p5] : List Value).toArray) below meth c H locs 0 0 (MQ below (va_Qv (fun (_ : Unit) => True) (wB D A ([(a_la, .inr (2, [.int la_lanes, .int la_deep, .int la_lanesTold, la_who, la_firstStrong, .int la_beasts, la_kind, la_firstLane, la_mood, la_price, .int la_cities, .int la_passes, .ref a_la_passBetween, .int la_turned])), (a_la_passBetween, .inl (cy 1, 36, .inl la_passBetween)), (a_ma, .inr (3, [.ref a_la, .ref a_ma_walked, .ref a_ma_way, .int ma_cities', .int ma_come'])), (a_ma_walked, .inl (cy 1, 6, .inl ma_walked')), (a_ma_way, .inl (cy 1, 6, .inl ma_way'))] ++ X)) A) (([.ref a_ma, .int p1, .int p2, .int p3, .int p4, .int p5] : List Value).toArray) s 0 0 A) (F0 m 34 ls []) := by
        intro n34
        induction n34 with
        | zero => intro x6_2 ma_cities_3 ma_come_4 ma_walked_5 ma_way_6 h; exact absurd (show (none : Option (Int32 × Int32 × (Nat → Int32) × (Nat → Int32))) = some _ from h) (by intro q; cases q)
        | succ n34 ih34 =>
          intro x6_2 ma_cities_3 ma_come_4 ma_walked_5 ma_way_6 h H locs hP hD hS ls hl
          have h : f_X3_walk_b34 (f_X3_walk 4) la_cities la_passBetween p1 p2 p3 p4 p5 (f_X3_walk_L34 (f_X3_walk 4) la_cities la_passBetween p1 p2 p3 p4 p5 n34) x6_2 ma_cities_3 ma_come_4 ma_walked_5 ma_way_6 = some (ma_cities', ma_come', ma_walked', ma_way') := h
          unfold f_X3_walk_b34 at h
          refine lv_iload hx hb dX3_walk_34 (lv_at hl 6 rfl) ?_
          refine lv_aload_n hx hb dX3_walk_36 rfl (lv_at hl 0 rfl) ?_
          refine va_get (D := D) (ci := 3) (C := RX3) (T := TX3) (N := 5) (v := .ref a_la) hx hb hX3 (fun _ q => q) hown hK hP 2 rfl rfl 0 (by decide) (hts (.fieldLink RX3 18 "ElephantLine$Marching" "land" "LElephantLine$Land;") (by decide +kernel)) (fun _ h9 => h9) rfl dX3_walk_37 ?_
          refine va_getN (D := D) (ci := 2) (C := RX2) (T := TX2) (N := 14) (v := .int la_cities) hx hb hX2 (fun _ q => q) hown hK hP 0 rfl rfl 10 (by decide) (va_Nw.use rfl (hKN.2.1.1 ("ElephantLine$Marching", 37, "ElephantLine$Land", "cities", "I", "ElephantLine") (List.mem_of_getElem? (i := 29) rfl))) (fun _ h9 => h9) rfl dX3_walk_40 ?_
          refine lv_icmp_ge (tgt := 106) hx hb dX3_walk_43 (by decide) (fun cd => ?_) (fun cd => ?_)
          · have h := ifT cd h
            cases h
            exact W.vret hx hb hr (fun t ht _ => ⟨⟨(), rfl, trivial, by rw [ht]; exact hP, hD⟩, hS.F ht⟩) hS.2.2 dX3_walk_106
          · have h := ifF cd h
            refine lv_aload_n hx hb dX3_walk_46 rfl (lv_at hl 0 rfl) ?_
            refine va_get (D := D) (ci := 3) (C := RX3) (T := TX3) (N := 5) (v := .ref a_la) hx hb hX3 (fun _ q => q) hown hK hP 2 rfl rfl 0 (by decide) (hts (.fieldLink RX3 18 "ElephantLine$Marching" "land" "LElephantLine$Land;") (by decide +kernel)) (fun _ h9 => h9) rfl dX3_walk_47 ?_
            refine lv_iload_n hx hb dX3_walk_50 rfl (lv_at hl 1 rfl) ?_
            refine lv_iload hx hb dX3_walk_51 (lv_at hl 6 rfl) ?_
            obtain ⟨r_7, hc_8, h⟩ := bd1_some h
            refine kVi [.int p1, .int x6_2] [] ⟨hx, hb, hml, hown, hts⟩ (c_X2_lossBetween l D cy a_la a_la_passBetween la_lanes la_deep la_lanesTold (la_who) (la_firstStrong) la_beasts (la_kind) (la_firstLane) (la_mood) (la_price) la_cities la_passes la_turned la_passBetween p1 x6_2 r_7 hc_8) gX3_walk_X2_lossBetween rfl hd_X2_lossBetween ⟨Nat.le_of_ble_eq_true rfl, Nat.le_of_ble_eq_true rfl⟩ rfl rfl hKN (pXc hP [0, 1] rfl) 2 0 rfl rfl rfl hl.1 rfl (Nat.le_of_ble_eq_true rfl) dX3_walk_53 ⟨Nat.le_of_ble_eq_true rfl, Nat.le_of_ble_eq_true rfl⟩ ?_
            refine lv_istore (lv' := [(7, .int r_7), (0, .ref a_ma), (1, .int p1), (2, .int p2), (3, .int p3), (4, .int p4), (5, .int p5), (6, .int x6_2)]) hx hb dX3_walk_56 hl (by decide) rfl (fun ls hl => ?_)
            refine lv_iload hx hb dX3_walk_58 (lv_at hl 0 rfl) ?_
            refine lv_iconst (v := (-1)) hx hb dX3_walk_60 (by decide) ?_
            have jn100 : ∀ (ma_cities_9 : Int32) (ma_come_10 : Int32) (ma_walked_11 : Nat → Int32) (ma_way_12 : Nat → Int32), f_X3_walk_B100 (f_X3_walk_L34 (f_X3_walk 4) la_cities la_passBetween p1 p2 p3 p4 p5 n34) (f_X3_walk 4) la_cities la_passBetween p1 p2 p3 p4 p5 x6_2 ma_cities_9 ma_come_10 ma_walked_11 ma_way_12 = some (ma_cities', ma_come', ma_walked', ma_way') → ∀ (H : Heap) (locs : List Loc), va_P D vwCl ([(a_la, .inr (2, [.int la_lanes, .int la_deep, .int la_lanesTold, la_who, la_firstStrong, .int la_beasts, la_kind, la_firstLane, la_mood, la_price, .int la_cities, .int la_passes, .ref a_la_passBetween, .int la_turned])), (a_la_passBetween, .inl (cy 1, 36, .inl la_passBetween)), (a_ma, .inr (3, [.ref a_la, .ref a_ma_walked, .ref a_ma_way, .int ma_cities_9, .int ma_come_10])), (a_ma_walked, .inl (cy 1, 6, .inl ma_walked_11)), (a_ma_way, .inl (cy 1, 6, .inl ma_way_12))] ++ X) H → va_D A ([(a_la, .inr (2, [.int la_lanes, .int la_deep, .int la_lanesTold, la_who, la_firstStrong, .int la_beasts, la_kind, la_firstLane, la_mood, la_price, .int la_cities, .int la_passes, .ref a_la_passBetween, .int la_turned])), (a_la_passBetween, .inl (cy 1, 36, .inl la_passBetween)), (a_ma, .inr (3, [.ref a_la, .ref a_ma_walked, .ref a_ma_way, .int ma_cities_9, .int ma_come_10])), (a_ma_walked, .inl (cy 1, 6, .inl ma_walked_11)), (a_ma_way, .inl (cy 1, 6, .inl ma_way_12))] ++ X) → va_S A s.heap H locs → ∀ ls : Array Slot, lv_has ls 8 [(0, .ref a_ma), (1, .int p1), (2, .int p2), (3, .int p3), (4, .int p4), (5, .int p5), (6, .int x6_2)] → W p l e (headSpec wo_X3_walk ({ frames := 7, cells := 0, slots := 0, locals := 178 })).room s m (([.ref a_ma, .int p1, .int p2, .int p3, .int p4, .int p5] : List Value).toArray) below meth c H locs 0 0 (MQ below (va_Qv (fun (_ : Unit) => True) (wB D A ([(a_la, .inr (2, [.int la_lanes, .int la_deep, .int la_lanesTold, la_who, la_firstStrong, .int la_beasts, la_kind, la_firstLane, la_mood, la_price, .int la_cities, .int la_passes, .ref a_la_passBetween, .int la_turned])), (a_la_passBetween, .inl (cy 1, 36, .inl la_passBetween)), (a_ma, .inr (3, [.ref a_la, .ref a_ma_walked, .ref a_ma_way, .int ma_cities', .int ma_come'])), (a_ma_walked, .inl (cy 1, 6, .inl ma_walked')), (a_ma_way, .inl (cy 1, 6, .inl ma_way'))] ++ X)) A) (([.ref a_ma, .int p1, .int p2, .int p3, .int p4, .int p5] : List Value).toArray) s 0 0 A) (F0 m 100 ls []) := by
              intro ma_cities_9 ma_come_10 ma_walked_11 ma_way_12 h H locs hP hD hS ls hl
              unfold f_X3_walk_B100 at h
              refine lv_iinc (v := x6_2 + 1) (lv' := [(6, .int (x6_2 + 1)), (0, .ref a_ma), (1, .int p1), (2, .int p2), (3, .int p3), (4, .int p4), (5, .int p5)]) hx hb dX3_walk_100 hl (k := 6) rfl (by first | rfl | decide) (by decide) rfl (fun ls hl => ?_)
              refine lv_goto (tgt := 34) hx hb dX3_walk_103 (by decide) ?_
              exact ih34 (x6_2 + 1) ma_cities_9 ma_come_10 ma_walked_11 ma_way_12 h _ _ hP hD hS _ (lv_sub hl [1, 2, 3, 4, 5, 6, 0] rfl)
            refine lv_icmp_eq (tgt := 100) hx hb dX3_walk_61 (by decide) (fun cd => ?_) (fun cd => ?_)
            · have h := ifT cd h
              exact jn100 ma_cities_3 ma_come_4 ma_walked_5 ma_way_6 h _ _ hP hD hS _ (lv_sub hl [1, 2, 3, 4, 5, 6, 7] rfl)
            · have h := ifF cd h
              refine lv_iload hx hb dX3_walk_64 (lv_at hl 6 rfl) ?_
              refine lv_iload hx hb dX3_walk_66 (lv_at hl 7 rfl) ?_
              refine lv_ishr hx hb dX3_walk_68 ?_
              refine lv_iconst (v := 1) hx hb dX3_walk_69 (by decide) ?_
              refine lv_iand hx hb dX3_walk_70 ?_
              refine lv_if_ne (tgt := 100) hx hb dX3_walk_71 (by decide) (fun cd => ?_) (fun cd => ?_)
              · have h := ifF cd h
                exact jn100 ma_cities_3 ma_come_4 ma_walked_5 ma_way_6 h _ _ hP hD hS _ (lv_sub hl [1, 2, 3, 4, 5, 6, 7] rfl)
              · have h := ifT cd h
                refine lv_aload_n hx hb dX3_walk_74 rfl (lv_at hl 1 rfl) ?_
                refine lv_iload hx hb dX3_walk_75 (lv_at hl 7 rfl) ?_
                refine lv_iload_n hx hb dX3_walk_77 rfl (lv_at hl 3 rfl) ?_
                refine lv_iload_n hx hb dX3_walk_78 rfl (lv_at hl 4 rfl) ?_
                refine lv_iload_n hx hb dX3_walk_79 rfl (lv_at hl 4 rfl) ?_
                refine lv_iload hx hb dX3_walk_80 (lv_at hl 0 rfl) ?_
                obtain ⟨r_13, hc_14, h⟩ := bd1_some h
                refine kSi [.int p3, .int r_7] [.int p3, .int p2, .int x6_2, .ref a_ma] ⟨hx, hb, hml, hown, hts⟩ (c_X3_lostOn l D cy p3 r_7 r_13 hc_14) gX3_walk_X3_lostOn rfl hd_X3_lostOn ⟨Nat.le_of_ble_eq_true rfl, Nat.le_of_ble_eq_true rfl⟩ rfl rfl hKN va_nil rfl hl.1 rfl (Nat.le_of_ble_eq_true rfl) dX3_walk_82 ⟨Nat.le_of_ble_eq_true rfl, Nat.le_of_ble_eq_true rfl⟩ ?_
                refine lv_isub hx hb dX3_walk_85 ?_
                refine lv_iload hx hb dX3_walk_86 (lv_at hl 5 rfl) ?_
                refine lv_iconst (v := 1) hx hb dX3_walk_88 (by decide) ?_
                refine lv_iadd hx hb dX3_walk_89 ?_
                refine lv_iload hx hb dX3_walk_90 (lv_at hl 6 rfl) ?_
                refine lv_iconst (v := 1) hx hb dX3_walk_92 (by decide) ?_
                refine lv_iload hx hb dX3_walk_93 (lv_at hl 7 rfl) ?_
                refine lv_ishl hx hb dX3_walk_95 ?_
                refine lv_ior hx hb dX3_walk_96 ?_
                obtain ⟨ma_cities_15, ma_come_16, ma_walked_17, ma_way_18, hc_19, h⟩ := bd4_some h
                refine wVv [.int x6_2, .int p2, .int (p3 - r_13), .int (p4 + 1), .int (p5 ||| ((1 : Int32) <<< (x6_2 &&& 31)))] [] ⟨hx, hb, hml, hown, hts⟩ (c_X3_walk_4 l D cy A X a_la a_la_passBetween a_ma a_ma_walked a_ma_way la_lanes la_deep la_lanesTold (la_who) (la_firstStrong) la_beasts (la_kind) (la_firstLane) (la_mood) (la_price) la_cities la_passes la_turned la_passBetween ma_cities_3 ma_come_4 ma_walked_5 ma_way_6 x6_2 p2 (p3 - r_13) (p4 + 1) (p5 ||| ((1 : Int32) <<< (x6_2 &&& 31))) ma_cities_15 ma_come_16 ma_walked_17 ma_way_18 hc_19) gX3_walk_X3_walk rfl hd_X3_walk ⟨Nat.le_of_ble_eq_true rfl, Nat.le_of_ble_eq_true rfl⟩ rfl rfl hKN hP hD hS hA 3 2 rfl rfl rfl hl.1 rfl (Nat.le_of_ble_eq_true rfl) dX3_walk_97 ⟨Nat.le_of_ble_eq_true rfl, Nat.le_of_ble_eq_true rfl⟩ (fun H locs hP hD hS => ?_)
                exact jn100 ma_cities_15 ma_come_16 ma_walked_17 ma_way_18 h _ _ hP hD hS _ (lv_sub hl [1, 2, 3, 4, 5, 6, 7] rfl)
      exact lp34 fuelN (0 : Int32) ma_cities ma_come (upd ma_walked p4.toNatClampNeg p1) ma_way h _ _ hP hD hS _ (lv_sub hl [1, 2, 3, 4, 5, 6, 0] rfl)
    · have h := ifT cd h
      refine lv_aload_n hx hb dX3_walk_21 rfl (lv_at hl 0 rfl) ?_
      refine lv_iload_n hx hb dX3_walk_22 rfl (lv_at hl 3 rfl) ?_
      refine lv_iload hx hb dX3_walk_23 (lv_at hl 4 rfl) ?_
      refine lv_iconst (v := 1) hx hb dX3_walk_25 (by decide) ?_
      refine lv_iadd hx hb dX3_walk_26 ?_
      have hP : va_P D vwCl ([(a_la, .inr (2, [.int la_lanes, .int la_deep, .int la_lanesTold, la_who, la_firstStrong, .int la_beasts, la_kind, la_firstLane, la_mood, la_price, .int la_cities, .int la_passes, .ref a_la_passBetween, .int la_turned])), (a_la_passBetween, .inl (cy 1, 36, .inl la_passBetween)), (a_ma, .inr (3, [.ref a_la, .ref a_ma_walked, .ref a_ma_way, .int ma_cities, .int ma_come])), (a_ma_walked, .inl (cy 1, 6, .inl (upd ma_walked p4.toNatClampNeg p1))), (a_ma_way, .inl (cy 1, 6, .inl ma_way))] ++ X) H := hP
      have hD : va_D A ([(a_la, .inr (2, [.int la_lanes, .int la_deep, .int la_lanesTold, la_who, la_firstStrong, .int la_beasts, la_kind, la_firstLane, la_mood, la_price, .int la_cities, .int la_passes, .ref a_la_passBetween, .int la_turned])), (a_la_passBetween, .inl (cy 1, 36, .inl la_passBetween)), (a_ma, .inr (3, [.ref a_la, .ref a_ma_walked, .ref a_ma_way, .int ma_cities, .int ma_come])), (a_ma_walked, .inl (cy 1, 6, .inl (upd ma_walked p4.toNatClampNeg p1))), (a_ma_way, .inl (cy 1, 6, .inl ma_way))] ++ X) := hD
      obtain ⟨ma_cities_20, ma_come_21, ma_way_22, hc_23, h⟩ := bd3_some h
      refine wVv [.int p3, .int (p4 + 1)] [] ⟨hx, hb, hml, hown, hts⟩ (c_X3_keepIfBetter l D cy A ([(a_la, .inr (2, [.int la_lanes, .int la_deep, .int la_lanesTold, la_who, la_firstStrong, .int la_beasts, la_kind, la_firstLane, la_mood, la_price, .int la_cities, .int la_passes, .ref a_la_passBetween, .int la_turned])), (a_la_passBetween, .inl (cy 1, 36, .inl la_passBetween))] ++ X) a_ma a_ma_walked a_ma_way (.ref a_la) ma_cities ma_come (upd ma_walked p4.toNatClampNeg p1) ma_way p3 (p4 + 1) ma_cities_20 ma_come_21 ma_way_22 hc_23) gX3_walk_X3_keepIfBetter rfl hd_X3_keepIfBetter ⟨Nat.le_of_ble_eq_true rfl, Nat.le_of_ble_eq_true rfl⟩ rfl rfl hKN (pX3 hP [2, 3, 4, 0, 1] rfl) (dX3 hD [2, 3, 4, 0, 1] rfl rfl) hS hA 3 0 rfl rfl rfl hl.1 rfl (Nat.le_of_ble_eq_true rfl) dX3_walk_27 ⟨Nat.le_of_ble_eq_true rfl, Nat.le_of_ble_eq_true rfl⟩ (fun H locs hP hD hS => ?_)
      have hP := pX4 (L1 := [(a_la, .inr (2, [.int la_lanes, .int la_deep, .int la_lanesTold, la_who, la_firstStrong, .int la_beasts, la_kind, la_firstLane, la_mood, la_price, .int la_cities, .int la_passes, .ref a_la_passBetween, .int la_turned])), (a_la_passBetween, .inl (cy 1, 36, .inl la_passBetween)), (a_ma, .inr (3, [.ref a_la, .ref a_ma_walked, .ref a_ma_way, .int ma_cities_20, .int ma_come_21])), (a_ma_walked, .inl (cy 1, 6, .inl (upd ma_walked p4.toNatClampNeg p1))), (a_ma_way, .inl (cy 1, 6, .inl ma_way_22))]) hP [3, 4, 0, 1, 2] rfl
      have hD := dX4 (L1 := [(a_la, .inr (2, [.int la_lanes, .int la_deep, .int la_lanesTold, la_who, la_firstStrong, .int la_beasts, la_kind, la_firstLane, la_mood, la_price, .int la_cities, .int la_passes, .ref a_la_passBetween, .int la_turned])), (a_la_passBetween, .inl (cy 1, 36, .inl la_passBetween)), (a_ma, .inr (3, [.ref a_la, .ref a_ma_walked, .ref a_ma_way, .int ma_cities_20, .int ma_come_21])), (a_ma_walked, .inl (cy 1, 6, .inl (upd ma_walked p4.toNatClampNeg p1))), (a_ma_way, .inl (cy 1, 6, .inl ma_way_22))]) hD [3, 4, 0, 1, 2] rfl rfl
      cases h
      exact W.vret hx hb hr (fun t ht _ => ⟨⟨(), rfl, trivial, by rw [ht]; exact hP, hD⟩, hS.F ht⟩) hS.2.2 dX3_walk_30
  · have h := ifF cd h
    cases h
    exact W.vret hx hb hr (fun t ht _ => ⟨⟨(), rfl, trivial, by rw [ht]; exact hP, hD⟩, hS.F ht⟩) hS.2.2 dX3_walk_7
set_option maxHeartbeats 4000000 in
set_option maxRecDepth 100000 in
theorem c_X3_walk_6 (l : Launch) (D : va_G) (cy : Nat → ClassId) (A : Nat → Prop) (X : va_W) (a_la a_la_passBetween a_ma a_ma_walked a_ma_way : Nat) (la_lanes : Int32) (la_deep : Int32) (la_lanesTold : Int32) (la_who : Value) (la_firstStrong : Value) (la_beasts : Int32) (la_kind : Value) (la_firstLane : Value) (la_mood : Value) (la_price : Value) (la_cities : Int32) (la_passes : Int32) (la_turned : Int32) (la_passBetween : Nat → Int32) (ma_cities : Int32) (ma_come : Int32) (ma_walked : Nat → Int32) (ma_way : Nat → Int32) (p1 : Int32) (p2 : Int32) (p3 : Int32) (p4 : Int32) (p5 : Int32) (ma_cities' : Int32) (ma_come' : Int32) (ma_walked' : Nat → Int32) (ma_way' : Nat → Int32) (h : f_X3_walk 6 la_cities la_passBetween ma_cities ma_come ma_walked ma_way p1 p2 p3 p4 p5 = some (ma_cities', ma_come', ma_walked', ma_way')) : Met l yX3_walk wo_X3_walk ({ frames := 8, cells := 0, slots := 0, locals := 205 }) (wrPc D cy A [.ref a_ma, .int p1, .int p2, .int p3, .int p4, .int p5] ([(a_la, .inr (2, [.int la_lanes, .int la_deep, .int la_lanesTold, la_who, la_firstStrong, .int la_beasts, la_kind, la_firstLane, la_mood, la_price, .int la_cities, .int la_passes, .ref a_la_passBetween, .int la_turned])), (a_la_passBetween, .inl (cy 1, 36, .inl la_passBetween)), (a_ma, .inr (3, [.ref a_la, .ref a_ma_walked, .ref a_ma_way, .int ma_cities, .int ma_come])), (a_ma_walked, .inl (cy 1, 6, .inl ma_walked)), (a_ma_way, .inl (cy 1, 6, .inl ma_way))] ++ X)) (va_Qv (fun (_ : Unit) => True) (wB D A ([(a_la, .inr (2, [.int la_lanes, .int la_deep, .int la_lanesTold, la_who, la_firstStrong, .int la_beasts, la_kind, la_firstLane, la_mood, la_price, .int la_cities, .int la_passes, .ref a_la_passBetween, .int la_turned])), (a_la_passBetween, .inl (cy 1, 36, .inl la_passBetween)), (a_ma, .inr (3, [.ref a_la, .ref a_ma_walked, .ref a_ma_way, .int ma_cities', .int ma_come'])), (a_ma_walked, .inl (cy 1, 6, .inl ma_walked')), (a_ma_way, .inl (cy 1, 6, .inl ma_way'))] ++ X)) A) 0 0 A := by
  refine Met.ofW (cc := cX3_walk) (maxL := 8) (ret := none) (by decide) rfl ?_
  intro p e s m args below meth c s₁ B hml hv
  obtain ⟨rfl, hP, hKN, hD, hA⟩ := hv
  have hK := hKN.1
  have hx := B.exec
  have hb := B.bytes
  have hr := B.returns
  have hts := wt_X3_walk hKN.2.2 (([.ref a_ma, .int p1, .int p2, .int p3, .int p4, .int p5] : List Value).toArray)
  have hown : s.vm.findClass RX3 = some m.cls := findClass_of_methodNamed B.named
  have hlocks := B.notSynchronized
  have hS : va_S A s.heap s.heap [] := va_S.rf
  have hX2 := wc_X2 hKN.2.2 (([.ref a_ma, .int p1, .int p2, .int p3, .int p4, .int p5] : List Value).toArray)
  have hX3 := wc_X3 hKN.2.2 (([.ref a_ma, .int p1, .int p2, .int p3, .int p4, .int p5] : List Value).toArray)
  have hl := lv_entry ([.ref a_ma, .int p1, .int p2, .int p3, .int p4, .int p5]) (n := 8) (Nat.le_of_ble_eq_true rfl)
  rw [lg_entry_eq]
  generalize (lg_sl ([.ref a_ma, .int p1, .int p2, .int p3, .int p4, .int p5]) ++ List.replicate (8 - (lg_sl ([.ref a_ma, .int p1, .int p2, .int p3, .int p4, .int p5])).length) Slot.unset).toArray = ls at hl ⊢
  have hl : lv_has ls 8 [(0, .ref a_ma), (1, .int p1), (2, .int p2), (3, .int p3), (4, .int p4), (5, .int p5)] := hl
  have h : f_X3_walk_r (f_X3_walk 5) la_cities la_passBetween ma_cities ma_come ma_walked ma_way p1 p2 p3 p4 p5 = some (ma_cities', ma_come', ma_walked', ma_way') := h
  unfold f_X3_walk_r at h
  refine lv_iload hx hb dX3_walk_0 (lv_at hl 4 rfl) ?_
  refine lv_bipush (v := 6) hx hb dX3_walk_2 (by decide) ?_
  refine lv_icmp_lt (tgt := 8) hx hb dX3_walk_4 (by decide) (fun cd => ?_) (fun cd => ?_)
  · have h := ifT cd h
    refine lv_aload_n hx hb dX3_walk_8 rfl (lv_at hl 0 rfl) ?_
    refine va_get (D := D) (ci := 3) (C := RX3) (T := TX3) (N := 5) (v := .ref a_ma_walked) hx hb hX3 (fun _ q => q) hown hK hP 2 rfl rfl 1 (by decide) (hts (.fieldLink RX3 9 "ElephantLine$Marching" "walked" "[I") (by decide +kernel)) (fun _ h9 => h9) rfl dX3_walk_9 ?_
    refine lv_iload hx hb dX3_walk_12 (lv_at hl 4 rfl) ?_
    refine lv_iload_n hx hb dX3_walk_14 rfl (lv_at hl 1 rfl) ?_
    obtain ⟨i_1, h⟩ := gIn_some h
    refine va_iast hx hb hK hP hD hS 3 1 rfl rfl i_1 dX3_walk_15 (fun H locs hP hD hS => ?_)
    refine lv_iload_n hx hb dX3_walk_16 rfl (lv_at hl 1 rfl) ?_
    refine lv_iload_n hx hb dX3_walk_17 rfl (lv_at hl 2 rfl) ?_
    refine lv_icmp_ne (tgt := 31) hx hb dX3_walk_18 (by decide) (fun cd => ?_) (fun cd => ?_)
    · have h := ifF cd h
      refine lv_iconst (v := 0) hx hb dX3_walk_31 (by decide) ?_
      refine lv_istore (lv' := [(6, .int 0), (0, .ref a_ma), (1, .int p1), (2, .int p2), (3, .int p3), (4, .int p4), (5, .int p5)]) hx hb dX3_walk_32 hl (by decide) rfl (fun ls hl => ?_)
      have lp34 : ∀ (n34 : Nat) (x6_2 : Int32) (ma_cities_3 : Int32) (ma_come_4 : Int32) (ma_walked_5 : Nat → Int32) (ma_way_6 : Nat → Int32), f_X3_walk_L34 (f_X3_walk 5) la_cities la_passBetween p1 p2 p3 p4 p5 n34 x6_2 ma_cities_3 ma_come_4 ma_walked_5 ma_way_6 = some (ma_cities', ma_come', ma_walked', ma_way') → ∀ (H : Heap) (locs : List Loc), va_P D vwCl ([(a_la, .inr (2, [.int la_lanes, .int la_deep, .int la_lanesTold, la_who, la_firstStrong, .int la_beasts, la_kind, la_firstLane, la_mood, la_price, .int la_cities, .int la_passes, .ref a_la_passBetween, .int la_turned])), (a_la_passBetween, .inl (cy 1, 36, .inl la_passBetween)), (a_ma, .inr (3, [.ref a_la, .ref a_ma_walked, .ref a_ma_way, .int ma_cities_3, .int ma_come_4])), (a_ma_walked, .inl (cy 1, 6, .inl ma_walked_5)), (a_ma_way, .inl (cy 1, 6, .inl ma_way_6))] ++ X) H → va_D A ([(a_la, .inr (2, [.int la_lanes, .int la_deep, .int la_lanesTold, la_who, la_firstStrong, .int la_beasts, la_kind, la_firstLane, la_mood, la_price, .int la_cities, .int la_passes, .ref a_la_passBetween, .int la_turned])), (a_la_passBetween, .inl (cy 1, 36, .inl la_passBetween)), (a_ma, .inr (3, [.ref a_la, .ref a_ma_walked, .ref a_ma_way, .int ma_cities_3, .int ma_come_4])), (a_ma_walked, .inl (cy 1, 6, .inl ma_walked_5)), (a_ma_way, .inl (cy 1, 6, .inl ma_way_6))] ++ X) → va_S A s.heap H locs → ∀ ls : Array Slot, lv_has ls 8 [(0, .ref a_ma), (1, .int p1), (2, .int p2), (3, .int p3), (4, .int p4), (5, .int p5), (6, .int x6_2)] → W p l e (headSpec wo_X3_walk ({ frames := 8, cells := 0, slots := 0, locals := 205 })).room s m (([.ref a_ma, .int p1, .int p2, .int p3, .int p4, .int p5] : List Value).toArray) below meth c H locs 0 0 (MQ below (va_Qv (fun (_ : Unit) => True) (wB D A ([(a_la, .inr (2, [.int la_lanes, .int la_deep, .int la_lanesTold, la_who, la_firstStrong, .int la_beasts, la_kind, la_firstLane, la_mood, la_price, .int la_cities, .int la_passes, .ref a_la_passBetween, .int la_turned])), (a_la_passBetween, .inl (cy 1, 36, .inl la_passBetween)), (a_ma, .inr (3, [.ref a_la, .ref a_ma_walked, .ref a_ma_way, .int ma_cities', .int ma_come'])), (a_ma_walked, .inl (cy 1, 6, .inl ma_walked')), (a_ma_way, .inl (cy 1, 6, .inl ma_way'))] ++ X)) A) (([.ref a_ma, .int p1, .int p2, .int p3, .int p4, .int p5] : List Value).toArray) s 0 0 A) (F0 m 34 ls []) := by
        intro n34
        induction n34 with
        | zero => intro x6_2 ma_cities_3 ma_come_4 ma_walked_5 ma_way_6 h; exact absurd (show (none : Option (Int32 × Int32 × (Nat → Int32) × (Nat → Int32))) = some _ from h) (by intro q; cases q)
        | succ n34 ih34 =>
          intro x6_2 ma_cities_3 ma_come_4 ma_walked_5 ma_way_6 h H locs hP hD hS ls hl
          have h : f_X3_walk_b34 (f_X3_walk 5) la_cities la_passBetween p1 p2 p3 p4 p5 (f_X3_walk_L34 (f_X3_walk 5) la_cities la_passBetween p1 p2 p3 p4 p5 n34) x6_2 ma_cities_3 ma_come_4 ma_walked_5 ma_way_6 = some (ma_cities', ma_come', ma_walked', ma_way') := h
          unfold f_X3_walk_b34 at h
          refine lv_iload hx hb dX3_walk_34 (lv_at hl 6 rfl) ?_
          refine lv_aload_n hx hb dX3_walk_36 rfl (lv_at hl 0 rfl) ?_
          refine va_get (D := D) (ci := 3) (C := RX3) (T := TX3) (N := 5) (v := .ref a_la) hx hb hX3 (fun _ q => q) hown hK hP 2 rfl rfl 0 (by decide) (hts (.fieldLink RX3 18 "ElephantLine$Marching" "land" "LElephantLine$Land;") (by decide +kernel)) (fun _ h9 => h9) rfl dX3_walk_37 ?_
          refine va_getN (D := D) (ci := 2) (C := RX2) (T := TX2) (N := 14) (v := .int la_cities) hx hb hX2 (fun _ q => q) hown hK hP 0 rfl rfl 10 (by decide) (va_Nw.use rfl (hKN.2.1.1 ("ElephantLine$Marching", 37, "ElephantLine$Land", "cities", "I", "ElephantLine") (List.mem_of_getElem? (i := 29) rfl))) (fun _ h9 => h9) rfl dX3_walk_40 ?_
          refine lv_icmp_ge (tgt := 106) hx hb dX3_walk_43 (by decide) (fun cd => ?_) (fun cd => ?_)
          · have h := ifT cd h
            cases h
            exact W.vret hx hb hr (fun t ht _ => ⟨⟨(), rfl, trivial, by rw [ht]; exact hP, hD⟩, hS.F ht⟩) hS.2.2 dX3_walk_106
          · have h := ifF cd h
            refine lv_aload_n hx hb dX3_walk_46 rfl (lv_at hl 0 rfl) ?_
            refine va_get (D := D) (ci := 3) (C := RX3) (T := TX3) (N := 5) (v := .ref a_la) hx hb hX3 (fun _ q => q) hown hK hP 2 rfl rfl 0 (by decide) (hts (.fieldLink RX3 18 "ElephantLine$Marching" "land" "LElephantLine$Land;") (by decide +kernel)) (fun _ h9 => h9) rfl dX3_walk_47 ?_
            refine lv_iload_n hx hb dX3_walk_50 rfl (lv_at hl 1 rfl) ?_
            refine lv_iload hx hb dX3_walk_51 (lv_at hl 6 rfl) ?_
            obtain ⟨r_7, hc_8, h⟩ := bd1_some h
            refine kVi [.int p1, .int x6_2] [] ⟨hx, hb, hml, hown, hts⟩ (c_X2_lossBetween l D cy a_la a_la_passBetween la_lanes la_deep la_lanesTold (la_who) (la_firstStrong) la_beasts (la_kind) (la_firstLane) (la_mood) (la_price) la_cities la_passes la_turned la_passBetween p1 x6_2 r_7 hc_8) gX3_walk_X2_lossBetween rfl hd_X2_lossBetween ⟨Nat.le_of_ble_eq_true rfl, Nat.le_of_ble_eq_true rfl⟩ rfl rfl hKN (pXc hP [0, 1] rfl) 2 0 rfl rfl rfl hl.1 rfl (Nat.le_of_ble_eq_true rfl) dX3_walk_53 ⟨Nat.le_of_ble_eq_true rfl, Nat.le_of_ble_eq_true rfl⟩ ?_
            refine lv_istore (lv' := [(7, .int r_7), (0, .ref a_ma), (1, .int p1), (2, .int p2), (3, .int p3), (4, .int p4), (5, .int p5), (6, .int x6_2)]) hx hb dX3_walk_56 hl (by decide) rfl (fun ls hl => ?_)
            refine lv_iload hx hb dX3_walk_58 (lv_at hl 0 rfl) ?_
            refine lv_iconst (v := (-1)) hx hb dX3_walk_60 (by decide) ?_
            have jn100 : ∀ (ma_cities_9 : Int32) (ma_come_10 : Int32) (ma_walked_11 : Nat → Int32) (ma_way_12 : Nat → Int32), f_X3_walk_B100 (f_X3_walk_L34 (f_X3_walk 5) la_cities la_passBetween p1 p2 p3 p4 p5 n34) (f_X3_walk 5) la_cities la_passBetween p1 p2 p3 p4 p5 x6_2 ma_cities_9 ma_come_10 ma_walked_11 ma_way_12 = some (ma_cities', ma_come', ma_walked', ma_way') → ∀ (H : Heap) (locs : List Loc), va_P D vwCl ([(a_la, .inr (2, [.int la_lanes, .int la_deep, .int la_lanesTold, la_who, la_firstStrong, .int la_beasts, la_kind, la_firstLane, la_mood, la_price, .int la_cities, .int la_passes, .ref a_la_passBetween, .int la_turned])), (a_la_passBetween, .inl (cy 1, 36, .inl la_passBetween)), (a_ma, .inr (3, [.ref a_la, .ref a_ma_walked, .ref a_ma_way, .int ma_cities_9, .int ma_come_10])), (a_ma_walked, .inl (cy 1, 6, .inl ma_walked_11)), (a_ma_way, .inl (cy 1, 6, .inl ma_way_12))] ++ X) H → va_D A ([(a_la, .inr (2, [.int la_lanes, .int la_deep, .int la_lanesTold, la_who, la_firstStrong, .int la_beasts, la_kind, la_firstLane, la_mood, la_price, .int la_cities, .int la_passes, .ref a_la_passBetween, .int la_turned])), (a_la_passBetween, .inl (cy 1, 36, .inl la_passBetween)), (a_ma, .inr (3, [.ref a_la, .ref a_ma_walked, .ref a_ma_way, .int ma_cities_9, .int ma_come_10])), (a_ma_walked, .inl (cy 1, 6, .inl ma_walked_11)), (a_ma_way, .inl (cy 1, 6, .inl ma_way_12))] ++ X) → va_S A s.heap H locs → ∀ ls : Array Slot, lv_has ls 8 [(0, .ref a_ma), (1, .int p1), (2, .int p2), (3, .int p3), (4, .int p4), (5, .int p5), (6, .int x6_2)] → W p l e (headSpec wo_X3_walk ({ frames := 8, cells := 0, slots := 0, locals := 205 })).room s m (([.ref a_ma, .int p1, .int p2, .int p3, .int p4, .int p5] : List Value).toArray) below meth c H locs 0 0 (MQ below (va_Qv (fun (_ : Unit) => True) (wB D A ([(a_la, .inr (2, [.int la_lanes, .int la_deep, .int la_lanesTold, la_who, la_firstStrong, .int la_beasts, la_kind, la_firstLane, la_mood, la_price, .int la_cities, .int la_passes, .ref a_la_passBetween, .int la_turned])), (a_la_passBetween, .inl (cy 1, 36, .inl la_passBetween)), (a_ma, .inr (3, [.ref a_la, .ref a_ma_walked, .ref a_ma_way, .int ma_cities', .int ma_come'])), (a_ma_walked, .inl (cy 1, 6, .inl ma_walked')), (a_ma_way, .inl (cy 1, 6, .inl ma_way'))] ++ X)) A) (([.ref a_ma, .int p1, .int p2, .int p3, .int p4, .int p5] : List Value).toArray) s 0 0 A) (F0 m 100 ls []) := by
              intro ma_cities_9 ma_come_10 ma_walked_11 ma_way_12 h H locs hP hD hS ls hl
              unfold f_X3_walk_B100 at h
              refine lv_iinc (v := x6_2 + 1) (lv' := [(6, .int (x6_2 + 1)), (0, .ref a_ma), (1, .int p1), (2, .int p2), (3, .int p3), (4, .int p4), (5, .int p5)]) hx hb dX3_walk_100 hl (k := 6) rfl (by first | rfl | decide) (by decide) rfl (fun ls hl => ?_)
              refine lv_goto (tgt := 34) hx hb dX3_walk_103 (by decide) ?_
              exact ih34 (x6_2 + 1) ma_cities_9 ma_come_10 ma_walked_11 ma_way_12 h _ _ hP hD hS _ (lv_sub hl [1, 2, 3, 4, 5, 6, 0] rfl)
            refine lv_icmp_eq (tgt := 100) hx hb dX3_walk_61 (by decide) (fun cd => ?_) (fun cd => ?_)
            · have h := ifT cd h
              exact jn100 ma_cities_3 ma_come_4 ma_walked_5 ma_way_6 h _ _ hP hD hS _ (lv_sub hl [1, 2, 3, 4, 5, 6, 7] rfl)
            · have h := ifF cd h
              refine lv_iload hx hb dX3_walk_64 (lv_at hl 6 rfl) ?_
              refine lv_iload hx hb dX3_walk_66 (lv_at hl 7 rfl) ?_
              refine lv_ishr hx hb dX3_walk_68 ?_
              refine lv_iconst (v := 1) hx hb dX3_walk_69 (by decide) ?_
              refine lv_iand hx hb dX3_walk_70 ?_
              refine lv_if_ne (tgt := 100) hx hb dX3_walk_71 (by decide) (fun cd => ?_) (fun cd => ?_)
              · have h := ifF cd h
                exact jn100 ma_cities_3 ma_come_4 ma_walked_5 ma_way_6 h _ _ hP hD hS _ (lv_sub hl [1, 2, 3, 4, 5, 6, 7] rfl)
              · have h := ifT cd h
                refine lv_aload_n hx hb dX3_walk_74 rfl (lv_at hl 1 rfl) ?_
                refine lv_iload hx hb dX3_walk_75 (lv_at hl 7 rfl) ?_
                refine lv_iload_n hx hb dX3_walk_77 rfl (lv_at hl 3 rfl) ?_
                refine lv_iload_n hx hb dX3_walk_78 rfl (lv_at hl 4 rfl) ?_
                refine lv_iload_n hx hb dX3_walk_79 rfl (lv_at hl 4 rfl) ?_
                refine lv_iload hx hb dX3_walk_80 (lv_at hl 0 rfl) ?_
                obtain ⟨r_13, hc_14, h⟩ := bd1_some h
                refine kSi [.int p3, .int r_7] [.int p3, .int p2, .int x6_2, .ref a_ma] ⟨hx, hb, hml, hown, hts⟩ (c_X3_lostOn l D cy p3 r_7 r_13 hc_14) gX3_walk_X3_lostOn rfl hd_X3_lostOn ⟨Nat.le_of_ble_eq_true rfl, Nat.le_of_ble_eq_true rfl⟩ rfl rfl hKN va_nil rfl hl.1 rfl (Nat.le_of_ble_eq_true rfl) dX3_walk_82 ⟨Nat.le_of_ble_eq_true rfl, Nat.le_of_ble_eq_true rfl⟩ ?_
                refine lv_isub hx hb dX3_walk_85 ?_
                refine lv_iload hx hb dX3_walk_86 (lv_at hl 5 rfl) ?_
                refine lv_iconst (v := 1) hx hb dX3_walk_88 (by decide) ?_
                refine lv_iadd hx hb dX3_walk_89 ?_
                refine lv_iload hx hb dX3_walk_90 (lv_at hl 6 rfl) ?_
                refine lv_iconst (v := 1) hx hb dX3_walk_92 (by decide) ?_
                refine lv_iload hx hb dX3_walk_93 (lv_at hl 7 rfl) ?_
                refine lv_ishl hx hb dX3_walk_95 ?_
                refine lv_ior hx hb dX3_walk_96 ?_
                obtain ⟨ma_cities_15, ma_come_16, ma_walked_17, ma_way_18, hc_19, h⟩ := bd4_some h
                refine wVv [.int x6_2, .int p2, .int (p3 - r_13), .int (p4 + 1), .int (p5 ||| ((1 : Int32) <<< (x6_2 &&& 31)))] [] ⟨hx, hb, hml, hown, hts⟩ (c_X3_walk_5 l D cy A X a_la a_la_passBetween a_ma a_ma_walked a_ma_way la_lanes la_deep la_lanesTold (la_who) (la_firstStrong) la_beasts (la_kind) (la_firstLane) (la_mood) (la_price) la_cities la_passes la_turned la_passBetween ma_cities_3 ma_come_4 ma_walked_5 ma_way_6 x6_2 p2 (p3 - r_13) (p4 + 1) (p5 ||| ((1 : Int32) <<< (x6_2 &&& 31))) ma_cities_15 ma_come_16 ma_walked_17 ma_way_18 hc_19) gX3_walk_X3_walk rfl hd_X3_walk ⟨Nat.le_of_ble_eq_true rfl, Nat.le_of_ble_eq_true rfl⟩ rfl rfl hKN hP hD hS hA 3 2 rfl rfl rfl hl.1 rfl (Nat.le_of_ble_eq_true rfl) dX3_walk_97 ⟨Nat.le_of_ble_eq_true rfl, Nat.le_of_ble_eq_true rfl⟩ (fun H locs hP hD hS => ?_)
                exact jn100 ma_cities_15 ma_come_16 ma_walked_17 ma_way_18 h _ _ hP hD hS _ (lv_sub hl [1, 2, 3, 4, 5, 6, 7] rfl)
      exact lp34 fuelN (0 : Int32) ma_cities ma_come (upd ma_walked p4.toNatClampNeg p1) ma_way h _ _ hP hD hS _ (lv_sub hl [1, 2, 3, 4, 5, 6, 0] rfl)
    · have h := ifT cd h
      refine lv_aload_n hx hb dX3_walk_21 rfl (lv_at hl 0 rfl) ?_
      refine lv_iload_n hx hb dX3_walk_22 rfl (lv_at hl 3 rfl) ?_
      refine lv_iload hx hb dX3_walk_23 (lv_at hl 4 rfl) ?_
      refine lv_iconst (v := 1) hx hb dX3_walk_25 (by decide) ?_
      refine lv_iadd hx hb dX3_walk_26 ?_
      have hP : va_P D vwCl ([(a_la, .inr (2, [.int la_lanes, .int la_deep, .int la_lanesTold, la_who, la_firstStrong, .int la_beasts, la_kind, la_firstLane, la_mood, la_price, .int la_cities, .int la_passes, .ref a_la_passBetween, .int la_turned])), (a_la_passBetween, .inl (cy 1, 36, .inl la_passBetween)), (a_ma, .inr (3, [.ref a_la, .ref a_ma_walked, .ref a_ma_way, .int ma_cities, .int ma_come])), (a_ma_walked, .inl (cy 1, 6, .inl (upd ma_walked p4.toNatClampNeg p1))), (a_ma_way, .inl (cy 1, 6, .inl ma_way))] ++ X) H := hP
      have hD : va_D A ([(a_la, .inr (2, [.int la_lanes, .int la_deep, .int la_lanesTold, la_who, la_firstStrong, .int la_beasts, la_kind, la_firstLane, la_mood, la_price, .int la_cities, .int la_passes, .ref a_la_passBetween, .int la_turned])), (a_la_passBetween, .inl (cy 1, 36, .inl la_passBetween)), (a_ma, .inr (3, [.ref a_la, .ref a_ma_walked, .ref a_ma_way, .int ma_cities, .int ma_come])), (a_ma_walked, .inl (cy 1, 6, .inl (upd ma_walked p4.toNatClampNeg p1))), (a_ma_way, .inl (cy 1, 6, .inl ma_way))] ++ X) := hD
      obtain ⟨ma_cities_20, ma_come_21, ma_way_22, hc_23, h⟩ := bd3_some h
      refine wVv [.int p3, .int (p4 + 1)] [] ⟨hx, hb, hml, hown, hts⟩ (c_X3_keepIfBetter l D cy A ([(a_la, .inr (2, [.int la_lanes, .int la_deep, .int la_lanesTold, la_who, la_firstStrong, .int la_beasts, la_kind, la_firstLane, la_mood, la_price, .int la_cities, .int la_passes, .ref a_la_passBetween, .int la_turned])), (a_la_passBetween, .inl (cy 1, 36, .inl la_passBetween))] ++ X) a_ma a_ma_walked a_ma_way (.ref a_la) ma_cities ma_come (upd ma_walked p4.toNatClampNeg p1) ma_way p3 (p4 + 1) ma_cities_20 ma_come_21 ma_way_22 hc_23) gX3_walk_X3_keepIfBetter rfl hd_X3_keepIfBetter ⟨Nat.le_of_ble_eq_true rfl, Nat.le_of_ble_eq_true rfl⟩ rfl rfl hKN (pX3 hP [2, 3, 4, 0, 1] rfl) (dX3 hD [2, 3, 4, 0, 1] rfl rfl) hS hA 3 0 rfl rfl rfl hl.1 rfl (Nat.le_of_ble_eq_true rfl) dX3_walk_27 ⟨Nat.le_of_ble_eq_true rfl, Nat.le_of_ble_eq_true rfl⟩ (fun H locs hP hD hS => ?_)
      have hP := pX4 (L1 := [(a_la, .inr (2, [.int la_lanes, .int la_deep, .int la_lanesTold, la_who, la_firstStrong, .int la_beasts, la_kind, la_firstLane, la_mood, la_price, .int la_cities, .int la_passes, .ref a_la_passBetween, .int la_turned])), (a_la_passBetween, .inl (cy 1, 36, .inl la_passBetween)), (a_ma, .inr (3, [.ref a_la, .ref a_ma_walked, .ref a_ma_way, .int ma_cities_20, .int ma_come_21])), (a_ma_walked, .inl (cy 1, 6, .inl (upd ma_walked p4.toNatClampNeg p1))), (a_ma_way, .inl (cy 1, 6, .inl ma_way_22))]) hP [3, 4, 0, 1, 2] rfl
      have hD := dX4 (L1 := [(a_la, .inr (2, [.int la_lanes, .int la_deep, .int la_lanesTold, la_who, la_firstStrong, .int la_beasts, la_kind, la_firstLane, la_mood, la_price, .int la_cities, .int la_passes, .ref a_la_passBetween, .int la_turned])), (a_la_passBetween, .inl (cy 1, 36, .inl la_passBetween)), (a_ma, .inr (3, [.ref a_la, .ref a_ma_walked, .ref a_ma_way, .int ma_cities_20, .int ma_come_21])), (a_ma_walked, .inl (cy 1, 6, .inl (upd ma_walked p4.toNatClampNeg p1))), (a_ma_way, .inl (cy 1, 6, .inl ma_way_22))]) hD [3, 4, 0, 1, 2] rfl rfl
      cases h
      exact W.vret hx hb hr (fun t ht _ => ⟨⟨(), rfl, trivial, by rw [ht]; exact hP, hD⟩, hS.F ht⟩) hS.2.2 dX3_walk_30
  · have h := ifF cd h
    cases h
    exact W.vret hx hb hr (fun t ht _ => ⟨⟨(), rfl, trivial, by rw [ht]; exact hP, hD⟩, hS.F ht⟩) hS.2.2 dX3_walk_7
set_option maxHeartbeats 4000000 in
set_option maxRecDepth 100000 in
theorem c_X3_walk_7 (l : Launch) (D : va_G) (cy : Nat → ClassId) (A : Nat → Prop) (X : va_W) (a_la a_la_passBetween a_ma a_ma_walked a_ma_way : Nat) (la_lanes : Int32) (la_deep : Int32) (la_lanesTold : Int32) (la_who : Value) (la_firstStrong : Value) (la_beasts : Int32) (la_kind : Value) (la_firstLane : Value) (la_mood : Value) (la_price : Value) (la_cities : Int32) (la_passes : Int32) (la_turned : Int32) (la_passBetween : Nat → Int32) (ma_cities : Int32) (ma_come : Int32) (ma_walked : Nat → Int32) (ma_way : Nat → Int32) (p1 : Int32) (p2 : Int32) (p3 : Int32) (p4 : Int32) (p5 : Int32) (ma_cities' : Int32) (ma_come' : Int32) (ma_walked' : Nat → Int32) (ma_way' : Nat → Int32) (h : f_X3_walk 7 la_cities la_passBetween ma_cities ma_come ma_walked ma_way p1 p2 p3 p4 p5 = some (ma_cities', ma_come', ma_walked', ma_way')) : Met l yX3_walk wo_X3_walk ({ frames := 9, cells := 0, slots := 0, locals := 232 }) (wrPc D cy A [.ref a_ma, .int p1, .int p2, .int p3, .int p4, .int p5] ([(a_la, .inr (2, [.int la_lanes, .int la_deep, .int la_lanesTold, la_who, la_firstStrong, .int la_beasts, la_kind, la_firstLane, la_mood, la_price, .int la_cities, .int la_passes, .ref a_la_passBetween, .int la_turned])), (a_la_passBetween, .inl (cy 1, 36, .inl la_passBetween)), (a_ma, .inr (3, [.ref a_la, .ref a_ma_walked, .ref a_ma_way, .int ma_cities, .int ma_come])), (a_ma_walked, .inl (cy 1, 6, .inl ma_walked)), (a_ma_way, .inl (cy 1, 6, .inl ma_way))] ++ X)) (va_Qv (fun (_ : Unit) => True) (wB D A ([(a_la, .inr (2, [.int la_lanes, .int la_deep, .int la_lanesTold, la_who, la_firstStrong, .int la_beasts, la_kind, la_firstLane, la_mood, la_price, .int la_cities, .int la_passes, .ref a_la_passBetween, .int la_turned])), (a_la_passBetween, .inl (cy 1, 36, .inl la_passBetween)), (a_ma, .inr (3, [.ref a_la, .ref a_ma_walked, .ref a_ma_way, .int ma_cities', .int ma_come'])), (a_ma_walked, .inl (cy 1, 6, .inl ma_walked')), (a_ma_way, .inl (cy 1, 6, .inl ma_way'))] ++ X)) A) 0 0 A := by
  refine Met.ofW (cc := cX3_walk) (maxL := 8) (ret := none) (by decide) rfl ?_
  intro p e s m args below meth c s₁ B hml hv
  obtain ⟨rfl, hP, hKN, hD, hA⟩ := hv
  have hK := hKN.1
  have hx := B.exec
  have hb := B.bytes
  have hr := B.returns
  have hts := wt_X3_walk hKN.2.2 (([.ref a_ma, .int p1, .int p2, .int p3, .int p4, .int p5] : List Value).toArray)
  have hown : s.vm.findClass RX3 = some m.cls := findClass_of_methodNamed B.named
  have hlocks := B.notSynchronized
  have hS : va_S A s.heap s.heap [] := va_S.rf
  have hX2 := wc_X2 hKN.2.2 (([.ref a_ma, .int p1, .int p2, .int p3, .int p4, .int p5] : List Value).toArray)
  have hX3 := wc_X3 hKN.2.2 (([.ref a_ma, .int p1, .int p2, .int p3, .int p4, .int p5] : List Value).toArray)
  have hl := lv_entry ([.ref a_ma, .int p1, .int p2, .int p3, .int p4, .int p5]) (n := 8) (Nat.le_of_ble_eq_true rfl)
  rw [lg_entry_eq]
  generalize (lg_sl ([.ref a_ma, .int p1, .int p2, .int p3, .int p4, .int p5]) ++ List.replicate (8 - (lg_sl ([.ref a_ma, .int p1, .int p2, .int p3, .int p4, .int p5])).length) Slot.unset).toArray = ls at hl ⊢
  have hl : lv_has ls 8 [(0, .ref a_ma), (1, .int p1), (2, .int p2), (3, .int p3), (4, .int p4), (5, .int p5)] := hl
  have h : f_X3_walk_r (f_X3_walk 6) la_cities la_passBetween ma_cities ma_come ma_walked ma_way p1 p2 p3 p4 p5 = some (ma_cities', ma_come', ma_walked', ma_way') := h
  unfold f_X3_walk_r at h
  refine lv_iload hx hb dX3_walk_0 (lv_at hl 4 rfl) ?_
  refine lv_bipush (v := 6) hx hb dX3_walk_2 (by decide) ?_
  refine lv_icmp_lt (tgt := 8) hx hb dX3_walk_4 (by decide) (fun cd => ?_) (fun cd => ?_)
  · have h := ifT cd h
    refine lv_aload_n hx hb dX3_walk_8 rfl (lv_at hl 0 rfl) ?_
    refine va_get (D := D) (ci := 3) (C := RX3) (T := TX3) (N := 5) (v := .ref a_ma_walked) hx hb hX3 (fun _ q => q) hown hK hP 2 rfl rfl 1 (by decide) (hts (.fieldLink RX3 9 "ElephantLine$Marching" "walked" "[I") (by decide +kernel)) (fun _ h9 => h9) rfl dX3_walk_9 ?_
    refine lv_iload hx hb dX3_walk_12 (lv_at hl 4 rfl) ?_
    refine lv_iload_n hx hb dX3_walk_14 rfl (lv_at hl 1 rfl) ?_
    obtain ⟨i_1, h⟩ := gIn_some h
    refine va_iast hx hb hK hP hD hS 3 1 rfl rfl i_1 dX3_walk_15 (fun H locs hP hD hS => ?_)
    refine lv_iload_n hx hb dX3_walk_16 rfl (lv_at hl 1 rfl) ?_
    refine lv_iload_n hx hb dX3_walk_17 rfl (lv_at hl 2 rfl) ?_
    refine lv_icmp_ne (tgt := 31) hx hb dX3_walk_18 (by decide) (fun cd => ?_) (fun cd => ?_)
    · have h := ifF cd h
      refine lv_iconst (v := 0) hx hb dX3_walk_31 (by decide) ?_
      refine lv_istore (lv' := [(6, .int 0), (0, .ref a_ma), (1, .int p1), (2, .int p2), (3, .int p3), (4, .int p4), (5, .int p5)]) hx hb dX3_walk_32 hl (by decide) rfl (fun ls hl => ?_)
      have lp34 : ∀ (n34 : Nat) (x6_2 : Int32) (ma_cities_3 : Int32) (ma_come_4 : Int32) (ma_walked_5 : Nat → Int32) (ma_way_6 : Nat → Int32), f_X3_walk_L34 (f_X3_walk 6) la_cities la_passBetween p1 p2 p3 p4 p5 n34 x6_2 ma_cities_3 ma_come_4 ma_walked_5 ma_way_6 = some (ma_cities', ma_come', ma_walked', ma_way') → ∀ (H : Heap) (locs : List Loc), va_P D vwCl ([(a_la, .inr (2, [.int la_lanes, .int la_deep, .int la_lanesTold, la_who, la_firstStrong, .int la_beasts, la_kind, la_firstLane, la_mood, la_price, .int la_cities, .int la_passes, .ref a_la_passBetween, .int la_turned])), (a_la_passBetween, .inl (cy 1, 36, .inl la_passBetween)), (a_ma, .inr (3, [.ref a_la, .ref a_ma_walked, .ref a_ma_way, .int ma_cities_3, .int ma_come_4])), (a_ma_walked, .inl (cy 1, 6, .inl ma_walked_5)), (a_ma_way, .inl (cy 1, 6, .inl ma_way_6))] ++ X) H → va_D A ([(a_la, .inr (2, [.int la_lanes, .int la_deep, .int la_lanesTold, la_who, la_firstStrong, .int la_beasts, la_kind, la_firstLane, la_mood, la_price, .int la_cities, .int la_passes, .ref a_la_passBetween, .int la_turned])), (a_la_passBetween, .inl (cy 1, 36, .inl la_passBetween)), (a_ma, .inr (3, [.ref a_la, .ref a_ma_walked, .ref a_ma_way, .int ma_cities_3, .int ma_come_4])), (a_ma_walked, .inl (cy 1, 6, .inl ma_walked_5)), (a_ma_way, .inl (cy 1, 6, .inl ma_way_6))] ++ X) → va_S A s.heap H locs → ∀ ls : Array Slot, lv_has ls 8 [(0, .ref a_ma), (1, .int p1), (2, .int p2), (3, .int p3), (4, .int p4), (5, .int p5), (6, .int x6_2)] → W p l e (headSpec wo_X3_walk ({ frames := 9, cells := 0, slots := 0, locals := 232 })).room s m (([.ref a_ma, .int p1, .int p2, .int p3, .int p4, .int p5] : List Value).toArray) below meth c H locs 0 0 (MQ below (va_Qv (fun (_ : Unit) => True) (wB D A ([(a_la, .inr (2, [.int la_lanes, .int la_deep, .int la_lanesTold, la_who, la_firstStrong, .int la_beasts, la_kind, la_firstLane, la_mood, la_price, .int la_cities, .int la_passes, .ref a_la_passBetween, .int la_turned])), (a_la_passBetween, .inl (cy 1, 36, .inl la_passBetween)), (a_ma, .inr (3, [.ref a_la, .ref a_ma_walked, .ref a_ma_way, .int ma_cities', .int ma_come'])), (a_ma_walked, .inl (cy 1, 6, .inl ma_walked')), (a_ma_way, .inl (cy 1, 6, .inl ma_way'))] ++ X)) A) (([.ref a_ma, .int p1, .int p2, .int p3, .int p4, .int p5] : List Value).toArray) s 0 0 A) (F0 m 34 ls []) := by
        intro n34
        induction n34 with
        | zero => intro x6_2 ma_cities_3 ma_come_4 ma_walked_5 ma_way_6 h; exact absurd (show (none : Option (Int32 × Int32 × (Nat → Int32) × (Nat → Int32))) = some _ from h) (by intro q; cases q)
        | succ n34 ih34 =>
          intro x6_2 ma_cities_3 ma_come_4 ma_walked_5 ma_way_6 h H locs hP hD hS ls hl
          have h : f_X3_walk_b34 (f_X3_walk 6) la_cities la_passBetween p1 p2 p3 p4 p5 (f_X3_walk_L34 (f_X3_walk 6) la_cities la_passBetween p1 p2 p3 p4 p5 n34) x6_2 ma_cities_3 ma_come_4 ma_walked_5 ma_way_6 = some (ma_cities', ma_come', ma_walked', ma_way') := h
          unfold f_X3_walk_b34 at h
          refine lv_iload hx hb dX3_walk_34 (lv_at hl 6 rfl) ?_
          refine lv_aload_n hx hb dX3_walk_36 rfl (lv_at hl 0 rfl) ?_
          refine va_get (D := D) (ci := 3) (C := RX3) (T := TX3) (N := 5) (v := .ref a_la) hx hb hX3 (fun _ q => q) hown hK hP 2 rfl rfl 0 (by decide) (hts (.fieldLink RX3 18 "ElephantLine$Marching" "land" "LElephantLine$Land;") (by decide +kernel)) (fun _ h9 => h9) rfl dX3_walk_37 ?_
          refine va_getN (D := D) (ci := 2) (C := RX2) (T := TX2) (N := 14) (v := .int la_cities) hx hb hX2 (fun _ q => q) hown hK hP 0 rfl rfl 10 (by decide) (va_Nw.use rfl (hKN.2.1.1 ("ElephantLine$Marching", 37, "ElephantLine$Land", "cities", "I", "ElephantLine") (List.mem_of_getElem? (i := 29) rfl))) (fun _ h9 => h9) rfl dX3_walk_40 ?_
          refine lv_icmp_ge (tgt := 106) hx hb dX3_walk_43 (by decide) (fun cd => ?_) (fun cd => ?_)
          · have h := ifT cd h
            cases h
            exact W.vret hx hb hr (fun t ht _ => ⟨⟨(), rfl, trivial, by rw [ht]; exact hP, hD⟩, hS.F ht⟩) hS.2.2 dX3_walk_106
          · have h := ifF cd h
            refine lv_aload_n hx hb dX3_walk_46 rfl (lv_at hl 0 rfl) ?_
            refine va_get (D := D) (ci := 3) (C := RX3) (T := TX3) (N := 5) (v := .ref a_la) hx hb hX3 (fun _ q => q) hown hK hP 2 rfl rfl 0 (by decide) (hts (.fieldLink RX3 18 "ElephantLine$Marching" "land" "LElephantLine$Land;") (by decide +kernel)) (fun _ h9 => h9) rfl dX3_walk_47 ?_
            refine lv_iload_n hx hb dX3_walk_50 rfl (lv_at hl 1 rfl) ?_
            refine lv_iload hx hb dX3_walk_51 (lv_at hl 6 rfl) ?_
            obtain ⟨r_7, hc_8, h⟩ := bd1_some h
            refine kVi [.int p1, .int x6_2] [] ⟨hx, hb, hml, hown, hts⟩ (c_X2_lossBetween l D cy a_la a_la_passBetween la_lanes la_deep la_lanesTold (la_who) (la_firstStrong) la_beasts (la_kind) (la_firstLane) (la_mood) (la_price) la_cities la_passes la_turned la_passBetween p1 x6_2 r_7 hc_8) gX3_walk_X2_lossBetween rfl hd_X2_lossBetween ⟨Nat.le_of_ble_eq_true rfl, Nat.le_of_ble_eq_true rfl⟩ rfl rfl hKN (pXc hP [0, 1] rfl) 2 0 rfl rfl rfl hl.1 rfl (Nat.le_of_ble_eq_true rfl) dX3_walk_53 ⟨Nat.le_of_ble_eq_true rfl, Nat.le_of_ble_eq_true rfl⟩ ?_
            refine lv_istore (lv' := [(7, .int r_7), (0, .ref a_ma), (1, .int p1), (2, .int p2), (3, .int p3), (4, .int p4), (5, .int p5), (6, .int x6_2)]) hx hb dX3_walk_56 hl (by decide) rfl (fun ls hl => ?_)
            refine lv_iload hx hb dX3_walk_58 (lv_at hl 0 rfl) ?_
            refine lv_iconst (v := (-1)) hx hb dX3_walk_60 (by decide) ?_
            have jn100 : ∀ (ma_cities_9 : Int32) (ma_come_10 : Int32) (ma_walked_11 : Nat → Int32) (ma_way_12 : Nat → Int32), f_X3_walk_B100 (f_X3_walk_L34 (f_X3_walk 6) la_cities la_passBetween p1 p2 p3 p4 p5 n34) (f_X3_walk 6) la_cities la_passBetween p1 p2 p3 p4 p5 x6_2 ma_cities_9 ma_come_10 ma_walked_11 ma_way_12 = some (ma_cities', ma_come', ma_walked', ma_way') → ∀ (H : Heap) (locs : List Loc), va_P D vwCl ([(a_la, .inr (2, [.int la_lanes, .int la_deep, .int la_lanesTold, la_who, la_firstStrong, .int la_beasts, la_kind, la_firstLane, la_mood, la_price, .int la_cities, .int la_passes, .ref a_la_passBetween, .int la_turned])), (a_la_passBetween, .inl (cy 1, 36, .inl la_passBetween)), (a_ma, .inr (3, [.ref a_la, .ref a_ma_walked, .ref a_ma_way, .int ma_cities_9, .int ma_come_10])), (a_ma_walked, .inl (cy 1, 6, .inl ma_walked_11)), (a_ma_way, .inl (cy 1, 6, .inl ma_way_12))] ++ X) H → va_D A ([(a_la, .inr (2, [.int la_lanes, .int la_deep, .int la_lanesTold, la_who, la_firstStrong, .int la_beasts, la_kind, la_firstLane, la_mood, la_price, .int la_cities, .int la_passes, .ref a_la_passBetween, .int la_turned])), (a_la_passBetween, .inl (cy 1, 36, .inl la_passBetween)), (a_ma, .inr (3, [.ref a_la, .ref a_ma_walked, .ref a_ma_way, .int ma_cities_9, .int ma_come_10])), (a_ma_walked, .inl (cy 1, 6, .inl ma_walked_11)), (a_ma_way, .inl (cy 1, 6, .inl ma_way_12))] ++ X) → va_S A s.heap H locs → ∀ ls : Array Slot, lv_has ls 8 [(0, .ref a_ma), (1, .int p1), (2, .int p2), (3, .int p3), (4, .int p4), (5, .int p5), (6, .int x6_2)] → W p l e (headSpec wo_X3_walk ({ frames := 9, cells := 0, slots := 0, locals := 232 })).room s m (([.ref a_ma, .int p1, .int p2, .int p3, .int p4, .int p5] : List Value).toArray) below meth c H locs 0 0 (MQ below (va_Qv (fun (_ : Unit) => True) (wB D A ([(a_la, .inr (2, [.int la_lanes, .int la_deep, .int la_lanesTold, la_who, la_firstStrong, .int la_beasts, la_kind, la_firstLane, la_mood, la_price, .int la_cities, .int la_passes, .ref a_la_passBetween, .int la_turned])), (a_la_passBetween, .inl (cy 1, 36, .inl la_passBetween)), (a_ma, .inr (3, [.ref a_la, .ref a_ma_walked, .ref a_ma_way, .int ma_cities', .int ma_come'])), (a_ma_walked, .inl (cy 1, 6, .inl ma_walked')), (a_ma_way, .inl (cy 1, 6, .inl ma_way'))] ++ X)) A) (([.ref a_ma, .int p1, .int p2, .int p3, .int p4, .int p5] : List Value).toArray) s 0 0 A) (F0 m 100 ls []) := by
              intro ma_cities_9 ma_come_10 ma_walked_11 ma_way_12 h H locs hP hD hS ls hl
              unfold f_X3_walk_B100 at h
              refine lv_iinc (v := x6_2 + 1) (lv' := [(6, .int (x6_2 + 1)), (0, .ref a_ma), (1, .int p1), (2, .int p2), (3, .int p3), (4, .int p4), (5, .int p5)]) hx hb dX3_walk_100 hl (k := 6) rfl (by first | rfl | decide) (by decide) rfl (fun ls hl => ?_)
              refine lv_goto (tgt := 34) hx hb dX3_walk_103 (by decide) ?_
              exact ih34 (x6_2 + 1) ma_cities_9 ma_come_10 ma_walked_11 ma_way_12 h _ _ hP hD hS _ (lv_sub hl [1, 2, 3, 4, 5, 6, 0] rfl)
            refine lv_icmp_eq (tgt := 100) hx hb dX3_walk_61 (by decide) (fun cd => ?_) (fun cd => ?_)
            · have h := ifT cd h
              exact jn100 ma_cities_3 ma_come_4 ma_walked_5 ma_way_6 h _ _ hP hD hS _ (lv_sub hl [1, 2, 3, 4, 5, 6, 7] rfl)
            · have h := ifF cd h
              refine lv_iload hx hb dX3_walk_64 (lv_at hl 6 rfl) ?_
              refine lv_iload hx hb dX3_walk_66 (lv_at hl 7 rfl) ?_
              refine lv_ishr hx hb dX3_walk_68 ?_
              refine lv_iconst (v := 1) hx hb dX3_walk_69 (by decide) ?_
              refine lv_iand hx hb dX3_walk_70 ?_
              refine lv_if_ne (tgt := 100) hx hb dX3_walk_71 (by decide) (fun cd => ?_) (fun cd => ?_)
              · have h := ifF cd h
                exact jn100 ma_cities_3 ma_come_4 ma_walked_5 ma_way_6 h _ _ hP hD hS _ (lv_sub hl [1, 2, 3, 4, 5, 6, 7] rfl)
              · have h := ifT cd h
                refine lv_aload_n hx hb dX3_walk_74 rfl (lv_at hl 1 rfl) ?_
                refine lv_iload hx hb dX3_walk_75 (lv_at hl 7 rfl) ?_
                refine lv_iload_n hx hb dX3_walk_77 rfl (lv_at hl 3 rfl) ?_
                refine lv_iload_n hx hb dX3_walk_78 rfl (lv_at hl 4 rfl) ?_
                refine lv_iload_n hx hb dX3_walk_79 rfl (lv_at hl 4 rfl) ?_
                refine lv_iload hx hb dX3_walk_80 (lv_at hl 0 rfl) ?_
                obtain ⟨r_13, hc_14, h⟩ := bd1_some h
                refine kSi [.int p3, .int r_7] [.int p3, .int p2, .int x6_2, .ref a_ma] ⟨hx, hb, hml, hown, hts⟩ (c_X3_lostOn l D cy p3 r_7 r_13 hc_14) gX3_walk_X3_lostOn rfl hd_X3_lostOn ⟨Nat.le_of_ble_eq_true rfl, Nat.le_of_ble_eq_true rfl⟩ rfl rfl hKN va_nil rfl hl.1 rfl (Nat.le_of_ble_eq_true rfl) dX3_walk_82 ⟨Nat.le_of_ble_eq_true rfl, Nat.le_of_ble_eq_true rfl⟩ ?_
                refine lv_isub hx hb dX3_walk_85 ?_
                refine lv_iload hx hb dX3_walk_86 (lv_at hl 5 rfl) ?_
                refine lv_iconst (v := 1) hx hb dX3_walk_88 (by decide) ?_
                refine lv_iadd hx hb dX3_walk_89 ?_
                refine lv_iload hx hb dX3_walk_90 (lv_at hl 6 rfl) ?_
                refine lv_iconst (v := 1) hx hb dX3_walk_92 (by decide) ?_
                refine lv_iload hx hb dX3_walk_93 (lv_at hl 7 rfl) ?_
                refine lv_ishl hx hb dX3_walk_95 ?_
                refine lv_ior hx hb dX3_walk_96 ?_
                obtain ⟨ma_cities_15, ma_come_16, ma_walked_17, ma_way_18, hc_19, h⟩ := bd4_some h
                refine wVv [.int x6_2, .int p2, .int (p3 - r_13), .int (p4 + 1), .int (p5 ||| ((1 : Int32) <<< (x6_2 &&& 31)))] [] ⟨hx, hb, hml, hown, hts⟩ (c_X3_walk_6 l D cy A X a_la a_la_passBetween a_ma a_ma_walked a_ma_way la_lanes la_deep la_lanesTold (la_who) (la_firstStrong) la_beasts (la_kind) (la_firstLane) (la_mood) (la_price) la_cities la_passes la_turned la_passBetween ma_cities_3 ma_come_4 ma_walked_5 ma_way_6 x6_2 p2 (p3 - r_13) (p4 + 1) (p5 ||| ((1 : Int32) <<< (x6_2 &&& 31))) ma_cities_15 ma_come_16 ma_walked_17 ma_way_18 hc_19) gX3_walk_X3_walk rfl hd_X3_walk ⟨Nat.le_of_ble_eq_true rfl, Nat.le_of_ble_eq_true rfl⟩ rfl rfl hKN hP hD hS hA 3 2 rfl rfl rfl hl.1 rfl (Nat.le_of_ble_eq_true rfl) dX3_walk_97 ⟨Nat.le_of_ble_eq_true rfl, Nat.le_of_ble_eq_true rfl⟩ (fun H locs hP hD hS => ?_)
                exact jn100 ma_cities_15 ma_come_16 ma_walked_17 ma_way_18 h _ _ hP hD hS _ (lv_sub hl [1, 2, 3, 4, 5, 6, 7] rfl)
      exact lp34 fuelN (0 : Int32) ma_cities ma_come (upd ma_walked p4.toNatClampNeg p1) ma_way h _ _ hP hD hS _ (lv_sub hl [1, 2, 3, 4, 5, 6, 0] rfl)
    · have h := ifT cd h
      refine lv_aload_n hx hb dX3_walk_21 rfl (lv_at hl 0 rfl) ?_
      refine lv_iload_n hx hb dX3_walk_22 rfl (lv_at hl 3 rfl) ?_
      refine lv_iload hx hb dX3_walk_23 (lv_at hl 4 rfl) ?_
      refine lv_iconst (v := 1) hx hb dX3_walk_25 (by decide) ?_
      refine lv_iadd hx hb dX3_walk_26 ?_
      have hP : va_P D vwCl ([(a_la, .inr (2, [.int la_lanes, .int la_deep, .int la_lanesTold, la_who, la_firstStrong, .int la_beasts, la_kind, la_firstLane, la_mood, la_price, .int la_cities, .int la_passes, .ref a_la_passBetween, .int la_turned])), (a_la_passBetween, .inl (cy 1, 36, .inl la_passBetween)), (a_ma, .inr (3, [.ref a_la, .ref a_ma_walked, .ref a_ma_way, .int ma_cities, .int ma_come])), (a_ma_walked, .inl (cy 1, 6, .inl (upd ma_walked p4.toNatClampNeg p1))), (a_ma_way, .inl (cy 1, 6, .inl ma_way))] ++ X) H := hP
      have hD : va_D A ([(a_la, .inr (2, [.int la_lanes, .int la_deep, .int la_lanesTold, la_who, la_firstStrong, .int la_beasts, la_kind, la_firstLane, la_mood, la_price, .int la_cities, .int la_passes, .ref a_la_passBetween, .int la_turned])), (a_la_passBetween, .inl (cy 1, 36, .inl la_passBetween)), (a_ma, .inr (3, [.ref a_la, .ref a_ma_walked, .ref a_ma_way, .int ma_cities, .int ma_come])), (a_ma_walked, .inl (cy 1, 6, .inl (upd ma_walked p4.toNatClampNeg p1))), (a_ma_way, .inl (cy 1, 6, .inl ma_way))] ++ X) := hD
      obtain ⟨ma_cities_20, ma_come_21, ma_way_22, hc_23, h⟩ := bd3_some h
      refine wVv [.int p3, .int (p4 + 1)] [] ⟨hx, hb, hml, hown, hts⟩ (c_X3_keepIfBetter l D cy A ([(a_la, .inr (2, [.int la_lanes, .int la_deep, .int la_lanesTold, la_who, la_firstStrong, .int la_beasts, la_kind, la_firstLane, la_mood, la_price, .int la_cities, .int la_passes, .ref a_la_passBetween, .int la_turned])), (a_la_passBetween, .inl (cy 1, 36, .inl la_passBetween))] ++ X) a_ma a_ma_walked a_ma_way (.ref a_la) ma_cities ma_come (upd ma_walked p4.toNatClampNeg p1) ma_way p3 (p4 + 1) ma_cities_20 ma_come_21 ma_way_22 hc_23) gX3_walk_X3_keepIfBetter rfl hd_X3_keepIfBetter ⟨Nat.le_of_ble_eq_true rfl, Nat.le_of_ble_eq_true rfl⟩ rfl rfl hKN (pX3 hP [2, 3, 4, 0, 1] rfl) (dX3 hD [2, 3, 4, 0, 1] rfl rfl) hS hA 3 0 rfl rfl rfl hl.1 rfl (Nat.le_of_ble_eq_true rfl) dX3_walk_27 ⟨Nat.le_of_ble_eq_true rfl, Nat.le_of_ble_eq_true rfl⟩ (fun H locs hP hD hS => ?_)
      have hP := pX4 (L1 := [(a_la, .inr (2, [.int la_lanes, .int la_deep, .int la_lanesTold, la_who, la_firstStrong, .int la_beasts, la_kind, la_firstLane, la_mood, la_price, .int la_cities, .int la_passes, .ref a_la_passBetween, .int la_turned])), (a_la_passBetween, .inl (cy 1, 36, .inl la_passBetween)), (a_ma, .inr (3, [.ref a_la, .ref a_ma_walked, .ref a_ma_way, .int ma_cities_20, .int ma_come_21])), (a_ma_walked, .inl (cy 1, 6, .inl (upd ma_walked p4.toNatClampNeg p1))), (a_ma_way, .inl (cy 1, 6, .inl ma_way_22))]) hP [3, 4, 0, 1, 2] rfl
      have hD := dX4 (L1 := [(a_la, .inr (2, [.int la_lanes, .int la_deep, .int la_lanesTold, la_who, la_firstStrong, .int la_beasts, la_kind, la_firstLane, la_mood, la_price, .int la_cities, .int la_passes, .ref a_la_passBetween, .int la_turned])), (a_la_passBetween, .inl (cy 1, 36, .inl la_passBetween)), (a_ma, .inr (3, [.ref a_la, .ref a_ma_walked, .ref a_ma_way, .int ma_cities_20, .int ma_come_21])), (a_ma_walked, .inl (cy 1, 6, .inl (upd ma_walked p4.toNatClampNeg p1))), (a_ma_way, .inl (cy 1, 6, .inl ma_way_22))]) hD [3, 4, 0, 1, 2] rfl rfl
      cases h
      exact W.vret hx hb hr (fun t ht _ => ⟨⟨(), rfl, trivial, by rw [ht]; exact hP, hD⟩, hS.F ht⟩) hS.2.2 dX3_walk_30
  · have h := ifF cd h
    cases h
    exact W.vret hx hb hr (fun t ht _ => ⟨⟨(), rfl, trivial, by rw [ht]; exact hP, hD⟩, hS.F ht⟩) hS.2.2 dX3_walk_7
theorem hd_X3_citiesFrom : yX3_citiesFrom.cls = RX3 ∧ yX3_citiesFrom.cls ≠ "java/lang/invoke/MethodHandle" ∧ yX3_citiesFrom.cls ≠ "java/lang/invoke/VarHandle" ∧ (parseMethodDescriptor yX3_citiesFrom.desc).map (fun d => d.parameters.length) = some 1 := by decide +kernel
set_option maxHeartbeats 4000000 in
set_option maxRecDepth 100000 in
theorem c_X3_citiesFrom (l : Launch) (D : va_G) (cy : Nat → ClassId) (a_la a_la_passBetween a_ma : Nat) (la_lanes : Int32) (la_deep : Int32) (la_lanesTold : Int32) (la_who : Value) (la_firstStrong : Value) (la_beasts : Int32) (la_kind : Value) (la_firstLane : Value) (la_mood : Value) (la_price : Value) (la_cities : Int32) (la_passes : Int32) (la_turned : Int32) (la_passBetween : Nat → Int32) (ma_walked : Value) (ma_way : Value) (ma_cities : Int32) (ma_come : Int32) (p1 : Int32) (res : Int32) (h : f_X3_citiesFrom la_cities la_passBetween p1 = some (res)) : Met l yX3_citiesFrom wo_X3_citiesFrom ({ frames := 3, cells := 0, slots := 0, locals := 66 }) (roPc D cy [.ref a_ma, .int p1] [(a_la, .inr (2, [.int la_lanes, .int la_deep, .int la_lanesTold, la_who, la_firstStrong, .int la_beasts, la_kind, la_firstLane, la_mood, la_price, .int la_cities, .int la_passes, .ref a_la_passBetween, .int la_turned])), (a_la_passBetween, .inl (cy 1, 36, .inl la_passBetween)), (a_ma, .inr (3, [.ref a_la, ma_walked, ma_way, .int ma_cities, .int ma_come]))]) (vp_Si (fun r => r = res)) 0 0 (fun _ => False) := by
  refine Met.ofW (cc := cX3_citiesFrom) (maxL := 5) (ret := (some .int)) (by decide) rfl ?_
  intro p e s m args below meth c s₁ B hml hv
  obtain ⟨rfl, hP, hKN⟩ := hv
  have hK := hKN.1
  have hx := B.exec
  have hb := B.bytes
  have hr := B.returns
  have hts := wt_X3_citiesFrom hKN.2.2 (([.ref a_ma, .int p1] : List Value).toArray)
  have hown : s.vm.findClass RX3 = some m.cls := findClass_of_methodNamed B.named
  have hlocks := B.notSynchronized
  have hX2 := wc_X2 hKN.2.2 (([.ref a_ma, .int p1] : List Value).toArray)
  have hX3 := wc_X3 hKN.2.2 (([.ref a_ma, .int p1] : List Value).toArray)
  have hl := lv_entry ([.ref a_ma, .int p1]) (n := 5) (Nat.le_of_ble_eq_true rfl)
  rw [lg_entry_eq]
  generalize (lg_sl ([.ref a_ma, .int p1]) ++ List.replicate (5 - (lg_sl ([.ref a_ma, .int p1])).length) Slot.unset).toArray = ls at hl ⊢
  have hl : lv_has ls 5 [(0, .ref a_ma), (1, .int p1)] := hl
  unfold f_X3_citiesFrom at h
  refine lv_iconst (v := 1) hx hb dX3_citiesFrom_0 (by decide) ?_
  refine lv_iload_n hx hb dX3_citiesFrom_1 rfl (lv_at hl 1 rfl) ?_
  refine lv_ishl hx hb dX3_citiesFrom_2 ?_
  refine lv_istore_n (lv' := [(2, .int ((1 : Int32) <<< (p1 &&& 31))), (0, .ref a_ma), (1, .int p1)]) hx hb dX3_citiesFrom_3 rfl hl (by decide) rfl (fun ls hl => ?_)
  refine lv_iconst (v := 0) hx hb dX3_citiesFrom_4 (by decide) ?_
  refine lv_istore_n (lv' := [(3, .int 0), (2, .int ((1 : Int32) <<< (p1 &&& 31))), (0, .ref a_ma), (1, .int p1)]) hx hb dX3_citiesFrom_5 rfl hl (by decide) rfl (fun ls hl => ?_)
  have lp6 : ∀ (n6 : Nat) (x2_1 : Int32) (x3_2 : Int32), f_X3_citiesFrom_L6 la_cities la_passBetween n6 x2_1 x3_2 = some (res) → ∀ ls : Array Slot, lv_has ls 5 [(0, .ref a_ma), (2, .int x2_1), (3, .int x3_2)] → W p l e (headSpec wo_X3_citiesFrom ({ frames := 3, cells := 0, slots := 0, locals := 66 })).room s m (([.ref a_ma, .int p1] : List Value).toArray) below meth c s.heap [] 0 0 (MQ below (vp_Si (fun r => r = res)) (([.ref a_ma, .int p1] : List Value).toArray) s 0 0 (fun _ => False)) (F0 m 6 ls []) := by
    intro n6
    induction n6 with
    | zero => intro x2_1 x3_2 h; exact absurd (show (none : Option (Int32)) = some _ from h) (by intro q; cases q)
    | succ n6 ih6 =>
      intro x2_1 x3_2 h ls hl
      have h : f_X3_citiesFrom_b6 la_cities la_passBetween (f_X3_citiesFrom_L6 la_cities la_passBetween n6) x2_1 x3_2 = some (res) := h
      unfold f_X3_citiesFrom_b6 at h
      refine lv_iload_n hx hb dX3_citiesFrom_6 rfl (lv_at hl 2 rfl) ?_
      refine lv_aload_n hx hb dX3_citiesFrom_7 rfl (lv_at hl 0 rfl) ?_
      refine va_get (D := D) (ci := 3) (C := RX3) (T := TX3) (N := 5) (v := .ref a_la) hx hb hX3 (fun _ q => q) hown hK hP 2 rfl rfl 0 (by decide) (hts (.fieldLink RX3 18 "ElephantLine$Marching" "land" "LElephantLine$Land;") (by decide +kernel)) (fun _ h9 => h9) rfl dX3_citiesFrom_8 ?_
      refine va_getN (D := D) (ci := 2) (C := RX2) (T := TX2) (N := 14) (v := .int la_cities) hx hb hX2 (fun _ q => q) hown hK hP 0 rfl rfl 10 (by decide) (va_Nw.use rfl (hKN.2.1.1 ("ElephantLine$Marching", 37, "ElephantLine$Land", "cities", "I", "ElephantLine") (List.mem_of_getElem? (i := 29) rfl))) (fun _ h9 => h9) rfl dX3_citiesFrom_11 ?_
      refine lv_icmp_ge (tgt := 67) hx hb dX3_citiesFrom_14 (by decide) (fun cd => ?_) (fun cd => ?_)
      · have h := ifT cd h
        refine lv_iload_n hx hb dX3_citiesFrom_67 rfl (lv_at hl 1 rfl) ?_
        exact W.iret (v := x2_1) hx hb hr (fun t ht _ => ⟨_, rfl, Option.some.inj h, ht⟩) (fun _ q => by cases q) dX3_citiesFrom_68
      · have h := ifF cd h
        refine lv_iconst (v := 0) hx hb dX3_citiesFrom_17 (by decide) ?_
        refine lv_istore (lv' := [(4, .int 0), (0, .ref a_ma), (2, .int x2_1), (3, .int x3_2)]) hx hb dX3_citiesFrom_18 hl (by decide) rfl (fun ls hl => ?_)
        have jn61 : ∀ (x2_3 : Int32), f_X3_citiesFrom_B61 (f_X3_citiesFrom_L6 la_cities la_passBetween n6) la_cities la_passBetween x2_3 x3_2 = some (res) → ∀ ls : Array Slot, lv_has ls 5 [(0, .ref a_ma), (2, .int x2_3), (3, .int x3_2)] → W p l e (headSpec wo_X3_citiesFrom ({ frames := 3, cells := 0, slots := 0, locals := 66 })).room s m (([.ref a_ma, .int p1] : List Value).toArray) below meth c s.heap [] 0 0 (MQ below (vp_Si (fun r => r = res)) (([.ref a_ma, .int p1] : List Value).toArray) s 0 0 (fun _ => False)) (F0 m 61 ls []) := by
          intro x2_3 h ls hl
          unfold f_X3_citiesFrom_B61 at h
          refine lv_iinc (v := x3_2 + 1) (lv' := [(3, .int (x3_2 + 1)), (0, .ref a_ma), (2, .int x2_3)]) hx hb dX3_citiesFrom_61 hl (k := 2) rfl (by first | rfl | decide) (by decide) rfl (fun ls hl => ?_)
          refine lv_goto (tgt := 6) hx hb dX3_citiesFrom_64 (by decide) ?_
          exact ih6 x2_3 (x3_2 + 1) h _ (lv_sub hl [1, 2, 0] rfl)
        have lp20 : ∀ (n20 : Nat) (x2_4 : Int32) (x4_5 : Int32), f_X3_citiesFrom_L20 (f_X3_citiesFrom_L6 la_cities la_passBetween n6) la_cities la_passBetween x3_2 n20 x2_4 x4_5 = some (res) → ∀ ls : Array Slot, lv_has ls 5 [(0, .ref a_ma), (2, .int x2_4), (3, .int x3_2), (4, .int x4_5)] → W p l e (headSpec wo_X3_citiesFrom ({ frames := 3, cells := 0, slots := 0, locals := 66 })).room s m (([.ref a_ma, .int p1] : List Value).toArray) below meth c s.heap [] 0 0 (MQ below (vp_Si (fun r => r = res)) (([.ref a_ma, .int p1] : List Value).toArray) s 0 0 (fun _ => False)) (F0 m 20 ls []) := by
          intro n20
          induction n20 with
          | zero => intro x2_4 x4_5 h; exact absurd (show (none : Option (Int32)) = some _ from h) (by intro q; cases q)
          | succ n20 ih20 =>
            intro x2_4 x4_5 h ls hl
            have h : f_X3_citiesFrom_b20 (f_X3_citiesFrom_L6 la_cities la_passBetween n6) la_cities la_passBetween x3_2 (f_X3_citiesFrom_L20 (f_X3_citiesFrom_L6 la_cities la_passBetween n6) la_cities la_passBetween x3_2 n20) x2_4 x4_5 = some (res) := h
            unfold f_X3_citiesFrom_b20 at h
            refine lv_iload hx hb dX3_citiesFrom_20 (lv_at hl 3 rfl) ?_
            refine lv_aload_n hx hb dX3_citiesFrom_22 rfl (lv_at hl 0 rfl) ?_
            refine va_get (D := D) (ci := 3) (C := RX3) (T := TX3) (N := 5) (v := .ref a_la) hx hb hX3 (fun _ q => q) hown hK hP 2 rfl rfl 0 (by decide) (hts (.fieldLink RX3 18 "ElephantLine$Marching" "land" "LElephantLine$Land;") (by decide +kernel)) (fun _ h9 => h9) rfl dX3_citiesFrom_23 ?_
            refine va_getN (D := D) (ci := 2) (C := RX2) (T := TX2) (N := 14) (v := .int la_cities) hx hb hX2 (fun _ q => q) hown hK hP 0 rfl rfl 10 (by decide) (va_Nw.use rfl (hKN.2.1.1 ("ElephantLine$Marching", 37, "ElephantLine$Land", "cities", "I", "ElephantLine") (List.mem_of_getElem? (i := 29) rfl))) (fun _ h9 => h9) rfl dX3_citiesFrom_26 ?_
            refine lv_icmp_ge (tgt := 61) hx hb dX3_citiesFrom_29 (by decide) (fun cd => ?_) (fun cd => ?_)
            · have h := ifT cd h
              exact jn61 x2_4 h _ (lv_sub hl [0, 1, 2] rfl)
            · have h := ifF cd h
              refine lv_iload_n hx hb dX3_citiesFrom_32 rfl (lv_at hl 1 rfl) ?_
              refine lv_iload_n hx hb dX3_citiesFrom_33 rfl (lv_at hl 1 rfl) ?_
              refine lv_iload hx hb dX3_citiesFrom_34 (lv_at hl 3 rfl) ?_
              refine lv_ishr hx hb dX3_citiesFrom_36 ?_
              refine lv_iconst (v := 1) hx hb dX3_citiesFrom_37 (by decide) ?_
              refine lv_iand hx hb dX3_citiesFrom_38 ?_
              refine lv_iconst (v := 1) hx hb dX3_citiesFrom_39 (by decide) ?_
              have jn53 : ∀ (t1_6 : Int32), f_X3_citiesFrom_B53 (f_X3_citiesFrom_L6 la_cities la_passBetween n6) (f_X3_citiesFrom_L20 (f_X3_citiesFrom_L6 la_cities la_passBetween n6) la_cities la_passBetween x3_2 n20) la_cities la_passBetween x3_2 x4_5 x2_4 t1_6 = some (res) → ∀ ls : Array Slot, lv_has ls 5 [(0, .ref a_ma), (3, .int x3_2), (4, .int x4_5)] → W p l e (headSpec wo_X3_citiesFrom ({ frames := 3, cells := 0, slots := 0, locals := 66 })).room s m (([.ref a_ma, .int p1] : List Value).toArray) below meth c s.heap [] 0 0 (MQ below (vp_Si (fun r => r = res)) (([.ref a_ma, .int p1] : List Value).toArray) s 0 0 (fun _ => False)) (F0 m 53 ls [.int t1_6, .int x2_4]) := by
                intro t1_6 h ls hl
                unfold f_X3_citiesFrom_B53 at h
                refine lv_ior hx hb dX3_citiesFrom_53 ?_
                refine lv_istore_n (lv' := [(2, .int (x2_4 ||| t1_6)), (0, .ref a_ma), (3, .int x3_2), (4, .int x4_5)]) hx hb dX3_citiesFrom_54 rfl hl (by decide) rfl (fun ls hl => ?_)
                refine lv_iinc (v := x4_5 + 1) (lv' := [(4, .int (x4_5 + 1)), (2, .int (x2_4 ||| t1_6)), (0, .ref a_ma), (3, .int x3_2)]) hx hb dX3_citiesFrom_55 hl (k := 3) rfl (by first | rfl | decide) (by decide) rfl (fun ls hl => ?_)
                refine lv_goto (tgt := 20) hx hb dX3_citiesFrom_58 (by decide) ?_
                exact ih20 (x2_4 ||| t1_6) (x4_5 + 1) h _ (lv_sub hl [2, 1, 3, 0] rfl)
              refine lv_icmp_ne (tgt := 52) hx hb dX3_citiesFrom_40 (by decide) (fun cd => ?_) (fun cd => ?_)
              · have h := ifF cd h
                refine lv_iconst (v := 0) hx hb dX3_citiesFrom_52 (by decide) ?_
                exact jn53 (0 : Int32) h _ (lv_sub hl [0, 2, 3] rfl)
              · have h := ifT cd h
                refine lv_aload_n hx hb dX3_citiesFrom_43 rfl (lv_at hl 0 rfl) ?_
                refine lv_iload hx hb dX3_citiesFrom_44 (lv_at hl 3 rfl) ?_
                obtain ⟨r_7, hc_8, h⟩ := bd1_some h
                refine kVi [.int x4_5] [.int x2_4] ⟨hx, hb, hml, hown, hts⟩ (c_X3_neighboursOf l D cy a_la a_la_passBetween a_ma la_lanes la_deep la_lanesTold (la_who) (la_firstStrong) la_beasts (la_kind) (la_firstLane) (la_mood) (la_price) la_cities la_passes la_turned la_passBetween (ma_walked) (ma_way) ma_cities ma_come x4_5 r_7 hc_8) gX3_citiesFrom_X3_neighboursOf rfl hd_X3_neighboursOf ⟨Nat.le_of_ble_eq_true rfl, Nat.le_of_ble_eq_true rfl⟩ rfl rfl hKN (hP.sub [0, 1, 2] rfl) 3 2 rfl rfl rfl hl.1 rfl (Nat.le_of_ble_eq_true rfl) dX3_citiesFrom_46 ⟨Nat.le_of_ble_eq_true rfl, Nat.le_of_ble_eq_true rfl⟩ ?_
                refine lv_goto (tgt := 53) hx hb dX3_citiesFrom_49 (by decide) ?_
                exact jn53 r_7 h _ (lv_sub hl [0, 2, 3] rfl)
        exact lp20 fuelN x2_1 (0 : Int32) h _ (lv_sub hl [1, 2, 3, 0] rfl)
  exact lp6 fuelN ((1 : Int32) <<< (p1 &&& 31)) (0 : Int32) h _ (lv_sub hl [2, 1, 0] rfl)
theorem hd_X3_mostThatCome : yX3_mostThatCome.cls = RX3 ∧ yX3_mostThatCome.cls ≠ "java/lang/invoke/MethodHandle" ∧ yX3_mostThatCome.cls ≠ "java/lang/invoke/VarHandle" ∧ (parseMethodDescriptor yX3_mostThatCome.desc).map (fun d => d.parameters.length) = some 3 := by decide +kernel
set_option maxHeartbeats 4000000 in
set_option maxRecDepth 100000 in
theorem c_X3_mostThatCome (l : Launch) (D : va_G) (cy : Nat → ClassId) (A : Nat → Prop) (X : va_W) (a_la a_la_passBetween a_ma a_ma_walked a_ma_way : Nat) (la_lanes : Int32) (la_deep : Int32) (la_lanesTold : Int32) (la_who : Value) (la_firstStrong : Value) (la_beasts : Int32) (la_kind : Value) (la_firstLane : Value) (la_mood : Value) (la_price : Value) (la_cities : Int32) (la_passes : Int32) (la_turned : Int32) (la_passBetween : Nat → Int32) (ma_cities : Int32) (ma_come : Int32) (ma_walked : Nat → Int32) (ma_way : Nat → Int32) (p1 : Int32) (p2 : Int32) (p3 : Int32) (res : Int32) (ma_cities' : Int32) (ma_come' : Int32) (ma_walked' : Nat → Int32) (ma_way' : Nat → Int32) (h : f_X3_mostThatCome la_cities la_passBetween ma_cities ma_come ma_walked ma_way p1 p2 p3 = some (res, ma_cities', ma_come', ma_walked', ma_way')) : Met l yX3_mostThatCome wo_X3_mostThatCome ({ frames := 10, cells := 0, slots := 0, locals := 259 }) (wrPc D cy A [.ref a_ma, .int p1, .int p2, .int p3] ([(a_la, .inr (2, [.int la_lanes, .int la_deep, .int la_lanesTold, la_who, la_firstStrong, .int la_beasts, la_kind, la_firstLane, la_mood, la_price, .int la_cities, .int la_passes, .ref a_la_passBetween, .int la_turned])), (a_la_passBetween, .inl (cy 1, 36, .inl la_passBetween)), (a_ma, .inr (3, [.ref a_la, .ref a_ma_walked, .ref a_ma_way, .int ma_cities, .int ma_come])), (a_ma_walked, .inl (cy 1, 6, .inl ma_walked)), (a_ma_way, .inl (cy 1, 6, .inl ma_way))] ++ X)) (va_Qi (fun (r : Int32) (_ : Unit) => r = res) (wB D A ([(a_la, .inr (2, [.int la_lanes, .int la_deep, .int la_lanesTold, la_who, la_firstStrong, .int la_beasts, la_kind, la_firstLane, la_mood, la_price, .int la_cities, .int la_passes, .ref a_la_passBetween, .int la_turned])), (a_la_passBetween, .inl (cy 1, 36, .inl la_passBetween)), (a_ma, .inr (3, [.ref a_la, .ref a_ma_walked, .ref a_ma_way, .int ma_cities', .int ma_come'])), (a_ma_walked, .inl (cy 1, 6, .inl ma_walked')), (a_ma_way, .inl (cy 1, 6, .inl ma_way'))] ++ X)) A) 0 0 A := by
  refine Met.ofW (cc := cX3_mostThatCome) (maxL := 4) (ret := (some .int)) (by decide) rfl ?_
  intro p e s m args below meth c s₁ B hml hv
  obtain ⟨rfl, hP, hKN, hD, hA⟩ := hv
  have hK := hKN.1
  have hx := B.exec
  have hb := B.bytes
  have hr := B.returns
  have hts := wt_X3_mostThatCome hKN.2.2 (([.ref a_ma, .int p1, .int p2, .int p3] : List Value).toArray)
  have hown : s.vm.findClass RX3 = some m.cls := findClass_of_methodNamed B.named
  have hlocks := B.notSynchronized
  have hS : va_S A s.heap s.heap [] := va_S.rf
  have hX3 := wc_X3 hKN.2.2 (([.ref a_ma, .int p1, .int p2, .int p3] : List Value).toArray)
  have hl := lv_entry ([.ref a_ma, .int p1, .int p2, .int p3]) (n := 4) (Nat.le_of_ble_eq_true rfl)
  rw [lg_entry_eq]
  generalize (lg_sl ([.ref a_ma, .int p1, .int p2, .int p3]) ++ List.replicate (4 - (lg_sl ([.ref a_ma, .int p1, .int p2, .int p3])).length) Slot.unset).toArray = ls at hl ⊢
  have hl : lv_has ls 4 [(0, .ref a_ma), (1, .int p1), (2, .int p2), (3, .int p3)] := hl
  unfold f_X3_mostThatCome at h
  refine lv_aload_n hx hb dX3_mostThatCome_0 rfl (lv_at hl 0 rfl) ?_
  refine lv_iconst (v := 0) hx hb dX3_mostThatCome_1 (by decide) ?_
  refine va_put (D := D) (ci := 3) (C := RX3) (T := TX3) (N := 5) (v := .int 0) (ty := .int) hx hb hX3 (fun _ q => q) tyX3 tyX3_ok nmX3 hown hK hP hD hS 2 rfl rfl 3 (by decide) (hts (.fieldLink RX3 22 "ElephantLine$Marching" "cities" "I") (by decide +kernel)) (fun _ h9 => h9) rfl (tyX3_ok 3 (by decide)) rfl rfl (Nat.le_of_ble_eq_true rfl) dX3_mostThatCome_2 (fun H locs hP hD hS => ?_)
  refine lv_aload_n hx hb dX3_mostThatCome_5 rfl (lv_at hl 0 rfl) ?_
  refine lv_bipush (v := (-2)) hx hb dX3_mostThatCome_6 (by decide) ?_
  refine va_put (D := D) (ci := 3) (C := RX3) (T := TX3) (N := 5) (v := .int (-2)) (ty := .int) hx hb hX3 (fun _ q => q) tyX3 tyX3_ok nmX3 hown hK hP hD hS 2 rfl rfl 4 (by decide) (hts (.fieldLink RX3 26 "ElephantLine$Marching" "come" "I") (by decide +kernel)) (fun _ h9 => h9) rfl (tyX3_ok 4 (by decide)) rfl rfl (Nat.le_of_ble_eq_true rfl) dX3_mostThatCome_8 (fun H locs hP hD hS => ?_)
  refine lv_aload_n hx hb dX3_mostThatCome_11 rfl (lv_at hl 0 rfl) ?_
  refine lv_iload_n hx hb dX3_mostThatCome_12 rfl (lv_at hl 1 rfl) ?_
  refine lv_iload_n hx hb dX3_mostThatCome_13 rfl (lv_at hl 2 rfl) ?_
  refine lv_iload_n hx hb dX3_mostThatCome_14 rfl (lv_at hl 3 rfl) ?_
  refine lv_iconst (v := 0) hx hb dX3_mostThatCome_15 (by decide) ?_
  refine lv_iconst (v := 1) hx hb dX3_mostThatCome_16 (by decide) ?_
  refine lv_iload_n hx hb dX3_mostThatCome_17 rfl (lv_at hl 1 rfl) ?_
  refine lv_ishl hx hb dX3_mostThatCome_18 ?_
  have hP : va_P D vwCl ([(a_la, .inr (2, [.int la_lanes, .int la_deep, .int la_lanesTold, la_who, la_firstStrong, .int la_beasts, la_kind, la_firstLane, la_mood, la_price, .int la_cities, .int la_passes, .ref a_la_passBetween, .int la_turned])), (a_la_passBetween, .inl (cy 1, 36, .inl la_passBetween)), (a_ma, .inr (3, [.ref a_la, .ref a_ma_walked, .ref a_ma_way, .int 0, .int (-2)])), (a_ma_walked, .inl (cy 1, 6, .inl ma_walked)), (a_ma_way, .inl (cy 1, 6, .inl ma_way))] ++ X) H := hP
  have hD : va_D A ([(a_la, .inr (2, [.int la_lanes, .int la_deep, .int la_lanesTold, la_who, la_firstStrong, .int la_beasts, la_kind, la_firstLane, la_mood, la_price, .int la_cities, .int la_passes, .ref a_la_passBetween, .int la_turned])), (a_la_passBetween, .inl (cy 1, 36, .inl la_passBetween)), (a_ma, .inr (3, [.ref a_la, .ref a_ma_walked, .ref a_ma_way, .int 0, .int (-2)])), (a_ma_walked, .inl (cy 1, 6, .inl ma_walked)), (a_ma_way, .inl (cy 1, 6, .inl ma_way))] ++ X) := hD
  obtain ⟨ma_cities_1, ma_come_2, ma_walked_3, ma_way_4, hc_5, h⟩ := bd4_some h
  refine wVv [.int p1, .int p2, .int p3, .int 0, .int ((1 : Int32) <<< (p1 &&& 31))] [] ⟨hx, hb, hml, hown, hts⟩ (c_X3_walk_7 l D cy A X a_la a_la_passBetween a_ma a_ma_walked a_ma_way la_lanes la_deep la_lanesTold (la_who) (la_firstStrong) la_beasts (la_kind) (la_firstLane) (la_mood) (la_price) la_cities la_passes la_turned la_passBetween 0 (-2) ma_walked ma_way p1 p2 p3 (0 : Int32) ((1 : Int32) <<< (p1 &&& 31)) ma_cities_1 ma_come_2 ma_walked_3 ma_way_4 hc_5) gX3_mostThatCome_X3_walk rfl hd_X3_walk ⟨Nat.le_of_ble_eq_true rfl, Nat.le_of_ble_eq_true rfl⟩ rfl rfl hKN hP hD hS hA 3 2 rfl rfl rfl hl.1 rfl (Nat.le_of_ble_eq_true rfl) dX3_mostThatCome_19 ⟨Nat.le_of_ble_eq_true rfl, Nat.le_of_ble_eq_true rfl⟩ (fun H locs hP hD hS => ?_)
  refine lv_aload_n hx hb dX3_mostThatCome_22 rfl (lv_at hl 0 rfl) ?_
  refine va_get (D := D) (ci := 3) (C := RX3) (T := TX3) (N := 5) (v := .int ma_come_2) hx hb hX3 (fun _ q => q) hown hK hP 2 rfl rfl 4 (by decide) (hts (.fieldLink RX3 26 "ElephantLine$Marching" "come" "I") (by decide +kernel)) (fun _ h9 => h9) rfl dX3_mostThatCome_23 ?_
  cases h
  exact W.iret hx hb hr (fun t ht _ => ⟨⟨_, (), rfl, rfl, by rw [ht]; exact hP, hD⟩, hS.F ht⟩) hS.2.2 dX3_mostThatCome_26
theorem hd_X3_dearestPass : yX3_dearestPass.cls = RX3 ∧ yX3_dearestPass.cls ≠ "java/lang/invoke/MethodHandle" ∧ yX3_dearestPass.cls ≠ "java/lang/invoke/VarHandle" ∧ (parseMethodDescriptor yX3_dearestPass.desc).map (fun d => d.parameters.length) = some 3 := by decide +kernel
set_option maxHeartbeats 4000000 in
set_option maxRecDepth 100000 in
theorem c_X3_dearestPass (l : Launch) (D : va_G) (cy : Nat → ClassId) (A : Nat → Prop) (X : va_W) (a_la a_la_passBetween a_ma a_ma_walked a_ma_way : Nat) (la_lanes : Int32) (la_deep : Int32) (la_lanesTold : Int32) (la_who : Value) (la_firstStrong : Value) (la_beasts : Int32) (la_kind : Value) (la_firstLane : Value) (la_mood : Value) (la_price : Value) (la_cities : Int32) (la_passes : Int32) (la_turned : Int32) (la_passBetween : Nat → Int32) (ma_cities : Int32) (ma_come : Int32) (ma_walked : Nat → Int32) (ma_way : Nat → Int32) (p1 : Int32) (p2 : Int32) (p3 : Int32) (res : Int32) (ma_cities' : Int32) (ma_come' : Int32) (ma_walked' : Nat → Int32) (ma_way' : Nat → Int32) (h : f_X3_dearestPass la_cities la_passBetween ma_cities ma_come ma_walked ma_way p1 p2 p3 = some (res, ma_cities', ma_come', ma_walked', ma_way')) : Met l yX3_dearestPass wo_X3_dearestPass ({ frames := 11, cells := 0, slots := 0, locals := 282 }) (wrPc D cy A [.ref a_ma, .int p1, .int p2, .int p3] ([(a_la, .inr (2, [.int la_lanes, .int la_deep, .int la_lanesTold, la_who, la_firstStrong, .int la_beasts, la_kind, la_firstLane, la_mood, la_price, .int la_cities, .int la_passes, .ref a_la_passBetween, .int la_turned])), (a_la_passBetween, .inl (cy 1, 36, .inl la_passBetween)), (a_ma, .inr (3, [.ref a_la, .ref a_ma_walked, .ref a_ma_way, .int ma_cities, .int ma_come])), (a_ma_walked, .inl (cy 1, 6, .inl ma_walked)), (a_ma_way, .inl (cy 1, 6, .inl ma_way))] ++ X)) (va_Qi (fun (r : Int32) (_ : Unit) => r = res) (wB D A ([(a_la, .inr (2, [.int la_lanes, .int la_deep, .int la_lanesTold, la_who, la_firstStrong, .int la_beasts, la_kind, la_firstLane, la_mood, la_price, .int la_cities, .int la_passes, .ref a_la_passBetween, .int la_turned])), (a_la_passBetween, .inl (cy 1, 36, .inl la_passBetween)), (a_ma, .inr (3, [.ref a_la, .ref a_ma_walked, .ref a_ma_way, .int ma_cities', .int ma_come'])), (a_ma_walked, .inl (cy 1, 6, .inl ma_walked')), (a_ma_way, .inl (cy 1, 6, .inl ma_way'))] ++ X)) A) 0 0 A := by
  refine Met.ofW (cc := cX3_dearestPass) (maxL := 9) (ret := (some .int)) (by decide) rfl ?_
  intro p e s m args below meth c s₁ B hml hv
  obtain ⟨rfl, hP, hKN, hD, hA⟩ := hv
  have hK := hKN.1
  have hx := B.exec
  have hb := B.bytes
  have hr := B.returns
  have hts := wt_X3_dearestPass hKN.2.2 (([.ref a_ma, .int p1, .int p2, .int p3] : List Value).toArray)
  have hown : s.vm.findClass RX3 = some m.cls := findClass_of_methodNamed B.named
  have hlocks := B.notSynchronized
  have hS : va_S A s.heap s.heap [] := va_S.rf
  have hX3 := wc_X3 hKN.2.2 (([.ref a_ma, .int p1, .int p2, .int p3] : List Value).toArray)
  have hl := lv_entry ([.ref a_ma, .int p1, .int p2, .int p3]) (n := 9) (Nat.le_of_ble_eq_true rfl)
  rw [lg_entry_eq]
  generalize (lg_sl ([.ref a_ma, .int p1, .int p2, .int p3]) ++ List.replicate (9 - (lg_sl ([.ref a_ma, .int p1, .int p2, .int p3])).length) Slot.unset).toArray = ls at hl ⊢
  have hl : lv_has ls 9 [(0, .ref a_ma), (1, .int p1), (2, .int p2), (3, .int p3)] := hl
  unfold f_X3_dearestPass at h
  refine lv_aload_n hx hb dX3_dearestPass_0 rfl (lv_at hl 0 rfl) ?_
  refine lv_iload_n hx hb dX3_dearestPass_1 rfl (lv_at hl 1 rfl) ?_
  refine lv_iload_n hx hb dX3_dearestPass_2 rfl (lv_at hl 2 rfl) ?_
  refine lv_iload_n hx hb dX3_dearestPass_3 rfl (lv_at hl 3 rfl) ?_
  obtain ⟨r_1, ma_cities_2, ma_come_3, ma_walked_4, ma_way_5, hc_6, h⟩ := bd5_some h
  refine wVi [.int p1, .int p2, .int p3] [] ⟨hx, hb, hml, hown, hts⟩ (c_X3_mostThatCome l D cy A X a_la a_la_passBetween a_ma a_ma_walked a_ma_way la_lanes la_deep la_lanesTold (la_who) (la_firstStrong) la_beasts (la_kind) (la_firstLane) (la_mood) (la_price) la_cities la_passes la_turned la_passBetween ma_cities ma_come ma_walked ma_way p1 p2 p3 r_1 ma_cities_2 ma_come_3 ma_walked_4 ma_way_5 hc_6) gX3_dearestPass_X3_mostThatCome rfl hd_X3_mostThatCome ⟨Nat.le_of_ble_eq_true rfl, Nat.le_of_ble_eq_true rfl⟩ rfl rfl hKN hP hD hS hA 3 2 rfl rfl rfl hl.1 rfl (Nat.le_of_ble_eq_true rfl) dX3_dearestPass_4 ⟨Nat.le_of_ble_eq_true rfl, Nat.le_of_ble_eq_true rfl⟩ (fun H locs hP hD hS => ?_)
  refine lv_pop hx hb dX3_dearestPass_7 rfl ?_
  refine lv_bipush (v := (-2)) hx hb dX3_dearestPass_8 (by decide) ?_
  refine lv_istore (lv' := [(4, .int (-2)), (0, .ref a_ma), (1, .int p1), (2, .int p2), (3, .int p3)]) hx hb dX3_dearestPass_10 hl (by decide) rfl (fun ls hl => ?_)
  refine lv_iconst (v := 0) hx hb dX3_dearestPass_12 (by decide) ?_
  refine lv_istore (lv' := [(5, .int 0), (4, .int (-2)), (0, .ref a_ma), (1, .int p1), (2, .int p2), (3, .int p3)]) hx hb dX3_dearestPass_13 hl (by decide) rfl (fun ls hl => ?_)
  refine lv_iload_n hx hb dX3_dearestPass_15 rfl (lv_at hl 5 rfl) ?_
  refine lv_istore (lv' := [(6, .int p3), (5, .int 0), (4, .int (-2)), (0, .ref a_ma), (1, .int p1), (2, .int p2), (3, .int p3)]) hx hb dX3_dearestPass_16 hl (by decide) rfl (fun ls hl => ?_)
  refine lv_iconst (v := 0) hx hb dX3_dearestPass_18 (by decide) ?_
  refine lv_istore (lv' := [(7, .int 0), (6, .int p3), (5, .int 0), (4, .int (-2)), (0, .ref a_ma), (1, .int p1), (2, .int p2), (3, .int p3)]) hx hb dX3_dearestPass_19 hl (by decide) rfl (fun ls hl => ?_)
  have lp21 : ∀ (n21 : Nat) (x4_7 : Int32) (x5_8 : Int32) (x6_9 : Int32) (x7_10 : Int32), f_X3_dearestPass_L21 la_cities la_passBetween ma_cities_2 ma_come_3 ma_walked_4 ma_way_5 n21 x4_7 x5_8 x6_9 x7_10 = some (res, ma_cities', ma_come', ma_walked', ma_way') → ∀ (H : Heap) (locs : List Loc), va_P D vwCl ([(a_la, .inr (2, [.int la_lanes, .int la_deep, .int la_lanesTold, la_who, la_firstStrong, .int la_beasts, la_kind, la_firstLane, la_mood, la_price, .int la_cities, .int la_passes, .ref a_la_passBetween, .int la_turned])), (a_la_passBetween, .inl (cy 1, 36, .inl la_passBetween)), (a_ma, .inr (3, [.ref a_la, .ref a_ma_walked, .ref a_ma_way, .int ma_cities_2, .int ma_come_3])), (a_ma_walked, .inl (cy 1, 6, .inl ma_walked_4)), (a_ma_way, .inl (cy 1, 6, .inl ma_way_5))] ++ X) H → va_D A ([(a_la, .inr (2, [.int la_lanes, .int la_deep, .int la_lanesTold, la_who, la_firstStrong, .int la_beasts, la_kind, la_firstLane, la_mood, la_price, .int la_cities, .int la_passes, .ref a_la_passBetween, .int la_turned])), (a_la_passBetween, .inl (cy 1, 36, .inl la_passBetween)), (a_ma, .inr (3, [.ref a_la, .ref a_ma_walked, .ref a_ma_way, .int ma_cities_2, .int ma_come_3])), (a_ma_walked, .inl (cy 1, 6, .inl ma_walked_4)), (a_ma_way, .inl (cy 1, 6, .inl ma_way_5))] ++ X) → va_S A s.heap H locs → ∀ ls : Array Slot, lv_has ls 9 [(0, .ref a_ma), (4, .int x4_7), (5, .int x5_8), (6, .int x6_9), (7, .int x7_10)] → W p l e (headSpec wo_X3_dearestPass ({ frames := 11, cells := 0, slots := 0, locals := 282 })).room s m (([.ref a_ma, .int p1, .int p2, .int p3] : List Value).toArray) below meth c H locs 0 0 (MQ below (va_Qi (fun (r : Int32) (_ : Unit) => r = res) (wB D A ([(a_la, .inr (2, [.int la_lanes, .int la_deep, .int la_lanesTold, la_who, la_firstStrong, .int la_beasts, la_kind, la_firstLane, la_mood, la_price, .int la_cities, .int la_passes, .ref a_la_passBetween, .int la_turned])), (a_la_passBetween, .inl (cy 1, 36, .inl la_passBetween)), (a_ma, .inr (3, [.ref a_la, .ref a_ma_walked, .ref a_ma_way, .int ma_cities', .int ma_come'])), (a_ma_walked, .inl (cy 1, 6, .inl ma_walked')), (a_ma_way, .inl (cy 1, 6, .inl ma_way'))] ++ X)) A) (([.ref a_ma, .int p1, .int p2, .int p3] : List Value).toArray) s 0 0 A) (F0 m 21 ls []) := by
    intro n21
    induction n21 with
    | zero => intro x4_7 x5_8 x6_9 x7_10 h; exact absurd (show (none : Option (Int32 × Int32 × Int32 × (Nat → Int32) × (Nat → Int32))) = some _ from h) (by intro q; cases q)
    | succ n21 ih21 =>
      intro x4_7 x5_8 x6_9 x7_10 h H locs hP hD hS ls hl
      have h : f_X3_dearestPass_b21 la_cities la_passBetween ma_cities_2 ma_come_3 ma_walked_4 ma_way_5 (f_X3_dearestPass_L21 la_cities la_passBetween ma_cities_2 ma_come_3 ma_walked_4 ma_way_5 n21) x4_7 x5_8 x6_9 x7_10 = some (res, ma_cities', ma_come', ma_walked', ma_way') := h
      unfold f_X3_dearestPass_b21 at h
      refine lv_iload hx hb dX3_dearestPass_21 (lv_at hl 4 rfl) ?_
      refine lv_iconst (v := 1) hx hb dX3_dearestPass_23 (by decide) ?_
      refine lv_iadd hx hb dX3_dearestPass_24 ?_
      refine lv_aload_n hx hb dX3_dearestPass_25 rfl (lv_at hl 0 rfl) ?_
      refine va_get (D := D) (ci := 3) (C := RX3) (T := TX3) (N := 5) (v := .int ma_cities_2) hx hb hX3 (fun _ q => q) hown hK hP 2 rfl rfl 3 (by decide) (hts (.fieldLink RX3 22 "ElephantLine$Marching" "cities" "I") (by decide +kernel)) (fun _ h9 => h9) rfl dX3_dearestPass_26 ?_
      refine lv_icmp_ge (tgt := 108) hx hb dX3_dearestPass_29 (by decide) (fun cd => ?_) (fun cd => ?_)
      · have h := ifT cd h
        refine lv_iload hx hb dX3_dearestPass_108 (lv_at hl 1 rfl) ?_
        cases h
        exact W.iret hx hb hr (fun t ht _ => ⟨⟨_, (), rfl, rfl, by rw [ht]; exact hP, hD⟩, hS.F ht⟩) hS.2.2 dX3_dearestPass_110
      · have h := ifF cd h
        refine lv_iload hx hb dX3_dearestPass_32 (lv_at hl 3 rfl) ?_
        refine lv_aload_n hx hb dX3_dearestPass_34 rfl (lv_at hl 0 rfl) ?_
        refine va_get (D := D) (ci := 3) (C := RX3) (T := TX3) (N := 5) (v := .ref a_la) hx hb hX3 (fun _ q => q) hown hK hP 2 rfl rfl 0 (by decide) (hts (.fieldLink RX3 18 "ElephantLine$Marching" "land" "LElephantLine$Land;") (by decide +kernel)) (fun _ h9 => h9) rfl dX3_dearestPass_35 ?_
        refine lv_aload_n hx hb dX3_dearestPass_38 rfl (lv_at hl 0 rfl) ?_
        refine va_get (D := D) (ci := 3) (C := RX3) (T := TX3) (N := 5) (v := .ref a_ma_way) hx hb hX3 (fun _ q => q) hown hK hP 2 rfl rfl 2 (by decide) (hts (.fieldLink RX3 15 "ElephantLine$Marching" "way" "[I") (by decide +kernel)) (fun _ h9 => h9) rfl dX3_dearestPass_39 ?_
        refine lv_iload hx hb dX3_dearestPass_42 (lv_at hl 4 rfl) ?_
        obtain ⟨i_11, h⟩ := gIn_some h
        refine va_iald hx hb hK hP 4 1 rfl rfl i_11 dX3_dearestPass_44 ?_
        refine lv_aload_n hx hb dX3_dearestPass_45 rfl (lv_at hl 0 rfl) ?_
        refine va_get (D := D) (ci := 3) (C := RX3) (T := TX3) (N := 5) (v := .ref a_ma_way) hx hb hX3 (fun _ q => q) hown hK hP 2 rfl rfl 2 (by decide) (hts (.fieldLink RX3 15 "ElephantLine$Marching" "way" "[I") (by decide +kernel)) (fun _ h9 => h9) rfl dX3_dearestPass_46 ?_
        refine lv_iload hx hb dX3_dearestPass_49 (lv_at hl 4 rfl) ?_
        refine lv_iconst (v := 1) hx hb dX3_dearestPass_51 (by decide) ?_
        refine lv_iadd hx hb dX3_dearestPass_52 ?_
        obtain ⟨i_12, h⟩ := gIn_some h
        refine va_iald hx hb hK hP 4 1 rfl rfl i_12 dX3_dearestPass_53 ?_
        obtain ⟨r_13, hc_14, h⟩ := bd1_some h
        refine kVi [.int (ma_way_5 x7_10.toNatClampNeg), .int (ma_way_5 (x7_10 + 1).toNatClampNeg)] [.int x6_9] ⟨hx, hb, hml, hown, hts⟩ (c_X2_lossBetween l D cy a_la a_la_passBetween la_lanes la_deep la_lanesTold (la_who) (la_firstStrong) la_beasts (la_kind) (la_firstLane) (la_mood) (la_price) la_cities la_passes la_turned la_passBetween (ma_way_5 x7_10.toNatClampNeg) (ma_way_5 (x7_10 + 1).toNatClampNeg) r_13 hc_14) gX3_dearestPass_X2_lossBetween rfl hd_X2_lossBetween ⟨Nat.le_of_ble_eq_true rfl, Nat.le_of_ble_eq_true rfl⟩ rfl rfl hKN (pXc hP [0, 1] rfl) 2 0 rfl rfl rfl hl.1 rfl (Nat.le_of_ble_eq_true rfl) dX3_dearestPass_54 ⟨Nat.le_of_ble_eq_true rfl, Nat.le_of_ble_eq_true rfl⟩ ?_
        obtain ⟨r_15, hc_16, h⟩ := bd1_some h
        refine kSi [.int x6_9, .int r_13] [] ⟨hx, hb, hml, hown, hts⟩ (c_X3_lostOn l D cy x6_9 r_13 r_15 hc_16) gX3_dearestPass_X3_lostOn rfl hd_X3_lostOn ⟨Nat.le_of_ble_eq_true rfl, Nat.le_of_ble_eq_true rfl⟩ rfl rfl hKN va_nil rfl hl.1 rfl (Nat.le_of_ble_eq_true rfl) dX3_dearestPass_57 ⟨Nat.le_of_ble_eq_true rfl, Nat.le_of_ble_eq_true rfl⟩ ?_
        refine lv_istore (lv' := [(8, .int r_15), (0, .ref a_ma), (4, .int x4_7), (5, .int x5_8), (6, .int x6_9), (7, .int x7_10)]) hx hb dX3_dearestPass_60 hl (by decide) rfl (fun ls hl => ?_)
        refine lv_iload hx hb dX3_dearestPass_62 (lv_at hl 0 rfl) ?_
        refine lv_iload hx hb dX3_dearestPass_64 (lv_at hl 3 rfl) ?_
        have jn95 : ∀ (x4_17 : Int32) (x5_18 : Int32), f_X3_dearestPass_B95 (f_X3_dearestPass_L21 la_cities la_passBetween ma_cities_2 ma_come_3 ma_walked_4 ma_way_5 n21) la_cities la_passBetween x4_17 x5_18 x6_9 x7_10 r_15 ma_cities_2 ma_come_3 ma_walked_4 ma_way_5 = some (res, ma_cities', ma_come', ma_walked', ma_way') → ∀ (H : Heap) (locs : List Loc), va_P D vwCl ([(a_la, .inr (2, [.int la_lanes, .int la_deep, .int la_lanesTold, la_who, la_firstStrong, .int la_beasts, la_kind, la_firstLane, la_mood, la_price, .int la_cities, .int la_passes, .ref a_la_passBetween, .int la_turned])), (a_la_passBetween, .inl (cy 1, 36, .inl la_passBetween)), (a_ma, .inr (3, [.ref a_la, .ref a_ma_walked, .ref a_ma_way, .int ma_cities_2, .int ma_come_3])), (a_ma_walked, .inl (cy 1, 6, .inl ma_walked_4)), (a_ma_way, .inl (cy 1, 6, .inl ma_way_5))] ++ X) H → va_D A ([(a_la, .inr (2, [.int la_lanes, .int la_deep, .int la_lanesTold, la_who, la_firstStrong, .int la_beasts, la_kind, la_firstLane, la_mood, la_price, .int la_cities, .int la_passes, .ref a_la_passBetween, .int la_turned])), (a_la_passBetween, .inl (cy 1, 36, .inl la_passBetween)), (a_ma, .inr (3, [.ref a_la, .ref a_ma_walked, .ref a_ma_way, .int ma_cities_2, .int ma_come_3])), (a_ma_walked, .inl (cy 1, 6, .inl ma_walked_4)), (a_ma_way, .inl (cy 1, 6, .inl ma_way_5))] ++ X) → va_S A s.heap H locs → ∀ ls : Array Slot, lv_has ls 9 [(0, .ref a_ma), (4, .int x4_17), (5, .int x5_18), (6, .int x6_9), (7, .int x7_10), (8, .int r_15)] → W p l e (headSpec wo_X3_dearestPass ({ frames := 11, cells := 0, slots := 0, locals := 282 })).room s m (([.ref a_ma, .int p1, .int p2, .int p3] : List Value).toArray) below meth c H locs 0 0 (MQ below (va_Qi (fun (r : Int32) (_ : Unit) => r = res) (wB D A ([(a_la, .inr (2, [.int la_lanes, .int la_deep, .int la_lanesTold, la_who, la_firstStrong, .int la_beasts, la_kind, la_firstLane, la_mood, la_price, .int la_cities, .int la_passes, .ref a_la_passBetween, .int la_turned])), (a_la_passBetween, .inl (cy 1, 36, .inl la_passBetween)), (a_ma, .inr (3, [.ref a_la, .ref a_ma_walked, .ref a_ma_way, .int ma_cities', .int ma_come'])), (a_ma_walked, .inl (cy 1, 6, .inl ma_walked')), (a_ma_way, .inl (cy 1, 6, .inl ma_way'))] ++ X)) A) (([.ref a_ma, .int p1, .int p2, .int p3] : List Value).toArray) s 0 0 A) (F0 m 95 ls []) := by
          intro x4_17 x5_18 h H locs hP hD hS ls hl
          unfold f_X3_dearestPass_B95 at h
          refine lv_iload hx hb dX3_dearestPass_95 (lv_at hl 3 rfl) ?_
          refine lv_iload hx hb dX3_dearestPass_97 (lv_at hl 5 rfl) ?_
          refine lv_isub hx hb dX3_dearestPass_99 ?_
          refine lv_istore (lv' := [(6, .int (x6_9 - r_15)), (0, .ref a_ma), (4, .int x4_17), (5, .int x5_18), (7, .int x7_10), (8, .int r_15)]) hx hb dX3_dearestPass_100 hl (by decide) rfl (fun ls hl => ?_)
          refine lv_iinc (v := x7_10 + 1) (lv' := [(7, .int (x7_10 + 1)), (6, .int (x6_9 - r_15)), (0, .ref a_ma), (4, .int x4_17), (5, .int x5_18), (8, .int r_15)]) hx hb dX3_dearestPass_102 hl (k := 4) rfl (by first | rfl | decide) (by decide) rfl (fun ls hl => ?_)
          refine lv_goto (tgt := 21) hx hb dX3_dearestPass_105 (by decide) ?_
          exact ih21 x4_17 x5_18 (x6_9 - r_15) (x7_10 + 1) h _ _ hP hD hS _ (lv_sub hl [2, 3, 4, 1, 0] rfl)
        refine lv_icmp_le (tgt := 95) hx hb dX3_dearestPass_66 (by decide) (fun cd => ?_) (fun cd => ?_)
        · have h := ifT cd h
          exact jn95 x4_7 x5_8 h _ _ hP hD hS _ (lv_sub hl [1, 2, 3, 4, 5, 0] rfl)
        · have h := ifF cd h
          refine lv_bipush (v := 10) hx hb dX3_dearestPass_69 (by decide) ?_
          refine lv_aload_n hx hb dX3_dearestPass_71 rfl (lv_at hl 1 rfl) ?_
          refine va_get (D := D) (ci := 3) (C := RX3) (T := TX3) (N := 5) (v := .ref a_ma_way) hx hb hX3 (fun _ q => q) hown hK hP 2 rfl rfl 2 (by decide) (hts (.fieldLink RX3 15 "ElephantLine$Marching" "way" "[I") (by decide +kernel)) (fun _ h9 => h9) rfl dX3_dearestPass_72 ?_
          refine lv_iload hx hb dX3_dearestPass_75 (lv_at hl 5 rfl) ?_
          obtain ⟨i_19, h⟩ := gIn_some h
          refine va_iald hx hb hK hP 4 1 rfl rfl i_19 dX3_dearestPass_77 ?_
          refine lv_imul hx hb dX3_dearestPass_78 ?_
          refine lv_aload_n hx hb dX3_dearestPass_79 rfl (lv_at hl 1 rfl) ?_
          refine va_get (D := D) (ci := 3) (C := RX3) (T := TX3) (N := 5) (v := .ref a_ma_way) hx hb hX3 (fun _ q => q) hown hK hP 2 rfl rfl 2 (by decide) (hts (.fieldLink RX3 15 "ElephantLine$Marching" "way" "[I") (by decide +kernel)) (fun _ h9 => h9) rfl dX3_dearestPass_80 ?_
          refine lv_iload hx hb dX3_dearestPass_83 (lv_at hl 5 rfl) ?_
          refine lv_iconst (v := 1) hx hb dX3_dearestPass_85 (by decide) ?_
          refine lv_iadd hx hb dX3_dearestPass_86 ?_
          obtain ⟨i_20, h⟩ := gIn_some h
          refine va_iald hx hb hK hP 4 1 rfl rfl i_20 dX3_dearestPass_87 ?_
          refine lv_iadd hx hb dX3_dearestPass_88 ?_
          refine lv_istore (lv' := [(4, .int ((10 * (ma_way_5 x7_10.toNatClampNeg)) + (ma_way_5 (x7_10 + 1).toNatClampNeg))), (8, .int r_15), (0, .ref a_ma), (5, .int x5_8), (6, .int x6_9), (7, .int x7_10)]) hx hb dX3_dearestPass_89 hl (by decide) rfl (fun ls hl => ?_)
          refine lv_iload hx hb dX3_dearestPass_91 (lv_at hl 1 rfl) ?_
          refine lv_istore (lv' := [(5, .int r_15), (4, .int ((10 * (ma_way_5 x7_10.toNatClampNeg)) + (ma_way_5 (x7_10 + 1).toNatClampNeg))), (8, .int r_15), (0, .ref a_ma), (6, .int x6_9), (7, .int x7_10)]) hx hb dX3_dearestPass_93 hl (by decide) rfl (fun ls hl => ?_)
          exact jn95 ((10 * (ma_way_5 x7_10.toNatClampNeg)) + (ma_way_5 (x7_10 + 1).toNatClampNeg)) r_15 h _ _ hP hD hS _ (lv_sub hl [3, 1, 0, 4, 5, 2] rfl)
  exact lp21 fuelN ((-2) : Int32) (0 : Int32) p3 (0 : Int32) h _ _ hP hD hS _ (lv_sub hl [4, 3, 2, 1, 0] rfl)
theorem hd_X3_leastThatSetOut : yX3_leastThatSetOut.cls = RX3 ∧ yX3_leastThatSetOut.cls ≠ "java/lang/invoke/MethodHandle" ∧ yX3_leastThatSetOut.cls ≠ "java/lang/invoke/VarHandle" ∧ (parseMethodDescriptor yX3_leastThatSetOut.desc).map (fun d => d.parameters.length) = some 3 := by decide +kernel
set_option maxHeartbeats 4000000 in
set_option maxRecDepth 100000 in
theorem c_X3_leastThatSetOut (l : Launch) (D : va_G) (cy : Nat → ClassId) (A : Nat → Prop) (X : va_W) (a_la a_la_passBetween a_ma a_ma_walked a_ma_way : Nat) (la_lanes : Int32) (la_deep : Int32) (la_lanesTold : Int32) (la_who : Value) (la_firstStrong : Value) (la_beasts : Int32) (la_kind : Value) (la_firstLane : Value) (la_mood : Value) (la_price : Value) (la_cities : Int32) (la_passes : Int32) (la_turned : Int32) (la_passBetween : Nat → Int32) (ma_cities : Int32) (ma_come : Int32) (ma_walked : Nat → Int32) (ma_way : Nat → Int32) (p1 : Int32) (p2 : Int32) (p3 : Int32) (res : Int32) (ma_cities' : Int32) (ma_come' : Int32) (ma_walked' : Nat → Int32) (ma_way' : Nat → Int32) (h : f_X3_leastThatSetOut la_cities la_passBetween ma_cities ma_come ma_walked ma_way p1 p2 p3 = some (res, ma_cities', ma_come', ma_walked', ma_way')) : Met l yX3_leastThatSetOut wo_X3_leastThatSetOut ({ frames := 11, cells := 0, slots := 0, locals := 282 }) (wrPc D cy A [.ref a_ma, .int p1, .int p2, .int p3] ([(a_la, .inr (2, [.int la_lanes, .int la_deep, .int la_lanesTold, la_who, la_firstStrong, .int la_beasts, la_kind, la_firstLane, la_mood, la_price, .int la_cities, .int la_passes, .ref a_la_passBetween, .int la_turned])), (a_la_passBetween, .inl (cy 1, 36, .inl la_passBetween)), (a_ma, .inr (3, [.ref a_la, .ref a_ma_walked, .ref a_ma_way, .int ma_cities, .int ma_come])), (a_ma_walked, .inl (cy 1, 6, .inl ma_walked)), (a_ma_way, .inl (cy 1, 6, .inl ma_way))] ++ X)) (va_Qi (fun (r : Int32) (_ : Unit) => r = res) (wB D A ([(a_la, .inr (2, [.int la_lanes, .int la_deep, .int la_lanesTold, la_who, la_firstStrong, .int la_beasts, la_kind, la_firstLane, la_mood, la_price, .int la_cities, .int la_passes, .ref a_la_passBetween, .int la_turned])), (a_la_passBetween, .inl (cy 1, 36, .inl la_passBetween)), (a_ma, .inr (3, [.ref a_la, .ref a_ma_walked, .ref a_ma_way, .int ma_cities', .int ma_come'])), (a_ma_walked, .inl (cy 1, 6, .inl ma_walked')), (a_ma_way, .inl (cy 1, 6, .inl ma_way'))] ++ X)) A) 0 0 A := by
  refine Met.ofW (cc := cX3_leastThatSetOut) (maxL := 8) (ret := (some .int)) (by decide) rfl ?_
  intro p e s m args below meth c s₁ B hml hv
  obtain ⟨rfl, hP, hKN, hD, hA⟩ := hv
  have hK := hKN.1
  have hx := B.exec
  have hb := B.bytes
  have hr := B.returns
  have hts := wt_X3_leastThatSetOut hKN.2.2 (([.ref a_ma, .int p1, .int p2, .int p3] : List Value).toArray)
  have hown : s.vm.findClass RX3 = some m.cls := findClass_of_methodNamed B.named
  have hlocks := B.notSynchronized
  have hS : va_S A s.heap s.heap [] := va_S.rf
  have hl := lv_entry ([.ref a_ma, .int p1, .int p2, .int p3]) (n := 8) (Nat.le_of_ble_eq_true rfl)
  rw [lg_entry_eq]
  generalize (lg_sl ([.ref a_ma, .int p1, .int p2, .int p3]) ++ List.replicate (8 - (lg_sl ([.ref a_ma, .int p1, .int p2, .int p3])).length) Slot.unset).toArray = ls at hl ⊢
  have hl : lv_has ls 8 [(0, .ref a_ma), (1, .int p1), (2, .int p2), (3, .int p3)] := hl
  unfold f_X3_leastThatSetOut at h
  refine lv_aload_n hx hb dX3_leastThatSetOut_0 rfl (lv_at hl 0 rfl) ?_
  refine lv_iload_n hx hb dX3_leastThatSetOut_1 rfl (lv_at hl 1 rfl) ?_
  refine lv_iload_n hx hb dX3_leastThatSetOut_2 rfl (lv_at hl 2 rfl) ?_
  refine lv_sipush (v := 999) hx hb dX3_leastThatSetOut_3 (by decide) ?_
  obtain ⟨r_1, ma_cities_2, ma_come_3, ma_walked_4, ma_way_5, hc_6, h⟩ := bd5_some h
  refine wVi [.int p1, .int p2, .int 999] [] ⟨hx, hb, hml, hown, hts⟩ (c_X3_mostThatCome l D cy A X a_la a_la_passBetween a_ma a_ma_walked a_ma_way la_lanes la_deep la_lanesTold (la_who) (la_firstStrong) la_beasts (la_kind) (la_firstLane) (la_mood) (la_price) la_cities la_passes la_turned la_passBetween ma_cities ma_come ma_walked ma_way p1 p2 (999 : Int32) r_1 ma_cities_2 ma_come_3 ma_walked_4 ma_way_5 hc_6) gX3_leastThatSetOut_X3_mostThatCome rfl hd_X3_mostThatCome ⟨Nat.le_of_ble_eq_true rfl, Nat.le_of_ble_eq_true rfl⟩ rfl rfl hKN hP hD hS hA 3 2 rfl rfl rfl hl.1 rfl (Nat.le_of_ble_eq_true rfl) dX3_leastThatSetOut_6 ⟨Nat.le_of_ble_eq_true rfl, Nat.le_of_ble_eq_true rfl⟩ (fun H locs hP hD hS => ?_)
  refine lv_iload_n hx hb dX3_leastThatSetOut_9 rfl (lv_at hl 3 rfl) ?_
  refine lv_icmp_ge (tgt := 16) hx hb dX3_leastThatSetOut_10 (by decide) (fun cd => ?_) (fun cd => ?_)
  · have h := ifT cd h
    refine lv_iconst (v := 0) hx hb dX3_leastThatSetOut_16 (by decide) ?_
    refine lv_istore (lv' := [(4, .int 0), (0, .ref a_ma), (1, .int p1), (2, .int p2), (3, .int p3)]) hx hb dX3_leastThatSetOut_17 hl (by decide) rfl (fun ls hl => ?_)
    refine lv_sipush (v := 999) hx hb dX3_leastThatSetOut_19 (by decide) ?_
    refine lv_istore (lv' := [(5, .int 999), (4, .int 0), (0, .ref a_ma), (1, .int p1), (2, .int p2), (3, .int p3)]) hx hb dX3_leastThatSetOut_22 hl (by decide) rfl (fun ls hl => ?_)
    refine lv_iconst (v := 0) hx hb dX3_leastThatSetOut_24 (by decide) ?_
    refine lv_istore (lv' := [(6, .int 0), (5, .int 999), (4, .int 0), (0, .ref a_ma), (1, .int p1), (2, .int p2), (3, .int p3)]) hx hb dX3_leastThatSetOut_25 hl (by decide) rfl (fun ls hl => ?_)
    have lp27 : ∀ (n27 : Nat) (x4_7 : Int32) (x5_8 : Int32) (x6_9 : Int32) (ma_cities_10 : Int32) (ma_come_11 : Int32) (ma_walked_12 : Nat → Int32) (ma_way_13 : Nat → Int32), f_X3_leastThatSetOut_L27 la_cities la_passBetween p1 p2 p3 n27 x4_7 x5_8 x6_9 ma_cities_10 ma_come_11 ma_walked_12 ma_way_13 = some (res, ma_cities', ma_come', ma_walked', ma_way') → ∀ (H : Heap) (locs : List Loc), va_P D vwCl ([(a_la, .inr (2, [.int la_lanes, .int la_deep, .int la_lanesTold, la_who, la_firstStrong, .int la_beasts, la_kind, la_firstLane, la_mood, la_price, .int la_cities, .int la_passes, .ref a_la_passBetween, .int la_turned])), (a_la_passBetween, .inl (cy 1, 36, .inl la_passBetween)), (a_ma, .inr (3, [.ref a_la, .ref a_ma_walked, .ref a_ma_way, .int ma_cities_10, .int ma_come_11])), (a_ma_walked, .inl (cy 1, 6, .inl ma_walked_12)), (a_ma_way, .inl (cy 1, 6, .inl ma_way_13))] ++ X) H → va_D A ([(a_la, .inr (2, [.int la_lanes, .int la_deep, .int la_lanesTold, la_who, la_firstStrong, .int la_beasts, la_kind, la_firstLane, la_mood, la_price, .int la_cities, .int la_passes, .ref a_la_passBetween, .int la_turned])), (a_la_passBetween, .inl (cy 1, 36, .inl la_passBetween)), (a_ma, .inr (3, [.ref a_la, .ref a_ma_walked, .ref a_ma_way, .int ma_cities_10, .int ma_come_11])), (a_ma_walked, .inl (cy 1, 6, .inl ma_walked_12)), (a_ma_way, .inl (cy 1, 6, .inl ma_way_13))] ++ X) → va_S A s.heap H locs → ∀ ls : Array Slot, lv_has ls 8 [(0, .ref a_ma), (1, .int p1), (2, .int p2), (3, .int p3), (4, .int x4_7), (5, .int x5_8), (6, .int x6_9)] → W p l e (headSpec wo_X3_leastThatSetOut ({ frames := 11, cells := 0, slots := 0, locals := 282 })).room s m (([.ref a_ma, .int p1, .int p2, .int p3] : List Value).toArray) below meth c H locs 0 0 (MQ below (va_Qi (fun (r : Int32) (_ : Unit) => r = res) (wB D A ([(a_la, .inr (2, [.int la_lanes, .int la_deep, .int la_lanesTold, la_who, la_firstStrong, .int la_beasts, la_kind, la_firstLane, la_mood, la_price, .int la_cities, .int la_passes, .ref a_la_passBetween, .int la_turned])), (a_la_passBetween, .inl (cy 1, 36, .inl la_passBetween)), (a_ma, .inr (3, [.ref a_la, .ref a_ma_walked, .ref a_ma_way, .int ma_cities', .int ma_come'])), (a_ma_walked, .inl (cy 1, 6, .inl ma_walked')), (a_ma_way, .inl (cy 1, 6, .inl ma_way'))] ++ X)) A) (([.ref a_ma, .int p1, .int p2, .int p3] : List Value).toArray) s 0 0 A) (F0 m 27 ls []) := by
      intro n27
      induction n27 with
      | zero => intro x4_7 x5_8 x6_9 ma_cities_10 ma_come_11 ma_walked_12 ma_way_13 h; exact absurd (show (none : Option (Int32 × Int32 × Int32 × (Nat → Int32) × (Nat → Int32))) = some _ from h) (by intro q; cases q)
      | succ n27 ih27 =>
        intro x4_7 x5_8 x6_9 ma_cities_10 ma_come_11 ma_walked_12 ma_way_13 h H locs hP hD hS ls hl
        have h : f_X3_leastThatSetOut_b27 la_cities la_passBetween p1 p2 p3 (f_X3_leastThatSetOut_L27 la_cities la_passBetween p1 p2 p3 n27) x4_7 x5_8 x6_9 ma_cities_10 ma_come_11 ma_walked_12 ma_way_13 = some (res, ma_cities', ma_come', ma_walked', ma_way') := h
        unfold f_X3_leastThatSetOut_b27 at h
        refine lv_iload hx hb dX3_leastThatSetOut_27 (lv_at hl 6 rfl) ?_
        refine lv_sipush (v := 999) hx hb dX3_leastThatSetOut_29 (by decide) ?_
        refine lv_icmp_ge (tgt := 82) hx hb dX3_leastThatSetOut_32 (by decide) (fun cd => ?_) (fun cd => ?_)
        · have h := ifT cd h
          refine lv_iload hx hb dX3_leastThatSetOut_82 (lv_at hl 5 rfl) ?_
          cases h
          exact W.iret hx hb hr (fun t ht _ => ⟨⟨_, (), rfl, rfl, by rw [ht]; exact hP, hD⟩, hS.F ht⟩) hS.2.2 dX3_leastThatSetOut_84
        · have h := ifF cd h
          refine lv_iload hx hb dX3_leastThatSetOut_35 (lv_at hl 4 rfl) ?_
          refine lv_iload hx hb dX3_leastThatSetOut_37 (lv_at hl 5 rfl) ?_
          refine lv_icmp_ge (tgt := 82) hx hb dX3_leastThatSetOut_39 (by decide) (fun cd => ?_) (fun cd => ?_)
          · have h := ifT cd h
            refine lv_iload hx hb dX3_leastThatSetOut_82 (lv_at hl 5 rfl) ?_
            cases h
            exact W.iret hx hb hr (fun t ht _ => ⟨⟨_, (), rfl, rfl, by rw [ht]; exact hP, hD⟩, hS.F ht⟩) hS.2.2 dX3_leastThatSetOut_84
          · have h := ifF cd h
            refine lv_iload hx hb dX3_leastThatSetOut_42 (lv_at hl 4 rfl) ?_
            refine lv_iload hx hb dX3_leastThatSetOut_44 (lv_at hl 5 rfl) ?_
            refine lv_iadd hx hb dX3_leastThatSetOut_46 ?_
            refine lv_iconst (v := 2) hx hb dX3_leastThatSetOut_47 (by decide) ?_
            refine lv_idiv hx hb dX3_leastThatSetOut_48 (by decide) ?_
            refine lv_istore (lv' := [(7, .int ((x4_7 + x5_8) / 2)), (0, .ref a_ma), (1, .int p1), (2, .int p2), (3, .int p3), (4, .int x4_7), (5, .int x5_8), (6, .int x6_9)]) hx hb dX3_leastThatSetOut_49 hl (by decide) rfl (fun ls hl => ?_)
            refine lv_aload_n hx hb dX3_leastThatSetOut_51 rfl (lv_at hl 1 rfl) ?_
            refine lv_iload_n hx hb dX3_leastThatSetOut_52 rfl (lv_at hl 2 rfl) ?_
            refine lv_iload_n hx hb dX3_leastThatSetOut_53 rfl (lv_at hl 3 rfl) ?_
            refine lv_iload hx hb dX3_leastThatSetOut_54 (lv_at hl 0 rfl) ?_
            obtain ⟨r_14, ma_cities_15, ma_come_16, ma_walked_17, ma_way_18, hc_19, h⟩ := bd5_some h
            refine wVi [.int p1, .int p2, .int ((x4_7 + x5_8) / 2)] [] ⟨hx, hb, hml, hown, hts⟩ (c_X3_mostThatCome l D cy A X a_la a_la_passBetween a_ma a_ma_walked a_ma_way la_lanes la_deep la_lanesTold (la_who) (la_firstStrong) la_beasts (la_kind) (la_firstLane) (la_mood) (la_price) la_cities la_passes la_turned la_passBetween ma_cities_10 ma_come_11 ma_walked_12 ma_way_13 p1 p2 ((x4_7 + x5_8) / 2) r_14 ma_cities_15 ma_come_16 ma_walked_17 ma_way_18 hc_19) gX3_leastThatSetOut_X3_mostThatCome rfl hd_X3_mostThatCome ⟨Nat.le_of_ble_eq_true rfl, Nat.le_of_ble_eq_true rfl⟩ rfl rfl hKN hP hD hS hA 3 2 rfl rfl rfl hl.1 rfl (Nat.le_of_ble_eq_true rfl) dX3_leastThatSetOut_56 ⟨Nat.le_of_ble_eq_true rfl, Nat.le_of_ble_eq_true rfl⟩ (fun H locs hP hD hS => ?_)
            refine lv_iload_n hx hb dX3_leastThatSetOut_59 rfl (lv_at hl 4 rfl) ?_
            have jn76 : ∀ (x4_20 : Int32) (x5_21 : Int32), f_X3_leastThatSetOut_B76 (f_X3_leastThatSetOut_L27 la_cities la_passBetween p1 p2 p3 n27) la_cities la_passBetween p1 p2 p3 x4_20 x5_21 x6_9 ma_cities_15 ma_come_16 ma_walked_17 ma_way_18 = some (res, ma_cities', ma_come', ma_walked', ma_way') → ∀ (H : Heap) (locs : List Loc), va_P D vwCl ([(a_la, .inr (2, [.int la_lanes, .int la_deep, .int la_lanesTold, la_who, la_firstStrong, .int la_beasts, la_kind, la_firstLane, la_mood, la_price, .int la_cities, .int la_passes, .ref a_la_passBetween, .int la_turned])), (a_la_passBetween, .inl (cy 1, 36, .inl la_passBetween)), (a_ma, .inr (3, [.ref a_la, .ref a_ma_walked, .ref a_ma_way, .int ma_cities_15, .int ma_come_16])), (a_ma_walked, .inl (cy 1, 6, .inl ma_walked_17)), (a_ma_way, .inl (cy 1, 6, .inl ma_way_18))] ++ X) H → va_D A ([(a_la, .inr (2, [.int la_lanes, .int la_deep, .int la_lanesTold, la_who, la_firstStrong, .int la_beasts, la_kind, la_firstLane, la_mood, la_price, .int la_cities, .int la_passes, .ref a_la_passBetween, .int la_turned])), (a_la_passBetween, .inl (cy 1, 36, .inl la_passBetween)), (a_ma, .inr (3, [.ref a_la, .ref a_ma_walked, .ref a_ma_way, .int ma_cities_15, .int ma_come_16])), (a_ma_walked, .inl (cy 1, 6, .inl ma_walked_17)), (a_ma_way, .inl (cy 1, 6, .inl ma_way_18))] ++ X) → va_S A s.heap H locs → ∀ ls : Array Slot, lv_has ls 8 [(0, .ref a_ma), (1, .int p1), (2, .int p2), (3, .int p3), (4, .int x4_20), (5, .int x5_21), (6, .int x6_9)] → W p l e (headSpec wo_X3_leastThatSetOut ({ frames := 11, cells := 0, slots := 0, locals := 282 })).room s m (([.ref a_ma, .int p1, .int p2, .int p3] : List Value).toArray) below meth c H locs 0 0 (MQ below (va_Qi (fun (r : Int32) (_ : Unit) => r = res) (wB D A ([(a_la, .inr (2, [.int la_lanes, .int la_deep, .int la_lanesTold, la_who, la_firstStrong, .int la_beasts, la_kind, la_firstLane, la_mood, la_price, .int la_cities, .int la_passes, .ref a_la_passBetween, .int la_turned])), (a_la_passBetween, .inl (cy 1, 36, .inl la_passBetween)), (a_ma, .inr (3, [.ref a_la, .ref a_ma_walked, .ref a_ma_way, .int ma_cities', .int ma_come'])), (a_ma_walked, .inl (cy 1, 6, .inl ma_walked')), (a_ma_way, .inl (cy 1, 6, .inl ma_way'))] ++ X)) A) (([.ref a_ma, .int p1, .int p2, .int p3] : List Value).toArray) s 0 0 A) (F0 m 76 ls []) := by
              intro x4_20 x5_21 h H locs hP hD hS ls hl
              unfold f_X3_leastThatSetOut_B76 at h
              refine lv_iinc (v := x6_9 + 1) (lv' := [(6, .int (x6_9 + 1)), (0, .ref a_ma), (1, .int p1), (2, .int p2), (3, .int p3), (4, .int x4_20), (5, .int x5_21)]) hx hb dX3_leastThatSetOut_76 hl (k := 6) rfl (by first | rfl | decide) (by decide) rfl (fun ls hl => ?_)
              refine lv_goto (tgt := 27) hx hb dX3_leastThatSetOut_79 (by decide) ?_
              exact ih27 x4_20 x5_21 (x6_9 + 1) ma_cities_15 ma_come_16 ma_walked_17 ma_way_18 h _ _ hP hD hS _ (lv_sub hl [1, 2, 3, 4, 5, 6, 0] rfl)
            refine lv_icmp_lt (tgt := 70) hx hb dX3_leastThatSetOut_60 (by decide) (fun cd => ?_) (fun cd => ?_)
            · have h := ifT cd h
              refine lv_iload hx hb dX3_leastThatSetOut_70 (lv_at hl 0 rfl) ?_
              refine lv_iconst (v := 1) hx hb dX3_leastThatSetOut_72 (by decide) ?_
              refine lv_iadd hx hb dX3_leastThatSetOut_73 ?_
              refine lv_istore (lv' := [(4, .int (((x4_7 + x5_8) / 2) + 1)), (7, .int ((x4_7 + x5_8) / 2)), (0, .ref a_ma), (1, .int p1), (2, .int p2), (3, .int p3), (5, .int x5_8), (6, .int x6_9)]) hx hb dX3_leastThatSetOut_74 hl (by decide) rfl (fun ls hl => ?_)
              exact jn76 (((x4_7 + x5_8) / 2) + 1) x5_8 h _ _ hP hD hS _ (lv_sub hl [2, 3, 4, 5, 0, 6, 7] rfl)
            · have h := ifF cd h
              refine lv_iload hx hb dX3_leastThatSetOut_63 (lv_at hl 0 rfl) ?_
              refine lv_istore (lv' := [(5, .int ((x4_7 + x5_8) / 2)), (7, .int ((x4_7 + x5_8) / 2)), (0, .ref a_ma), (1, .int p1), (2, .int p2), (3, .int p3), (4, .int x4_7), (6, .int x6_9)]) hx hb dX3_leastThatSetOut_65 hl (by decide) rfl (fun ls hl => ?_)
              refine lv_goto (tgt := 76) hx hb dX3_leastThatSetOut_67 (by decide) ?_
              exact jn76 x4_7 ((x4_7 + x5_8) / 2) h _ _ hP hD hS _ (lv_sub hl [2, 3, 4, 5, 6, 0, 7] rfl)
    exact lp27 fuelN (0 : Int32) (999 : Int32) (0 : Int32) ma_cities_2 ma_come_3 ma_walked_4 ma_way_5 h _ _ hP hD hS _ (lv_sub hl [3, 4, 5, 6, 2, 1, 0] rfl)
  · have h := ifF cd h
    refine lv_bipush (v := (-2)) hx hb dX3_leastThatSetOut_13 (by decide) ?_
    cases h
    exact W.iret hx hb hr (fun t ht _ => ⟨⟨_, (), rfl, rfl, by rw [ht]; exact hP, hD⟩, hS.F ht⟩) hS.2.2 dX3_leastThatSetOut_15
