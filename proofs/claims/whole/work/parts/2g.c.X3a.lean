noncomputable def f_X3_lostOn (p0 : Int32) (p1 : Int32) : Option (Int32) :=
  some (((p0 * p1) + 99) / 100)
theorem hd_X3_lostOn : yX3_lostOn.cls ≠ "java/lang/invoke/MethodHandle" ∧ yX3_lostOn.cls ≠ "java/lang/invoke/VarHandle" ∧ (parseMethodDescriptor yX3_lostOn.desc).map (fun d => d.parameters.length) = some 2 := by decide +kernel
set_option maxHeartbeats 4000000 in
set_option maxRecDepth 100000 in
theorem c_X3_lostOn (l : Launch) (D : va_G) (cy : Nat → ClassId) (p0 : Int32) (p1 : Int32) (res : Int32) (h : f_X3_lostOn  p0 p1 = some (res)) : Met l yX3_lostOn wo_X3_lostOn ({ frames := 0, cells := 0, slots := 0, locals := 0 }) (roPc D cy [.int p0, .int p1] []) (vp_Si (fun r => r = res)) 0 0 (fun _ => False) := by
  refine Met.ofW (cc := cX3_lostOn) (maxL := 2) (ret := (some .int)) (by decide) rfl ?_
  intro p e s m args below meth c s₁ B hml hv
  obtain ⟨rfl, hP, hKN⟩ := hv
  have hK := hKN.1
  have hx := B.exec
  have hb := B.bytes
  have hr := B.returns
  have hts := wt_X3_lostOn hKN.2.2 (([.int p0, .int p1] : List Value).toArray)
  have hown : s.vm.findClass RX3 = some m.cls := findClass_of_methodNamed B.named
  have hlocks := B.notSynchronized
  have hl := lv_entry ([.int p0, .int p1]) (n := 2) (Nat.le_of_ble_eq_true rfl)
  rw [lg_entry_eq]
  generalize (lg_sl ([.int p0, .int p1]) ++ List.replicate (2 - (lg_sl ([.int p0, .int p1])).length) Slot.unset).toArray = ls at hl ⊢
  have hl : lv_has ls 2 [(0, .int p0), (1, .int p1)] := hl
  unfold f_X3_lostOn at h
  refine lv_iload_n hx hb dX3_lostOn_0 rfl (lv_at hl 0 rfl) ?_
  refine lv_iload_n hx hb dX3_lostOn_1 rfl (lv_at hl 1 rfl) ?_
  refine lv_imul hx hb dX3_lostOn_2 ?_
  refine lv_bipush (v := 99) hx hb dX3_lostOn_3 (by decide) ?_
  refine lv_iadd hx hb dX3_lostOn_5 ?_
  refine lv_bipush (v := 100) hx hb dX3_lostOn_6 (by decide) ?_
  refine lv_idiv hx hb dX3_lostOn_8 (by decide) ?_
  exact W.iret (v := ((p0 * p1) + 99) / 100) hx hb hr (fun t ht _ => ⟨_, rfl, Option.some.inj h, ht⟩) (fun _ q => by cases q) dX3_lostOn_9
noncomputable def f_X3_citiesOnWay (ma_cities : Int32) : Option (Int32) :=
  some (ma_cities)
theorem hd_X3_citiesOnWay : yX3_citiesOnWay.cls = RX3 ∧ yX3_citiesOnWay.cls ≠ "java/lang/invoke/MethodHandle" ∧ yX3_citiesOnWay.cls ≠ "java/lang/invoke/VarHandle" ∧ (parseMethodDescriptor yX3_citiesOnWay.desc).map (fun d => d.parameters.length) = some 0 := by decide +kernel
set_option maxHeartbeats 4000000 in
set_option maxRecDepth 100000 in
theorem c_X3_citiesOnWay (l : Launch) (D : va_G) (cy : Nat → ClassId) (a_ma : Nat) (ma_land : Value) (ma_walked : Value) (ma_way : Value) (ma_cities : Int32) (ma_come : Int32) (res : Int32) (h : f_X3_citiesOnWay ma_cities = some (res)) : Met l yX3_citiesOnWay wo_X3_citiesOnWay ({ frames := 0, cells := 0, slots := 0, locals := 0 }) (roPc D cy [.ref a_ma] [(a_ma, .inr (3, [ma_land, ma_walked, ma_way, .int ma_cities, .int ma_come]))]) (vp_Si (fun r => r = res)) 0 0 (fun _ => False) := by
  refine Met.ofW (cc := cX3_citiesOnWay) (maxL := 1) (ret := (some .int)) (by decide) rfl ?_
  intro p e s m args below meth c s₁ B hml hv
  obtain ⟨rfl, hP, hKN⟩ := hv
  have hK := hKN.1
  have hx := B.exec
  have hb := B.bytes
  have hr := B.returns
  have hts := wt_X3_citiesOnWay hKN.2.2 (([.ref a_ma] : List Value).toArray)
  have hown : s.vm.findClass RX3 = some m.cls := findClass_of_methodNamed B.named
  have hlocks := B.notSynchronized
  have hX3 := wc_X3 hKN.2.2 (([.ref a_ma] : List Value).toArray)
  have hl := lv_entry ([.ref a_ma]) (n := 1) (Nat.le_of_ble_eq_true rfl)
  rw [lg_entry_eq]
  generalize (lg_sl ([.ref a_ma]) ++ List.replicate (1 - (lg_sl ([.ref a_ma])).length) Slot.unset).toArray = ls at hl ⊢
  have hl : lv_has ls 1 [(0, .ref a_ma)] := hl
  unfold f_X3_citiesOnWay at h
  refine lv_aload_n hx hb dX3_citiesOnWay_0 rfl (lv_at hl 0 rfl) ?_
  refine va_get (D := D) (ci := 3) (C := RX3) (T := TX3) (N := 5) (v := .int ma_cities) hx hb hX3 (fun _ q => q) hown hK hP 0 rfl rfl 3 (by decide) (hts (.fieldLink RX3 22 "ElephantLine$Marching" "cities" "I") (by decide +kernel)) (fun _ h9 => h9) rfl dX3_citiesOnWay_1 ?_
  exact W.iret (v := ma_cities) hx hb hr (fun t ht _ => ⟨_, rfl, Option.some.inj h, ht⟩) (fun _ q => by cases q) dX3_citiesOnWay_4
noncomputable def f_X3_cityOnWay (ma_cities : Int32) (ma_way : Nat → Int32) (p1 : Int32) : Option (Int32) :=
  (if p1 < 0 then
  some ((-1))
  else
  (if ma_cities ≤ p1 then
  some ((-1))
  else
  gIn p1 6 <|
  some (ma_way p1.toNatClampNeg)))
theorem hd_X3_cityOnWay : yX3_cityOnWay.cls = RX3 ∧ yX3_cityOnWay.cls ≠ "java/lang/invoke/MethodHandle" ∧ yX3_cityOnWay.cls ≠ "java/lang/invoke/VarHandle" ∧ (parseMethodDescriptor yX3_cityOnWay.desc).map (fun d => d.parameters.length) = some 1 := by decide +kernel
set_option maxHeartbeats 4000000 in
set_option maxRecDepth 100000 in
theorem c_X3_cityOnWay (l : Launch) (D : va_G) (cy : Nat → ClassId) (a_ma a_ma_way : Nat) (ma_land : Value) (ma_walked : Value) (ma_cities : Int32) (ma_come : Int32) (ma_way : Nat → Int32) (p1 : Int32) (res : Int32) (h : f_X3_cityOnWay ma_cities ma_way p1 = some (res)) : Met l yX3_cityOnWay wo_X3_cityOnWay ({ frames := 0, cells := 0, slots := 0, locals := 0 }) (roPc D cy [.ref a_ma, .int p1] [(a_ma, .inr (3, [ma_land, ma_walked, .ref a_ma_way, .int ma_cities, .int ma_come])), (a_ma_way, .inl (cy 1, 6, .inl ma_way))]) (vp_Si (fun r => r = res)) 0 0 (fun _ => False) := by
  refine Met.ofW (cc := cX3_cityOnWay) (maxL := 2) (ret := (some .int)) (by decide) rfl ?_
  intro p e s m args below meth c s₁ B hml hv
  obtain ⟨rfl, hP, hKN⟩ := hv
  have hK := hKN.1
  have hx := B.exec
  have hb := B.bytes
  have hr := B.returns
  have hts := wt_X3_cityOnWay hKN.2.2 (([.ref a_ma, .int p1] : List Value).toArray)
  have hown : s.vm.findClass RX3 = some m.cls := findClass_of_methodNamed B.named
  have hlocks := B.notSynchronized
  have hX3 := wc_X3 hKN.2.2 (([.ref a_ma, .int p1] : List Value).toArray)
  have hl := lv_entry ([.ref a_ma, .int p1]) (n := 2) (Nat.le_of_ble_eq_true rfl)
  rw [lg_entry_eq]
  generalize (lg_sl ([.ref a_ma, .int p1]) ++ List.replicate (2 - (lg_sl ([.ref a_ma, .int p1])).length) Slot.unset).toArray = ls at hl ⊢
  have hl : lv_has ls 2 [(0, .ref a_ma), (1, .int p1)] := hl
  unfold f_X3_cityOnWay at h
  refine lv_iload_n hx hb dX3_cityOnWay_0 rfl (lv_at hl 1 rfl) ?_
  refine lv_if_lt (tgt := 21) hx hb dX3_cityOnWay_1 (by decide) (fun cd => ?_) (fun cd => ?_)
  · have h := ifT cd h
    refine lv_iconst (v := (-1)) hx hb dX3_cityOnWay_21 (by decide) ?_
    exact W.iret (v := (-1)) hx hb hr (fun t ht _ => ⟨_, rfl, Option.some.inj h, ht⟩) (fun _ q => by cases q) dX3_cityOnWay_22
  · have h := ifF cd h
    refine lv_iload_n hx hb dX3_cityOnWay_4 rfl (lv_at hl 1 rfl) ?_
    refine lv_aload_n hx hb dX3_cityOnWay_5 rfl (lv_at hl 0 rfl) ?_
    refine va_get (D := D) (ci := 3) (C := RX3) (T := TX3) (N := 5) (v := .int ma_cities) hx hb hX3 (fun _ q => q) hown hK hP 0 rfl rfl 3 (by decide) (hts (.fieldLink RX3 22 "ElephantLine$Marching" "cities" "I") (by decide +kernel)) (fun _ h9 => h9) rfl dX3_cityOnWay_6 ?_
    refine lv_icmp_ge (tgt := 21) hx hb dX3_cityOnWay_9 (by decide) (fun cd => ?_) (fun cd => ?_)
    · have h := ifT cd h
      refine lv_iconst (v := (-1)) hx hb dX3_cityOnWay_21 (by decide) ?_
      exact W.iret (v := (-1)) hx hb hr (fun t ht _ => ⟨_, rfl, Option.some.inj h, ht⟩) (fun _ q => by cases q) dX3_cityOnWay_22
    · have h := ifF cd h
      refine lv_aload_n hx hb dX3_cityOnWay_12 rfl (lv_at hl 0 rfl) ?_
      refine va_get (D := D) (ci := 3) (C := RX3) (T := TX3) (N := 5) (v := .ref a_ma_way) hx hb hX3 (fun _ q => q) hown hK hP 0 rfl rfl 2 (by decide) (hts (.fieldLink RX3 15 "ElephantLine$Marching" "way" "[I") (by decide +kernel)) (fun _ h9 => h9) rfl dX3_cityOnWay_13 ?_
      refine lv_iload_n hx hb dX3_cityOnWay_16 rfl (lv_at hl 1 rfl) ?_
      obtain ⟨i_1, h⟩ := gIn_some h
      refine va_iald hx hb hK hP 1 1 rfl rfl i_1 dX3_cityOnWay_17 ?_
      refine lv_goto (tgt := 22) hx hb dX3_cityOnWay_18 (by decide) ?_
      exact W.iret (v := ma_way p1.toNatClampNeg) hx hb hr (fun t ht _ => ⟨_, rfl, Option.some.inj h, ht⟩) (fun _ q => by cases q) dX3_cityOnWay_22
noncomputable def f_X3_keepIfBetter (ma_cities : Int32) (ma_come : Int32) (ma_walked : Nat → Int32) (ma_way : Nat → Int32) (p1 : Int32) (p2 : Int32) : Option (Int32 × Int32 × (Nat → Int32)) :=
  (if p1 ≤ ma_come then
  some (ma_cities, ma_come, ma_way)
  else
  gCp (if (6 : Int32) < p2 then 6 else p2) 6 <|
  some (p2, p1, va_cpy ma_walked ma_way ((0 : Int32).toNatClampNeg) ((0 : Int32).toNatClampNeg) ((if (6 : Int32) < p2 then 6 else p2).toNatClampNeg)))
theorem hd_X3_keepIfBetter : yX3_keepIfBetter.cls = RX3 ∧ yX3_keepIfBetter.cls ≠ "java/lang/invoke/MethodHandle" ∧ yX3_keepIfBetter.cls ≠ "java/lang/invoke/VarHandle" ∧ (parseMethodDescriptor yX3_keepIfBetter.desc).map (fun d => d.parameters.length) = some 2 := by decide +kernel
set_option maxHeartbeats 4000000 in
set_option maxRecDepth 100000 in
theorem c_X3_keepIfBetter (l : Launch) (D : va_G) (cy : Nat → ClassId) (A : Nat → Prop) (X : va_W) (a_ma a_ma_walked a_ma_way : Nat) (ma_land : Value) (ma_cities : Int32) (ma_come : Int32) (ma_walked : Nat → Int32) (ma_way : Nat → Int32) (p1 : Int32) (p2 : Int32) (ma_cities' : Int32) (ma_come' : Int32) (ma_way' : Nat → Int32) (h : f_X3_keepIfBetter ma_cities ma_come ma_walked ma_way p1 p2 = some (ma_cities', ma_come', ma_way')) : Met l yX3_keepIfBetter wo_X3_keepIfBetter ({ frames := 1, cells := 0, slots := 0, locals := 18 }) (wrPc D cy A [.ref a_ma, .int p1, .int p2] ([(a_ma, .inr (3, [ma_land, .ref a_ma_walked, .ref a_ma_way, .int ma_cities, .int ma_come])), (a_ma_walked, .inl (cy 1, 6, .inl ma_walked)), (a_ma_way, .inl (cy 1, 6, .inl ma_way))] ++ X)) (va_Qv (fun (_ : Unit) => True) (wB D A ([(a_ma, .inr (3, [ma_land, .ref a_ma_walked, .ref a_ma_way, .int ma_cities', .int ma_come'])), (a_ma_walked, .inl (cy 1, 6, .inl ma_walked)), (a_ma_way, .inl (cy 1, 6, .inl ma_way'))] ++ X)) A) 0 0 A := by
  refine Met.ofW (cc := cX3_keepIfBetter) (maxL := 3) (ret := none) (by decide) rfl ?_
  intro p e s m args below meth c s₁ B hml hv
  obtain ⟨rfl, hP, hKN, hD, hA⟩ := hv
  have hK := hKN.1
  have hx := B.exec
  have hb := B.bytes
  have hr := B.returns
  have hts := wt_X3_keepIfBetter hKN.2.2 (([.ref a_ma, .int p1, .int p2] : List Value).toArray)
  have hown : s.vm.findClass RX3 = some m.cls := findClass_of_methodNamed B.named
  have hlocks := B.notSynchronized
  have hS : va_S A s.heap s.heap [] := va_S.rf
  have hX3 := wc_X3 hKN.2.2 (([.ref a_ma, .int p1, .int p2] : List Value).toArray)
  have hl := lv_entry ([.ref a_ma, .int p1, .int p2]) (n := 3) (Nat.le_of_ble_eq_true rfl)
  rw [lg_entry_eq]
  generalize (lg_sl ([.ref a_ma, .int p1, .int p2]) ++ List.replicate (3 - (lg_sl ([.ref a_ma, .int p1, .int p2])).length) Slot.unset).toArray = ls at hl ⊢
  have hl : lv_has ls 3 [(0, .ref a_ma), (1, .int p1), (2, .int p2)] := hl
  unfold f_X3_keepIfBetter at h
  refine lv_iload_n hx hb dX3_keepIfBetter_0 rfl (lv_at hl 1 rfl) ?_
  refine lv_aload_n hx hb dX3_keepIfBetter_1 rfl (lv_at hl 0 rfl) ?_
  refine va_get (D := D) (ci := 3) (C := RX3) (T := TX3) (N := 5) (v := .int ma_come) hx hb hX3 (fun _ q => q) hown hK hP 0 rfl rfl 4 (by decide) (hts (.fieldLink RX3 26 "ElephantLine$Marching" "come" "I") (by decide +kernel)) (fun _ h9 => h9) rfl dX3_keepIfBetter_2 ?_
  refine lv_icmp_le (tgt := 37) hx hb dX3_keepIfBetter_5 (by decide) (fun cd => ?_) (fun cd => ?_)
  · have h := ifT cd h
    cases h
    exact W.vret hx hb hr (fun t ht _ => ⟨⟨(), rfl, trivial, by rw [ht]; exact hP, hD⟩, hS.F ht⟩) hS.2.2 dX3_keepIfBetter_37
  · have h := ifF cd h
    refine lv_aload_n hx hb dX3_keepIfBetter_8 rfl (lv_at hl 0 rfl) ?_
    refine lv_iload_n hx hb dX3_keepIfBetter_9 rfl (lv_at hl 1 rfl) ?_
    refine va_put (D := D) (ci := 3) (C := RX3) (T := TX3) (N := 5) (v := .int p1) (ty := .int) hx hb hX3 (fun _ q => q) tyX3 tyX3_ok nmX3 hown hK hP hD hS 0 rfl rfl 4 (by decide) (hts (.fieldLink RX3 26 "ElephantLine$Marching" "come" "I") (by decide +kernel)) (fun _ h9 => h9) rfl (tyX3_ok 4 (by decide)) rfl rfl (Nat.le_of_ble_eq_true rfl) dX3_keepIfBetter_10 (fun H locs hP hD hS => ?_)
    refine lv_aload_n hx hb dX3_keepIfBetter_13 rfl (lv_at hl 0 rfl) ?_
    refine lv_iload_n hx hb dX3_keepIfBetter_14 rfl (lv_at hl 2 rfl) ?_
    refine va_put (D := D) (ci := 3) (C := RX3) (T := TX3) (N := 5) (v := .int p2) (ty := .int) hx hb hX3 (fun _ q => q) tyX3 tyX3_ok nmX3 hown hK hP hD hS 0 rfl rfl 3 (by decide) (hts (.fieldLink RX3 22 "ElephantLine$Marching" "cities" "I") (by decide +kernel)) (fun _ h9 => h9) rfl (tyX3_ok 3 (by decide)) rfl rfl (Nat.le_of_ble_eq_true rfl) dX3_keepIfBetter_15 (fun H locs hP hD hS => ?_)
    refine lv_aload_n hx hb dX3_keepIfBetter_18 rfl (lv_at hl 0 rfl) ?_
    refine va_get (D := D) (ci := 3) (C := RX3) (T := TX3) (N := 5) (v := .ref a_ma_walked) hx hb hX3 (fun _ q => q) hown hK hP 0 rfl rfl 1 (by decide) (hts (.fieldLink RX3 9 "ElephantLine$Marching" "walked" "[I") (by decide +kernel)) (fun _ h9 => h9) rfl dX3_keepIfBetter_19 ?_
    refine lv_iconst (v := 0) hx hb dX3_keepIfBetter_22 (by decide) ?_
    refine lv_aload_n hx hb dX3_keepIfBetter_23 rfl (lv_at hl 0 rfl) ?_
    refine va_get (D := D) (ci := 3) (C := RX3) (T := TX3) (N := 5) (v := .ref a_ma_way) hx hb hX3 (fun _ q => q) hown hK hP 0 rfl rfl 2 (by decide) (hts (.fieldLink RX3 15 "ElephantLine$Marching" "way" "[I") (by decide +kernel)) (fun _ h9 => h9) rfl dX3_keepIfBetter_24 ?_
    refine lv_iconst (v := 0) hx hb dX3_keepIfBetter_27 (by decide) ?_
    refine lv_iload_n hx hb dX3_keepIfBetter_28 rfl (lv_at hl 2 rfl) ?_
    refine lv_bipush (v := 6) hx hb dX3_keepIfBetter_29 (by decide) ?_
    refine va_mmin hx hb (hml.trans hl.1.symm) hown (hts (.methodLink RX3 47 Lib.Math.min.name) (by decide +kernel)) (hts (.static Lib.Math.min.name) (by decide +kernel)) (hts (.initialized "java/lang/Math") (by decide +kernel)) (hts (.code Lib.Math.min.name Lib.Math.min.code 2 (some .int)) (by decide +kernel)) (Nat.le_of_ble_eq_true rfl) (Nat.le_of_ble_eq_true rfl) (Nat.le_of_ble_eq_true rfl) (Nat.le_of_ble_eq_true rfl) dX3_keepIfBetter_31 ?_
    obtain ⟨i_1, h⟩ := gCp_some h
    refine va_copyi hx hb (hml.trans hl.1.symm) hown (hts (.methodLink RX3 52 arraycopyName) (by decide +kernel)) (hts (.native arraycopyName) (by decide +kernel)) (hts (.static arraycopyName) (by decide +kernel)) (hts (.initialized "java/lang/System") (by decide +kernel)) hK hP hD hS 1 2 1 1 rfl rfl rfl rfl rfl (by decide) (by decide) i_1.1 (i_1.2 _ (by decide)) (i_1.2 _ (by decide)) (fun _ _ => rfl) (Nat.le_of_ble_eq_true rfl) (Nat.le_of_ble_eq_true rfl) dX3_keepIfBetter_34 (fun H locs hP hD hS => ?_)
    cases h
    exact W.vret hx hb hr (fun t ht _ => ⟨⟨(), rfl, trivial, by rw [ht]; exact hP, hD⟩, hS.F ht⟩) hS.2.2 dX3_keepIfBetter_37
noncomputable def f_X3_neighboursOf_B36 (k4 : Int32 → Int32 → Option (Int32)) (la_cities : Int32) (la_passBetween : Nat → Int32) (x1 : Int32) (x3 : Int32) (t0 : Int32) (t1 : Int32) : Option (Int32) :=
  k4 (t0 ||| t1) (x3 + 1)
noncomputable def f_X3_neighboursOf_b4 (la_cities : Int32) (la_passBetween : Nat → Int32) (x1 : Int32) (k4 : Int32 → Int32 → Option (Int32)) (x2 : Int32) (x3 : Int32) : Option (Int32) :=
  (if la_cities ≤ x3 then
  some (x2)
  else
  bd1 (f_X2_lossBetween la_cities la_passBetween x1 x3) fun r_1 =>
  (if r_1 = (-1) then
  f_X3_neighboursOf_B36 k4 la_cities la_passBetween x1 x3 x2 0
  else
  f_X3_neighboursOf_B36 k4 la_cities la_passBetween x1 x3 x2 ((1 : Int32) <<< (x3 &&& 31))))
noncomputable def f_X3_neighboursOf_L4 (la_cities : Int32) (la_passBetween : Nat → Int32) (x1 : Int32) : Nat → Int32 → Int32 → Option (Int32)
  | 0 => fun _ _ => none
  | n + 1 => f_X3_neighboursOf_b4 la_cities la_passBetween x1 (f_X3_neighboursOf_L4 la_cities la_passBetween x1 n)
noncomputable def f_X3_neighboursOf (la_cities : Int32) (la_passBetween : Nat → Int32) (p1 : Int32) : Option (Int32) :=
  f_X3_neighboursOf_L4 la_cities la_passBetween p1 fuelN 0 0
theorem hd_X3_neighboursOf : yX3_neighboursOf.cls = RX3 ∧ yX3_neighboursOf.cls ≠ "java/lang/invoke/MethodHandle" ∧ yX3_neighboursOf.cls ≠ "java/lang/invoke/VarHandle" ∧ (parseMethodDescriptor yX3_neighboursOf.desc).map (fun d => d.parameters.length) = some 1 := by decide +kernel
set_option maxHeartbeats 4000000 in
set_option maxRecDepth 100000 in
theorem c_X3_neighboursOf (l : Launch) (D : va_G) (cy : Nat → ClassId) (a_la a_la_passBetween a_ma : Nat) (la_lanes : Int32) (la_deep : Int32) (la_lanesTold : Int32) (la_who : Value) (la_firstStrong : Value) (la_beasts : Int32) (la_kind : Value) (la_firstLane : Value) (la_mood : Value) (la_price : Value) (la_cities : Int32) (la_passes : Int32) (la_turned : Int32) (la_passBetween : Nat → Int32) (ma_walked : Value) (ma_way : Value) (ma_cities : Int32) (ma_come : Int32) (p1 : Int32) (res : Int32) (h : f_X3_neighboursOf la_cities la_passBetween p1 = some (res)) : Met l yX3_neighboursOf wo_X3_neighboursOf ({ frames := 2, cells := 0, slots := 0, locals := 43 }) (roPc D cy [.ref a_ma, .int p1] [(a_la, .inr (2, [.int la_lanes, .int la_deep, .int la_lanesTold, la_who, la_firstStrong, .int la_beasts, la_kind, la_firstLane, la_mood, la_price, .int la_cities, .int la_passes, .ref a_la_passBetween, .int la_turned])), (a_la_passBetween, .inl (cy 1, 36, .inl la_passBetween)), (a_ma, .inr (3, [.ref a_la, ma_walked, ma_way, .int ma_cities, .int ma_come]))]) (vp_Si (fun r => r = res)) 0 0 (fun _ => False) := by
  refine Met.ofW (cc := cX3_neighboursOf) (maxL := 4) (ret := (some .int)) (by decide) rfl ?_
  intro p e s m args below meth c s₁ B hml hv
  obtain ⟨rfl, hP, hKN⟩ := hv
  have hK := hKN.1
  have hx := B.exec
  have hb := B.bytes
  have hr := B.returns
  have hts := wt_X3_neighboursOf hKN.2.2 (([.ref a_ma, .int p1] : List Value).toArray)
  have hown : s.vm.findClass RX3 = some m.cls := findClass_of_methodNamed B.named
  have hlocks := B.notSynchronized
  have hX2 := wc_X2 hKN.2.2 (([.ref a_ma, .int p1] : List Value).toArray)
  have hX3 := wc_X3 hKN.2.2 (([.ref a_ma, .int p1] : List Value).toArray)
  have hl := lv_entry ([.ref a_ma, .int p1]) (n := 4) (Nat.le_of_ble_eq_true rfl)
  rw [lg_entry_eq]
  generalize (lg_sl ([.ref a_ma, .int p1]) ++ List.replicate (4 - (lg_sl ([.ref a_ma, .int p1])).length) Slot.unset).toArray = ls at hl ⊢
  have hl : lv_has ls 4 [(0, .ref a_ma), (1, .int p1)] := hl
  unfold f_X3_neighboursOf at h
  refine lv_iconst (v := 0) hx hb dX3_neighboursOf_0 (by decide) ?_
  refine lv_istore_n (lv' := [(2, .int 0), (0, .ref a_ma), (1, .int p1)]) hx hb dX3_neighboursOf_1 rfl hl (by decide) rfl (fun ls hl => ?_)
  refine lv_iconst (v := 0) hx hb dX3_neighboursOf_2 (by decide) ?_
  refine lv_istore_n (lv' := [(3, .int 0), (2, .int 0), (0, .ref a_ma), (1, .int p1)]) hx hb dX3_neighboursOf_3 rfl hl (by decide) rfl (fun ls hl => ?_)
  have lp4 : ∀ (n4 : Nat) (x2_1 : Int32) (x3_2 : Int32), f_X3_neighboursOf_L4 la_cities la_passBetween p1 n4 x2_1 x3_2 = some (res) → ∀ ls : Array Slot, lv_has ls 4 [(0, .ref a_ma), (1, .int p1), (2, .int x2_1), (3, .int x3_2)] → W p l e (headSpec wo_X3_neighboursOf ({ frames := 2, cells := 0, slots := 0, locals := 43 })).room s m (([.ref a_ma, .int p1] : List Value).toArray) below meth c s.heap [] 0 0 (MQ below (vp_Si (fun r => r = res)) (([.ref a_ma, .int p1] : List Value).toArray) s 0 0 (fun _ => False)) (F0 m 4 ls []) := by
    intro n4
    induction n4 with
    | zero => intro x2_1 x3_2 h; exact absurd (show (none : Option (Int32)) = some _ from h) (by intro q; cases q)
    | succ n4 ih4 =>
      intro x2_1 x3_2 h ls hl
      have h : f_X3_neighboursOf_b4 la_cities la_passBetween p1 (f_X3_neighboursOf_L4 la_cities la_passBetween p1 n4) x2_1 x3_2 = some (res) := h
      unfold f_X3_neighboursOf_b4 at h
      refine lv_iload_n hx hb dX3_neighboursOf_4 rfl (lv_at hl 3 rfl) ?_
      refine lv_aload_n hx hb dX3_neighboursOf_5 rfl (lv_at hl 0 rfl) ?_
      refine va_get (D := D) (ci := 3) (C := RX3) (T := TX3) (N := 5) (v := .ref a_la) hx hb hX3 (fun _ q => q) hown hK hP 2 rfl rfl 0 (by decide) (hts (.fieldLink RX3 18 "ElephantLine$Marching" "land" "LElephantLine$Land;") (by decide +kernel)) (fun _ h9 => h9) rfl dX3_neighboursOf_6 ?_
      refine va_getN (D := D) (ci := 2) (C := RX2) (T := TX2) (N := 14) (v := .int la_cities) hx hb hX2 (fun _ q => q) hown hK hP 0 rfl rfl 10 (by decide) (va_Nw.use rfl (hKN.2.1.1 ("ElephantLine$Marching", 37, "ElephantLine$Land", "cities", "I", "ElephantLine") (List.mem_of_getElem? (i := 29) rfl))) (fun _ h9 => h9) rfl dX3_neighboursOf_9 ?_
      refine lv_icmp_ge (tgt := 44) hx hb dX3_neighboursOf_12 (by decide) (fun cd => ?_) (fun cd => ?_)
      · have h := ifT cd h
        refine lv_iload_n hx hb dX3_neighboursOf_44 rfl (lv_at hl 2 rfl) ?_
        exact W.iret (v := x2_1) hx hb hr (fun t ht _ => ⟨_, rfl, Option.some.inj h, ht⟩) (fun _ q => by cases q) dX3_neighboursOf_45
      · have h := ifF cd h
        refine lv_iload_n hx hb dX3_neighboursOf_15 rfl (lv_at hl 2 rfl) ?_
        refine lv_aload_n hx hb dX3_neighboursOf_16 rfl (lv_at hl 0 rfl) ?_
        refine va_get (D := D) (ci := 3) (C := RX3) (T := TX3) (N := 5) (v := .ref a_la) hx hb hX3 (fun _ q => q) hown hK hP 2 rfl rfl 0 (by decide) (hts (.fieldLink RX3 18 "ElephantLine$Marching" "land" "LElephantLine$Land;") (by decide +kernel)) (fun _ h9 => h9) rfl dX3_neighboursOf_17 ?_
        refine lv_iload_n hx hb dX3_neighboursOf_20 rfl (lv_at hl 1 rfl) ?_
        refine lv_iload_n hx hb dX3_neighboursOf_21 rfl (lv_at hl 3 rfl) ?_
        obtain ⟨r_3, hc_4, h⟩ := bd1_some h
        refine kVi [.int p1, .int x3_2] [.int x2_1] ⟨hx, hb, hml, hown, hts⟩ (c_X2_lossBetween l D cy a_la a_la_passBetween la_lanes la_deep la_lanesTold (la_who) (la_firstStrong) la_beasts (la_kind) (la_firstLane) (la_mood) (la_price) la_cities la_passes la_turned la_passBetween p1 x3_2 r_3 hc_4) gX3_neighboursOf_X2_lossBetween rfl hd_X2_lossBetween ⟨Nat.le_of_ble_eq_true rfl, Nat.le_of_ble_eq_true rfl⟩ rfl rfl hKN (hP.sub [0, 1] rfl) 2 0 rfl rfl rfl hl.1 rfl (Nat.le_of_ble_eq_true rfl) dX3_neighboursOf_22 ⟨Nat.le_of_ble_eq_true rfl, Nat.le_of_ble_eq_true rfl⟩ ?_
        refine lv_iconst (v := (-1)) hx hb dX3_neighboursOf_25 (by decide) ?_
        have jn36 : ∀ (t1_5 : Int32), f_X3_neighboursOf_B36 (f_X3_neighboursOf_L4 la_cities la_passBetween p1 n4) la_cities la_passBetween p1 x3_2 x2_1 t1_5 = some (res) → ∀ ls : Array Slot, lv_has ls 4 [(0, .ref a_ma), (1, .int p1), (3, .int x3_2)] → W p l e (headSpec wo_X3_neighboursOf ({ frames := 2, cells := 0, slots := 0, locals := 43 })).room s m (([.ref a_ma, .int p1] : List Value).toArray) below meth c s.heap [] 0 0 (MQ below (vp_Si (fun r => r = res)) (([.ref a_ma, .int p1] : List Value).toArray) s 0 0 (fun _ => False)) (F0 m 36 ls [.int t1_5, .int x2_1]) := by
          intro t1_5 h ls hl
          unfold f_X3_neighboursOf_B36 at h
          refine lv_ior hx hb dX3_neighboursOf_36 ?_
          refine lv_istore_n (lv' := [(2, .int (x2_1 ||| t1_5)), (0, .ref a_ma), (1, .int p1), (3, .int x3_2)]) hx hb dX3_neighboursOf_37 rfl hl (by decide) rfl (fun ls hl => ?_)
          refine lv_iinc (v := x3_2 + 1) (lv' := [(3, .int (x3_2 + 1)), (2, .int (x2_1 ||| t1_5)), (0, .ref a_ma), (1, .int p1)]) hx hb dX3_neighboursOf_38 hl (k := 3) rfl (by first | rfl | decide) (by decide) rfl (fun ls hl => ?_)
          refine lv_goto (tgt := 4) hx hb dX3_neighboursOf_41 (by decide) ?_
          exact ih4 (x2_1 ||| t1_5) (x3_2 + 1) h _ (lv_sub hl [2, 3, 1, 0] rfl)
        refine lv_icmp_eq (tgt := 35) hx hb dX3_neighboursOf_26 (by decide) (fun cd => ?_) (fun cd => ?_)
        · have h := ifT cd h
          refine lv_iconst (v := 0) hx hb dX3_neighboursOf_35 (by decide) ?_
          exact jn36 (0 : Int32) h _ (lv_sub hl [0, 1, 3] rfl)
        · have h := ifF cd h
          refine lv_iconst (v := 1) hx hb dX3_neighboursOf_29 (by decide) ?_
          refine lv_iload_n hx hb dX3_neighboursOf_30 rfl (lv_at hl 3 rfl) ?_
          refine lv_ishl hx hb dX3_neighboursOf_31 ?_
          refine lv_goto (tgt := 36) hx hb dX3_neighboursOf_32 (by decide) ?_
          exact jn36 ((1 : Int32) <<< (x3_2 &&& 31)) h _ (lv_sub hl [0, 1, 3] rfl)
  exact lp4 fuelN (0 : Int32) (0 : Int32) h _ (lv_sub hl [2, 3, 1, 0] rfl)
noncomputable def f_X3_citiesFrom_B61 (k6 : Int32 → Int32 → Option (Int32)) (la_cities : Int32) (la_passBetween : Nat → Int32) (x2 : Int32) (x3 : Int32) : Option (Int32) :=
  k6 x2 (x3 + 1)
noncomputable def f_X3_citiesFrom_B53 (k6 : Int32 → Int32 → Option (Int32)) (k20 : Int32 → Int32 → Option (Int32)) (la_cities : Int32) (la_passBetween : Nat → Int32) (x3 : Int32) (x4 : Int32) (t0 : Int32) (t1 : Int32) : Option (Int32) :=
  k20 (t0 ||| t1) (x4 + 1)
noncomputable def f_X3_citiesFrom_b20 (k6 : Int32 → Int32 → Option (Int32)) (la_cities : Int32) (la_passBetween : Nat → Int32) (x3 : Int32) (k20 : Int32 → Int32 → Option (Int32)) (x2 : Int32) (x4 : Int32) : Option (Int32) :=
  (if la_cities ≤ x4 then
  f_X3_citiesFrom_B61 k6 la_cities la_passBetween x2 x3
  else
  (if ((x2 >>> (x4 &&& 31)) &&& 1) = 1 then
  bd1 (f_X3_neighboursOf la_cities la_passBetween x4) fun r_1 =>
  f_X3_citiesFrom_B53 k6 k20 la_cities la_passBetween x3 x4 x2 r_1
  else
  f_X3_citiesFrom_B53 k6 k20 la_cities la_passBetween x3 x4 x2 0))
noncomputable def f_X3_citiesFrom_L20 (k6 : Int32 → Int32 → Option (Int32)) (la_cities : Int32) (la_passBetween : Nat → Int32) (x3 : Int32) : Nat → Int32 → Int32 → Option (Int32)
  | 0 => fun _ _ => none
  | n + 1 => f_X3_citiesFrom_b20 k6 la_cities la_passBetween x3 (f_X3_citiesFrom_L20 k6 la_cities la_passBetween x3 n)
noncomputable def f_X3_citiesFrom_b6 (la_cities : Int32) (la_passBetween : Nat → Int32) (k6 : Int32 → Int32 → Option (Int32)) (x2 : Int32) (x3 : Int32) : Option (Int32) :=
  (if la_cities ≤ x3 then
  some (x2)
  else
  f_X3_citiesFrom_L20 k6 la_cities la_passBetween x3 fuelN x2 0)
noncomputable def f_X3_citiesFrom_L6 (la_cities : Int32) (la_passBetween : Nat → Int32) : Nat → Int32 → Int32 → Option (Int32)
  | 0 => fun _ _ => none
  | n + 1 => f_X3_citiesFrom_b6 la_cities la_passBetween (f_X3_citiesFrom_L6 la_cities la_passBetween n)
noncomputable def f_X3_citiesFrom (la_cities : Int32) (la_passBetween : Nat → Int32) (p1 : Int32) : Option (Int32) :=
  f_X3_citiesFrom_L6 la_cities la_passBetween fuelN ((1 : Int32) <<< (p1 &&& 31)) 0
theorem hd_X3_citiesFrom : yX3_citiesFrom.cls = RX3 ∧ yX3_citiesFrom.cls ≠ "java/lang/invoke/MethodHandle" ∧ yX3_citiesFrom.cls ≠ "java/lang/invoke/VarHandle" ∧ (parseMethodDescriptor yX3_citiesFrom.desc).map (fun d => d.parameters.length) = some 1 := by decide +kernel
set_option maxHeartbeats 4000000 in
set_option maxRecDepth 100000 in
theorem c_X3_citiesFrom (l : Launch) (D : va_G) (cy : Nat → ClassId) (a_la a_la_passBetween a_ma : Nat) (la_lanes : Int32) (la_deep : Int32) (la_lanesTold : Int32) (la_who : Value) (la_firstStrong : Value) (la_beasts : Int32) (la_kind : Value) (la_firstLane : Value) (la_mood : Value) (la_price : Value) (la_cities : Int32) (la_passes : Int32) (la_turned : Int32) (la_passBetween : Nat → Int32) (ma_walked : Value) (ma_way : Value) (ma_cities : Int32) (ma_come : Int32) (p1 : Int32) (res : Int32) (h : f_X3_citiesFrom la_cities la_passBetween p1 = some (res)) : Met l yX3_citiesFrom wo_X3_citiesFrom ({ frames := 3, cells := 0, slots := 0, locals := 66 }) (roPc D cy [.ref a_ma, .int p1] [(a_la, .inr (2, [.int la_lanes, .int la_deep, .int la_lanesTold, la_who, la_firstStrong, .int la_beasts, la_kind, la_firstLane, la_mood, la_price, .int la_cities, .int la_passes, .ref a_la_passBetween, .int la_turned])), (a_la_passBetween, .inl (cy 1, 36, .inl la_passBetween)), (a_ma, .inr (3, [.ref a_la, ma_walked, ma_way, .int ma_cities, .int ma_come]))]) (vp_Si (fun r => r = res)) 0 0 (fun _ => False) := by
  refine Met.ofW (cc := cX3_citiesFrom) (maxL := 5) (ret := (some .int)) (by decide) rfl ?_
  intro p e s m args below meth c s₁ B hml hv
  obtain ⟨rfl, hP, hKN⟩ := hv
  have hK := hKN.1
  have hx := B.exec
  have hb := B.bytes
  have hr := B.returns
  have hts := wt_X3_citiesFrom hKN.2.2 (([.ref a_ma, .int p1] : List Value).toArray)
  have hown : s.vm.findClass RX3 = some m.cls := findClass_of_methodNamed B.named
  have hlocks := B.notSynchronized
  have hX2 := wc_X2 hKN.2.2 (([.ref a_ma, .int p1] : List Value).toArray)
  have hX3 := wc_X3 hKN.2.2 (([.ref a_ma, .int p1] : List Value).toArray)
  have hl := lv_entry ([.ref a_ma, .int p1]) (n := 5) (Nat.le_of_ble_eq_true rfl)
  rw [lg_entry_eq]
  generalize (lg_sl ([.ref a_ma, .int p1]) ++ List.replicate (5 - (lg_sl ([.ref a_ma, .int p1])).length) Slot.unset).toArray = ls at hl ⊢
  have hl : lv_has ls 5 [(0, .ref a_ma), (1, .int p1)] := hl
  unfold f_X3_citiesFrom at h
  refine lv_iconst (v := 1) hx hb dX3_citiesFrom_0 (by decide) ?_
  refine lv_iload_n hx hb dX3_citiesFrom_1 rfl (lv_at hl 1 rfl) ?_
  refine lv_ishl hx hb dX3_citiesFrom_2 ?_
  refine lv_istore_n (lv' := [(2, .int ((1 : Int32) <<< (p1 &&& 31))), (0, .ref a_ma), (1, .int p1)]) hx hb dX3_citiesFrom_3 rfl hl (by decide) rfl (fun ls hl => ?_)
  refine lv_iconst (v := 0) hx hb dX3_citiesFrom_4 (by decide) ?_
  refine lv_istore_n (lv' := [(3, .int 0), (2, .int ((1 : Int32) <<< (p1 &&& 31))), (0, .ref a_ma), (1, .int p1)]) hx hb dX3_citiesFrom_5 rfl hl (by decide) rfl (fun ls hl => ?_)
  have lp6 : ∀ (n6 : Nat) (x2_1 : Int32) (x3_2 : Int32), f_X3_citiesFrom_L6 la_cities la_passBetween n6 x2_1 x3_2 = some (res) → ∀ ls : Array Slot, lv_has ls 5 [(0, .ref a_ma), (2, .int x2_1), (3, .int x3_2)] → W p l e (headSpec wo_X3_citiesFrom ({ frames := 3, cells := 0, slots := 0, locals := 66 })).room s m (([.ref a_ma, .int p1] : List Value).toArray) below meth c s.heap [] 0 0 (MQ below (vp_Si (fun r => r = res)) (([.ref a_ma, .int p1] : List Value).toArray) s 0 0 (fun _ => False)) (F0 m 6 ls []) := by
    intro n6
    induction n6 with
    | zero => intro x2_1 x3_2 h; exact absurd (show (none : Option (Int32)) = some _ from h) (by intro q; cases q)
    | succ n6 ih6 =>
      intro x2_1 x3_2 h ls hl
      have h : f_X3_citiesFrom_b6 la_cities la_passBetween (f_X3_citiesFrom_L6 la_cities la_passBetween n6) x2_1 x3_2 = some (res) := h
      unfold f_X3_citiesFrom_b6 at h
      refine lv_iload_n hx hb dX3_citiesFrom_6 rfl (lv_at hl 2 rfl) ?_
      refine lv_aload_n hx hb dX3_citiesFrom_7 rfl (lv_at hl 0 rfl) ?_
      refine va_get (D := D) (ci := 3) (C := RX3) (T := TX3) (N := 5) (v := .ref a_la) hx hb hX3 (fun _ q => q) hown hK hP 2 rfl rfl 0 (by decide) (hts (.fieldLink RX3 18 "ElephantLine$Marching" "land" "LElephantLine$Land;") (by decide +kernel)) (fun _ h9 => h9) rfl dX3_citiesFrom_8 ?_
      refine va_getN (D := D) (ci := 2) (C := RX2) (T := TX2) (N := 14) (v := .int la_cities) hx hb hX2 (fun _ q => q) hown hK hP 0 rfl rfl 10 (by decide) (va_Nw.use rfl (hKN.2.1.1 ("ElephantLine$Marching", 37, "ElephantLine$Land", "cities", "I", "ElephantLine") (List.mem_of_getElem? (i := 29) rfl))) (fun _ h9 => h9) rfl dX3_citiesFrom_11 ?_
      refine lv_icmp_ge (tgt := 67) hx hb dX3_citiesFrom_14 (by decide) (fun cd => ?_) (fun cd => ?_)
      · have h := ifT cd h
        refine lv_iload_n hx hb dX3_citiesFrom_67 rfl (lv_at hl 1 rfl) ?_
        exact W.iret (v := x2_1) hx hb hr (fun t ht _ => ⟨_, rfl, Option.some.inj h, ht⟩) (fun _ q => by cases q) dX3_citiesFrom_68
      · have h := ifF cd h
        refine lv_iconst (v := 0) hx hb dX3_citiesFrom_17 (by decide) ?_
        refine lv_istore (lv' := [(4, .int 0), (0, .ref a_ma), (2, .int x2_1), (3, .int x3_2)]) hx hb dX3_citiesFrom_18 hl (by decide) rfl (fun ls hl => ?_)
        have jn61 : ∀ (x2_3 : Int32), f_X3_citiesFrom_B61 (f_X3_citiesFrom_L6 la_cities la_passBetween n6) la_cities la_passBetween x2_3 x3_2 = some (res) → ∀ ls : Array Slot, lv_has ls 5 [(0, .ref a_ma), (2, .int x2_3), (3, .int x3_2)] → W p l e (headSpec wo_X3_citiesFrom ({ frames := 3, cells := 0, slots := 0, locals := 66 })).room s m (([.ref a_ma, .int p1] : List Value).toArray) below meth c s.heap [] 0 0 (MQ below (vp_Si (fun r => r = res)) (([.ref a_ma, .int p1] : List Value).toArray) s 0 0 (fun _ => False)) (F0 m 61 ls []) := by
          intro x2_3 h ls hl
          unfold f_X3_citiesFrom_B61 at h
          refine lv_iinc (v := x3_2 + 1) (lv' := [(3, .int (x3_2 + 1)), (0, .ref a_ma), (2, .int x2_3)]) hx hb dX3_citiesFrom_61 hl (k := 2) rfl (by first | rfl | decide) (by decide) rfl (fun ls hl => ?_)
          refine lv_goto (tgt := 6) hx hb dX3_citiesFrom_64 (by decide) ?_
          exact ih6 x2_3 (x3_2 + 1) h _ (lv_sub hl [1, 2, 0] rfl)
        have lp20 : ∀ (n20 : Nat) (x2_4 : Int32) (x4_5 : Int32), f_X3_citiesFrom_L20 (f_X3_citiesFrom_L6 la_cities la_passBetween n6) la_cities la_passBetween x3_2 n20 x2_4 x4_5 = some (res) → ∀ ls : Array Slot, lv_has ls 5 [(0, .ref a_ma), (2, .int x2_4), (3, .int x3_2), (4, .int x4_5)] → W p l e (headSpec wo_X3_citiesFrom ({ frames := 3, cells := 0, slots := 0, locals := 66 })).room s m (([.ref a_ma, .int p1] : List Value).toArray) below meth c s.heap [] 0 0 (MQ below (vp_Si (fun r => r = res)) (([.ref a_ma, .int p1] : List Value).toArray) s 0 0 (fun _ => False)) (F0 m 20 ls []) := by
          intro n20
          induction n20 with
          | zero => intro x2_4 x4_5 h; exact absurd (show (none : Option (Int32)) = some _ from h) (by intro q; cases q)
          | succ n20 ih20 =>
            intro x2_4 x4_5 h ls hl
            have h : f_X3_citiesFrom_b20 (f_X3_citiesFrom_L6 la_cities la_passBetween n6) la_cities la_passBetween x3_2 (f_X3_citiesFrom_L20 (f_X3_citiesFrom_L6 la_cities la_passBetween n6) la_cities la_passBetween x3_2 n20) x2_4 x4_5 = some (res) := h
            unfold f_X3_citiesFrom_b20 at h
            refine lv_iload hx hb dX3_citiesFrom_20 (lv_at hl 3 rfl) ?_
            refine lv_aload_n hx hb dX3_citiesFrom_22 rfl (lv_at hl 0 rfl) ?_
            refine va_get (D := D) (ci := 3) (C := RX3) (T := TX3) (N := 5) (v := .ref a_la) hx hb hX3 (fun _ q => q) hown hK hP 2 rfl rfl 0 (by decide) (hts (.fieldLink RX3 18 "ElephantLine$Marching" "land" "LElephantLine$Land;") (by decide +kernel)) (fun _ h9 => h9) rfl dX3_citiesFrom_23 ?_
            refine va_getN (D := D) (ci := 2) (C := RX2) (T := TX2) (N := 14) (v := .int la_cities) hx hb hX2 (fun _ q => q) hown hK hP 0 rfl rfl 10 (by decide) (va_Nw.use rfl (hKN.2.1.1 ("ElephantLine$Marching", 37, "ElephantLine$Land", "cities", "I", "ElephantLine") (List.mem_of_getElem? (i := 29) rfl))) (fun _ h9 => h9) rfl dX3_citiesFrom_26 ?_
            refine lv_icmp_ge (tgt := 61) hx hb dX3_citiesFrom_29 (by decide) (fun cd => ?_) (fun cd => ?_)
            · have h := ifT cd h
              exact jn61 x2_4 h _ (lv_sub hl [0, 1, 2] rfl)
            · have h := ifF cd h
              refine lv_iload_n hx hb dX3_citiesFrom_32 rfl (lv_at hl 1 rfl) ?_
              refine lv_iload_n hx hb dX3_citiesFrom_33 rfl (lv_at hl 1 rfl) ?_
              refine lv_iload hx hb dX3_citiesFrom_34 (lv_at hl 3 rfl) ?_
              refine lv_ishr hx hb dX3_citiesFrom_36 ?_
              refine lv_iconst (v := 1) hx hb dX3_citiesFrom_37 (by decide) ?_
              refine lv_iand hx hb dX3_citiesFrom_38 ?_
              refine lv_iconst (v := 1) hx hb dX3_citiesFrom_39 (by decide) ?_
              have jn53 : ∀ (t1_6 : Int32), f_X3_citiesFrom_B53 (f_X3_citiesFrom_L6 la_cities la_passBetween n6) (f_X3_citiesFrom_L20 (f_X3_citiesFrom_L6 la_cities la_passBetween n6) la_cities la_passBetween x3_2 n20) la_cities la_passBetween x3_2 x4_5 x2_4 t1_6 = some (res) → ∀ ls : Array Slot, lv_has ls 5 [(0, .ref a_ma), (3, .int x3_2), (4, .int x4_5)] → W p l e (headSpec wo_X3_citiesFrom ({ frames := 3, cells := 0, slots := 0, locals := 66 })).room s m (([.ref a_ma, .int p1] : List Value).toArray) below meth c s.heap [] 0 0 (MQ below (vp_Si (fun r => r = res)) (([.ref a_ma, .int p1] : List Value).toArray) s 0 0 (fun _ => False)) (F0 m 53 ls [.int t1_6, .int x2_4]) := by
                intro t1_6 h ls hl
                unfold f_X3_citiesFrom_B53 at h
                refine lv_ior hx hb dX3_citiesFrom_53 ?_
                refine lv_istore_n (lv' := [(2, .int (x2_4 ||| t1_6)), (0, .ref a_ma), (3, .int x3_2), (4, .int x4_5)]) hx hb dX3_citiesFrom_54 rfl hl (by decide) rfl (fun ls hl => ?_)
                refine lv_iinc (v := x4_5 + 1) (lv' := [(4, .int (x4_5 + 1)), (2, .int (x2_4 ||| t1_6)), (0, .ref a_ma), (3, .int x3_2)]) hx hb dX3_citiesFrom_55 hl (k := 3) rfl (by first | rfl | decide) (by decide) rfl (fun ls hl => ?_)
                refine lv_goto (tgt := 20) hx hb dX3_citiesFrom_58 (by decide) ?_
                exact ih20 (x2_4 ||| t1_6) (x4_5 + 1) h _ (lv_sub hl [2, 1, 3, 0] rfl)
              refine lv_icmp_ne (tgt := 52) hx hb dX3_citiesFrom_40 (by decide) (fun cd => ?_) (fun cd => ?_)
              · have h := ifF cd h
                refine lv_iconst (v := 0) hx hb dX3_citiesFrom_52 (by decide) ?_
                exact jn53 (0 : Int32) h _ (lv_sub hl [0, 2, 3] rfl)
              · have h := ifT cd h
                refine lv_aload_n hx hb dX3_citiesFrom_43 rfl (lv_at hl 0 rfl) ?_
                refine lv_iload hx hb dX3_citiesFrom_44 (lv_at hl 3 rfl) ?_
                obtain ⟨r_7, hc_8, h⟩ := bd1_some h
                refine kVi [.int x4_5] [.int x2_4] ⟨hx, hb, hml, hown, hts⟩ (c_X3_neighboursOf l D cy a_la a_la_passBetween a_ma la_lanes la_deep la_lanesTold (la_who) (la_firstStrong) la_beasts (la_kind) (la_firstLane) (la_mood) (la_price) la_cities la_passes la_turned la_passBetween (ma_walked) (ma_way) ma_cities ma_come x4_5 r_7 hc_8) gX3_citiesFrom_X3_neighboursOf rfl hd_X3_neighboursOf ⟨Nat.le_of_ble_eq_true rfl, Nat.le_of_ble_eq_true rfl⟩ rfl rfl hKN (hP.sub [0, 1, 2] rfl) 3 2 rfl rfl rfl hl.1 rfl (Nat.le_of_ble_eq_true rfl) dX3_citiesFrom_46 ⟨Nat.le_of_ble_eq_true rfl, Nat.le_of_ble_eq_true rfl⟩ ?_
                refine lv_goto (tgt := 53) hx hb dX3_citiesFrom_49 (by decide) ?_
                exact jn53 r_7 h _ (lv_sub hl [0, 2, 3] rfl)
        exact lp20 fuelN x2_1 (0 : Int32) h _ (lv_sub hl [1, 2, 3, 0] rfl)
  exact lp6 fuelN ((1 : Int32) <<< (p1 &&& 31)) (0 : Int32) h _ (lv_sub hl [2, 1, 0] rfl)
