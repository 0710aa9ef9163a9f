theorem hd_X2_clear : yX2_clear.cls = RX2 ∧ yX2_clear.cls ≠ "java/lang/invoke/MethodHandle" ∧ yX2_clear.cls ≠ "java/lang/invoke/VarHandle" ∧ (parseMethodDescriptor yX2_clear.desc).map (fun d => d.parameters.length) = some 0 := by decide +kernel
set_option maxHeartbeats 4000000 in
set_option maxRecDepth 100000 in
theorem c_X2_clear (l : Launch) (D : va_G) (cy : Nat → ClassId) (A : Nat → Prop) (X : va_W) (a_la a_la_who a_la_firstStrong a_la_passBetween : Nat) (la_lanes : Int32) (la_deep : Int32) (la_lanesTold : Int32) (la_beasts : Int32) (la_kind : Value) (la_firstLane : Value) (la_mood : Value) (la_price : Value) (la_cities : Int32) (la_passes : Int32) (la_turned : Int32) (la_who : Nat → Int32) (la_firstStrong : Nat → Int32) (la_passBetween : Nat → Int32) (la_lanes' : Int32) (la_deep' : Int32) (la_lanesTold' : Int32) (la_beasts' : Int32) (la_cities' : Int32) (la_passes' : Int32) (la_turned' : Int32) (la_who' : Nat → Int32) (la_firstStrong' : Nat → Int32) (la_passBetween' : Nat → Int32) (h : f_X2_clear la_lanes la_deep la_lanesTold la_beasts la_cities la_passes la_turned la_who la_firstStrong la_passBetween = some (la_lanes', la_deep', la_lanesTold', la_beasts', la_cities', la_passes', la_turned', la_who', la_firstStrong', la_passBetween')) : Met l yX2_clear wo_X2_clear ({ frames := 0, cells := 0, slots := 0, locals := 0 }) (wrPc D cy A [.ref a_la] ([(a_la, .inr (2, [.int la_lanes, .int la_deep, .int la_lanesTold, .ref a_la_who, .ref a_la_firstStrong, .int la_beasts, la_kind, la_firstLane, la_mood, la_price, .int la_cities, .int la_passes, .ref a_la_passBetween, .int la_turned])), (a_la_who, .inl (cy 1, 6, .inl la_who)), (a_la_firstStrong, .inl (cy 1, 6, .inl la_firstStrong)), (a_la_passBetween, .inl (cy 1, 36, .inl la_passBetween))] ++ X)) (va_Qv (fun (_ : Unit) => True) (wB D A ([(a_la, .inr (2, [.int la_lanes', .int la_deep', .int la_lanesTold', .ref a_la_who, .ref a_la_firstStrong, .int la_beasts', la_kind, la_firstLane, la_mood, la_price, .int la_cities', .int la_passes', .ref a_la_passBetween, .int la_turned'])), (a_la_who, .inl (cy 1, 6, .inl la_who')), (a_la_firstStrong, .inl (cy 1, 6, .inl la_firstStrong')), (a_la_passBetween, .inl (cy 1, 36, .inl la_passBetween'))] ++ X)) A) 0 0 A := by
  refine Met.ofW (cc := cX2_clear) (maxL := 2) (ret := none) (by decide) rfl ?_
  intro p e s m args below meth c s₁ B hml hv
  obtain ⟨rfl, hP, hKN, hD, hA⟩ := hv
  have hK := hKN.1
  have hx := B.exec
  have hb := B.bytes
  have hr := B.returns
  have hts := wt_X2_clear hKN.2.2 (([.ref a_la] : List Value).toArray)
  have hown : s.vm.findClass RX2 = some m.cls := findClass_of_methodNamed B.named
  have hlocks := B.notSynchronized
  have hS : va_S A s.heap s.heap [] := va_S.rf
  have hX2 := wc_X2 hKN.2.2 (([.ref a_la] : List Value).toArray)
  have hl := lv_entry ([.ref a_la]) (n := 2) (Nat.le_of_ble_eq_true rfl)
  rw [lg_entry_eq]
  generalize (lg_sl ([.ref a_la]) ++ List.replicate (2 - (lg_sl ([.ref a_la])).length) Slot.unset).toArray = ls at hl ⊢
  have hl : lv_has ls 2 [(0, .ref a_la)] := hl
  unfold f_X2_clear at h
  refine lv_aload_n hx hb dX2_clear_0 rfl (lv_at hl 0 rfl) ?_
  refine lv_iconst (v := 0) hx hb dX2_clear_1 (by decide) ?_
  refine va_put (D := D) (ci := 2) (C := RX2) (T := TX2) (N := 14) (v := .int 0) (ty := .int) hx hb hX2 (fun _ q => q) tyX2 tyX2_ok nmX2 hown hK hP hD hS 0 rfl rfl 0 (by decide) (hts (.fieldLink RX2 33 "ElephantLine$Land" "lanes" "I") (by decide +kernel)) (fun _ h9 => h9) rfl (tyX2_ok 0 (by decide)) rfl rfl (Nat.le_of_ble_eq_true rfl) dX2_clear_2 (fun H locs hP hD hS => ?_)
  refine lv_aload_n hx hb dX2_clear_5 rfl (lv_at hl 0 rfl) ?_
  refine lv_iconst (v := 0) hx hb dX2_clear_6 (by decide) ?_
  refine va_put (D := D) (ci := 2) (C := RX2) (T := TX2) (N := 14) (v := .int 0) (ty := .int) hx hb hX2 (fun _ q => q) tyX2 tyX2_ok nmX2 hown hK hP hD hS 0 rfl rfl 1 (by decide) (hts (.fieldLink RX2 37 "ElephantLine$Land" "deep" "I") (by decide +kernel)) (fun _ h9 => h9) rfl (tyX2_ok 1 (by decide)) rfl rfl (Nat.le_of_ble_eq_true rfl) dX2_clear_7 (fun H locs hP hD hS => ?_)
  refine lv_aload_n hx hb dX2_clear_10 rfl (lv_at hl 0 rfl) ?_
  refine lv_iconst (v := 0) hx hb dX2_clear_11 (by decide) ?_
  refine va_put (D := D) (ci := 2) (C := RX2) (T := TX2) (N := 14) (v := .int 0) (ty := .int) hx hb hX2 (fun _ q => q) tyX2 tyX2_ok nmX2 hown hK hP hD hS 0 rfl rfl 2 (by decide) (hts (.fieldLink RX2 40 "ElephantLine$Land" "lanesTold" "I") (by decide +kernel)) (fun _ h9 => h9) rfl (tyX2_ok 2 (by decide)) rfl rfl (Nat.le_of_ble_eq_true rfl) dX2_clear_12 (fun H locs hP hD hS => ?_)
  refine lv_aload_n hx hb dX2_clear_15 rfl (lv_at hl 0 rfl) ?_
  refine lv_iconst (v := 0) hx hb dX2_clear_16 (by decide) ?_
  refine va_put (D := D) (ci := 2) (C := RX2) (T := TX2) (N := 14) (v := .int 0) (ty := .int) hx hb hX2 (fun _ q => q) tyX2 tyX2_ok nmX2 hown hK hP hD hS 0 rfl rfl 5 (by decide) (hts (.fieldLink RX2 43 "ElephantLine$Land" "beasts" "I") (by decide +kernel)) (fun _ h9 => h9) rfl (tyX2_ok 5 (by decide)) rfl rfl (Nat.le_of_ble_eq_true rfl) dX2_clear_17 (fun H locs hP hD hS => ?_)
  refine lv_aload_n hx hb dX2_clear_20 rfl (lv_at hl 0 rfl) ?_
  refine lv_iconst (v := 0) hx hb dX2_clear_21 (by decide) ?_
  refine va_put (D := D) (ci := 2) (C := RX2) (T := TX2) (N := 14) (v := .int 0) (ty := .int) hx hb hX2 (fun _ q => q) tyX2 tyX2_ok nmX2 hown hK hP hD hS 0 rfl rfl 10 (by decide) (hts (.fieldLink RX2 46 "ElephantLine$Land" "cities" "I") (by decide +kernel)) (fun _ h9 => h9) rfl (tyX2_ok 10 (by decide)) rfl rfl (Nat.le_of_ble_eq_true rfl) dX2_clear_22 (fun H locs hP hD hS => ?_)
  refine lv_aload_n hx hb dX2_clear_25 rfl (lv_at hl 0 rfl) ?_
  refine lv_iconst (v := 0) hx hb dX2_clear_26 (by decide) ?_
  refine va_put (D := D) (ci := 2) (C := RX2) (T := TX2) (N := 14) (v := .int 0) (ty := .int) hx hb hX2 (fun _ q => q) tyX2 tyX2_ok nmX2 hown hK hP hD hS 0 rfl rfl 11 (by decide) (hts (.fieldLink RX2 49 "ElephantLine$Land" "passes" "I") (by decide +kernel)) (fun _ h9 => h9) rfl (tyX2_ok 11 (by decide)) rfl rfl (Nat.le_of_ble_eq_true rfl) dX2_clear_27 (fun H locs hP hD hS => ?_)
  refine lv_aload_n hx hb dX2_clear_30 rfl (lv_at hl 0 rfl) ?_
  refine lv_iconst (v := 0) hx hb dX2_clear_31 (by decide) ?_
  refine va_put (D := D) (ci := 2) (C := RX2) (T := TX2) (N := 14) (v := .int 0) (ty := .int) hx hb hX2 (fun _ q => q) tyX2 tyX2_ok nmX2 hown hK hP hD hS 0 rfl rfl 13 (by decide) (hts (.fieldLink RX2 52 "ElephantLine$Land" "turned" "I") (by decide +kernel)) (fun _ h9 => h9) rfl (tyX2_ok 13 (by decide)) rfl rfl (Nat.le_of_ble_eq_true rfl) dX2_clear_32 (fun H locs hP hD hS => ?_)
  refine lv_iconst (v := 0) hx hb dX2_clear_35 (by decide) ?_
  refine lv_istore_n (lv' := [(1, .int 0), (0, .ref a_la)]) hx hb dX2_clear_36 rfl hl (by decide) rfl (fun ls hl => ?_)
  have jn63 : ∀ (la_who_1 : Nat → Int32) (la_firstStrong_2 : Nat → Int32), f_X2_clear_B63 0 0 0 0 0 0 0 la_who_1 la_firstStrong_2 la_passBetween = some (la_lanes', la_deep', la_lanesTold', la_beasts', la_cities', la_passes', la_turned', la_who', la_firstStrong', la_passBetween') → ∀ (H : Heap) (locs : List Loc), va_P D vwCl ([(a_la, .inr (2, [.int 0, .int 0, .int 0, .ref a_la_who, .ref a_la_firstStrong, .int 0, la_kind, la_firstLane, la_mood, la_price, .int 0, .int 0, .ref a_la_passBetween, .int 0])), (a_la_who, .inl (cy 1, 6, .inl la_who_1)), (a_la_firstStrong, .inl (cy 1, 6, .inl la_firstStrong_2)), (a_la_passBetween, .inl (cy 1, 36, .inl la_passBetween))] ++ X) H → va_D A ([(a_la, .inr (2, [.int 0, .int 0, .int 0, .ref a_la_who, .ref a_la_firstStrong, .int 0, la_kind, la_firstLane, la_mood, la_price, .int 0, .int 0, .ref a_la_passBetween, .int 0])), (a_la_who, .inl (cy 1, 6, .inl la_who_1)), (a_la_firstStrong, .inl (cy 1, 6, .inl la_firstStrong_2)), (a_la_passBetween, .inl (cy 1, 36, .inl la_passBetween))] ++ X) → va_S A s.heap H locs → ∀ ls : Array Slot, lv_has ls 2 [(0, .ref a_la)] → W p l e (headSpec wo_X2_clear ({ frames := 0, cells := 0, slots := 0, locals := 0 })).room s m (([.ref a_la] : List Value).toArray) below meth c H locs 0 0 (MQ below (va_Qv (fun (_ : Unit) => True) (wB D A ([(a_la, .inr (2, [.int la_lanes', .int la_deep', .int la_lanesTold', .ref a_la_who, .ref a_la_firstStrong, .int la_beasts', la_kind, la_firstLane, la_mood, la_price, .int la_cities', .int la_passes', .ref a_la_passBetween, .int la_turned'])), (a_la_who, .inl (cy 1, 6, .inl la_who')), (a_la_firstStrong, .inl (cy 1, 6, .inl la_firstStrong')), (a_la_passBetween, .inl (cy 1, 36, .inl la_passBetween'))] ++ X)) A) (([.ref a_la] : List Value).toArray) s 0 0 A) (F0 m 63 ls []) := by
    intro la_who_1 la_firstStrong_2 h H locs hP hD hS ls hl
    unfold f_X2_clear_B63 at h
    refine lv_iconst (v := 0) hx hb dX2_clear_63 (by decide) ?_
    refine lv_istore_n (lv' := [(1, .int 0), (0, .ref a_la)]) hx hb dX2_clear_64 rfl hl (by decide) rfl (fun ls hl => ?_)
    have lp65 : ∀ (n65 : Nat) (x1_3 : Int32) (la_passBetween_4 : Nat → Int32), f_X2_clear_L65 0 0 0 0 0 0 0 la_who_1 la_firstStrong_2 n65 x1_3 la_passBetween_4 = some (la_lanes', la_deep', la_lanesTold', la_beasts', la_cities', la_passes', la_turned', la_who', la_firstStrong', la_passBetween') → ∀ (H : Heap) (locs : List Loc), va_P D vwCl ([(a_la, .inr (2, [.int 0, .int 0, .int 0, .ref a_la_who, .ref a_la_firstStrong, .int 0, la_kind, la_firstLane, la_mood, la_price, .int 0, .int 0, .ref a_la_passBetween, .int 0])), (a_la_who, .inl (cy 1, 6, .inl la_who_1)), (a_la_firstStrong, .inl (cy 1, 6, .inl la_firstStrong_2)), (a_la_passBetween, .inl (cy 1, 36, .inl la_passBetween_4))] ++ X) H → va_D A ([(a_la, .inr (2, [.int 0, .int 0, .int 0, .ref a_la_who, .ref a_la_firstStrong, .int 0, la_kind, la_firstLane, la_mood, la_price, .int 0, .int 0, .ref a_la_passBetween, .int 0])), (a_la_who, .inl (cy 1, 6, .inl la_who_1)), (a_la_firstStrong, .inl (cy 1, 6, .inl la_firstStrong_2)), (a_la_passBetween, .inl (cy 1, 36, .inl la_passBetween_4))] ++ X) → va_S A s.heap H locs → ∀ ls : Array Slot, lv_has ls 2 [(0, .ref a_la), (1, .int x1_3)] → W p l e (headSpec wo_X2_clear ({ frames := 0, cells := 0, slots := 0, locals := 0 })).room s m (([.ref a_la] : List Value).toArray) below meth c H locs 0 0 (MQ below (va_Qv (fun (_ : Unit) => True) (wB D A ([(a_la, .inr (2, [.int la_lanes', .int la_deep', .int la_lanesTold', .ref a_la_who, .ref a_la_firstStrong, .int la_beasts', la_kind, la_firstLane, la_mood, la_price, .int la_cities', .int la_passes', .ref a_la_passBetween, .int la_turned'])), (a_la_who, .inl (cy 1, 6, .inl la_who')), (a_la_firstStrong, .inl (cy 1, 6, .inl la_firstStrong')), (a_la_passBetween, .inl (cy 1, 36, .inl la_passBetween'))] ++ X)) A) (([.ref a_la] : List Value).toArray) s 0 0 A) (F0 m 65 ls []) := by
      intro n65
      induction n65 with
      | zero => intro x1_3 la_passBetween_4 h; exact absurd (show (none : Option (Int32 × Int32 × Int32 × Int32 × Int32 × Int32 × Int32 × (Nat → Int32) × (Nat → Int32) × (Nat → Int32))) = some _ from h) (by intro q; cases q)
      | succ n65 ih65 =>
        intro x1_3 la_passBetween_4 h H locs hP hD hS ls hl
        have h : f_X2_clear_b65 0 0 0 0 0 0 0 la_who_1 la_firstStrong_2 (f_X2_clear_L65 0 0 0 0 0 0 0 la_who_1 la_firstStrong_2 n65) x1_3 la_passBetween_4 = some (la_lanes', la_deep', la_lanesTold', la_beasts', la_cities', la_passes', la_turned', la_who', la_firstStrong', la_passBetween') := h
        unfold f_X2_clear_b65 at h
        refine lv_iload_n hx hb dX2_clear_65 rfl (lv_at hl 1 rfl) ?_
        refine lv_aload_n hx hb dX2_clear_66 rfl (lv_at hl 0 rfl) ?_
        refine va_get (D := D) (ci := 2) (C := RX2) (T := TX2) (N := 14) (v := .ref a_la_passBetween) hx hb hX2 (fun _ q => q) hown hK hP 0 rfl rfl 12 (by decide) (hts (.fieldLink RX2 30 "ElephantLine$Land" "passBetween" "[I") (by decide +kernel)) (fun _ h9 => h9) rfl dX2_clear_67 ?_
        refine va_alen (v := 36) hx hb hK hP 3 1 rfl rfl rfl dX2_clear_70 ?_
        refine lv_icmp_ge (tgt := 87) hx hb dX2_clear_71 (by decide) (fun cd => ?_) (fun cd => ?_)
        · have h := ifT cd h
          cases h
          exact W.vret hx hb hr (fun t ht _ => ⟨⟨(), rfl, trivial, by rw [ht]; exact hP, hD⟩, hS.F ht⟩) hS.2.2 dX2_clear_87
        · have h := ifF cd h
          refine lv_aload_n hx hb dX2_clear_74 rfl (lv_at hl 0 rfl) ?_
          refine va_get (D := D) (ci := 2) (C := RX2) (T := TX2) (N := 14) (v := .ref a_la_passBetween) hx hb hX2 (fun _ q => q) hown hK hP 0 rfl rfl 12 (by decide) (hts (.fieldLink RX2 30 "ElephantLine$Land" "passBetween" "[I") (by decide +kernel)) (fun _ h9 => h9) rfl dX2_clear_75 ?_
          refine lv_iload_n hx hb dX2_clear_78 rfl (lv_at hl 1 rfl) ?_
          refine lv_iconst (v := 0) hx hb dX2_clear_79 (by decide) ?_
          obtain ⟨i_5, h⟩ := gIn_some h
          refine va_iast hx hb hK hP hD hS 3 1 rfl rfl i_5 dX2_clear_80 (fun H locs hP hD hS => ?_)
          refine lv_iinc (v := x1_3 + 1) (lv' := [(1, .int (x1_3 + 1)), (0, .ref a_la)]) hx hb dX2_clear_81 hl (k := 1) rfl (by first | rfl | decide) (by decide) rfl (fun ls hl => ?_)
          refine lv_goto (tgt := 65) hx hb dX2_clear_84 (by decide) ?_
          exact ih65 (x1_3 + 1) (upd la_passBetween_4 x1_3.toNatClampNeg 0) h _ _ hP hD hS _ (lv_sub hl [1, 0] rfl)
    exact lp65 fuelN (0 : Int32) la_passBetween h _ _ hP hD hS _ (lv_sub hl [1, 0] rfl)
  have lp37 : ∀ (n37 : Nat) (x1_6 : Int32) (la_who_7 : Nat → Int32) (la_firstStrong_8 : Nat → Int32), f_X2_clear_L37 0 0 0 0 0 0 0 la_passBetween n37 x1_6 la_who_7 la_firstStrong_8 = some (la_lanes', la_deep', la_lanesTold', la_beasts', la_cities', la_passes', la_turned', la_who', la_firstStrong', la_passBetween') → ∀ (H : Heap) (locs : List Loc), va_P D vwCl ([(a_la, .inr (2, [.int 0, .int 0, .int 0, .ref a_la_who, .ref a_la_firstStrong, .int 0, la_kind, la_firstLane, la_mood, la_price, .int 0, .int 0, .ref a_la_passBetween, .int 0])), (a_la_who, .inl (cy 1, 6, .inl la_who_7)), (a_la_firstStrong, .inl (cy 1, 6, .inl la_firstStrong_8)), (a_la_passBetween, .inl (cy 1, 36, .inl la_passBetween))] ++ X) H → va_D A ([(a_la, .inr (2, [.int 0, .int 0, .int 0, .ref a_la_who, .ref a_la_firstStrong, .int 0, la_kind, la_firstLane, la_mood, la_price, .int 0, .int 0, .ref a_la_passBetween, .int 0])), (a_la_who, .inl (cy 1, 6, .inl la_who_7)), (a_la_firstStrong, .inl (cy 1, 6, .inl la_firstStrong_8)), (a_la_passBetween, .inl (cy 1, 36, .inl la_passBetween))] ++ X) → va_S A s.heap H locs → ∀ ls : Array Slot, lv_has ls 2 [(0, .ref a_la), (1, .int x1_6)] → W p l e (headSpec wo_X2_clear ({ frames := 0, cells := 0, slots := 0, locals := 0 })).room s m (([.ref a_la] : List Value).toArray) below meth c H locs 0 0 (MQ below (va_Qv (fun (_ : Unit) => True) (wB D A ([(a_la, .inr (2, [.int la_lanes', .int la_deep', .int la_lanesTold', .ref a_la_who, .ref a_la_firstStrong, .int la_beasts', la_kind, la_firstLane, la_mood, la_price, .int la_cities', .int la_passes', .ref a_la_passBetween, .int la_turned'])), (a_la_who, .inl (cy 1, 6, .inl la_who')), (a_la_firstStrong, .inl (cy 1, 6, .inl la_firstStrong')), (a_la_passBetween, .inl (cy 1, 36, .inl la_passBetween'))] ++ X)) A) (([.ref a_la] : List Value).toArray) s 0 0 A) (F0 m 37 ls []) := by
    intro n37
    induction n37 with
    | zero => intro x1_6 la_who_7 la_firstStrong_8 h; exact absurd (show (none : Option (Int32 × Int32 × Int32 × Int32 × Int32 × Int32 × Int32 × (Nat → Int32) × (Nat → Int32) × (Nat → Int32))) = some _ from h) (by intro q; cases q)
    | succ n37 ih37 =>
      intro x1_6 la_who_7 la_firstStrong_8 h H locs hP hD hS ls hl
      have h : f_X2_clear_b37 0 0 0 0 0 0 0 la_passBetween (f_X2_clear_L37 0 0 0 0 0 0 0 la_passBetween n37) x1_6 la_who_7 la_firstStrong_8 = some (la_lanes', la_deep', la_lanesTold', la_beasts', la_cities', la_passes', la_turned', la_who', la_firstStrong', la_passBetween') := h
      unfold f_X2_clear_b37 at h
      refine lv_iload_n hx hb dX2_clear_37 rfl (lv_at hl 1 rfl) ?_
      refine lv_bipush (v := 6) hx hb dX2_clear_38 (by decide) ?_
      refine lv_icmp_ge (tgt := 63) hx hb dX2_clear_40 (by decide) (fun cd => ?_) (fun cd => ?_)
      · have h := ifT cd h
        exact jn63 la_who_7 la_firstStrong_8 h _ _ hP hD hS _ (lv_sub hl [0] rfl)
      · have h := ifF cd h
        refine lv_aload_n hx hb dX2_clear_43 rfl (lv_at hl 0 rfl) ?_
        refine va_get (D := D) (ci := 2) (C := RX2) (T := TX2) (N := 14) (v := .ref a_la_who) hx hb hX2 (fun _ q => q) hown hK hP 0 rfl rfl 3 (by decide) (hts (.fieldLink RX2 9 "ElephantLine$Land" "who" "[I") (by decide +kernel)) (fun _ h9 => h9) rfl dX2_clear_44 ?_
        refine lv_iload_n hx hb dX2_clear_47 rfl (lv_at hl 1 rfl) ?_
        refine lv_iconst (v := 0) hx hb dX2_clear_48 (by decide) ?_
        obtain ⟨i_9, h⟩ := gIn_some h
        refine va_iast hx hb hK hP hD hS 1 1 rfl rfl i_9 dX2_clear_49 (fun H locs hP hD hS => ?_)
        refine lv_aload_n hx hb dX2_clear_50 rfl (lv_at hl 0 rfl) ?_
        refine va_get (D := D) (ci := 2) (C := RX2) (T := TX2) (N := 14) (v := .ref a_la_firstStrong) hx hb hX2 (fun _ q => q) hown hK hP 0 rfl rfl 4 (by decide) (hts (.fieldLink RX2 15 "ElephantLine$Land" "firstStrong" "[I") (by decide +kernel)) (fun _ h9 => h9) rfl dX2_clear_51 ?_
        refine lv_iload_n hx hb dX2_clear_54 rfl (lv_at hl 1 rfl) ?_
        refine lv_iconst (v := 0) hx hb dX2_clear_55 (by decide) ?_
        obtain ⟨i_10, h⟩ := gIn_some h
        refine va_iast hx hb hK hP hD hS 2 1 rfl rfl i_10 dX2_clear_56 (fun H locs hP hD hS => ?_)
        refine lv_iinc (v := x1_6 + 1) (lv' := [(1, .int (x1_6 + 1)), (0, .ref a_la)]) hx hb dX2_clear_57 hl (k := 1) rfl (by first | rfl | decide) (by decide) rfl (fun ls hl => ?_)
        refine lv_goto (tgt := 37) hx hb dX2_clear_60 (by decide) ?_
        exact ih37 (x1_6 + 1) (upd la_who_7 x1_6.toNatClampNeg 0) (upd la_firstStrong_8 x1_6.toNatClampNeg 0) h _ _ hP hD hS _ (lv_sub hl [1, 0] rfl)
  exact lp37 fuelN (0 : Int32) la_who la_firstStrong h _ _ hP hD hS _ (lv_sub hl [1, 0] rfl)
theorem hd_X2_copyOf : yX2_copyOf.cls = RX2 ∧ yX2_copyOf.cls ≠ "java/lang/invoke/MethodHandle" ∧ yX2_copyOf.cls ≠ "java/lang/invoke/VarHandle" ∧ (parseMethodDescriptor yX2_copyOf.desc).map (fun d => d.parameters.length) = some 1 := by decide +kernel
set_option maxHeartbeats 4000000 in
set_option maxRecDepth 100000 in
theorem c_X2_copyOf (l : Launch) (D : va_G) (cy : Nat → ClassId) (A : Nat → Prop) (X : va_W) (a_la a_la_who a_la_firstStrong a_la_kind a_la_firstLane a_la_mood a_la_price a_la_passBetween a_lo a_lo_who a_lo_firstStrong a_lo_kind a_lo_firstLane a_lo_mood a_lo_price a_lo_passBetween : Nat) (la_lanes : Int32) (la_deep : Int32) (la_lanesTold : Int32) (la_beasts : Int32) (la_cities : Int32) (la_passes : Int32) (la_turned : Int32) (la_who : Nat → Int32) (la_firstStrong : Nat → Int32) (la_kind : Nat → Int32) (la_firstLane : Nat → Int32) (la_mood : Nat → Int32) (la_price : Nat → Int32) (la_passBetween : Nat → Int32) (lo_lanes : Int32) (lo_deep : Int32) (lo_lanesTold : Int32) (lo_beasts : Int32) (lo_cities : Int32) (lo_passes : Int32) (lo_turned : Int32) (lo_who : Nat → Int32) (lo_firstStrong : Nat → Int32) (lo_kind : Nat → Int32) (lo_firstLane : Nat → Int32) (lo_mood : Nat → Int32) (lo_price : Nat → Int32) (lo_passBetween : Nat → Int32) (la_lanes' : Int32) (la_deep' : Int32) (la_lanesTold' : Int32) (la_beasts' : Int32) (la_cities' : Int32) (la_passes' : Int32) (la_turned' : Int32) (la_who' : Nat → Int32) (la_firstStrong' : Nat → Int32) (la_kind' : Nat → Int32) (la_firstLane' : Nat → Int32) (la_mood' : Nat → Int32) (la_price' : Nat → Int32) (la_passBetween' : Nat → Int32) (h : f_X2_copyOf la_lanes la_deep la_lanesTold la_beasts la_cities la_passes la_turned la_who la_firstStrong la_kind la_firstLane la_mood la_price la_passBetween lo_lanes lo_deep lo_lanesTold lo_beasts lo_cities lo_passes lo_turned lo_who lo_firstStrong lo_kind lo_firstLane lo_mood lo_price lo_passBetween = some (la_lanes', la_deep', la_lanesTold', la_beasts', la_cities', la_passes', la_turned', la_who', la_firstStrong', la_kind', la_firstLane', la_mood', la_price', la_passBetween')) : Met l yX2_copyOf wo_X2_copyOf ({ frames := 1, cells := 0, slots := 0, locals := 18 }) (wrPc D cy A [.ref a_la, .ref a_lo] ([(a_la, .inr (2, [.int la_lanes, .int la_deep, .int la_lanesTold, .ref a_la_who, .ref a_la_firstStrong, .int la_beasts, .ref a_la_kind, .ref a_la_firstLane, .ref a_la_mood, .ref a_la_price, .int la_cities, .int la_passes, .ref a_la_passBetween, .int la_turned])), (a_la_who, .inl (cy 1, 6, .inl la_who)), (a_la_firstStrong, .inl (cy 1, 6, .inl la_firstStrong)), (a_la_kind, .inl (cy 1, 5, .inl la_kind)), (a_la_firstLane, .inl (cy 1, 5, .inl la_firstLane)), (a_la_mood, .inl (cy 1, 5, .inl la_mood)), (a_la_price, .inl (cy 1, 5, .inl la_price)), (a_la_passBetween, .inl (cy 1, 36, .inl la_passBetween)), (a_lo, .inr (2, [.int lo_lanes, .int lo_deep, .int lo_lanesTold, .ref a_lo_who, .ref a_lo_firstStrong, .int lo_beasts, .ref a_lo_kind, .ref a_lo_firstLane, .ref a_lo_mood, .ref a_lo_price, .int lo_cities, .int lo_passes, .ref a_lo_passBetween, .int lo_turned])), (a_lo_who, .inl (cy 1, 6, .inl lo_who)), (a_lo_firstStrong, .inl (cy 1, 6, .inl lo_firstStrong)), (a_lo_kind, .inl (cy 1, 5, .inl lo_kind)), (a_lo_firstLane, .inl (cy 1, 5, .inl lo_firstLane)), (a_lo_mood, .inl (cy 1, 5, .inl lo_mood)), (a_lo_price, .inl (cy 1, 5, .inl lo_price)), (a_lo_passBetween, .inl (cy 1, 36, .inl lo_passBetween))] ++ X)) (va_Qv (fun (_ : Unit) => True) (wB D A ([(a_la, .inr (2, [.int la_lanes', .int la_deep', .int la_lanesTold', .ref a_la_who, .ref a_la_firstStrong, .int la_beasts', .ref a_la_kind, .ref a_la_firstLane, .ref a_la_mood, .ref a_la_price, .int la_cities', .int la_passes', .ref a_la_passBetween, .int la_turned'])), (a_la_who, .inl (cy 1, 6, .inl la_who')), (a_la_firstStrong, .inl (cy 1, 6, .inl la_firstStrong')), (a_la_kind, .inl (cy 1, 5, .inl la_kind')), (a_la_firstLane, .inl (cy 1, 5, .inl la_firstLane')), (a_la_mood, .inl (cy 1, 5, .inl la_mood')), (a_la_price, .inl (cy 1, 5, .inl la_price')), (a_la_passBetween, .inl (cy 1, 36, .inl la_passBetween')), (a_lo, .inr (2, [.int lo_lanes, .int lo_deep, .int lo_lanesTold, .ref a_lo_who, .ref a_lo_firstStrong, .int lo_beasts, .ref a_lo_kind, .ref a_lo_firstLane, .ref a_lo_mood, .ref a_lo_price, .int lo_cities, .int lo_passes, .ref a_lo_passBetween, .int lo_turned])), (a_lo_who, .inl (cy 1, 6, .inl lo_who)), (a_lo_firstStrong, .inl (cy 1, 6, .inl lo_firstStrong)), (a_lo_kind, .inl (cy 1, 5, .inl lo_kind)), (a_lo_firstLane, .inl (cy 1, 5, .inl lo_firstLane)), (a_lo_mood, .inl (cy 1, 5, .inl lo_mood)), (a_lo_price, .inl (cy 1, 5, .inl lo_price)), (a_lo_passBetween, .inl (cy 1, 36, .inl lo_passBetween))] ++ X)) A) 0 0 A := by
  refine Met.ofW (cc := cX2_copyOf) (maxL := 2) (ret := none) (by decide) rfl ?_
  intro p e s m args below meth c s₁ B hml hv
  obtain ⟨rfl, hP, hKN, hD, hA⟩ := hv
  have hK := hKN.1
  have hx := B.exec
  have hb := B.bytes
  have hr := B.returns
  have hts := wt_X2_copyOf hKN.2.2 (([.ref a_la, .ref a_lo] : List Value).toArray)
  have hown : s.vm.findClass RX2 = some m.cls := findClass_of_methodNamed B.named
  have hlocks := B.notSynchronized
  have hS : va_S A s.heap s.heap [] := va_S.rf
  have hX2 := wc_X2 hKN.2.2 (([.ref a_la, .ref a_lo] : List Value).toArray)
  have hl := lv_entry ([.ref a_la, .ref a_lo]) (n := 2) (Nat.le_of_ble_eq_true rfl)
  rw [lg_entry_eq]
  generalize (lg_sl ([.ref a_la, .ref a_lo]) ++ List.replicate (2 - (lg_sl ([.ref a_la, .ref a_lo])).length) Slot.unset).toArray = ls at hl ⊢
  have hl : lv_has ls 2 [(0, .ref a_la), (1, .ref a_lo)] := hl
  unfold f_X2_copyOf at h
  refine lv_aload_n hx hb dX2_copyOf_0 rfl (lv_at hl 0 rfl) ?_
  refine lv_aload_n hx hb dX2_copyOf_1 rfl (lv_at hl 1 rfl) ?_
  refine va_get (D := D) (ci := 2) (C := RX2) (T := TX2) (N := 14) (v := .int lo_lanes) hx hb hX2 (fun _ q => q) hown hK hP 8 rfl rfl 0 (by decide) (hts (.fieldLink RX2 33 "ElephantLine$Land" "lanes" "I") (by decide +kernel)) (fun _ h9 => h9) rfl dX2_copyOf_2 ?_
  refine va_put (D := D) (ci := 2) (C := RX2) (T := TX2) (N := 14) (v := .int lo_lanes) (ty := .int) hx hb hX2 (fun _ q => q) tyX2 tyX2_ok nmX2 hown hK hP hD hS 0 rfl rfl 0 (by decide) (hts (.fieldLink RX2 33 "ElephantLine$Land" "lanes" "I") (by decide +kernel)) (fun _ h9 => h9) rfl (tyX2_ok 0 (by decide)) rfl rfl (Nat.le_of_ble_eq_true rfl) dX2_copyOf_5 (fun H locs hP hD hS => ?_)
  refine lv_aload_n hx hb dX2_copyOf_8 rfl (lv_at hl 0 rfl) ?_
  refine lv_aload_n hx hb dX2_copyOf_9 rfl (lv_at hl 1 rfl) ?_
  refine va_get (D := D) (ci := 2) (C := RX2) (T := TX2) (N := 14) (v := .int lo_deep) hx hb hX2 (fun _ q => q) hown hK hP 8 rfl rfl 1 (by decide) (hts (.fieldLink RX2 37 "ElephantLine$Land" "deep" "I") (by decide +kernel)) (fun _ h9 => h9) rfl dX2_copyOf_10 ?_
  refine va_put (D := D) (ci := 2) (C := RX2) (T := TX2) (N := 14) (v := .int lo_deep) (ty := .int) hx hb hX2 (fun _ q => q) tyX2 tyX2_ok nmX2 hown hK hP hD hS 0 rfl rfl 1 (by decide) (hts (.fieldLink RX2 37 "ElephantLine$Land" "deep" "I") (by decide +kernel)) (fun _ h9 => h9) rfl (tyX2_ok 1 (by decide)) rfl rfl (Nat.le_of_ble_eq_true rfl) dX2_copyOf_13 (fun H locs hP hD hS => ?_)
  refine lv_aload_n hx hb dX2_copyOf_16 rfl (lv_at hl 0 rfl) ?_
  refine lv_aload_n hx hb dX2_copyOf_17 rfl (lv_at hl 1 rfl) ?_
  refine va_get (D := D) (ci := 2) (C := RX2) (T := TX2) (N := 14) (v := .int lo_lanesTold) hx hb hX2 (fun _ q => q) hown hK hP 8 rfl rfl 2 (by decide) (hts (.fieldLink RX2 40 "ElephantLine$Land" "lanesTold" "I") (by decide +kernel)) (fun _ h9 => h9) rfl dX2_copyOf_18 ?_
  refine va_put (D := D) (ci := 2) (C := RX2) (T := TX2) (N := 14) (v := .int lo_lanesTold) (ty := .int) hx hb hX2 (fun _ q => q) tyX2 tyX2_ok nmX2 hown hK hP hD hS 0 rfl rfl 2 (by decide) (hts (.fieldLink RX2 40 "ElephantLine$Land" "lanesTold" "I") (by decide +kernel)) (fun _ h9 => h9) rfl (tyX2_ok 2 (by decide)) rfl rfl (Nat.le_of_ble_eq_true rfl) dX2_copyOf_21 (fun H locs hP hD hS => ?_)
  refine lv_aload_n hx hb dX2_copyOf_24 rfl (lv_at hl 0 rfl) ?_
  refine lv_aload_n hx hb dX2_copyOf_25 rfl (lv_at hl 1 rfl) ?_
  refine va_get (D := D) (ci := 2) (C := RX2) (T := TX2) (N := 14) (v := .int lo_beasts) hx hb hX2 (fun _ q => q) hown hK hP 8 rfl rfl 5 (by decide) (hts (.fieldLink RX2 43 "ElephantLine$Land" "beasts" "I") (by decide +kernel)) (fun _ h9 => h9) rfl dX2_copyOf_26 ?_
  refine va_put (D := D) (ci := 2) (C := RX2) (T := TX2) (N := 14) (v := .int lo_beasts) (ty := .int) hx hb hX2 (fun _ q => q) tyX2 tyX2_ok nmX2 hown hK hP hD hS 0 rfl rfl 5 (by decide) (hts (.fieldLink RX2 43 "ElephantLine$Land" "beasts" "I") (by decide +kernel)) (fun _ h9 => h9) rfl (tyX2_ok 5 (by decide)) rfl rfl (Nat.le_of_ble_eq_true rfl) dX2_copyOf_29 (fun H locs hP hD hS => ?_)
  refine lv_aload_n hx hb dX2_copyOf_32 rfl (lv_at hl 0 rfl) ?_
  refine lv_aload_n hx hb dX2_copyOf_33 rfl (lv_at hl 1 rfl) ?_
  refine va_get (D := D) (ci := 2) (C := RX2) (T := TX2) (N := 14) (v := .int lo_cities) hx hb hX2 (fun _ q => q) hown hK hP 8 rfl rfl 10 (by decide) (hts (.fieldLink RX2 46 "ElephantLine$Land" "cities" "I") (by decide +kernel)) (fun _ h9 => h9) rfl dX2_copyOf_34 ?_
  refine va_put (D := D) (ci := 2) (C := RX2) (T := TX2) (N := 14) (v := .int lo_cities) (ty := .int) hx hb hX2 (fun _ q => q) tyX2 tyX2_ok nmX2 hown hK hP hD hS 0 rfl rfl 10 (by decide) (hts (.fieldLink RX2 46 "ElephantLine$Land" "cities" "I") (by decide +kernel)) (fun _ h9 => h9) rfl (tyX2_ok 10 (by decide)) rfl rfl (Nat.le_of_ble_eq_true rfl) dX2_copyOf_37 (fun H locs hP hD hS => ?_)
  refine lv_aload_n hx hb dX2_copyOf_40 rfl (lv_at hl 0 rfl) ?_
  refine lv_aload_n hx hb dX2_copyOf_41 rfl (lv_at hl 1 rfl) ?_
  refine va_get (D := D) (ci := 2) (C := RX2) (T := TX2) (N := 14) (v := .int lo_passes) hx hb hX2 (fun _ q => q) hown hK hP 8 rfl rfl 11 (by decide) (hts (.fieldLink RX2 49 "ElephantLine$Land" "passes" "I") (by decide +kernel)) (fun _ h9 => h9) rfl dX2_copyOf_42 ?_
  refine va_put (D := D) (ci := 2) (C := RX2) (T := TX2) (N := 14) (v := .int lo_passes) (ty := .int) hx hb hX2 (fun _ q => q) tyX2 tyX2_ok nmX2 hown hK hP hD hS 0 rfl rfl 11 (by decide) (hts (.fieldLink RX2 49 "ElephantLine$Land" "passes" "I") (by decide +kernel)) (fun _ h9 => h9) rfl (tyX2_ok 11 (by decide)) rfl rfl (Nat.le_of_ble_eq_true rfl) dX2_copyOf_45 (fun H locs hP hD hS => ?_)
  refine lv_aload_n hx hb dX2_copyOf_48 rfl (lv_at hl 0 rfl) ?_
  refine lv_aload_n hx hb dX2_copyOf_49 rfl (lv_at hl 1 rfl) ?_
  refine va_get (D := D) (ci := 2) (C := RX2) (T := TX2) (N := 14) (v := .int lo_turned) hx hb hX2 (fun _ q => q) hown hK hP 8 rfl rfl 13 (by decide) (hts (.fieldLink RX2 52 "ElephantLine$Land" "turned" "I") (by decide +kernel)) (fun _ h9 => h9) rfl dX2_copyOf_50 ?_
  refine va_put (D := D) (ci := 2) (C := RX2) (T := TX2) (N := 14) (v := .int lo_turned) (ty := .int) hx hb hX2 (fun _ q => q) tyX2 tyX2_ok nmX2 hown hK hP hD hS 0 rfl rfl 13 (by decide) (hts (.fieldLink RX2 52 "ElephantLine$Land" "turned" "I") (by decide +kernel)) (fun _ h9 => h9) rfl (tyX2_ok 13 (by decide)) rfl rfl (Nat.le_of_ble_eq_true rfl) dX2_copyOf_53 (fun H locs hP hD hS => ?_)
  refine lv_aload_n hx hb dX2_copyOf_56 rfl (lv_at hl 1 rfl) ?_
  refine va_get (D := D) (ci := 2) (C := RX2) (T := TX2) (N := 14) (v := .ref a_lo_who) hx hb hX2 (fun _ q => q) hown hK hP 8 rfl rfl 3 (by decide) (hts (.fieldLink RX2 9 "ElephantLine$Land" "who" "[I") (by decide +kernel)) (fun _ h9 => h9) rfl dX2_copyOf_57 ?_
  refine lv_iconst (v := 0) hx hb dX2_copyOf_60 (by decide) ?_
  refine lv_aload_n hx hb dX2_copyOf_61 rfl (lv_at hl 0 rfl) ?_
  refine va_get (D := D) (ci := 2) (C := RX2) (T := TX2) (N := 14) (v := .ref a_la_who) hx hb hX2 (fun _ q => q) hown hK hP 0 rfl rfl 3 (by decide) (hts (.fieldLink RX2 9 "ElephantLine$Land" "who" "[I") (by decide +kernel)) (fun _ h9 => h9) rfl dX2_copyOf_62 ?_
  refine lv_iconst (v := 0) hx hb dX2_copyOf_65 (by decide) ?_
  refine lv_bipush (v := 6) hx hb dX2_copyOf_66 (by decide) ?_
  refine va_copyi hx hb (hml.trans hl.1.symm) hown (hts (.methodLink RX2 55 arraycopyName) (by decide +kernel)) (hts (.native arraycopyName) (by decide +kernel)) (hts (.static arraycopyName) (by decide +kernel)) (hts (.initialized "java/lang/System") (by decide +kernel)) hK hP hD hS 9 1 1 1 rfl rfl rfl rfl rfl (by decide) (by decide) (by decide) (by decide) (by decide) (fun _ _ => rfl) (Nat.le_of_ble_eq_true rfl) (Nat.le_of_ble_eq_true rfl) dX2_copyOf_68 (fun H locs hP hD hS => ?_)
  refine lv_aload_n hx hb dX2_copyOf_71 rfl (lv_at hl 1 rfl) ?_
  refine va_get (D := D) (ci := 2) (C := RX2) (T := TX2) (N := 14) (v := .ref a_lo_firstStrong) hx hb hX2 (fun _ q => q) hown hK hP 8 rfl rfl 4 (by decide) (hts (.fieldLink RX2 15 "ElephantLine$Land" "firstStrong" "[I") (by decide +kernel)) (fun _ h9 => h9) rfl dX2_copyOf_72 ?_
  refine lv_iconst (v := 0) hx hb dX2_copyOf_75 (by decide) ?_
  refine lv_aload_n hx hb dX2_copyOf_76 rfl (lv_at hl 0 rfl) ?_
  refine va_get (D := D) (ci := 2) (C := RX2) (T := TX2) (N := 14) (v := .ref a_la_firstStrong) hx hb hX2 (fun _ q => q) hown hK hP 0 rfl rfl 4 (by decide) (hts (.fieldLink RX2 15 "ElephantLine$Land" "firstStrong" "[I") (by decide +kernel)) (fun _ h9 => h9) rfl dX2_copyOf_77 ?_
  refine lv_iconst (v := 0) hx hb dX2_copyOf_80 (by decide) ?_
  refine lv_bipush (v := 6) hx hb dX2_copyOf_81 (by decide) ?_
  refine va_copyi hx hb (hml.trans hl.1.symm) hown (hts (.methodLink RX2 55 arraycopyName) (by decide +kernel)) (hts (.native arraycopyName) (by decide +kernel)) (hts (.static arraycopyName) (by decide +kernel)) (hts (.initialized "java/lang/System") (by decide +kernel)) hK hP hD hS 10 2 1 1 rfl rfl rfl rfl rfl (by decide) (by decide) (by decide) (by decide) (by decide) (fun _ _ => rfl) (Nat.le_of_ble_eq_true rfl) (Nat.le_of_ble_eq_true rfl) dX2_copyOf_83 (fun H locs hP hD hS => ?_)
  refine lv_aload_n hx hb dX2_copyOf_86 rfl (lv_at hl 1 rfl) ?_
  refine va_get (D := D) (ci := 2) (C := RX2) (T := TX2) (N := 14) (v := .ref a_lo_kind) hx hb hX2 (fun _ q => q) hown hK hP 8 rfl rfl 6 (by decide) (hts (.fieldLink RX2 18 "ElephantLine$Land" "kind" "[I") (by decide +kernel)) (fun _ h9 => h9) rfl dX2_copyOf_87 ?_
  refine lv_iconst (v := 0) hx hb dX2_copyOf_90 (by decide) ?_
  refine lv_aload_n hx hb dX2_copyOf_91 rfl (lv_at hl 0 rfl) ?_
  refine va_get (D := D) (ci := 2) (C := RX2) (T := TX2) (N := 14) (v := .ref a_la_kind) hx hb hX2 (fun _ q => q) hown hK hP 0 rfl rfl 6 (by decide) (hts (.fieldLink RX2 18 "ElephantLine$Land" "kind" "[I") (by decide +kernel)) (fun _ h9 => h9) rfl dX2_copyOf_92 ?_
  refine lv_iconst (v := 0) hx hb dX2_copyOf_95 (by decide) ?_
  refine lv_iconst (v := 5) hx hb dX2_copyOf_96 (by decide) ?_
  refine va_copyi hx hb (hml.trans hl.1.symm) hown (hts (.methodLink RX2 55 arraycopyName) (by decide +kernel)) (hts (.native arraycopyName) (by decide +kernel)) (hts (.static arraycopyName) (by decide +kernel)) (hts (.initialized "java/lang/System") (by decide +kernel)) hK hP hD hS 11 3 1 1 rfl rfl rfl rfl rfl (by decide) (by decide) (by decide) (by decide) (by decide) (fun _ _ => rfl) (Nat.le_of_ble_eq_true rfl) (Nat.le_of_ble_eq_true rfl) dX2_copyOf_97 (fun H locs hP hD hS => ?_)
  refine lv_aload_n hx hb dX2_copyOf_100 rfl (lv_at hl 1 rfl) ?_
  refine va_get (D := D) (ci := 2) (C := RX2) (T := TX2) (N := 14) (v := .ref a_lo_firstLane) hx hb hX2 (fun _ q => q) hown hK hP 8 rfl rfl 7 (by decide) (hts (.fieldLink RX2 21 "ElephantLine$Land" "firstLane" "[I") (by decide +kernel)) (fun _ h9 => h9) rfl dX2_copyOf_101 ?_
  refine lv_iconst (v := 0) hx hb dX2_copyOf_104 (by decide) ?_
  refine lv_aload_n hx hb dX2_copyOf_105 rfl (lv_at hl 0 rfl) ?_
  refine va_get (D := D) (ci := 2) (C := RX2) (T := TX2) (N := 14) (v := .ref a_la_firstLane) hx hb hX2 (fun _ q => q) hown hK hP 0 rfl rfl 7 (by decide) (hts (.fieldLink RX2 21 "ElephantLine$Land" "firstLane" "[I") (by decide +kernel)) (fun _ h9 => h9) rfl dX2_copyOf_106 ?_
  refine lv_iconst (v := 0) hx hb dX2_copyOf_109 (by decide) ?_
  refine lv_iconst (v := 5) hx hb dX2_copyOf_110 (by decide) ?_
  refine va_copyi hx hb (hml.trans hl.1.symm) hown (hts (.methodLink RX2 55 arraycopyName) (by decide +kernel)) (hts (.native arraycopyName) (by decide +kernel)) (hts (.static arraycopyName) (by decide +kernel)) (hts (.initialized "java/lang/System") (by decide +kernel)) hK hP hD hS 12 4 1 1 rfl rfl rfl rfl rfl (by decide) (by decide) (by decide) (by decide) (by decide) (fun _ _ => rfl) (Nat.le_of_ble_eq_true rfl) (Nat.le_of_ble_eq_true rfl) dX2_copyOf_111 (fun H locs hP hD hS => ?_)
  refine lv_aload_n hx hb dX2_copyOf_114 rfl (lv_at hl 1 rfl) ?_
  refine va_get (D := D) (ci := 2) (C := RX2) (T := TX2) (N := 14) (v := .ref a_lo_mood) hx hb hX2 (fun _ q => q) hown hK hP 8 rfl rfl 8 (by decide) (hts (.fieldLink RX2 24 "ElephantLine$Land" "mood" "[I") (by decide +kernel)) (fun _ h9 => h9) rfl dX2_copyOf_115 ?_
  refine lv_iconst (v := 0) hx hb dX2_copyOf_118 (by decide) ?_
  refine lv_aload_n hx hb dX2_copyOf_119 rfl (lv_at hl 0 rfl) ?_
  refine va_get (D := D) (ci := 2) (C := RX2) (T := TX2) (N := 14) (v := .ref a_la_mood) hx hb hX2 (fun _ q => q) hown hK hP 0 rfl rfl 8 (by decide) (hts (.fieldLink RX2 24 "ElephantLine$Land" "mood" "[I") (by decide +kernel)) (fun _ h9 => h9) rfl dX2_copyOf_120 ?_
  refine lv_iconst (v := 0) hx hb dX2_copyOf_123 (by decide) ?_
  refine lv_iconst (v := 5) hx hb dX2_copyOf_124 (by decide) ?_
  refine va_copyi hx hb (hml.trans hl.1.symm) hown (hts (.methodLink RX2 55 arraycopyName) (by decide +kernel)) (hts (.native arraycopyName) (by decide +kernel)) (hts (.static arraycopyName) (by decide +kernel)) (hts (.initialized "java/lang/System") (by decide +kernel)) hK hP hD hS 13 5 1 1 rfl rfl rfl rfl rfl (by decide) (by decide) (by decide) (by decide) (by decide) (fun _ _ => rfl) (Nat.le_of_ble_eq_true rfl) (Nat.le_of_ble_eq_true rfl) dX2_copyOf_125 (fun H locs hP hD hS => ?_)
  refine lv_aload_n hx hb dX2_copyOf_128 rfl (lv_at hl 1 rfl) ?_
  refine va_get (D := D) (ci := 2) (C := RX2) (T := TX2) (N := 14) (v := .ref a_lo_price) hx hb hX2 (fun _ q => q) hown hK hP 8 rfl rfl 9 (by decide) (hts (.fieldLink RX2 27 "ElephantLine$Land" "price" "[I") (by decide +kernel)) (fun _ h9 => h9) rfl dX2_copyOf_129 ?_
  refine lv_iconst (v := 0) hx hb dX2_copyOf_132 (by decide) ?_
  refine lv_aload_n hx hb dX2_copyOf_133 rfl (lv_at hl 0 rfl) ?_
  refine va_get (D := D) (ci := 2) (C := RX2) (T := TX2) (N := 14) (v := .ref a_la_price) hx hb hX2 (fun _ q => q) hown hK hP 0 rfl rfl 9 (by decide) (hts (.fieldLink RX2 27 "ElephantLine$Land" "price" "[I") (by decide +kernel)) (fun _ h9 => h9) rfl dX2_copyOf_134 ?_
  refine lv_iconst (v := 0) hx hb dX2_copyOf_137 (by decide) ?_
  refine lv_iconst (v := 5) hx hb dX2_copyOf_138 (by decide) ?_
  refine va_copyi hx hb (hml.trans hl.1.symm) hown (hts (.methodLink RX2 55 arraycopyName) (by decide +kernel)) (hts (.native arraycopyName) (by decide +kernel)) (hts (.static arraycopyName) (by decide +kernel)) (hts (.initialized "java/lang/System") (by decide +kernel)) hK hP hD hS 14 6 1 1 rfl rfl rfl rfl rfl (by decide) (by decide) (by decide) (by decide) (by decide) (fun _ _ => rfl) (Nat.le_of_ble_eq_true rfl) (Nat.le_of_ble_eq_true rfl) dX2_copyOf_139 (fun H locs hP hD hS => ?_)
  refine lv_aload_n hx hb dX2_copyOf_142 rfl (lv_at hl 1 rfl) ?_
  refine va_get (D := D) (ci := 2) (C := RX2) (T := TX2) (N := 14) (v := .ref a_lo_passBetween) hx hb hX2 (fun _ q => q) hown hK hP 8 rfl rfl 12 (by decide) (hts (.fieldLink RX2 30 "ElephantLine$Land" "passBetween" "[I") (by decide +kernel)) (fun _ h9 => h9) rfl dX2_copyOf_143 ?_
  refine lv_iconst (v := 0) hx hb dX2_copyOf_146 (by decide) ?_
  refine lv_aload_n hx hb dX2_copyOf_147 rfl (lv_at hl 0 rfl) ?_
  refine va_get (D := D) (ci := 2) (C := RX2) (T := TX2) (N := 14) (v := .ref a_la_passBetween) hx hb hX2 (fun _ q => q) hown hK hP 0 rfl rfl 12 (by decide) (hts (.fieldLink RX2 30 "ElephantLine$Land" "passBetween" "[I") (by decide +kernel)) (fun _ h9 => h9) rfl dX2_copyOf_148 ?_
  refine lv_iconst (v := 0) hx hb dX2_copyOf_151 (by decide) ?_
  refine lv_aload_n hx hb dX2_copyOf_152 rfl (lv_at hl 0 rfl) ?_
  refine va_get (D := D) (ci := 2) (C := RX2) (T := TX2) (N := 14) (v := .ref a_la_passBetween) hx hb hX2 (fun _ q => q) hown hK hP 0 rfl rfl 12 (by decide) (hts (.fieldLink RX2 30 "ElephantLine$Land" "passBetween" "[I") (by decide +kernel)) (fun _ h9 => h9) rfl dX2_copyOf_153 ?_
  refine va_alen (v := 36) hx hb hK hP 7 1 rfl rfl rfl dX2_copyOf_156 ?_
  refine va_copyi hx hb (hml.trans hl.1.symm) hown (hts (.methodLink RX2 55 arraycopyName) (by decide +kernel)) (hts (.native arraycopyName) (by decide +kernel)) (hts (.static arraycopyName) (by decide +kernel)) (hts (.initialized "java/lang/System") (by decide +kernel)) hK hP hD hS 15 7 1 1 rfl rfl rfl rfl rfl (by decide) (by decide) (by decide) (by decide) (by decide) (fun _ _ => rfl) (Nat.le_of_ble_eq_true rfl) (Nat.le_of_ble_eq_true rfl) dX2_copyOf_157 (fun H locs hP hD hS => ?_)
  cases h
  exact W.vret hx hb hr (fun t ht _ => ⟨⟨(), rfl, trivial, by rw [ht]; exact hP, hD⟩, hS.F ht⟩) hS.2.2 dX2_copyOf_160
theorem hd_X2_isTold : yX2_isTold.cls = RX2 ∧ yX2_isTold.cls ≠ "java/lang/invoke/MethodHandle" ∧ yX2_isTold.cls ≠ "java/lang/invoke/VarHandle" ∧ (parseMethodDescriptor yX2_isTold.desc).map (fun d => d.parameters.length) = some 0 := by decide +kernel
set_option maxHeartbeats 4000000 in
set_option maxRecDepth 100000 in
theorem c_X2_isTold (l : Launch) (D : va_G) (cy : Nat → ClassId) (a_la : Nat) (la_lanes : Int32) (la_deep : Int32) (la_lanesTold : Int32) (la_who : Value) (la_firstStrong : Value) (la_beasts : Int32) (la_kind : Value) (la_firstLane : Value) (la_mood : Value) (la_price : Value) (la_cities : Int32) (la_passes : Int32) (la_passBetween : Value) (la_turned : Int32) (res : Int32) (h : f_X2_isTold la_lanes = some (res)) : Met l yX2_isTold wo_X2_isTold ({ frames := 0, cells := 0, slots := 0, locals := 0 }) (roPc D cy [.ref a_la] [(a_la, .inr (2, [.int la_lanes, .int la_deep, .int la_lanesTold, la_who, la_firstStrong, .int la_beasts, la_kind, la_firstLane, la_mood, la_price, .int la_cities, .int la_passes, la_passBetween, .int la_turned]))]) (vp_Si (fun r => r = res ∧ nbv r)) 0 0 (fun _ => False) := by
  refine Met.ofW (cc := cX2_isTold) (maxL := 1) (ret := (some .boolean)) (by decide) rfl ?_
  intro p e s m args below meth c s₁ B hml hv
  obtain ⟨rfl, hP, hKN⟩ := hv
  have hK := hKN.1
  have hx := B.exec
  have hb := B.bytes
  have hr := B.returns
  have hts := wt_X2_isTold hKN.2.2 (([.ref a_la] : List Value).toArray)
  have hown : s.vm.findClass RX2 = some m.cls := findClass_of_methodNamed B.named
  have hlocks := B.notSynchronized
  have hX2 := wc_X2 hKN.2.2 (([.ref a_la] : List Value).toArray)
  have hl := lv_entry ([.ref a_la]) (n := 1) (Nat.le_of_ble_eq_true rfl)
  rw [lg_entry_eq]
  generalize (lg_sl ([.ref a_la]) ++ List.replicate (1 - (lg_sl ([.ref a_la])).length) Slot.unset).toArray = ls at hl ⊢
  have hl : lv_has ls 1 [(0, .ref a_la)] := hl
  unfold f_X2_isTold at h
  refine lv_aload_n hx hb dX2_isTold_0 rfl (lv_at hl 0 rfl) ?_
  refine va_get (D := D) (ci := 2) (C := RX2) (T := TX2) (N := 14) (v := .int la_lanes) hx hb hX2 (fun _ q => q) hown hK hP 0 rfl rfl 0 (by decide) (hts (.fieldLink RX2 33 "ElephantLine$Land" "lanes" "I") (by decide +kernel)) (fun _ h9 => h9) rfl dX2_isTold_1 ?_
  refine lv_if_le (tgt := 11) hx hb dX2_isTold_4 (by decide) (fun cd => ?_) (fun cd => ?_)
  · have h := ifT cd h
    refine lv_iconst (v := 0) hx hb dX2_isTold_11 (by decide) ?_
    exact W.zret (ty := .boolean) (v := 0) hx hb hr (nbv.n nbv_0) (fun t ht _ => ⟨_, rfl, ⟨Option.some.inj h, nbv_0⟩, ht⟩) (fun _ q => by cases q) dX2_isTold_12
  · have h := ifF cd h
    refine lv_iconst (v := 1) hx hb dX2_isTold_7 (by decide) ?_
    refine lv_goto (tgt := 12) hx hb dX2_isTold_8 (by decide) ?_
    exact W.zret (ty := .boolean) (v := 1) hx hb hr (nbv.n nbv_1) (fun t ht _ => ⟨_, rfl, ⟨Option.some.inj h, nbv_1⟩, ht⟩) (fun _ q => by cases q) dX2_isTold_12
theorem hd_X2_hasLane : yX2_hasLane.cls = RX2 ∧ yX2_hasLane.cls ≠ "java/lang/invoke/MethodHandle" ∧ yX2_hasLane.cls ≠ "java/lang/invoke/VarHandle" ∧ (parseMethodDescriptor yX2_hasLane.desc).map (fun d => d.parameters.length) = some 1 := by decide +kernel
set_option maxHeartbeats 4000000 in
set_option maxRecDepth 100000 in
theorem c_X2_hasLane (l : Launch) (D : va_G) (cy : Nat → ClassId) (a_la : Nat) (la_lanes : Int32) (la_deep : Int32) (la_lanesTold : Int32) (la_who : Value) (la_firstStrong : Value) (la_beasts : Int32) (la_kind : Value) (la_firstLane : Value) (la_mood : Value) (la_price : Value) (la_cities : Int32) (la_passes : Int32) (la_passBetween : Value) (la_turned : Int32) (p1 : Int32) (res : Int32) (h : f_X2_hasLane la_lanes p1 = some (res)) : Met l yX2_hasLane wo_X2_hasLane ({ frames := 0, cells := 0, slots := 0, locals := 0 }) (roPc D cy [.ref a_la, .int p1] [(a_la, .inr (2, [.int la_lanes, .int la_deep, .int la_lanesTold, la_who, la_firstStrong, .int la_beasts, la_kind, la_firstLane, la_mood, la_price, .int la_cities, .int la_passes, la_passBetween, .int la_turned]))]) (vp_Si (fun r => r = res ∧ nbv r)) 0 0 (fun _ => False) := by
  refine Met.ofW (cc := cX2_hasLane) (maxL := 2) (ret := (some .boolean)) (by decide) rfl ?_
  intro p e s m args below meth c s₁ B hml hv
  obtain ⟨rfl, hP, hKN⟩ := hv
  have hK := hKN.1
  have hx := B.exec
  have hb := B.bytes
  have hr := B.returns
  have hts := wt_X2_hasLane hKN.2.2 (([.ref a_la, .int p1] : List Value).toArray)
  have hown : s.vm.findClass RX2 = some m.cls := findClass_of_methodNamed B.named
  have hlocks := B.notSynchronized
  have hX2 := wc_X2 hKN.2.2 (([.ref a_la, .int p1] : List Value).toArray)
  have hl := lv_entry ([.ref a_la, .int p1]) (n := 2) (Nat.le_of_ble_eq_true rfl)
  rw [lg_entry_eq]
  generalize (lg_sl ([.ref a_la, .int p1]) ++ List.replicate (2 - (lg_sl ([.ref a_la, .int p1])).length) Slot.unset).toArray = ls at hl ⊢
  have hl : lv_has ls 2 [(0, .ref a_la), (1, .int p1)] := hl
  unfold f_X2_hasLane at h
  refine lv_iload_n hx hb dX2_hasLane_0 rfl (lv_at hl 1 rfl) ?_
  refine lv_if_lt (tgt := 16) hx hb dX2_hasLane_1 (by decide) (fun cd => ?_) (fun cd => ?_)
  · have h := ifT cd h
    refine lv_iconst (v := 0) hx hb dX2_hasLane_16 (by decide) ?_
    exact W.zret (ty := .boolean) (v := 0) hx hb hr (nbv.n nbv_0) (fun t ht _ => ⟨_, rfl, ⟨Option.some.inj h, nbv_0⟩, ht⟩) (fun _ q => by cases q) dX2_hasLane_17
  · have h := ifF cd h
    refine lv_iload_n hx hb dX2_hasLane_4 rfl (lv_at hl 1 rfl) ?_
    refine lv_aload_n hx hb dX2_hasLane_5 rfl (lv_at hl 0 rfl) ?_
    refine va_get (D := D) (ci := 2) (C := RX2) (T := TX2) (N := 14) (v := .int la_lanes) hx hb hX2 (fun _ q => q) hown hK hP 0 rfl rfl 0 (by decide) (hts (.fieldLink RX2 33 "ElephantLine$Land" "lanes" "I") (by decide +kernel)) (fun _ h9 => h9) rfl dX2_hasLane_6 ?_
    refine lv_icmp_ge (tgt := 16) hx hb dX2_hasLane_9 (by decide) (fun cd => ?_) (fun cd => ?_)
    · have h := ifT cd h
      refine lv_iconst (v := 0) hx hb dX2_hasLane_16 (by decide) ?_
      exact W.zret (ty := .boolean) (v := 0) hx hb hr (nbv.n nbv_0) (fun t ht _ => ⟨_, rfl, ⟨Option.some.inj h, nbv_0⟩, ht⟩) (fun _ q => by cases q) dX2_hasLane_17
    · have h := ifF cd h
      refine lv_iconst (v := 1) hx hb dX2_hasLane_12 (by decide) ?_
      refine lv_goto (tgt := 17) hx hb dX2_hasLane_13 (by decide) ?_
      exact W.zret (ty := .boolean) (v := 1) hx hb hr (nbv.n nbv_1) (fun t ht _ => ⟨_, rfl, ⟨Option.some.inj h, nbv_1⟩, ht⟩) (fun _ q => by cases q) dX2_hasLane_17
theorem hd_X2_hasBeast : yX2_hasBeast.cls = RX2 ∧ yX2_hasBeast.cls ≠ "java/lang/invoke/MethodHandle" ∧ yX2_hasBeast.cls ≠ "java/lang/invoke/VarHandle" ∧ (parseMethodDescriptor yX2_hasBeast.desc).map (fun d => d.parameters.length) = some 1 := by decide +kernel
set_option maxHeartbeats 4000000 in
set_option maxRecDepth 100000 in
theorem c_X2_hasBeast (l : Launch) (D : va_G) (cy : Nat → ClassId) (a_la : Nat) (la_lanes : Int32) (la_deep : Int32) (la_lanesTold : Int32) (la_who : Value) (la_firstStrong : Value) (la_beasts : Int32) (la_kind : Value) (la_firstLane : Value) (la_mood : Value) (la_price : Value) (la_cities : Int32) (la_passes : Int32) (la_passBetween : Value) (la_turned : Int32) (p1 : Int32) (res : Int32) (h : f_X2_hasBeast la_beasts p1 = some (res)) : Met l yX2_hasBeast wo_X2_hasBeast ({ frames := 0, cells := 0, slots := 0, locals := 0 }) (roPc D cy [.ref a_la, .int p1] [(a_la, .inr (2, [.int la_lanes, .int la_deep, .int la_lanesTold, la_who, la_firstStrong, .int la_beasts, la_kind, la_firstLane, la_mood, la_price, .int la_cities, .int la_passes, la_passBetween, .int la_turned]))]) (vp_Si (fun r => r = res ∧ nbv r)) 0 0 (fun _ => False) := by
  refine Met.ofW (cc := cX2_hasBeast) (maxL := 2) (ret := (some .boolean)) (by decide) rfl ?_
  intro p e s m args below meth c s₁ B hml hv
  obtain ⟨rfl, hP, hKN⟩ := hv
  have hK := hKN.1
  have hx := B.exec
  have hb := B.bytes
  have hr := B.returns
  have hts := wt_X2_hasBeast hKN.2.2 (([.ref a_la, .int p1] : List Value).toArray)
  have hown : s.vm.findClass RX2 = some m.cls := findClass_of_methodNamed B.named
  have hlocks := B.notSynchronized
  have hX2 := wc_X2 hKN.2.2 (([.ref a_la, .int p1] : List Value).toArray)
  have hl := lv_entry ([.ref a_la, .int p1]) (n := 2) (Nat.le_of_ble_eq_true rfl)
  rw [lg_entry_eq]
  generalize (lg_sl ([.ref a_la, .int p1]) ++ List.replicate (2 - (lg_sl ([.ref a_la, .int p1])).length) Slot.unset).toArray = ls at hl ⊢
  have hl : lv_has ls 2 [(0, .ref a_la), (1, .int p1)] := hl
  unfold f_X2_hasBeast at h
  refine lv_iload_n hx hb dX2_hasBeast_0 rfl (lv_at hl 1 rfl) ?_
  refine lv_if_lt (tgt := 16) hx hb dX2_hasBeast_1 (by decide) (fun cd => ?_) (fun cd => ?_)
  · have h := ifT cd h
    refine lv_iconst (v := 0) hx hb dX2_hasBeast_16 (by decide) ?_
    exact W.zret (ty := .boolean) (v := 0) hx hb hr (nbv.n nbv_0) (fun t ht _ => ⟨_, rfl, ⟨Option.some.inj h, nbv_0⟩, ht⟩) (fun _ q => by cases q) dX2_hasBeast_17
  · have h := ifF cd h
    refine lv_iload_n hx hb dX2_hasBeast_4 rfl (lv_at hl 1 rfl) ?_
    refine lv_aload_n hx hb dX2_hasBeast_5 rfl (lv_at hl 0 rfl) ?_
    refine va_get (D := D) (ci := 2) (C := RX2) (T := TX2) (N := 14) (v := .int la_beasts) hx hb hX2 (fun _ q => q) hown hK hP 0 rfl rfl 5 (by decide) (hts (.fieldLink RX2 43 "ElephantLine$Land" "beasts" "I") (by decide +kernel)) (fun _ h9 => h9) rfl dX2_hasBeast_6 ?_
    refine lv_icmp_ge (tgt := 16) hx hb dX2_hasBeast_9 (by decide) (fun cd => ?_) (fun cd => ?_)
    · have h := ifT cd h
      refine lv_iconst (v := 0) hx hb dX2_hasBeast_16 (by decide) ?_
      exact W.zret (ty := .boolean) (v := 0) hx hb hr (nbv.n nbv_0) (fun t ht _ => ⟨_, rfl, ⟨Option.some.inj h, nbv_0⟩, ht⟩) (fun _ q => by cases q) dX2_hasBeast_17
    · have h := ifF cd h
      refine lv_iconst (v := 1) hx hb dX2_hasBeast_12 (by decide) ?_
      refine lv_goto (tgt := 17) hx hb dX2_hasBeast_13 (by decide) ?_
      exact W.zret (ty := .boolean) (v := 1) hx hb hr (nbv.n nbv_1) (fun t ht _ => ⟨_, rfl, ⟨Option.some.inj h, nbv_1⟩, ht⟩) (fun _ q => by cases q) dX2_hasBeast_17
theorem hd_X2_hasCity : yX2_hasCity.cls = RX2 ∧ yX2_hasCity.cls ≠ "java/lang/invoke/MethodHandle" ∧ yX2_hasCity.cls ≠ "java/lang/invoke/VarHandle" ∧ (parseMethodDescriptor yX2_hasCity.desc).map (fun d => d.parameters.length) = some 1 := by decide +kernel
set_option maxHeartbeats 4000000 in
set_option maxRecDepth 100000 in
theorem c_X2_hasCity (l : Launch) (D : va_G) (cy : Nat → ClassId) (a_la : Nat) (la_lanes : Int32) (la_deep : Int32) (la_lanesTold : Int32) (la_who : Value) (la_firstStrong : Value) (la_beasts : Int32) (la_kind : Value) (la_firstLane : Value) (la_mood : Value) (la_price : Value) (la_cities : Int32) (la_passes : Int32) (la_passBetween : Value) (la_turned : Int32) (p1 : Int32) (res : Int32) (h : f_X2_hasCity la_cities p1 = some (res)) : Met l yX2_hasCity wo_X2_hasCity ({ frames := 0, cells := 0, slots := 0, locals := 0 }) (roPc D cy [.ref a_la, .int p1] [(a_la, .inr (2, [.int la_lanes, .int la_deep, .int la_lanesTold, la_who, la_firstStrong, .int la_beasts, la_kind, la_firstLane, la_mood, la_price, .int la_cities, .int la_passes, la_passBetween, .int la_turned]))]) (vp_Si (fun r => r = res ∧ nbv r)) 0 0 (fun _ => False) := by
  refine Met.ofW (cc := cX2_hasCity) (maxL := 2) (ret := (some .boolean)) (by decide) rfl ?_
  intro p e s m args below meth c s₁ B hml hv
  obtain ⟨rfl, hP, hKN⟩ := hv
  have hK := hKN.1
  have hx := B.exec
  have hb := B.bytes
  have hr := B.returns
  have hts := wt_X2_hasCity hKN.2.2 (([.ref a_la, .int p1] : List Value).toArray)
  have hown : s.vm.findClass RX2 = some m.cls := findClass_of_methodNamed B.named
  have hlocks := B.notSynchronized
  have hX2 := wc_X2 hKN.2.2 (([.ref a_la, .int p1] : List Value).toArray)
  have hl := lv_entry ([.ref a_la, .int p1]) (n := 2) (Nat.le_of_ble_eq_true rfl)
  rw [lg_entry_eq]
  generalize (lg_sl ([.ref a_la, .int p1]) ++ List.replicate (2 - (lg_sl ([.ref a_la, .int p1])).length) Slot.unset).toArray = ls at hl ⊢
  have hl : lv_has ls 2 [(0, .ref a_la), (1, .int p1)] := hl
  unfold f_X2_hasCity at h
  refine lv_iload_n hx hb dX2_hasCity_0 rfl (lv_at hl 1 rfl) ?_
  refine lv_if_lt (tgt := 16) hx hb dX2_hasCity_1 (by decide) (fun cd => ?_) (fun cd => ?_)
  · have h := ifT cd h
    refine lv_iconst (v := 0) hx hb dX2_hasCity_16 (by decide) ?_
    exact W.zret (ty := .boolean) (v := 0) hx hb hr (nbv.n nbv_0) (fun t ht _ => ⟨_, rfl, ⟨Option.some.inj h, nbv_0⟩, ht⟩) (fun _ q => by cases q) dX2_hasCity_17
  · have h := ifF cd h
    refine lv_iload_n hx hb dX2_hasCity_4 rfl (lv_at hl 1 rfl) ?_
    refine lv_aload_n hx hb dX2_hasCity_5 rfl (lv_at hl 0 rfl) ?_
    refine va_get (D := D) (ci := 2) (C := RX2) (T := TX2) (N := 14) (v := .int la_cities) hx hb hX2 (fun _ q => q) hown hK hP 0 rfl rfl 10 (by decide) (hts (.fieldLink RX2 46 "ElephantLine$Land" "cities" "I") (by decide +kernel)) (fun _ h9 => h9) rfl dX2_hasCity_6 ?_
    refine lv_icmp_ge (tgt := 16) hx hb dX2_hasCity_9 (by decide) (fun cd => ?_) (fun cd => ?_)
    · have h := ifT cd h
      refine lv_iconst (v := 0) hx hb dX2_hasCity_16 (by decide) ?_
      exact W.zret (ty := .boolean) (v := 0) hx hb hr (nbv.n nbv_0) (fun t ht _ => ⟨_, rfl, ⟨Option.some.inj h, nbv_0⟩, ht⟩) (fun _ q => by cases q) dX2_hasCity_17
    · have h := ifF cd h
      refine lv_iconst (v := 1) hx hb dX2_hasCity_12 (by decide) ?_
      refine lv_goto (tgt := 17) hx hb dX2_hasCity_13 (by decide) ?_
      exact W.zret (ty := .boolean) (v := 1) hx hb hr (nbv.n nbv_1) (fun t ht _ => ⟨_, rfl, ⟨Option.some.inj h, nbv_1⟩, ht⟩) (fun _ q => by cases q) dX2_hasCity_17
theorem hd_X2_isLaneTold : yX2_isLaneTold.cls = RX2 ∧ yX2_isLaneTold.cls ≠ "java/lang/invoke/MethodHandle" ∧ yX2_isLaneTold.cls ≠ "java/lang/invoke/VarHandle" ∧ (parseMethodDescriptor yX2_isLaneTold.desc).map (fun d => d.parameters.length) = some 1 := by decide +kernel
set_option maxHeartbeats 4000000 in
set_option maxRecDepth 100000 in
theorem c_X2_isLaneTold (l : Launch) (D : va_G) (cy : Nat → ClassId) (a_la : Nat) (la_lanes : Int32) (la_deep : Int32) (la_lanesTold : Int32) (la_who : Value) (la_firstStrong : Value) (la_beasts : Int32) (la_kind : Value) (la_firstLane : Value) (la_mood : Value) (la_price : Value) (la_cities : Int32) (la_passes : Int32) (la_passBetween : Value) (la_turned : Int32) (p1 : Int32) (res : Int32) (h : f_X2_isLaneTold la_lanesTold p1 = some (res)) : Met l yX2_isLaneTold wo_X2_isLaneTold ({ frames := 0, cells := 0, slots := 0, locals := 0 }) (roPc D cy [.ref a_la, .int p1] [(a_la, .inr (2, [.int la_lanes, .int la_deep, .int la_lanesTold, la_who, la_firstStrong, .int la_beasts, la_kind, la_firstLane, la_mood, la_price, .int la_cities, .int la_passes, la_passBetween, .int la_turned]))]) (vp_Si (fun r => r = res ∧ nbv r)) 0 0 (fun _ => False) := by
  refine Met.ofW (cc := cX2_isLaneTold) (maxL := 2) (ret := (some .boolean)) (by decide) rfl ?_
  intro p e s m args below meth c s₁ B hml hv
  obtain ⟨rfl, hP, hKN⟩ := hv
  have hK := hKN.1
  have hx := B.exec
  have hb := B.bytes
  have hr := B.returns
  have hts := wt_X2_isLaneTold hKN.2.2 (([.ref a_la, .int p1] : List Value).toArray)
  have hown : s.vm.findClass RX2 = some m.cls := findClass_of_methodNamed B.named
  have hlocks := B.notSynchronized
  have hX2 := wc_X2 hKN.2.2 (([.ref a_la, .int p1] : List Value).toArray)
  have hl := lv_entry ([.ref a_la, .int p1]) (n := 2) (Nat.le_of_ble_eq_true rfl)
  rw [lg_entry_eq]
  generalize (lg_sl ([.ref a_la, .int p1]) ++ List.replicate (2 - (lg_sl ([.ref a_la, .int p1])).length) Slot.unset).toArray = ls at hl ⊢
  have hl : lv_has ls 2 [(0, .ref a_la), (1, .int p1)] := hl
  unfold f_X2_isLaneTold at h
  refine lv_aload_n hx hb dX2_isLaneTold_0 rfl (lv_at hl 0 rfl) ?_
  refine va_get (D := D) (ci := 2) (C := RX2) (T := TX2) (N := 14) (v := .int la_lanesTold) hx hb hX2 (fun _ q => q) hown hK hP 0 rfl rfl 2 (by decide) (hts (.fieldLink RX2 40 "ElephantLine$Land" "lanesTold" "I") (by decide +kernel)) (fun _ h9 => h9) rfl dX2_isLaneTold_1 ?_
  refine lv_iload_n hx hb dX2_isLaneTold_4 rfl (lv_at hl 1 rfl) ?_
  refine lv_ishr hx hb dX2_isLaneTold_5 ?_
  refine lv_iconst (v := 1) hx hb dX2_isLaneTold_6 (by decide) ?_
  refine lv_iand hx hb dX2_isLaneTold_7 ?_
  refine lv_iconst (v := 1) hx hb dX2_isLaneTold_8 (by decide) ?_
  refine lv_icmp_ne (tgt := 16) hx hb dX2_isLaneTold_9 (by decide) (fun cd => ?_) (fun cd => ?_)
  · have h := ifF cd h
    refine lv_iconst (v := 0) hx hb dX2_isLaneTold_16 (by decide) ?_
    exact W.zret (ty := .boolean) (v := 0) hx hb hr (nbv.n nbv_0) (fun t ht _ => ⟨_, rfl, ⟨Option.some.inj h, nbv_0⟩, ht⟩) (fun _ q => by cases q) dX2_isLaneTold_17
  · have h := ifT cd h
    refine lv_iconst (v := 1) hx hb dX2_isLaneTold_12 (by decide) ?_
    refine lv_goto (tgt := 17) hx hb dX2_isLaneTold_13 (by decide) ?_
    exact W.zret (ty := .boolean) (v := 1) hx hb hr (nbv.n nbv_1) (fun t ht _ => ⟨_, rfl, ⟨Option.some.inj h, nbv_1⟩, ht⟩) (fun _ q => by cases q) dX2_isLaneTold_17
theorem hd_X2_hasTurned : yX2_hasTurned.cls = RX2 ∧ yX2_hasTurned.cls ≠ "java/lang/invoke/MethodHandle" ∧ yX2_hasTurned.cls ≠ "java/lang/invoke/VarHandle" ∧ (parseMethodDescriptor yX2_hasTurned.desc).map (fun d => d.parameters.length) = some 1 := by decide +kernel
set_option maxHeartbeats 4000000 in
set_option maxRecDepth 100000 in
theorem c_X2_hasTurned (l : Launch) (D : va_G) (cy : Nat → ClassId) (a_la : Nat) (la_lanes : Int32) (la_deep : Int32) (la_lanesTold : Int32) (la_who : Value) (la_firstStrong : Value) (la_beasts : Int32) (la_kind : Value) (la_firstLane : Value) (la_mood : Value) (la_price : Value) (la_cities : Int32) (la_passes : Int32) (la_passBetween : Value) (la_turned : Int32) (p1 : Int32) (res : Int32) (h : f_X2_hasTurned la_turned p1 = some (res)) : Met l yX2_hasTurned wo_X2_hasTurned ({ frames := 0, cells := 0, slots := 0, locals := 0 }) (roPc D cy [.ref a_la, .int p1] [(a_la, .inr (2, [.int la_lanes, .int la_deep, .int la_lanesTold, la_who, la_firstStrong, .int la_beasts, la_kind, la_firstLane, la_mood, la_price, .int la_cities, .int la_passes, la_passBetween, .int la_turned]))]) (vp_Si (fun r => r = res ∧ nbv r)) 0 0 (fun _ => False) := by
  refine Met.ofW (cc := cX2_hasTurned) (maxL := 2) (ret := (some .boolean)) (by decide) rfl ?_
  intro p e s m args below meth c s₁ B hml hv
  obtain ⟨rfl, hP, hKN⟩ := hv
  have hK := hKN.1
  have hx := B.exec
  have hb := B.bytes
  have hr := B.returns
  have hts := wt_X2_hasTurned hKN.2.2 (([.ref a_la, .int p1] : List Value).toArray)
  have hown : s.vm.findClass RX2 = some m.cls := findClass_of_methodNamed B.named
  have hlocks := B.notSynchronized
  have hX2 := wc_X2 hKN.2.2 (([.ref a_la, .int p1] : List Value).toArray)
  have hl := lv_entry ([.ref a_la, .int p1]) (n := 2) (Nat.le_of_ble_eq_true rfl)
  rw [lg_entry_eq]
  generalize (lg_sl ([.ref a_la, .int p1]) ++ List.replicate (2 - (lg_sl ([.ref a_la, .int p1])).length) Slot.unset).toArray = ls at hl ⊢
  have hl : lv_has ls 2 [(0, .ref a_la), (1, .int p1)] := hl
  unfold f_X2_hasTurned at h
  refine lv_aload_n hx hb dX2_hasTurned_0 rfl (lv_at hl 0 rfl) ?_
  refine va_get (D := D) (ci := 2) (C := RX2) (T := TX2) (N := 14) (v := .int la_turned) hx hb hX2 (fun _ q => q) hown hK hP 0 rfl rfl 13 (by decide) (hts (.fieldLink RX2 52 "ElephantLine$Land" "turned" "I") (by decide +kernel)) (fun _ h9 => h9) rfl dX2_hasTurned_1 ?_
  refine lv_iload_n hx hb dX2_hasTurned_4 rfl (lv_at hl 1 rfl) ?_
  refine lv_ishr hx hb dX2_hasTurned_5 ?_
  refine lv_iconst (v := 1) hx hb dX2_hasTurned_6 (by decide) ?_
  refine lv_iand hx hb dX2_hasTurned_7 ?_
  refine lv_iconst (v := 1) hx hb dX2_hasTurned_8 (by decide) ?_
  refine lv_icmp_ne (tgt := 16) hx hb dX2_hasTurned_9 (by decide) (fun cd => ?_) (fun cd => ?_)
  · have h := ifF cd h
    refine lv_iconst (v := 0) hx hb dX2_hasTurned_16 (by decide) ?_
    exact W.zret (ty := .boolean) (v := 0) hx hb hr (nbv.n nbv_0) (fun t ht _ => ⟨_, rfl, ⟨Option.some.inj h, nbv_0⟩, ht⟩) (fun _ q => by cases q) dX2_hasTurned_17
  · have h := ifT cd h
    refine lv_iconst (v := 1) hx hb dX2_hasTurned_12 (by decide) ?_
    refine lv_goto (tgt := 17) hx hb dX2_hasTurned_13 (by decide) ?_
    exact W.zret (ty := .boolean) (v := 1) hx hb hr (nbv.n nbv_1) (fun t ht _ => ⟨_, rfl, ⟨Option.some.inj h, nbv_1⟩, ht⟩) (fun _ q => by cases q) dX2_hasTurned_17
theorem hd_X2_lossBetween : yX2_lossBetween.cls = RX2 ∧ yX2_lossBetween.cls ≠ "java/lang/invoke/MethodHandle" ∧ yX2_lossBetween.cls ≠ "java/lang/invoke/VarHandle" ∧ (parseMethodDescriptor yX2_lossBetween.desc).map (fun d => d.parameters.length) = some 2 := by decide +kernel
set_option maxHeartbeats 4000000 in
set_option maxRecDepth 100000 in
theorem c_X2_lossBetween (l : Launch) (D : va_G) (cy : Nat → ClassId) (a_la a_la_passBetween : Nat) (la_lanes : Int32) (la_deep : Int32) (la_lanesTold : Int32) (la_who : Value) (la_firstStrong : Value) (la_beasts : Int32) (la_kind : Value) (la_firstLane : Value) (la_mood : Value) (la_price : Value) (la_cities : Int32) (la_passes : Int32) (la_turned : Int32) (la_passBetween : Nat → Int32) (p1 : Int32) (p2 : Int32) (res : Int32) (h : f_X2_lossBetween la_cities la_passBetween p1 p2 = some (res)) : Met l yX2_lossBetween wo_X2_lossBetween ({ frames := 1, cells := 0, slots := 0, locals := 21 }) (roPc D cy [.ref a_la, .int p1, .int p2] [(a_la, .inr (2, [.int la_lanes, .int la_deep, .int la_lanesTold, la_who, la_firstStrong, .int la_beasts, la_kind, la_firstLane, la_mood, la_price, .int la_cities, .int la_passes, .ref a_la_passBetween, .int la_turned])), (a_la_passBetween, .inl (cy 1, 36, .inl la_passBetween))]) (vp_Si (fun r => r = res)) 0 0 (fun _ => False) := by
  refine Met.ofW (cc := cX2_lossBetween) (maxL := 3) (ret := (some .int)) (by decide) rfl ?_
  intro p e s m args below meth c s₁ B hml hv
  obtain ⟨rfl, hP, hKN⟩ := hv
  have hK := hKN.1
  have hx := B.exec
  have hb := B.bytes
  have hr := B.returns
  have hts := wt_X2_lossBetween hKN.2.2 (([.ref a_la, .int p1, .int p2] : List Value).toArray)
  have hown : s.vm.findClass RX2 = some m.cls := findClass_of_methodNamed B.named
  have hlocks := B.notSynchronized
  have hX2 := wc_X2 hKN.2.2 (([.ref a_la, .int p1, .int p2] : List Value).toArray)
  have hl := lv_entry ([.ref a_la, .int p1, .int p2]) (n := 3) (Nat.le_of_ble_eq_true rfl)
  rw [lg_entry_eq]
  generalize (lg_sl ([.ref a_la, .int p1, .int p2]) ++ List.replicate (3 - (lg_sl ([.ref a_la, .int p1, .int p2])).length) Slot.unset).toArray = ls at hl ⊢
  have hl : lv_has ls 3 [(0, .ref a_la), (1, .int p1), (2, .int p2)] := hl
  unfold f_X2_lossBetween at h
  refine lv_aload_n hx hb dX2_lossBetween_0 rfl (lv_at hl 0 rfl) ?_
  refine lv_iload_n hx hb dX2_lossBetween_1 rfl (lv_at hl 1 rfl) ?_
  obtain ⟨r_1, hc_2, h⟩ := bd1_some h
  refine kVb [.int p1] [] ⟨hx, hb, hml, hown, hts⟩ (c_X2_hasCity l D cy a_la la_lanes la_deep la_lanesTold (la_who) (la_firstStrong) la_beasts (la_kind) (la_firstLane) (la_mood) (la_price) la_cities la_passes (.ref a_la_passBetween) la_turned p1 r_1 hc_2) gX2_lossBetween_X2_hasCity rfl hd_X2_hasCity ⟨Nat.le_of_ble_eq_true rfl, Nat.le_of_ble_eq_true rfl⟩ rfl rfl hKN (hP.sub [0] rfl) 2 0 rfl rfl rfl hl.1 rfl (Nat.le_of_ble_eq_true rfl) dX2_lossBetween_2 ⟨Nat.le_of_ble_eq_true rfl, Nat.le_of_ble_eq_true rfl⟩ (fun nb_3 => ?_)
  refine lv_if_eq (tgt := 32) hx hb dX2_lossBetween_5 (by decide) (fun cd => ?_) (fun cd => ?_)
  · have h := ifT cd h
    refine lv_iconst (v := (-1)) hx hb dX2_lossBetween_32 (by decide) ?_
    exact W.iret (v := (-1)) hx hb hr (fun t ht _ => ⟨_, rfl, Option.some.inj h, ht⟩) (fun _ q => by cases q) dX2_lossBetween_33
  · have h := ifF cd h
    refine lv_aload_n hx hb dX2_lossBetween_8 rfl (lv_at hl 0 rfl) ?_
    refine lv_iload_n hx hb dX2_lossBetween_9 rfl (lv_at hl 2 rfl) ?_
    obtain ⟨r_4, hc_5, h⟩ := bd1_some h
    refine kVb [.int p2] [] ⟨hx, hb, hml, hown, hts⟩ (c_X2_hasCity l D cy a_la la_lanes la_deep la_lanesTold (la_who) (la_firstStrong) la_beasts (la_kind) (la_firstLane) (la_mood) (la_price) la_cities la_passes (.ref a_la_passBetween) la_turned p2 r_4 hc_5) gX2_lossBetween_X2_hasCity rfl hd_X2_hasCity ⟨Nat.le_of_ble_eq_true rfl, Nat.le_of_ble_eq_true rfl⟩ rfl rfl hKN (hP.sub [0] rfl) 2 0 rfl rfl rfl hl.1 rfl (Nat.le_of_ble_eq_true rfl) dX2_lossBetween_10 ⟨Nat.le_of_ble_eq_true rfl, Nat.le_of_ble_eq_true rfl⟩ (fun nb_6 => ?_)
    refine lv_if_eq (tgt := 32) hx hb dX2_lossBetween_13 (by decide) (fun cd => ?_) (fun cd => ?_)
    · have h := ifT cd h
      refine lv_iconst (v := (-1)) hx hb dX2_lossBetween_32 (by decide) ?_
      exact W.iret (v := (-1)) hx hb hr (fun t ht _ => ⟨_, rfl, Option.some.inj h, ht⟩) (fun _ q => by cases q) dX2_lossBetween_33
    · have h := ifF cd h
      refine lv_aload_n hx hb dX2_lossBetween_16 rfl (lv_at hl 0 rfl) ?_
      refine va_get (D := D) (ci := 2) (C := RX2) (T := TX2) (N := 14) (v := .ref a_la_passBetween) hx hb hX2 (fun _ q => q) hown hK hP 0 rfl rfl 12 (by decide) (hts (.fieldLink RX2 30 "ElephantLine$Land" "passBetween" "[I") (by decide +kernel)) (fun _ h9 => h9) rfl dX2_lossBetween_17 ?_
      refine lv_iload_n hx hb dX2_lossBetween_20 rfl (lv_at hl 1 rfl) ?_
      refine lv_bipush (v := 6) hx hb dX2_lossBetween_21 (by decide) ?_
      refine lv_imul hx hb dX2_lossBetween_23 ?_
      refine lv_iload_n hx hb dX2_lossBetween_24 rfl (lv_at hl 2 rfl) ?_
      refine lv_iadd hx hb dX2_lossBetween_25 ?_
      obtain ⟨i_7, h⟩ := gIn_some h
      refine va_iald hx hb hK hP 1 1 rfl rfl i_7 dX2_lossBetween_26 ?_
      refine lv_iconst (v := 1) hx hb dX2_lossBetween_27 (by decide) ?_
      refine lv_isub hx hb dX2_lossBetween_28 ?_
      refine lv_goto (tgt := 33) hx hb dX2_lossBetween_29 (by decide) ?_
      exact W.iret (v := (la_passBetween ((p1 * 6) + p2).toNatClampNeg) - 1) hx hb hr (fun t ht _ => ⟨_, rfl, Option.some.inj h, ht⟩) (fun _ q => by cases q) dX2_lossBetween_33
theorem hd_X2_tellLane : yX2_tellLane.cls = RX2 ∧ yX2_tellLane.cls ≠ "java/lang/invoke/MethodHandle" ∧ yX2_tellLane.cls ≠ "java/lang/invoke/VarHandle" ∧ (parseMethodDescriptor yX2_tellLane.desc).map (fun d => d.parameters.length) = some 3 := by decide +kernel
set_option maxHeartbeats 4000000 in
set_option maxRecDepth 100000 in
theorem c_X2_tellLane (l : Launch) (D : va_G) (cy : Nat → ClassId) (A : Nat → Prop) (X : va_W) (a_la a_la_who a_la_firstStrong : Nat) (la_lanes : Int32) (la_deep : Int32) (la_lanesTold : Int32) (la_beasts : Int32) (la_kind : Value) (la_firstLane : Value) (la_mood : Value) (la_price : Value) (la_cities : Int32) (la_passes : Int32) (la_passBetween : Value) (la_turned : Int32) (la_who : Nat → Int32) (la_firstStrong : Nat → Int32) (p1 : Int32) (p2 : Int32) (p3 : Int32) (la_lanesTold' : Int32) (la_who' : Nat → Int32) (la_firstStrong' : Nat → Int32) (h : f_X2_tellLane la_lanes la_lanesTold la_who la_firstStrong p1 p2 p3 = some (la_lanesTold', la_who', la_firstStrong')) : Met l yX2_tellLane wo_X2_tellLane ({ frames := 1, cells := 0, slots := 0, locals := 21 }) (wrPc D cy A [.ref a_la, .int p1, .int p2, .int p3] ([(a_la, .inr (2, [.int la_lanes, .int la_deep, .int la_lanesTold, .ref a_la_who, .ref a_la_firstStrong, .int la_beasts, la_kind, la_firstLane, la_mood, la_price, .int la_cities, .int la_passes, la_passBetween, .int la_turned])), (a_la_who, .inl (cy 1, 6, .inl la_who)), (a_la_firstStrong, .inl (cy 1, 6, .inl la_firstStrong))] ++ X)) (va_Qv (fun (_ : Unit) => True) (wB D A ([(a_la, .inr (2, [.int la_lanes, .int la_deep, .int la_lanesTold', .ref a_la_who, .ref a_la_firstStrong, .int la_beasts, la_kind, la_firstLane, la_mood, la_price, .int la_cities, .int la_passes, la_passBetween, .int la_turned])), (a_la_who, .inl (cy 1, 6, .inl la_who')), (a_la_firstStrong, .inl (cy 1, 6, .inl la_firstStrong'))] ++ X)) A) 0 0 A := by
  refine Met.ofW (cc := cX2_tellLane) (maxL := 4) (ret := none) (by decide) rfl ?_
  intro p e s m args below meth c s₁ B hml hv
  obtain ⟨rfl, hP, hKN, hD, hA⟩ := hv
  have hK := hKN.1
  have hx := B.exec
  have hb := B.bytes
  have hr := B.returns
  have hts := wt_X2_tellLane hKN.2.2 (([.ref a_la, .int p1, .int p2, .int p3] : List Value).toArray)
  have hown : s.vm.findClass RX2 = some m.cls := findClass_of_methodNamed B.named
  have hlocks := B.notSynchronized
  have hS : va_S A s.heap s.heap [] := va_S.rf
  have hX2 := wc_X2 hKN.2.2 (([.ref a_la, .int p1, .int p2, .int p3] : List Value).toArray)
  have hl := lv_entry ([.ref a_la, .int p1, .int p2, .int p3]) (n := 4) (Nat.le_of_ble_eq_true rfl)
  rw [lg_entry_eq]
  generalize (lg_sl ([.ref a_la, .int p1, .int p2, .int p3]) ++ List.replicate (4 - (lg_sl ([.ref a_la, .int p1, .int p2, .int p3])).length) Slot.unset).toArray = ls at hl ⊢
  have hl : lv_has ls 4 [(0, .ref a_la), (1, .int p1), (2, .int p2), (3, .int p3)] := hl
  unfold f_X2_tellLane at h
  refine lv_aload_n hx hb dX2_tellLane_0 rfl (lv_at hl 0 rfl) ?_
  refine lv_iload_n hx hb dX2_tellLane_1 rfl (lv_at hl 1 rfl) ?_
  obtain ⟨r_1, hc_2, h⟩ := bd1_some h
  refine kVb [.int p1] [] ⟨hx, hb, hml, hown, hts⟩ (c_X2_hasLane l D cy a_la la_lanes la_deep la_lanesTold (.ref a_la_who) (.ref a_la_firstStrong) la_beasts (la_kind) (la_firstLane) (la_mood) (la_price) la_cities la_passes (la_passBetween) la_turned p1 r_1 hc_2) gX2_tellLane_X2_hasLane rfl hd_X2_hasLane ⟨Nat.le_of_ble_eq_true rfl, Nat.le_of_ble_eq_true rfl⟩ rfl rfl hKN (pXc hP [0] rfl) 2 0 rfl rfl rfl hl.1 rfl (Nat.le_of_ble_eq_true rfl) dX2_tellLane_2 ⟨Nat.le_of_ble_eq_true rfl, Nat.le_of_ble_eq_true rfl⟩ (fun nb_3 => ?_)
  refine lv_if_eq (tgt := 34) hx hb dX2_tellLane_5 (by decide) (fun cd => ?_) (fun cd => ?_)
  · have h := ifT cd h
    cases h
    exact W.vret hx hb hr (fun t ht _ => ⟨⟨(), rfl, trivial, by rw [ht]; exact hP, hD⟩, hS.F ht⟩) hS.2.2 dX2_tellLane_34
  · have h := ifF cd h
    refine lv_aload_n hx hb dX2_tellLane_8 rfl (lv_at hl 0 rfl) ?_
    refine lv_dup hx hb dX2_tellLane_9 rfl ?_
    refine va_get (D := D) (ci := 2) (C := RX2) (T := TX2) (N := 14) (v := .int la_lanesTold) hx hb hX2 (fun _ q => q) hown hK hP 0 rfl rfl 2 (by decide) (hts (.fieldLink RX2 40 "ElephantLine$Land" "lanesTold" "I") (by decide +kernel)) (fun _ h9 => h9) rfl dX2_tellLane_10 ?_
    refine lv_iconst (v := 1) hx hb dX2_tellLane_13 (by decide) ?_
    refine lv_iload_n hx hb dX2_tellLane_14 rfl (lv_at hl 1 rfl) ?_
    refine lv_ishl hx hb dX2_tellLane_15 ?_
    refine lv_ior hx hb dX2_tellLane_16 ?_
    refine va_put (D := D) (ci := 2) (C := RX2) (T := TX2) (N := 14) (v := .int (la_lanesTold ||| ((1 : Int32) <<< (p1 &&& 31)))) (ty := .int) hx hb hX2 (fun _ q => q) tyX2 tyX2_ok nmX2 hown hK hP hD hS 0 rfl rfl 2 (by decide) (hts (.fieldLink RX2 40 "ElephantLine$Land" "lanesTold" "I") (by decide +kernel)) (fun _ h9 => h9) rfl (tyX2_ok 2 (by decide)) rfl rfl (Nat.le_of_ble_eq_true rfl) dX2_tellLane_17 (fun H locs hP hD hS => ?_)
    refine lv_aload_n hx hb dX2_tellLane_20 rfl (lv_at hl 0 rfl) ?_
    refine va_get (D := D) (ci := 2) (C := RX2) (T := TX2) (N := 14) (v := .ref a_la_who) hx hb hX2 (fun _ q => q) hown hK hP 0 rfl rfl 3 (by decide) (hts (.fieldLink RX2 9 "ElephantLine$Land" "who" "[I") (by decide +kernel)) (fun _ h9 => h9) rfl dX2_tellLane_21 ?_
    refine lv_iload_n hx hb dX2_tellLane_24 rfl (lv_at hl 1 rfl) ?_
    refine lv_iload_n hx hb dX2_tellLane_25 rfl (lv_at hl 2 rfl) ?_
    obtain ⟨i_4, h⟩ := gIn_some h
    refine va_iast hx hb hK hP hD hS 1 1 rfl rfl i_4 dX2_tellLane_26 (fun H locs hP hD hS => ?_)
    refine lv_aload_n hx hb dX2_tellLane_27 rfl (lv_at hl 0 rfl) ?_
    refine va_get (D := D) (ci := 2) (C := RX2) (T := TX2) (N := 14) (v := .ref a_la_firstStrong) hx hb hX2 (fun _ q => q) hown hK hP 0 rfl rfl 4 (by decide) (hts (.fieldLink RX2 15 "ElephantLine$Land" "firstStrong" "[I") (by decide +kernel)) (fun _ h9 => h9) rfl dX2_tellLane_28 ?_
    refine lv_iload_n hx hb dX2_tellLane_31 rfl (lv_at hl 1 rfl) ?_
    refine lv_iload_n hx hb dX2_tellLane_32 rfl (lv_at hl 3 rfl) ?_
    obtain ⟨i_5, h⟩ := gIn_some h
    refine va_iast hx hb hK hP hD hS 2 1 rfl rfl i_5 dX2_tellLane_33 (fun H locs hP hD hS => ?_)
    cases h
    exact W.vret hx hb hr (fun t ht _ => ⟨⟨(), rfl, trivial, by rw [ht]; exact hP, hD⟩, hS.F ht⟩) hS.2.2 dX2_tellLane_34
theorem hd_X2_addBeast : yX2_addBeast.cls = RX2 ∧ yX2_addBeast.cls ≠ "java/lang/invoke/MethodHandle" ∧ yX2_addBeast.cls ≠ "java/lang/invoke/VarHandle" ∧ (parseMethodDescriptor yX2_addBeast.desc).map (fun d => d.parameters.length) = some 4 := by decide +kernel
set_option maxHeartbeats 4000000 in
set_option maxRecDepth 100000 in
theorem c_X2_addBeast (l : Launch) (D : va_G) (cy : Nat → ClassId) (A : Nat → Prop) (X : va_W) (a_la a_la_kind a_la_firstLane a_la_mood a_la_price : Nat) (la_lanes : Int32) (la_deep : Int32) (la_lanesTold : Int32) (la_who : Value) (la_firstStrong : Value) (la_beasts : Int32) (la_cities : Int32) (la_passes : Int32) (la_passBetween : Value) (la_turned : Int32) (la_kind : Nat → Int32) (la_firstLane : Nat → Int32) (la_mood : Nat → Int32) (la_price : Nat → Int32) (p1 : Int32) (p2 : Int32) (p3 : Int32) (p4 : Int32) (la_beasts' : Int32) (la_kind' : Nat → Int32) (la_firstLane' : Nat → Int32) (la_mood' : Nat → Int32) (la_price' : Nat → Int32) (h : f_X2_addBeast la_beasts la_kind la_firstLane la_mood la_price p1 p2 p3 p4 = some (la_beasts', la_kind', la_firstLane', la_mood', la_price')) : Met l yX2_addBeast wo_X2_addBeast ({ frames := 0, cells := 0, slots := 0, locals := 0 }) (wrPc D cy A [.ref a_la, .int p1, .int p2, .int p3, .int p4] ([(a_la, .inr (2, [.int la_lanes, .int la_deep, .int la_lanesTold, la_who, la_firstStrong, .int la_beasts, .ref a_la_kind, .ref a_la_firstLane, .ref a_la_mood, .ref a_la_price, .int la_cities, .int la_passes, la_passBetween, .int la_turned])), (a_la_kind, .inl (cy 1, 5, .inl la_kind)), (a_la_firstLane, .inl (cy 1, 5, .inl la_firstLane)), (a_la_mood, .inl (cy 1, 5, .inl la_mood)), (a_la_price, .inl (cy 1, 5, .inl la_price))] ++ X)) (va_Qv (fun (_ : Unit) => True) (wB D A ([(a_la, .inr (2, [.int la_lanes, .int la_deep, .int la_lanesTold, la_who, la_firstStrong, .int la_beasts', .ref a_la_kind, .ref a_la_firstLane, .ref a_la_mood, .ref a_la_price, .int la_cities, .int la_passes, la_passBetween, .int la_turned])), (a_la_kind, .inl (cy 1, 5, .inl la_kind')), (a_la_firstLane, .inl (cy 1, 5, .inl la_firstLane')), (a_la_mood, .inl (cy 1, 5, .inl la_mood')), (a_la_price, .inl (cy 1, 5, .inl la_price'))] ++ X)) A) 0 0 A := by
  refine Met.ofW (cc := cX2_addBeast) (maxL := 5) (ret := none) (by decide) rfl ?_
  intro p e s m args below meth c s₁ B hml hv
  obtain ⟨rfl, hP, hKN, hD, hA⟩ := hv
  have hK := hKN.1
  have hx := B.exec
  have hb := B.bytes
  have hr := B.returns
  have hts := wt_X2_addBeast hKN.2.2 (([.ref a_la, .int p1, .int p2, .int p3, .int p4] : List Value).toArray)
  have hown : s.vm.findClass RX2 = some m.cls := findClass_of_methodNamed B.named
  have hlocks := B.notSynchronized
  have hS : va_S A s.heap s.heap [] := va_S.rf
  have hX2 := wc_X2 hKN.2.2 (([.ref a_la, .int p1, .int p2, .int p3, .int p4] : List Value).toArray)
  have hl := lv_entry ([.ref a_la, .int p1, .int p2, .int p3, .int p4]) (n := 5) (Nat.le_of_ble_eq_true rfl)
  rw [lg_entry_eq]
  generalize (lg_sl ([.ref a_la, .int p1, .int p2, .int p3, .int p4]) ++ List.replicate (5 - (lg_sl ([.ref a_la, .int p1, .int p2, .int p3, .int p4])).length) Slot.unset).toArray = ls at hl ⊢
  have hl : lv_has ls 5 [(0, .ref a_la), (1, .int p1), (2, .int p2), (3, .int p3), (4, .int p4)] := hl
  unfold f_X2_addBeast at h
  refine lv_aload_n hx hb dX2_addBeast_0 rfl (lv_at hl 0 rfl) ?_
  refine va_get (D := D) (ci := 2) (C := RX2) (T := TX2) (N := 14) (v := .int la_beasts) hx hb hX2 (fun _ q => q) hown hK hP 0 rfl rfl 5 (by decide) (hts (.fieldLink RX2 43 "ElephantLine$Land" "beasts" "I") (by decide +kernel)) (fun _ h9 => h9) rfl dX2_addBeast_1 ?_
  refine lv_iconst (v := 5) hx hb dX2_addBeast_4 (by decide) ?_
  refine lv_icmp_ge (tgt := 59) hx hb dX2_addBeast_5 (by decide) (fun cd => ?_) (fun cd => ?_)
  · have h := ifT cd h
    cases h
    exact W.vret hx hb hr (fun t ht _ => ⟨⟨(), rfl, trivial, by rw [ht]; exact hP, hD⟩, hS.F ht⟩) hS.2.2 dX2_addBeast_59
  · have h := ifF cd h
    refine lv_aload_n hx hb dX2_addBeast_8 rfl (lv_at hl 0 rfl) ?_
    refine va_get (D := D) (ci := 2) (C := RX2) (T := TX2) (N := 14) (v := .ref a_la_kind) hx hb hX2 (fun _ q => q) hown hK hP 0 rfl rfl 6 (by decide) (hts (.fieldLink RX2 18 "ElephantLine$Land" "kind" "[I") (by decide +kernel)) (fun _ h9 => h9) rfl dX2_addBeast_9 ?_
    refine lv_aload_n hx hb dX2_addBeast_12 rfl (lv_at hl 0 rfl) ?_
    refine va_get (D := D) (ci := 2) (C := RX2) (T := TX2) (N := 14) (v := .int la_beasts) hx hb hX2 (fun _ q => q) hown hK hP 0 rfl rfl 5 (by decide) (hts (.fieldLink RX2 43 "ElephantLine$Land" "beasts" "I") (by decide +kernel)) (fun _ h9 => h9) rfl dX2_addBeast_13 ?_
    refine lv_iload_n hx hb dX2_addBeast_16 rfl (lv_at hl 1 rfl) ?_
    obtain ⟨i_1, h⟩ := gIn_some h
    refine va_iast hx hb hK hP hD hS 1 1 rfl rfl i_1 dX2_addBeast_17 (fun H locs hP hD hS => ?_)
    refine lv_aload_n hx hb dX2_addBeast_18 rfl (lv_at hl 0 rfl) ?_
    refine va_get (D := D) (ci := 2) (C := RX2) (T := TX2) (N := 14) (v := .ref a_la_firstLane) hx hb hX2 (fun _ q => q) hown hK hP 0 rfl rfl 7 (by decide) (hts (.fieldLink RX2 21 "ElephantLine$Land" "firstLane" "[I") (by decide +kernel)) (fun _ h9 => h9) rfl dX2_addBeast_19 ?_
    refine lv_aload_n hx hb dX2_addBeast_22 rfl (lv_at hl 0 rfl) ?_
    refine va_get (D := D) (ci := 2) (C := RX2) (T := TX2) (N := 14) (v := .int la_beasts) hx hb hX2 (fun _ q => q) hown hK hP 0 rfl rfl 5 (by decide) (hts (.fieldLink RX2 43 "ElephantLine$Land" "beasts" "I") (by decide +kernel)) (fun _ h9 => h9) rfl dX2_addBeast_23 ?_
    refine lv_iload_n hx hb dX2_addBeast_26 rfl (lv_at hl 2 rfl) ?_
    obtain ⟨i_2, h⟩ := gIn_some h
    refine va_iast hx hb hK hP hD hS 2 1 rfl rfl i_2 dX2_addBeast_27 (fun H locs hP hD hS => ?_)
    refine lv_aload_n hx hb dX2_addBeast_28 rfl (lv_at hl 0 rfl) ?_
    refine va_get (D := D) (ci := 2) (C := RX2) (T := TX2) (N := 14) (v := .ref a_la_mood) hx hb hX2 (fun _ q => q) hown hK hP 0 rfl rfl 8 (by decide) (hts (.fieldLink RX2 24 "ElephantLine$Land" "mood" "[I") (by decide +kernel)) (fun _ h9 => h9) rfl dX2_addBeast_29 ?_
    refine lv_aload_n hx hb dX2_addBeast_32 rfl (lv_at hl 0 rfl) ?_
    refine va_get (D := D) (ci := 2) (C := RX2) (T := TX2) (N := 14) (v := .int la_beasts) hx hb hX2 (fun _ q => q) hown hK hP 0 rfl rfl 5 (by decide) (hts (.fieldLink RX2 43 "ElephantLine$Land" "beasts" "I") (by decide +kernel)) (fun _ h9 => h9) rfl dX2_addBeast_33 ?_
    refine lv_iload_n hx hb dX2_addBeast_36 rfl (lv_at hl 3 rfl) ?_
    obtain ⟨i_3, h⟩ := gIn_some h
    refine va_iast hx hb hK hP hD hS 3 1 rfl rfl i_3 dX2_addBeast_37 (fun H locs hP hD hS => ?_)
    refine lv_aload_n hx hb dX2_addBeast_38 rfl (lv_at hl 0 rfl) ?_
    refine va_get (D := D) (ci := 2) (C := RX2) (T := TX2) (N := 14) (v := .ref a_la_price) hx hb hX2 (fun _ q => q) hown hK hP 0 rfl rfl 9 (by decide) (hts (.fieldLink RX2 27 "ElephantLine$Land" "price" "[I") (by decide +kernel)) (fun _ h9 => h9) rfl dX2_addBeast_39 ?_
    refine lv_aload_n hx hb dX2_addBeast_42 rfl (lv_at hl 0 rfl) ?_
    refine va_get (D := D) (ci := 2) (C := RX2) (T := TX2) (N := 14) (v := .int la_beasts) hx hb hX2 (fun _ q => q) hown hK hP 0 rfl rfl 5 (by decide) (hts (.fieldLink RX2 43 "ElephantLine$Land" "beasts" "I") (by decide +kernel)) (fun _ h9 => h9) rfl dX2_addBeast_43 ?_
    refine lv_iload hx hb dX2_addBeast_46 (lv_at hl 4 rfl) ?_
    obtain ⟨i_4, h⟩ := gIn_some h
    refine va_iast hx hb hK hP hD hS 4 1 rfl rfl i_4 dX2_addBeast_48 (fun H locs hP hD hS => ?_)
    refine lv_aload_n hx hb dX2_addBeast_49 rfl (lv_at hl 0 rfl) ?_
    refine lv_dup hx hb dX2_addBeast_50 rfl ?_
    refine va_get (D := D) (ci := 2) (C := RX2) (T := TX2) (N := 14) (v := .int la_beasts) hx hb hX2 (fun _ q => q) hown hK hP 0 rfl rfl 5 (by decide) (hts (.fieldLink RX2 43 "ElephantLine$Land" "beasts" "I") (by decide +kernel)) (fun _ h9 => h9) rfl dX2_addBeast_51 ?_
    refine lv_iconst (v := 1) hx hb dX2_addBeast_54 (by decide) ?_
    refine lv_iadd hx hb dX2_addBeast_55 ?_
    refine va_put (D := D) (ci := 2) (C := RX2) (T := TX2) (N := 14) (v := .int (la_beasts + 1)) (ty := .int) hx hb hX2 (fun _ q => q) tyX2 tyX2_ok nmX2 hown hK hP hD hS 0 rfl rfl 5 (by decide) (hts (.fieldLink RX2 43 "ElephantLine$Land" "beasts" "I") (by decide +kernel)) (fun _ h9 => h9) rfl (tyX2_ok 5 (by decide)) rfl rfl (Nat.le_of_ble_eq_true rfl) dX2_addBeast_56 (fun H locs hP hD hS => ?_)
    cases h
    exact W.vret hx hb hr (fun t ht _ => ⟨⟨(), rfl, trivial, by rw [ht]; exact hP, hD⟩, hS.F ht⟩) hS.2.2 dX2_addBeast_59
theorem hd_X2_addPass : yX2_addPass.cls = RX2 ∧ yX2_addPass.cls ≠ "java/lang/invoke/MethodHandle" ∧ yX2_addPass.cls ≠ "java/lang/invoke/VarHandle" ∧ (parseMethodDescriptor yX2_addPass.desc).map (fun d => d.parameters.length) = some 3 := by decide +kernel
set_option maxHeartbeats 4000000 in
set_option maxRecDepth 100000 in
theorem c_X2_addPass (l : Launch) (D : va_G) (cy : Nat → ClassId) (A : Nat → Prop) (X : va_W) (a_la a_la_passBetween : Nat) (la_lanes : Int32) (la_deep : Int32) (la_lanesTold : Int32) (la_who : Value) (la_firstStrong : Value) (la_beasts : Int32) (la_kind : Value) (la_firstLane : Value) (la_mood : Value) (la_price : Value) (la_cities : Int32) (la_passes : Int32) (la_turned : Int32) (la_passBetween : Nat → Int32) (p1 : Int32) (p2 : Int32) (p3 : Int32) (la_passes' : Int32) (la_passBetween' : Nat → Int32) (h : f_X2_addPass la_cities la_passes la_passBetween p1 p2 p3 = some (la_passes', la_passBetween')) : Met l yX2_addPass wo_X2_addPass ({ frames := 1, cells := 0, slots := 0, locals := 21 }) (wrPc D cy A [.ref a_la, .int p1, .int p2, .int p3] ([(a_la, .inr (2, [.int la_lanes, .int la_deep, .int la_lanesTold, la_who, la_firstStrong, .int la_beasts, la_kind, la_firstLane, la_mood, la_price, .int la_cities, .int la_passes, .ref a_la_passBetween, .int la_turned])), (a_la_passBetween, .inl (cy 1, 36, .inl la_passBetween))] ++ X)) (va_Qv (fun (_ : Unit) => True) (wB D A ([(a_la, .inr (2, [.int la_lanes, .int la_deep, .int la_lanesTold, la_who, la_firstStrong, .int la_beasts, la_kind, la_firstLane, la_mood, la_price, .int la_cities, .int la_passes', .ref a_la_passBetween, .int la_turned])), (a_la_passBetween, .inl (cy 1, 36, .inl la_passBetween'))] ++ X)) A) 0 0 A := by
  refine Met.ofW (cc := cX2_addPass) (maxL := 4) (ret := none) (by decide) rfl ?_
  intro p e s m args below meth c s₁ B hml hv
  obtain ⟨rfl, hP, hKN, hD, hA⟩ := hv
  have hK := hKN.1
  have hx := B.exec
  have hb := B.bytes
  have hr := B.returns
  have hts := wt_X2_addPass hKN.2.2 (([.ref a_la, .int p1, .int p2, .int p3] : List Value).toArray)
  have hown : s.vm.findClass RX2 = some m.cls := findClass_of_methodNamed B.named
  have hlocks := B.notSynchronized
  have hS : va_S A s.heap s.heap [] := va_S.rf
  have hX2 := wc_X2 hKN.2.2 (([.ref a_la, .int p1, .int p2, .int p3] : List Value).toArray)
  have hl := lv_entry ([.ref a_la, .int p1, .int p2, .int p3]) (n := 4) (Nat.le_of_ble_eq_true rfl)
  rw [lg_entry_eq]
  generalize (lg_sl ([.ref a_la, .int p1, .int p2, .int p3]) ++ List.replicate (4 - (lg_sl ([.ref a_la, .int p1, .int p2, .int p3])).length) Slot.unset).toArray = ls at hl ⊢
  have hl : lv_has ls 4 [(0, .ref a_la), (1, .int p1), (2, .int p2), (3, .int p3)] := hl
  unfold f_X2_addPass at h
  refine lv_aload_n hx hb dX2_addPass_0 rfl (lv_at hl 0 rfl) ?_
  refine lv_iload_n hx hb dX2_addPass_1 rfl (lv_at hl 1 rfl) ?_
  obtain ⟨r_1, hc_2, h⟩ := bd1_some h
  refine kVb [.int p1] [] ⟨hx, hb, hml, hown, hts⟩ (c_X2_hasCity l D cy a_la la_lanes la_deep la_lanesTold (la_who) (la_firstStrong) la_beasts (la_kind) (la_firstLane) (la_mood) (la_price) la_cities la_passes (.ref a_la_passBetween) la_turned p1 r_1 hc_2) gX2_addPass_X2_hasCity rfl hd_X2_hasCity ⟨Nat.le_of_ble_eq_true rfl, Nat.le_of_ble_eq_true rfl⟩ rfl rfl hKN (pXc hP [0] rfl) 2 0 rfl rfl rfl hl.1 rfl (Nat.le_of_ble_eq_true rfl) dX2_addPass_2 ⟨Nat.le_of_ble_eq_true rfl, Nat.le_of_ble_eq_true rfl⟩ (fun nb_3 => ?_)
  refine lv_if_eq (tgt := 54) hx hb dX2_addPass_5 (by decide) (fun cd => ?_) (fun cd => ?_)
  · have h := ifT cd h
    cases h
    exact W.vret hx hb hr (fun t ht _ => ⟨⟨(), rfl, trivial, by rw [ht]; exact hP, hD⟩, hS.F ht⟩) hS.2.2 dX2_addPass_54
  · have h := ifF cd h
    refine lv_aload_n hx hb dX2_addPass_8 rfl (lv_at hl 0 rfl) ?_
    refine lv_iload_n hx hb dX2_addPass_9 rfl (lv_at hl 2 rfl) ?_
    obtain ⟨r_4, hc_5, h⟩ := bd1_some h
    refine kVb [.int p2] [] ⟨hx, hb, hml, hown, hts⟩ (c_X2_hasCity l D cy a_la la_lanes la_deep la_lanesTold (la_who) (la_firstStrong) la_beasts (la_kind) (la_firstLane) (la_mood) (la_price) la_cities la_passes (.ref a_la_passBetween) la_turned p2 r_4 hc_5) gX2_addPass_X2_hasCity rfl hd_X2_hasCity ⟨Nat.le_of_ble_eq_true rfl, Nat.le_of_ble_eq_true rfl⟩ rfl rfl hKN (pXc hP [0] rfl) 2 0 rfl rfl rfl hl.1 rfl (Nat.le_of_ble_eq_true rfl) dX2_addPass_10 ⟨Nat.le_of_ble_eq_true rfl, Nat.le_of_ble_eq_true rfl⟩ (fun nb_6 => ?_)
    refine lv_if_eq (tgt := 54) hx hb dX2_addPass_13 (by decide) (fun cd => ?_) (fun cd => ?_)
    · have h := ifT cd h
      cases h
      exact W.vret hx hb hr (fun t ht _ => ⟨⟨(), rfl, trivial, by rw [ht]; exact hP, hD⟩, hS.F ht⟩) hS.2.2 dX2_addPass_54
    · have h := ifF cd h
      refine lv_aload_n hx hb dX2_addPass_16 rfl (lv_at hl 0 rfl) ?_
      refine va_get (D := D) (ci := 2) (C := RX2) (T := TX2) (N := 14) (v := .ref a_la_passBetween) hx hb hX2 (fun _ q => q) hown hK hP 0 rfl rfl 12 (by decide) (hts (.fieldLink RX2 30 "ElephantLine$Land" "passBetween" "[I") (by decide +kernel)) (fun _ h9 => h9) rfl dX2_addPass_17 ?_
      refine lv_iload_n hx hb dX2_addPass_20 rfl (lv_at hl 1 rfl) ?_
      refine lv_bipush (v := 6) hx hb dX2_addPass_21 (by decide) ?_
      refine lv_imul hx hb dX2_addPass_23 ?_
      refine lv_iload_n hx hb dX2_addPass_24 rfl (lv_at hl 2 rfl) ?_
      refine lv_iadd hx hb dX2_addPass_25 ?_
      refine lv_iload_n hx hb dX2_addPass_26 rfl (lv_at hl 3 rfl) ?_
      refine lv_iconst (v := 1) hx hb dX2_addPass_27 (by decide) ?_
      refine lv_iadd hx hb dX2_addPass_28 ?_
      obtain ⟨i_7, h⟩ := gIn_some h
      refine va_iast hx hb hK hP hD hS 1 1 rfl rfl i_7 dX2_addPass_29 (fun H locs hP hD hS => ?_)
      refine lv_aload_n hx hb dX2_addPass_30 rfl (lv_at hl 0 rfl) ?_
      refine va_get (D := D) (ci := 2) (C := RX2) (T := TX2) (N := 14) (v := .ref a_la_passBetween) hx hb hX2 (fun _ q => q) hown hK hP 0 rfl rfl 12 (by decide) (hts (.fieldLink RX2 30 "ElephantLine$Land" "passBetween" "[I") (by decide +kernel)) (fun _ h9 => h9) rfl dX2_addPass_31 ?_
      refine lv_iload_n hx hb dX2_addPass_34 rfl (lv_at hl 2 rfl) ?_
      refine lv_bipush (v := 6) hx hb dX2_addPass_35 (by decide) ?_
      refine lv_imul hx hb dX2_addPass_37 ?_
      refine lv_iload_n hx hb dX2_addPass_38 rfl (lv_at hl 1 rfl) ?_
      refine lv_iadd hx hb dX2_addPass_39 ?_
      refine lv_iload_n hx hb dX2_addPass_40 rfl (lv_at hl 3 rfl) ?_
      refine lv_iconst (v := 1) hx hb dX2_addPass_41 (by decide) ?_
      refine lv_iadd hx hb dX2_addPass_42 ?_
      obtain ⟨i_8, h⟩ := gIn_some h
      refine va_iast hx hb hK hP hD hS 1 1 rfl rfl i_8 dX2_addPass_43 (fun H locs hP hD hS => ?_)
      refine lv_aload_n hx hb dX2_addPass_44 rfl (lv_at hl 0 rfl) ?_
      refine lv_dup hx hb dX2_addPass_45 rfl ?_
      refine va_get (D := D) (ci := 2) (C := RX2) (T := TX2) (N := 14) (v := .int la_passes) hx hb hX2 (fun _ q => q) hown hK hP 0 rfl rfl 11 (by decide) (hts (.fieldLink RX2 49 "ElephantLine$Land" "passes" "I") (by decide +kernel)) (fun _ h9 => h9) rfl dX2_addPass_46 ?_
      refine lv_iconst (v := 1) hx hb dX2_addPass_49 (by decide) ?_
      refine lv_iadd hx hb dX2_addPass_50 ?_
      refine va_put (D := D) (ci := 2) (C := RX2) (T := TX2) (N := 14) (v := .int (la_passes + 1)) (ty := .int) hx hb hX2 (fun _ q => q) tyX2 tyX2_ok nmX2 hown hK hP hD hS 0 rfl rfl 11 (by decide) (hts (.fieldLink RX2 49 "ElephantLine$Land" "passes" "I") (by decide +kernel)) (fun _ h9 => h9) rfl (tyX2_ok 11 (by decide)) rfl rfl (Nat.le_of_ble_eq_true rfl) dX2_addPass_51 (fun H locs hP hD hS => ?_)
      cases h
      exact W.vret hx hb hr (fun t ht _ => ⟨⟨(), rfl, trivial, by rw [ht]; exact hP, hD⟩, hS.F ht⟩) hS.2.2 dX2_addPass_54
