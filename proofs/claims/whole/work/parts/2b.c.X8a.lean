theorem hd_X8_begin : yX8_begin.cls = RX8 ∧ yX8_begin.cls ≠ "java/lang/invoke/MethodHandle" ∧ yX8_begin.cls ≠ "java/lang/invoke/VarHandle" ∧ (parseMethodDescriptor yX8_begin.desc).map (fun d => d.parameters.length) = some 1 := by decide +kernel
set_option maxHeartbeats 4000000 in
set_option maxRecDepth 100000 in
theorem c_X8_begin (l : Launch) (D : va_G) (cy : Nat → ClassId) (A : Nat → Prop) (X : va_W) (a_la a_la_firstStrong a_la_firstLane a_no a_no_strong a_no_at a_no_wounds : Nat) (la_lanes : Int32) (la_deep : Int32) (la_lanesTold : Int32) (la_who : Value) (la_beasts : Int32) (la_kind : Value) (la_mood : Value) (la_price : Value) (la_cities : Int32) (la_passes : Int32) (la_passBetween : Value) (la_turned : Int32) (la_firstStrong : Nat → Int32) (la_firstLane : Nat → Int32) (no_dead : Int32) (no_wet : Int32) (no_drawn : Int32) (no_strong : Nat → Int32) (no_at : Nat → Int32) (no_wounds : Nat → Int32) (no_dead' : Int32) (no_wet' : Int32) (no_drawn' : Int32) (no_strong' : Nat → Int32) (no_at' : Nat → Int32) (no_wounds' : Nat → Int32) (h : f_X8_begin la_firstStrong la_firstLane no_dead no_wet no_drawn no_strong no_at no_wounds = some (no_dead', no_wet', no_drawn', no_strong', no_at', no_wounds')) : Met l yX8_begin wo_X8_begin ({ frames := 1, cells := 0, slots := 0, locals := 18 }) (wrPc D cy A [.ref a_no, .ref a_la] ([(a_la, .inr (2, [.int la_lanes, .int la_deep, .int la_lanesTold, la_who, .ref a_la_firstStrong, .int la_beasts, la_kind, .ref a_la_firstLane, la_mood, la_price, .int la_cities, .int la_passes, la_passBetween, .int la_turned])), (a_la_firstStrong, .inl (cy 1, 6, .inl la_firstStrong)), (a_la_firstLane, .inl (cy 1, 5, .inl la_firstLane)), (a_no, .inr (8, [.ref a_no_strong, .ref a_no_at, .ref a_no_wounds, .int no_dead, .int no_wet, .int no_drawn])), (a_no_strong, .inl (cy 1, 6, .inl no_strong)), (a_no_at, .inl (cy 1, 5, .inl no_at)), (a_no_wounds, .inl (cy 1, 5, .inl no_wounds))] ++ X)) (va_Qv (fun (_ : Unit) => True) (wB D A ([(a_la, .inr (2, [.int la_lanes, .int la_deep, .int la_lanesTold, la_who, .ref a_la_firstStrong, .int la_beasts, la_kind, .ref a_la_firstLane, la_mood, la_price, .int la_cities, .int la_passes, la_passBetween, .int la_turned])), (a_la_firstStrong, .inl (cy 1, 6, .inl la_firstStrong)), (a_la_firstLane, .inl (cy 1, 5, .inl la_firstLane)), (a_no, .inr (8, [.ref a_no_strong, .ref a_no_at, .ref a_no_wounds, .int no_dead', .int no_wet', .int no_drawn'])), (a_no_strong, .inl (cy 1, 6, .inl no_strong')), (a_no_at, .inl (cy 1, 5, .inl no_at')), (a_no_wounds, .inl (cy 1, 5, .inl no_wounds'))] ++ X)) A) 0 0 A := by
  refine Met.ofW (cc := cX8_begin) (maxL := 3) (ret := none) (by decide) rfl ?_
  intro p e s m args below meth c s₁ B hml hv
  obtain ⟨rfl, hP, hKN, hD, hA⟩ := hv
  have hK := hKN.1
  have hx := B.exec
  have hb := B.bytes
  have hr := B.returns
  have hts := wt_X8_begin hKN.2.2 (([.ref a_no, .ref a_la] : List Value).toArray)
  have hown : s.vm.findClass RX8 = some m.cls := findClass_of_methodNamed B.named
  have hlocks := B.notSynchronized
  have hS : va_S A s.heap s.heap [] := va_S.rf
  have hX2 := wc_X2 hKN.2.2 (([.ref a_no, .ref a_la] : List Value).toArray)
  have hX8 := wc_X8 hKN.2.2 (([.ref a_no, .ref a_la] : List Value).toArray)
  have hl := lv_entry ([.ref a_no, .ref a_la]) (n := 3) (Nat.le_of_ble_eq_true rfl)
  rw [lg_entry_eq]
  generalize (lg_sl ([.ref a_no, .ref a_la]) ++ List.replicate (3 - (lg_sl ([.ref a_no, .ref a_la])).length) Slot.unset).toArray = ls at hl ⊢
  have hl : lv_has ls 3 [(0, .ref a_no), (1, .ref a_la)] := hl
  unfold f_X8_begin at h
  refine lv_aload_n hx hb dX8_begin_0 rfl (lv_at hl 1 rfl) ?_
  refine va_getN (D := D) (ci := 2) (C := RX2) (T := TX2) (N := 14) (v := .ref a_la_firstStrong) hx hb hX2 (fun _ q => q) hown hK hP 0 rfl rfl 4 (by decide) (va_Nw.use rfl (hKN.2.1.1 ("ElephantLine$Stand", 21, "ElephantLine$Land", "firstStrong", "[I", "ElephantLine") (List.mem_of_getElem? (i := 13) rfl))) (fun _ h9 => h9) rfl dX8_begin_1 ?_
  refine lv_iconst (v := 0) hx hb dX8_begin_4 (by decide) ?_
  refine lv_aload_n hx hb dX8_begin_5 rfl (lv_at hl 0 rfl) ?_
  refine va_get (D := D) (ci := 8) (C := RX8) (T := TX8) (N := 6) (v := .ref a_no_strong) hx hb hX8 (fun _ q => q) hown hK hP 3 rfl rfl 0 (by decide) (hts (.fieldLink RX8 9 "ElephantLine$Stand" "strong" "[I") (by decide +kernel)) (fun _ h9 => h9) rfl dX8_begin_6 ?_
  refine lv_iconst (v := 0) hx hb dX8_begin_9 (by decide) ?_
  refine lv_bipush (v := 6) hx hb dX8_begin_10 (by decide) ?_
  refine va_copyi hx hb (hml.trans hl.1.symm) hown (hts (.methodLink RX8 26 arraycopyName) (by decide +kernel)) (hts (.native arraycopyName) (by decide +kernel)) (hts (.static arraycopyName) (by decide +kernel)) (hts (.initialized "java/lang/System") (by decide +kernel)) hK hP hD hS 1 4 1 1 rfl rfl rfl rfl rfl (by decide) (by decide) (by decide) (by decide) (by decide) (fun _ _ => rfl) (Nat.le_of_ble_eq_true rfl) (Nat.le_of_ble_eq_true rfl) dX8_begin_12 (fun H locs hP hD hS => ?_)
  refine lv_aload_n hx hb dX8_begin_15 rfl (lv_at hl 1 rfl) ?_
  refine va_getN (D := D) (ci := 2) (C := RX2) (T := TX2) (N := 14) (v := .ref a_la_firstLane) hx hb hX2 (fun _ q => q) hown hK hP 0 rfl rfl 7 (by decide) (va_Nw.use rfl (hKN.2.1.1 ("ElephantLine$Stand", 32, "ElephantLine$Land", "firstLane", "[I", "ElephantLine") (List.mem_of_getElem? (i := 24) rfl))) (fun _ h9 => h9) rfl dX8_begin_16 ?_
  refine lv_iconst (v := 0) hx hb dX8_begin_19 (by decide) ?_
  refine lv_aload_n hx hb dX8_begin_20 rfl (lv_at hl 0 rfl) ?_
  refine va_get (D := D) (ci := 8) (C := RX8) (T := TX8) (N := 6) (v := .ref a_no_at) hx hb hX8 (fun _ q => q) hown hK hP 3 rfl rfl 1 (by decide) (hts (.fieldLink RX8 15 "ElephantLine$Stand" "at" "[I") (by decide +kernel)) (fun _ h9 => h9) rfl dX8_begin_21 ?_
  refine lv_iconst (v := 0) hx hb dX8_begin_24 (by decide) ?_
  refine lv_iconst (v := 5) hx hb dX8_begin_25 (by decide) ?_
  refine va_copyi hx hb (hml.trans hl.1.symm) hown (hts (.methodLink RX8 26 arraycopyName) (by decide +kernel)) (hts (.native arraycopyName) (by decide +kernel)) (hts (.static arraycopyName) (by decide +kernel)) (hts (.initialized "java/lang/System") (by decide +kernel)) hK hP hD hS 2 5 1 1 rfl rfl rfl rfl rfl (by decide) (by decide) (by decide) (by decide) (by decide) (fun _ _ => rfl) (Nat.le_of_ble_eq_true rfl) (Nat.le_of_ble_eq_true rfl) dX8_begin_26 (fun H locs hP hD hS => ?_)
  refine lv_iconst (v := 0) hx hb dX8_begin_29 (by decide) ?_
  refine lv_istore_n (lv' := [(2, .int 0), (0, .ref a_no), (1, .ref a_la)]) hx hb dX8_begin_30 rfl hl (by decide) rfl (fun ls hl => ?_)
  have jn49 : ∀ (no_wounds_1 : Nat → Int32), f_X8_begin_B49 la_firstStrong la_firstLane no_dead no_wet no_drawn (va_cpy la_firstStrong no_strong ((0 : Int32).toNatClampNeg) ((0 : Int32).toNatClampNeg) ((6 : Int32).toNatClampNeg)) (va_cpy la_firstLane no_at ((0 : Int32).toNatClampNeg) ((0 : Int32).toNatClampNeg) ((5 : Int32).toNatClampNeg)) no_wounds_1 = some (no_dead', no_wet', no_drawn', no_strong', no_at', no_wounds') → ∀ (H : Heap) (locs : List Loc), va_P D vwCl ([(a_la, .inr (2, [.int la_lanes, .int la_deep, .int la_lanesTold, la_who, .ref a_la_firstStrong, .int la_beasts, la_kind, .ref a_la_firstLane, la_mood, la_price, .int la_cities, .int la_passes, la_passBetween, .int la_turned])), (a_la_firstStrong, .inl (cy 1, 6, .inl la_firstStrong)), (a_la_firstLane, .inl (cy 1, 5, .inl la_firstLane)), (a_no, .inr (8, [.ref a_no_strong, .ref a_no_at, .ref a_no_wounds, .int no_dead, .int no_wet, .int no_drawn])), (a_no_strong, .inl (cy 1, 6, .inl (va_cpy la_firstStrong no_strong ((0 : Int32).toNatClampNeg) ((0 : Int32).toNatClampNeg) ((6 : Int32).toNatClampNeg)))), (a_no_at, .inl (cy 1, 5, .inl (va_cpy la_firstLane no_at ((0 : Int32).toNatClampNeg) ((0 : Int32).toNatClampNeg) ((5 : Int32).toNatClampNeg)))), (a_no_wounds, .inl (cy 1, 5, .inl no_wounds_1))] ++ X) H → va_D A ([(a_la, .inr (2, [.int la_lanes, .int la_deep, .int la_lanesTold, la_who, .ref a_la_firstStrong, .int la_beasts, la_kind, .ref a_la_firstLane, la_mood, la_price, .int la_cities, .int la_passes, la_passBetween, .int la_turned])), (a_la_firstStrong, .inl (cy 1, 6, .inl la_firstStrong)), (a_la_firstLane, .inl (cy 1, 5, .inl la_firstLane)), (a_no, .inr (8, [.ref a_no_strong, .ref a_no_at, .ref a_no_wounds, .int no_dead, .int no_wet, .int no_drawn])), (a_no_strong, .inl (cy 1, 6, .inl (va_cpy la_firstStrong no_strong ((0 : Int32).toNatClampNeg) ((0 : Int32).toNatClampNeg) ((6 : Int32).toNatClampNeg)))), (a_no_at, .inl (cy 1, 5, .inl (va_cpy la_firstLane no_at ((0 : Int32).toNatClampNeg) ((0 : Int32).toNatClampNeg) ((5 : Int32).toNatClampNeg)))), (a_no_wounds, .inl (cy 1, 5, .inl no_wounds_1))] ++ X) → va_S A s.heap H locs → ∀ ls : Array Slot, lv_has ls 3 [(0, .ref a_no)] → W p l e (headSpec wo_X8_begin ({ frames := 1, cells := 0, slots := 0, locals := 18 })).room s m (([.ref a_no, .ref a_la] : List Value).toArray) below meth c H locs 0 0 (MQ below (va_Qv (fun (_ : Unit) => True) (wB D A ([(a_la, .inr (2, [.int la_lanes, .int la_deep, .int la_lanesTold, la_who, .ref a_la_firstStrong, .int la_beasts, la_kind, .ref a_la_firstLane, la_mood, la_price, .int la_cities, .int la_passes, la_passBetween, .int la_turned])), (a_la_firstStrong, .inl (cy 1, 6, .inl la_firstStrong)), (a_la_firstLane, .inl (cy 1, 5, .inl la_firstLane)), (a_no, .inr (8, [.ref a_no_strong, .ref a_no_at, .ref a_no_wounds, .int no_dead', .int no_wet', .int no_drawn'])), (a_no_strong, .inl (cy 1, 6, .inl no_strong')), (a_no_at, .inl (cy 1, 5, .inl no_at')), (a_no_wounds, .inl (cy 1, 5, .inl no_wounds'))] ++ X)) A) (([.ref a_no, .ref a_la] : List Value).toArray) s 0 0 A) (F0 m 49 ls []) := by
    intro no_wounds_1 h H locs hP hD hS ls hl
    unfold f_X8_begin_B49 at h
    refine lv_aload_n hx hb dX8_begin_49 rfl (lv_at hl 0 rfl) ?_
    refine lv_iconst (v := 0) hx hb dX8_begin_50 (by decide) ?_
    refine va_put (D := D) (ci := 8) (C := RX8) (T := TX8) (N := 6) (v := .int 0) (ty := .int) hx hb hX8 (fun _ q => q) tyX8 tyX8_ok nmX8 hown hK hP hD hS 3 rfl rfl 3 (by decide) (hts (.fieldLink RX8 35 "ElephantLine$Stand" "dead" "I") (by decide +kernel)) (fun _ h9 => h9) rfl (tyX8_ok 3 (by decide)) rfl rfl (Nat.le_of_ble_eq_true rfl) dX8_begin_51 (fun H locs hP hD hS => ?_)
    refine lv_aload_n hx hb dX8_begin_54 rfl (lv_at hl 0 rfl) ?_
    refine lv_iconst (v := 0) hx hb dX8_begin_55 (by decide) ?_
    refine va_put (D := D) (ci := 8) (C := RX8) (T := TX8) (N := 6) (v := .int 0) (ty := .boolean) hx hb hX8 (fun _ q => q) tyX8 tyX8_ok nmX8 hown hK hP hD hS 3 rfl rfl 4 (by decide) (hts (.fieldLink RX8 39 "ElephantLine$Stand" "wet" "Z") (by decide +kernel)) (fun _ h9 => h9) rfl (tyX8_ok 4 (by decide)) (nbv.n nbv_0) (nbv.f nbv_0) (Nat.le_of_ble_eq_true rfl) dX8_begin_56 (fun H locs hP hD hS => ?_)
    refine lv_aload_n hx hb dX8_begin_59 rfl (lv_at hl 0 rfl) ?_
    refine lv_iconst (v := 0) hx hb dX8_begin_60 (by decide) ?_
    refine va_put (D := D) (ci := 8) (C := RX8) (T := TX8) (N := 6) (v := .int 0) (ty := .int) hx hb hX8 (fun _ q => q) tyX8 tyX8_ok nmX8 hown hK hP hD hS 3 rfl rfl 5 (by decide) (hts (.fieldLink RX8 43 "ElephantLine$Stand" "drawn" "I") (by decide +kernel)) (fun _ h9 => h9) rfl (tyX8_ok 5 (by decide)) rfl rfl (Nat.le_of_ble_eq_true rfl) dX8_begin_61 (fun H locs hP hD hS => ?_)
    cases h
    exact W.vret hx hb hr (fun t ht _ => ⟨⟨(), rfl, trivial, by rw [ht]; exact hP, hD⟩, hS.F ht⟩) hS.2.2 dX8_begin_64
  have lp31 : ∀ (n31 : Nat) (x2_2 : Int32) (no_wounds_3 : Nat → Int32), f_X8_begin_L31 la_firstStrong la_firstLane no_dead no_wet no_drawn (va_cpy la_firstStrong no_strong ((0 : Int32).toNatClampNeg) ((0 : Int32).toNatClampNeg) ((6 : Int32).toNatClampNeg)) (va_cpy la_firstLane no_at ((0 : Int32).toNatClampNeg) ((0 : Int32).toNatClampNeg) ((5 : Int32).toNatClampNeg)) n31 x2_2 no_wounds_3 = some (no_dead', no_wet', no_drawn', no_strong', no_at', no_wounds') → ∀ (H : Heap) (locs : List Loc), va_P D vwCl ([(a_la, .inr (2, [.int la_lanes, .int la_deep, .int la_lanesTold, la_who, .ref a_la_firstStrong, .int la_beasts, la_kind, .ref a_la_firstLane, la_mood, la_price, .int la_cities, .int la_passes, la_passBetween, .int la_turned])), (a_la_firstStrong, .inl (cy 1, 6, .inl la_firstStrong)), (a_la_firstLane, .inl (cy 1, 5, .inl la_firstLane)), (a_no, .inr (8, [.ref a_no_strong, .ref a_no_at, .ref a_no_wounds, .int no_dead, .int no_wet, .int no_drawn])), (a_no_strong, .inl (cy 1, 6, .inl (va_cpy la_firstStrong no_strong ((0 : Int32).toNatClampNeg) ((0 : Int32).toNatClampNeg) ((6 : Int32).toNatClampNeg)))), (a_no_at, .inl (cy 1, 5, .inl (va_cpy la_firstLane no_at ((0 : Int32).toNatClampNeg) ((0 : Int32).toNatClampNeg) ((5 : Int32).toNatClampNeg)))), (a_no_wounds, .inl (cy 1, 5, .inl no_wounds_3))] ++ X) H → va_D A ([(a_la, .inr (2, [.int la_lanes, .int la_deep, .int la_lanesTold, la_who, .ref a_la_firstStrong, .int la_beasts, la_kind, .ref a_la_firstLane, la_mood, la_price, .int la_cities, .int la_passes, la_passBetween, .int la_turned])), (a_la_firstStrong, .inl (cy 1, 6, .inl la_firstStrong)), (a_la_firstLane, .inl (cy 1, 5, .inl la_firstLane)), (a_no, .inr (8, [.ref a_no_strong, .ref a_no_at, .ref a_no_wounds, .int no_dead, .int no_wet, .int no_drawn])), (a_no_strong, .inl (cy 1, 6, .inl (va_cpy la_firstStrong no_strong ((0 : Int32).toNatClampNeg) ((0 : Int32).toNatClampNeg) ((6 : Int32).toNatClampNeg)))), (a_no_at, .inl (cy 1, 5, .inl (va_cpy la_firstLane no_at ((0 : Int32).toNatClampNeg) ((0 : Int32).toNatClampNeg) ((5 : Int32).toNatClampNeg)))), (a_no_wounds, .inl (cy 1, 5, .inl no_wounds_3))] ++ X) → va_S A s.heap H locs → ∀ ls : Array Slot, lv_has ls 3 [(0, .ref a_no), (2, .int x2_2)] → W p l e (headSpec wo_X8_begin ({ frames := 1, cells := 0, slots := 0, locals := 18 })).room s m (([.ref a_no, .ref a_la] : List Value).toArray) below meth c H locs 0 0 (MQ below (va_Qv (fun (_ : Unit) => True) (wB D A ([(a_la, .inr (2, [.int la_lanes, .int la_deep, .int la_lanesTold, la_who, .ref a_la_firstStrong, .int la_beasts, la_kind, .ref a_la_firstLane, la_mood, la_price, .int la_cities, .int la_passes, la_passBetween, .int la_turned])), (a_la_firstStrong, .inl (cy 1, 6, .inl la_firstStrong)), (a_la_firstLane, .inl (cy 1, 5, .inl la_firstLane)), (a_no, .inr (8, [.ref a_no_strong, .ref a_no_at, .ref a_no_wounds, .int no_dead', .int no_wet', .int no_drawn'])), (a_no_strong, .inl (cy 1, 6, .inl no_strong')), (a_no_at, .inl (cy 1, 5, .inl no_at')), (a_no_wounds, .inl (cy 1, 5, .inl no_wounds'))] ++ X)) A) (([.ref a_no, .ref a_la] : List Value).toArray) s 0 0 A) (F0 m 31 ls []) := by
    intro n31
    induction n31 with
    | zero => intro x2_2 no_wounds_3 h; exact absurd (show (none : Option (Int32 × Int32 × Int32 × (Nat → Int32) × (Nat → Int32) × (Nat → Int32))) = some _ from h) (by intro q; cases q)
    | succ n31 ih31 =>
      intro x2_2 no_wounds_3 h H locs hP hD hS ls hl
      have h : f_X8_begin_b31 la_firstStrong la_firstLane no_dead no_wet no_drawn (va_cpy la_firstStrong no_strong ((0 : Int32).toNatClampNeg) ((0 : Int32).toNatClampNeg) ((6 : Int32).toNatClampNeg)) (va_cpy la_firstLane no_at ((0 : Int32).toNatClampNeg) ((0 : Int32).toNatClampNeg) ((5 : Int32).toNatClampNeg)) (f_X8_begin_L31 la_firstStrong la_firstLane no_dead no_wet no_drawn (va_cpy la_firstStrong no_strong ((0 : Int32).toNatClampNeg) ((0 : Int32).toNatClampNeg) ((6 : Int32).toNatClampNeg)) (va_cpy la_firstLane no_at ((0 : Int32).toNatClampNeg) ((0 : Int32).toNatClampNeg) ((5 : Int32).toNatClampNeg)) n31) x2_2 no_wounds_3 = some (no_dead', no_wet', no_drawn', no_strong', no_at', no_wounds') := h
      unfold f_X8_begin_b31 at h
      refine lv_iload_n hx hb dX8_begin_31 rfl (lv_at hl 1 rfl) ?_
      refine lv_iconst (v := 5) hx hb dX8_begin_32 (by decide) ?_
      refine lv_icmp_ge (tgt := 49) hx hb dX8_begin_33 (by decide) (fun cd => ?_) (fun cd => ?_)
      · have h := ifT cd h
        exact jn49 no_wounds_3 h _ _ hP hD hS _ (lv_sub hl [0] rfl)
      · have h := ifF cd h
        refine lv_aload_n hx hb dX8_begin_36 rfl (lv_at hl 0 rfl) ?_
        refine va_get (D := D) (ci := 8) (C := RX8) (T := TX8) (N := 6) (v := .ref a_no_wounds) hx hb hX8 (fun _ q => q) hown hK hP 3 rfl rfl 2 (by decide) (hts (.fieldLink RX8 18 "ElephantLine$Stand" "wounds" "[I") (by decide +kernel)) (fun _ h9 => h9) rfl dX8_begin_37 ?_
        refine lv_iload_n hx hb dX8_begin_40 rfl (lv_at hl 1 rfl) ?_
        refine lv_iconst (v := 0) hx hb dX8_begin_41 (by decide) ?_
        obtain ⟨i_4, h⟩ := gIn_some h
        refine va_iast hx hb hK hP hD hS 6 1 rfl rfl i_4 dX8_begin_42 (fun H locs hP hD hS => ?_)
        refine lv_iinc (v := x2_2 + 1) (lv' := [(2, .int (x2_2 + 1)), (0, .ref a_no)]) hx hb dX8_begin_43 hl (k := 1) rfl (by first | rfl | decide) (by decide) rfl (fun ls hl => ?_)
        refine lv_goto (tgt := 31) hx hb dX8_begin_46 (by decide) ?_
        exact ih31 (x2_2 + 1) (upd no_wounds_3 x2_2.toNatClampNeg 0) h _ _ hP hD hS _ (lv_sub hl [1, 0] rfl)
  exact lp31 fuelN (0 : Int32) no_wounds h _ _ hP hD hS _ (lv_sub hl [1, 0] rfl)
theorem hd_X8_copyOf : yX8_copyOf.cls = RX8 ∧ yX8_copyOf.cls ≠ "java/lang/invoke/MethodHandle" ∧ yX8_copyOf.cls ≠ "java/lang/invoke/VarHandle" ∧ (parseMethodDescriptor yX8_copyOf.desc).map (fun d => d.parameters.length) = some 1 := by decide +kernel
set_option maxHeartbeats 4000000 in
set_option maxRecDepth 100000 in
theorem c_X8_copyOf (l : Launch) (D : va_G) (cy : Nat → ClassId) (A : Nat → Prop) (X : va_W) (a_no a_no_strong a_no_at a_no_wounds a_so a_so_strong a_so_at a_so_wounds : Nat) (no_dead : Int32) (no_wet : Int32) (no_drawn : Int32) (no_strong : Nat → Int32) (no_at : Nat → Int32) (no_wounds : Nat → Int32) (so_dead : Int32) (so_wet : Int32) (so_drawn : Int32) (so_strong : Nat → Int32) (so_at : Nat → Int32) (so_wounds : Nat → Int32) (no_dead' : Int32) (no_wet' : Int32) (no_drawn' : Int32) (no_strong' : Nat → Int32) (no_at' : Nat → Int32) (no_wounds' : Nat → Int32) (h : f_X8_copyOf no_dead no_wet no_drawn no_strong no_at no_wounds so_dead so_wet so_drawn so_strong so_at so_wounds = some (no_dead', no_wet', no_drawn', no_strong', no_at', no_wounds')) (hnb_so_wet : nbv so_wet) : Met l yX8_copyOf wo_X8_copyOf ({ frames := 1, cells := 0, slots := 0, locals := 18 }) (wrPc D cy A [.ref a_no, .ref a_so] ([(a_no, .inr (8, [.ref a_no_strong, .ref a_no_at, .ref a_no_wounds, .int no_dead, .int no_wet, .int no_drawn])), (a_no_strong, .inl (cy 1, 6, .inl no_strong)), (a_no_at, .inl (cy 1, 5, .inl no_at)), (a_no_wounds, .inl (cy 1, 5, .inl no_wounds)), (a_so, .inr (8, [.ref a_so_strong, .ref a_so_at, .ref a_so_wounds, .int so_dead, .int so_wet, .int so_drawn])), (a_so_strong, .inl (cy 1, 6, .inl so_strong)), (a_so_at, .inl (cy 1, 5, .inl so_at)), (a_so_wounds, .inl (cy 1, 5, .inl so_wounds))] ++ X)) (va_Qv (fun (_ : Unit) => True) (wB D A ([(a_no, .inr (8, [.ref a_no_strong, .ref a_no_at, .ref a_no_wounds, .int no_dead', .int no_wet', .int no_drawn'])), (a_no_strong, .inl (cy 1, 6, .inl no_strong')), (a_no_at, .inl (cy 1, 5, .inl no_at')), (a_no_wounds, .inl (cy 1, 5, .inl no_wounds')), (a_so, .inr (8, [.ref a_so_strong, .ref a_so_at, .ref a_so_wounds, .int so_dead, .int so_wet, .int so_drawn])), (a_so_strong, .inl (cy 1, 6, .inl so_strong)), (a_so_at, .inl (cy 1, 5, .inl so_at)), (a_so_wounds, .inl (cy 1, 5, .inl so_wounds))] ++ X)) A) 0 0 A := by
  refine Met.ofW (cc := cX8_copyOf) (maxL := 2) (ret := none) (by decide) rfl ?_
  intro p e s m args below meth c s₁ B hml hv
  obtain ⟨rfl, hP, hKN, hD, hA⟩ := hv
  have hK := hKN.1
  have hx := B.exec
  have hb := B.bytes
  have hr := B.returns
  have hts := wt_X8_copyOf hKN.2.2 (([.ref a_no, .ref a_so] : List Value).toArray)
  have hown : s.vm.findClass RX8 = some m.cls := findClass_of_methodNamed B.named
  have hlocks := B.notSynchronized
  have hS : va_S A s.heap s.heap [] := va_S.rf
  have hX8 := wc_X8 hKN.2.2 (([.ref a_no, .ref a_so] : List Value).toArray)
  have hl := lv_entry ([.ref a_no, .ref a_so]) (n := 2) (Nat.le_of_ble_eq_true rfl)
  rw [lg_entry_eq]
  generalize (lg_sl ([.ref a_no, .ref a_so]) ++ List.replicate (2 - (lg_sl ([.ref a_no, .ref a_so])).length) Slot.unset).toArray = ls at hl ⊢
  have hl : lv_has ls 2 [(0, .ref a_no), (1, .ref a_so)] := hl
  unfold f_X8_copyOf at h
  refine lv_aload_n hx hb dX8_copyOf_0 rfl (lv_at hl 1 rfl) ?_
  refine va_get (D := D) (ci := 8) (C := RX8) (T := TX8) (N := 6) (v := .ref a_so_strong) hx hb hX8 (fun _ q => q) hown hK hP 4 rfl rfl 0 (by decide) (hts (.fieldLink RX8 9 "ElephantLine$Stand" "strong" "[I") (by decide +kernel)) (fun _ h9 => h9) rfl dX8_copyOf_1 ?_
  refine lv_iconst (v := 0) hx hb dX8_copyOf_4 (by decide) ?_
  refine lv_aload_n hx hb dX8_copyOf_5 rfl (lv_at hl 0 rfl) ?_
  refine va_get (D := D) (ci := 8) (C := RX8) (T := TX8) (N := 6) (v := .ref a_no_strong) hx hb hX8 (fun _ q => q) hown hK hP 0 rfl rfl 0 (by decide) (hts (.fieldLink RX8 9 "ElephantLine$Stand" "strong" "[I") (by decide +kernel)) (fun _ h9 => h9) rfl dX8_copyOf_6 ?_
  refine lv_iconst (v := 0) hx hb dX8_copyOf_9 (by decide) ?_
  refine lv_bipush (v := 6) hx hb dX8_copyOf_10 (by decide) ?_
  refine va_copyi hx hb (hml.trans hl.1.symm) hown (hts (.methodLink RX8 26 arraycopyName) (by decide +kernel)) (hts (.native arraycopyName) (by decide +kernel)) (hts (.static arraycopyName) (by decide +kernel)) (hts (.initialized "java/lang/System") (by decide +kernel)) hK hP hD hS 5 1 1 1 rfl rfl rfl rfl rfl (by decide) (by decide) (by decide) (by decide) (by decide) (fun _ _ => rfl) (Nat.le_of_ble_eq_true rfl) (Nat.le_of_ble_eq_true rfl) dX8_copyOf_12 (fun H locs hP hD hS => ?_)
  refine lv_aload_n hx hb dX8_copyOf_15 rfl (lv_at hl 1 rfl) ?_
  refine va_get (D := D) (ci := 8) (C := RX8) (T := TX8) (N := 6) (v := .ref a_so_at) hx hb hX8 (fun _ q => q) hown hK hP 4 rfl rfl 1 (by decide) (hts (.fieldLink RX8 15 "ElephantLine$Stand" "at" "[I") (by decide +kernel)) (fun _ h9 => h9) rfl dX8_copyOf_16 ?_
  refine lv_iconst (v := 0) hx hb dX8_copyOf_19 (by decide) ?_
  refine lv_aload_n hx hb dX8_copyOf_20 rfl (lv_at hl 0 rfl) ?_
  refine va_get (D := D) (ci := 8) (C := RX8) (T := TX8) (N := 6) (v := .ref a_no_at) hx hb hX8 (fun _ q => q) hown hK hP 0 rfl rfl 1 (by decide) (hts (.fieldLink RX8 15 "ElephantLine$Stand" "at" "[I") (by decide +kernel)) (fun _ h9 => h9) rfl dX8_copyOf_21 ?_
  refine lv_iconst (v := 0) hx hb dX8_copyOf_24 (by decide) ?_
  refine lv_iconst (v := 5) hx hb dX8_copyOf_25 (by decide) ?_
  refine va_copyi hx hb (hml.trans hl.1.symm) hown (hts (.methodLink RX8 26 arraycopyName) (by decide +kernel)) (hts (.native arraycopyName) (by decide +kernel)) (hts (.static arraycopyName) (by decide +kernel)) (hts (.initialized "java/lang/System") (by decide +kernel)) hK hP hD hS 6 2 1 1 rfl rfl rfl rfl rfl (by decide) (by decide) (by decide) (by decide) (by decide) (fun _ _ => rfl) (Nat.le_of_ble_eq_true rfl) (Nat.le_of_ble_eq_true rfl) dX8_copyOf_26 (fun H locs hP hD hS => ?_)
  refine lv_aload_n hx hb dX8_copyOf_29 rfl (lv_at hl 1 rfl) ?_
  refine va_get (D := D) (ci := 8) (C := RX8) (T := TX8) (N := 6) (v := .ref a_so_wounds) hx hb hX8 (fun _ q => q) hown hK hP 4 rfl rfl 2 (by decide) (hts (.fieldLink RX8 18 "ElephantLine$Stand" "wounds" "[I") (by decide +kernel)) (fun _ h9 => h9) rfl dX8_copyOf_30 ?_
  refine lv_iconst (v := 0) hx hb dX8_copyOf_33 (by decide) ?_
  refine lv_aload_n hx hb dX8_copyOf_34 rfl (lv_at hl 0 rfl) ?_
  refine va_get (D := D) (ci := 8) (C := RX8) (T := TX8) (N := 6) (v := .ref a_no_wounds) hx hb hX8 (fun _ q => q) hown hK hP 0 rfl rfl 2 (by decide) (hts (.fieldLink RX8 18 "ElephantLine$Stand" "wounds" "[I") (by decide +kernel)) (fun _ h9 => h9) rfl dX8_copyOf_35 ?_
  refine lv_iconst (v := 0) hx hb dX8_copyOf_38 (by decide) ?_
  refine lv_iconst (v := 5) hx hb dX8_copyOf_39 (by decide) ?_
  refine va_copyi hx hb (hml.trans hl.1.symm) hown (hts (.methodLink RX8 26 arraycopyName) (by decide +kernel)) (hts (.native arraycopyName) (by decide +kernel)) (hts (.static arraycopyName) (by decide +kernel)) (hts (.initialized "java/lang/System") (by decide +kernel)) hK hP hD hS 7 3 1 1 rfl rfl rfl rfl rfl (by decide) (by decide) (by decide) (by decide) (by decide) (fun _ _ => rfl) (Nat.le_of_ble_eq_true rfl) (Nat.le_of_ble_eq_true rfl) dX8_copyOf_40 (fun H locs hP hD hS => ?_)
  refine lv_aload_n hx hb dX8_copyOf_43 rfl (lv_at hl 0 rfl) ?_
  refine lv_aload_n hx hb dX8_copyOf_44 rfl (lv_at hl 1 rfl) ?_
  refine va_get (D := D) (ci := 8) (C := RX8) (T := TX8) (N := 6) (v := .int so_dead) hx hb hX8 (fun _ q => q) hown hK hP 4 rfl rfl 3 (by decide) (hts (.fieldLink RX8 35 "ElephantLine$Stand" "dead" "I") (by decide +kernel)) (fun _ h9 => h9) rfl dX8_copyOf_45 ?_
  refine va_put (D := D) (ci := 8) (C := RX8) (T := TX8) (N := 6) (v := .int so_dead) (ty := .int) hx hb hX8 (fun _ q => q) tyX8 tyX8_ok nmX8 hown hK hP hD hS 0 rfl rfl 3 (by decide) (hts (.fieldLink RX8 35 "ElephantLine$Stand" "dead" "I") (by decide +kernel)) (fun _ h9 => h9) rfl (tyX8_ok 3 (by decide)) rfl rfl (Nat.le_of_ble_eq_true rfl) dX8_copyOf_48 (fun H locs hP hD hS => ?_)
  refine lv_aload_n hx hb dX8_copyOf_51 rfl (lv_at hl 0 rfl) ?_
  refine lv_aload_n hx hb dX8_copyOf_52 rfl (lv_at hl 1 rfl) ?_
  refine va_get (D := D) (ci := 8) (C := RX8) (T := TX8) (N := 6) (v := .int so_wet) hx hb hX8 (fun _ q => q) hown hK hP 4 rfl rfl 4 (by decide) (hts (.fieldLink RX8 39 "ElephantLine$Stand" "wet" "Z") (by decide +kernel)) (fun _ h9 => h9) rfl dX8_copyOf_53 ?_
  refine va_put (D := D) (ci := 8) (C := RX8) (T := TX8) (N := 6) (v := .int so_wet) (ty := .boolean) hx hb hX8 (fun _ q => q) tyX8 tyX8_ok nmX8 hown hK hP hD hS 0 rfl rfl 4 (by decide) (hts (.fieldLink RX8 39 "ElephantLine$Stand" "wet" "Z") (by decide +kernel)) (fun _ h9 => h9) rfl (tyX8_ok 4 (by decide)) (nbv.n hnb_so_wet) (nbv.f hnb_so_wet) (Nat.le_of_ble_eq_true rfl) dX8_copyOf_56 (fun H locs hP hD hS => ?_)
  refine lv_aload_n hx hb dX8_copyOf_59 rfl (lv_at hl 0 rfl) ?_
  refine lv_aload_n hx hb dX8_copyOf_60 rfl (lv_at hl 1 rfl) ?_
  refine va_get (D := D) (ci := 8) (C := RX8) (T := TX8) (N := 6) (v := .int so_drawn) hx hb hX8 (fun _ q => q) hown hK hP 4 rfl rfl 5 (by decide) (hts (.fieldLink RX8 43 "ElephantLine$Stand" "drawn" "I") (by decide +kernel)) (fun _ h9 => h9) rfl dX8_copyOf_61 ?_
  refine va_put (D := D) (ci := 8) (C := RX8) (T := TX8) (N := 6) (v := .int so_drawn) (ty := .int) hx hb hX8 (fun _ q => q) tyX8 tyX8_ok nmX8 hown hK hP hD hS 0 rfl rfl 5 (by decide) (hts (.fieldLink RX8 43 "ElephantLine$Stand" "drawn" "I") (by decide +kernel)) (fun _ h9 => h9) rfl (tyX8_ok 5 (by decide)) rfl rfl (Nat.le_of_ble_eq_true rfl) dX8_copyOf_64 (fun H locs hP hD hS => ?_)
  cases h
  exact W.vret hx hb hr (fun t ht _ => ⟨⟨(), rfl, trivial, by rw [ht]; exact hP, hD⟩, hS.F ht⟩) hS.2.2 dX8_copyOf_67
theorem hd_X8_isDead : yX8_isDead.cls = RX8 ∧ yX8_isDead.cls ≠ "java/lang/invoke/MethodHandle" ∧ yX8_isDead.cls ≠ "java/lang/invoke/VarHandle" ∧ (parseMethodDescriptor yX8_isDead.desc).map (fun d => d.parameters.length) = some 1 := by decide +kernel
set_option maxHeartbeats 4000000 in
set_option maxRecDepth 100000 in
theorem c_X8_isDead (l : Launch) (D : va_G) (cy : Nat → ClassId) (a_no : Nat) (no_strong : Value) (no_at : Value) (no_wounds : Value) (no_dead : Int32) (no_wet : Int32) (no_drawn : Int32) (p1 : Int32) (res : Int32) (h : f_X8_isDead no_dead p1 = some (res)) : Met l yX8_isDead wo_X8_isDead ({ frames := 0, cells := 0, slots := 0, locals := 0 }) (roPc D cy [.ref a_no, .int p1] [(a_no, .inr (8, [no_strong, no_at, no_wounds, .int no_dead, .int no_wet, .int no_drawn]))]) (vp_Si (fun r => r = res ∧ nbv r)) 0 0 (fun _ => False) := by
  refine Met.ofW (cc := cX8_isDead) (maxL := 2) (ret := (some .boolean)) (by decide) rfl ?_
  intro p e s m args below meth c s₁ B hml hv
  obtain ⟨rfl, hP, hKN⟩ := hv
  have hK := hKN.1
  have hx := B.exec
  have hb := B.bytes
  have hr := B.returns
  have hts := wt_X8_isDead hKN.2.2 (([.ref a_no, .int p1] : List Value).toArray)
  have hown : s.vm.findClass RX8 = some m.cls := findClass_of_methodNamed B.named
  have hlocks := B.notSynchronized
  have hX8 := wc_X8 hKN.2.2 (([.ref a_no, .int p1] : List Value).toArray)
  have hl := lv_entry ([.ref a_no, .int p1]) (n := 2) (Nat.le_of_ble_eq_true rfl)
  rw [lg_entry_eq]
  generalize (lg_sl ([.ref a_no, .int p1]) ++ List.replicate (2 - (lg_sl ([.ref a_no, .int p1])).length) Slot.unset).toArray = ls at hl ⊢
  have hl : lv_has ls 2 [(0, .ref a_no), (1, .int p1)] := hl
  unfold f_X8_isDead at h
  refine lv_aload_n hx hb dX8_isDead_0 rfl (lv_at hl 0 rfl) ?_
  refine va_get (D := D) (ci := 8) (C := RX8) (T := TX8) (N := 6) (v := .int no_dead) hx hb hX8 (fun _ q => q) hown hK hP 0 rfl rfl 3 (by decide) (hts (.fieldLink RX8 35 "ElephantLine$Stand" "dead" "I") (by decide +kernel)) (fun _ h9 => h9) rfl dX8_isDead_1 ?_
  refine lv_iload_n hx hb dX8_isDead_4 rfl (lv_at hl 1 rfl) ?_
  refine lv_ishr hx hb dX8_isDead_5 ?_
  refine lv_iconst (v := 1) hx hb dX8_isDead_6 (by decide) ?_
  refine lv_iand hx hb dX8_isDead_7 ?_
  refine lv_iconst (v := 1) hx hb dX8_isDead_8 (by decide) ?_
  refine lv_icmp_ne (tgt := 16) hx hb dX8_isDead_9 (by decide) (fun cd => ?_) (fun cd => ?_)
  · have h := ifF cd h
    refine lv_iconst (v := 0) hx hb dX8_isDead_16 (by decide) ?_
    exact W.zret (ty := .boolean) (v := 0) hx hb hr (nbv.n nbv_0) (fun t ht _ => ⟨_, rfl, ⟨Option.some.inj h, nbv_0⟩, ht⟩) (fun _ q => by cases q) dX8_isDead_17
  · have h := ifT cd h
    refine lv_iconst (v := 1) hx hb dX8_isDead_12 (by decide) ?_
    refine lv_goto (tgt := 17) hx hb dX8_isDead_13 (by decide) ?_
    exact W.zret (ty := .boolean) (v := 1) hx hb hr (nbv.n nbv_1) (fun t ht _ => ⟨_, rfl, ⟨Option.some.inj h, nbv_1⟩, ht⟩) (fun _ q => by cases q) dX8_isDead_17
theorem hd_X8_livingIn : yX8_livingIn.cls = RX8 ∧ yX8_livingIn.cls ≠ "java/lang/invoke/MethodHandle" ∧ yX8_livingIn.cls ≠ "java/lang/invoke/VarHandle" ∧ (parseMethodDescriptor yX8_livingIn.desc).map (fun d => d.parameters.length) = some 2 := by decide +kernel
set_option maxHeartbeats 4000000 in
set_option maxRecDepth 100000 in
theorem c_X8_livingIn (l : Launch) (D : va_G) (cy : Nat → ClassId) (a_no a_no_at : Nat) (no_strong : Value) (no_wounds : Value) (no_dead : Int32) (no_wet : Int32) (no_drawn : Int32) (no_at : Nat → Int32) (p1 : Int32) (p2 : Int32) (res : Int32) (h : f_X8_livingIn no_dead no_at p1 p2 = some (res)) : Met l yX8_livingIn wo_X8_livingIn ({ frames := 1, cells := 0, slots := 0, locals := 21 }) (roPc D cy [.ref a_no, .int p1, .int p2] [(a_no, .inr (8, [no_strong, .ref a_no_at, no_wounds, .int no_dead, .int no_wet, .int no_drawn])), (a_no_at, .inl (cy 1, 5, .inl no_at))]) (vp_Si (fun r => r = res)) 0 0 (fun _ => False) := by
  refine Met.ofW (cc := cX8_livingIn) (maxL := 5) (ret := (some .int)) (by decide) rfl ?_
  intro p e s m args below meth c s₁ B hml hv
  obtain ⟨rfl, hP, hKN⟩ := hv
  have hK := hKN.1
  have hx := B.exec
  have hb := B.bytes
  have hr := B.returns
  have hts := wt_X8_livingIn hKN.2.2 (([.ref a_no, .int p1, .int p2] : List Value).toArray)
  have hown : s.vm.findClass RX8 = some m.cls := findClass_of_methodNamed B.named
  have hlocks := B.notSynchronized
  have hX8 := wc_X8 hKN.2.2 (([.ref a_no, .int p1, .int p2] : List Value).toArray)
  have hl := lv_entry ([.ref a_no, .int p1, .int p2]) (n := 5) (Nat.le_of_ble_eq_true rfl)
  rw [lg_entry_eq]
  generalize (lg_sl ([.ref a_no, .int p1, .int p2]) ++ List.replicate (5 - (lg_sl ([.ref a_no, .int p1, .int p2])).length) Slot.unset).toArray = ls at hl ⊢
  have hl : lv_has ls 5 [(0, .ref a_no), (1, .int p1), (2, .int p2)] := hl
  unfold f_X8_livingIn at h
  refine lv_iconst (v := 0) hx hb dX8_livingIn_0 (by decide) ?_
  refine lv_istore_n (lv' := [(3, .int 0), (0, .ref a_no), (1, .int p1), (2, .int p2)]) hx hb dX8_livingIn_1 rfl hl (by decide) rfl (fun ls hl => ?_)
  refine lv_iconst (v := 0) hx hb dX8_livingIn_2 (by decide) ?_
  refine lv_istore (lv' := [(4, .int 0), (3, .int 0), (0, .ref a_no), (1, .int p1), (2, .int p2)]) hx hb dX8_livingIn_3 hl (by decide) rfl (fun ls hl => ?_)
  have lp5 : ∀ (n5 : Nat) (x3_1 : Int32) (x4_2 : Int32), f_X8_livingIn_L5 no_dead no_at p1 p2 n5 x3_1 x4_2 = some (res) → ∀ ls : Array Slot, lv_has ls 5 [(0, .ref a_no), (1, .int p1), (2, .int p2), (3, .int x3_1), (4, .int x4_2)] → W p l e (headSpec wo_X8_livingIn ({ frames := 1, cells := 0, slots := 0, locals := 21 })).room s m (([.ref a_no, .int p1, .int p2] : List Value).toArray) below meth c s.heap [] 0 0 (MQ below (vp_Si (fun r => r = res)) (([.ref a_no, .int p1, .int p2] : List Value).toArray) s 0 0 (fun _ => False)) (F0 m 5 ls []) := by
    intro n5
    induction n5 with
    | zero => intro x3_1 x4_2 h; exact absurd (show (none : Option (Int32)) = some _ from h) (by intro q; cases q)
    | succ n5 ih5 =>
      intro x3_1 x4_2 h ls hl
      have h : f_X8_livingIn_b5 no_dead no_at p1 p2 (f_X8_livingIn_L5 no_dead no_at p1 p2 n5) x3_1 x4_2 = some (res) := h
      unfold f_X8_livingIn_b5 at h
      refine lv_iload hx hb dX8_livingIn_5 (lv_at hl 4 rfl) ?_
      refine lv_iload_n hx hb dX8_livingIn_7 rfl (lv_at hl 2 rfl) ?_
      refine lv_icmp_ge (tgt := 50) hx hb dX8_livingIn_8 (by decide) (fun cd => ?_) (fun cd => ?_)
      · have h := ifT cd h
        refine lv_iload_n hx hb dX8_livingIn_50 rfl (lv_at hl 3 rfl) ?_
        exact W.iret (v := x3_1) hx hb hr (fun t ht _ => ⟨_, rfl, Option.some.inj h, ht⟩) (fun _ q => by cases q) dX8_livingIn_51
      · have h := ifF cd h
        refine lv_iload hx hb dX8_livingIn_11 (lv_at hl 4 rfl) ?_
        refine lv_iconst (v := 5) hx hb dX8_livingIn_13 (by decide) ?_
        refine lv_icmp_ge (tgt := 50) hx hb dX8_livingIn_14 (by decide) (fun cd => ?_) (fun cd => ?_)
        · have h := ifT cd h
          refine lv_iload_n hx hb dX8_livingIn_50 rfl (lv_at hl 3 rfl) ?_
          exact W.iret (v := x3_1) hx hb hr (fun t ht _ => ⟨_, rfl, Option.some.inj h, ht⟩) (fun _ q => by cases q) dX8_livingIn_51
        · have h := ifF cd h
          refine lv_aload_n hx hb dX8_livingIn_17 rfl (lv_at hl 0 rfl) ?_
          refine va_get (D := D) (ci := 8) (C := RX8) (T := TX8) (N := 6) (v := .ref a_no_at) hx hb hX8 (fun _ q => q) hown hK hP 0 rfl rfl 1 (by decide) (hts (.fieldLink RX8 15 "ElephantLine$Stand" "at" "[I") (by decide +kernel)) (fun _ h9 => h9) rfl dX8_livingIn_18 ?_
          refine lv_iload hx hb dX8_livingIn_21 (lv_at hl 4 rfl) ?_
          obtain ⟨i_3, h⟩ := gIn_some h
          refine va_iald hx hb hK hP 1 1 rfl rfl i_3 dX8_livingIn_23 ?_
          refine lv_iload_n hx hb dX8_livingIn_24 rfl (lv_at hl 1 rfl) ?_
          have jn44 : ∀ (x3_4 : Int32), f_X8_livingIn_B44 (f_X8_livingIn_L5 no_dead no_at p1 p2 n5) no_dead no_at p1 p2 x3_4 x4_2 = some (res) → ∀ ls : Array Slot, lv_has ls 5 [(0, .ref a_no), (1, .int p1), (2, .int p2), (3, .int x3_4), (4, .int x4_2)] → W p l e (headSpec wo_X8_livingIn ({ frames := 1, cells := 0, slots := 0, locals := 21 })).room s m (([.ref a_no, .int p1, .int p2] : List Value).toArray) below meth c s.heap [] 0 0 (MQ below (vp_Si (fun r => r = res)) (([.ref a_no, .int p1, .int p2] : List Value).toArray) s 0 0 (fun _ => False)) (F0 m 44 ls []) := by
            intro x3_4 h ls hl
            unfold f_X8_livingIn_B44 at h
            refine lv_iinc (v := x4_2 + 1) (lv' := [(4, .int (x4_2 + 1)), (0, .ref a_no), (1, .int p1), (2, .int p2), (3, .int x3_4)]) hx hb dX8_livingIn_44 hl (k := 4) rfl (by first | rfl | decide) (by decide) rfl (fun ls hl => ?_)
            refine lv_goto (tgt := 5) hx hb dX8_livingIn_47 (by decide) ?_
            exact ih5 x3_4 (x4_2 + 1) h _ (lv_sub hl [1, 2, 3, 4, 0] rfl)
          refine lv_icmp_ne (tgt := 44) hx hb dX8_livingIn_25 (by decide) (fun cd => ?_) (fun cd => ?_)
          · have h := ifF cd h
            exact jn44 x3_1 h _ (lv_sub hl [0, 1, 2, 3, 4] rfl)
          · have h := ifT cd h
            refine lv_aload_n hx hb dX8_livingIn_28 rfl (lv_at hl 0 rfl) ?_
            refine lv_iload hx hb dX8_livingIn_29 (lv_at hl 4 rfl) ?_
            obtain ⟨r_5, hc_6, h⟩ := bd1_some h
            refine kVb [.int x4_2] [] ⟨hx, hb, hml, hown, hts⟩ (c_X8_isDead l D cy a_no (no_strong) (.ref a_no_at) (no_wounds) no_dead no_wet no_drawn x4_2 r_5 hc_6) gX8_livingIn_X8_isDead rfl hd_X8_isDead ⟨Nat.le_of_ble_eq_true rfl, Nat.le_of_ble_eq_true rfl⟩ rfl rfl hKN (hP.sub [0] rfl) 8 0 rfl rfl rfl hl.1 rfl (Nat.le_of_ble_eq_true rfl) dX8_livingIn_31 ⟨Nat.le_of_ble_eq_true rfl, Nat.le_of_ble_eq_true rfl⟩ (fun nb_7 => ?_)
            refine lv_if_ne (tgt := 44) hx hb dX8_livingIn_34 (by decide) (fun cd => ?_) (fun cd => ?_)
            · have h := ifF cd h
              exact jn44 x3_1 h _ (lv_sub hl [0, 1, 2, 3, 4] rfl)
            · have h := ifT cd h
              refine lv_iload_n hx hb dX8_livingIn_37 rfl (lv_at hl 3 rfl) ?_
              refine lv_iconst (v := 1) hx hb dX8_livingIn_38 (by decide) ?_
              refine lv_iload hx hb dX8_livingIn_39 (lv_at hl 4 rfl) ?_
              refine lv_ishl hx hb dX8_livingIn_41 ?_
              refine lv_ior hx hb dX8_livingIn_42 ?_
              refine lv_istore_n (lv' := [(3, .int (x3_1 ||| ((1 : Int32) <<< (x4_2 &&& 31)))), (0, .ref a_no), (1, .int p1), (2, .int p2), (4, .int x4_2)]) hx hb dX8_livingIn_43 rfl hl (by decide) rfl (fun ls hl => ?_)
              exact jn44 (x3_1 ||| ((1 : Int32) <<< (x4_2 &&& 31))) h _ (lv_sub hl [1, 2, 3, 0, 4] rfl)
  exact lp5 fuelN (0 : Int32) (0 : Int32) h _ (lv_sub hl [2, 3, 4, 1, 0] rfl)
