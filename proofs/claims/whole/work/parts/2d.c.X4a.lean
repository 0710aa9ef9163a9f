theorem hd_X4_firstForce : yX4_firstForce.cls ≠ "java/lang/invoke/MethodHandle" ∧ yX4_firstForce.cls ≠ "java/lang/invoke/VarHandle" ∧ (parseMethodDescriptor yX4_firstForce.desc).map (fun d => d.parameters.length) = some 1 := by decide +kernel
set_option maxHeartbeats 4000000 in
set_option maxRecDepth 100000 in
theorem c_X4_firstForce (l : Launch) (D : va_G) (cy : Nat → ClassId) (p0 : Int32) (res : Int32) (h : f_X4_firstForce  p0 = some (res)) : Met l yX4_firstForce wo_X4_firstForce ({ frames := 0, cells := 0, slots := 0, locals := 0 }) (roPc D cy [.int p0] []) (vp_Si (fun r => r = res)) 0 0 (fun _ => False) := by
  refine Met.ofW (cc := cX4_firstForce) (maxL := 1) (ret := (some .int)) (by decide) rfl ?_
  intro p e s m args below meth c s₁ B hml hv
  obtain ⟨rfl, hP, hKN⟩ := hv
  have hK := hKN.1
  have hx := B.exec
  have hb := B.bytes
  have hr := B.returns
  have hts := wt_X4_firstForce hKN.2.2 (([.int p0] : List Value).toArray)
  have hown : s.vm.findClass RX4 = some m.cls := findClass_of_methodNamed B.named
  have hlocks := B.notSynchronized
  have hl := lv_entry ([.int p0]) (n := 1) (Nat.le_of_ble_eq_true rfl)
  rw [lg_entry_eq]
  generalize (lg_sl ([.int p0]) ++ List.replicate (1 - (lg_sl ([.int p0])).length) Slot.unset).toArray = ls at hl ⊢
  have hl : lv_has ls 1 [(0, .int p0)] := hl
  unfold f_X4_firstForce at h
  refine lv_iload_n hx hb dX4_firstForce_0 rfl (lv_at hl 0 rfl) ?_
  refine lv_iconst (v := 1) hx hb dX4_firstForce_1 (by decide) ?_
  refine lv_icmp_ne (tgt := 9) hx hb dX4_firstForce_2 (by decide) (fun cd => ?_) (fun cd => ?_)
  · have h := ifF cd h
    refine lv_iload_n hx hb dX4_firstForce_9 rfl (lv_at hl 0 rfl) ?_
    refine lv_iconst (v := 2) hx hb dX4_firstForce_10 (by decide) ?_
    refine lv_icmp_ne (tgt := 19) hx hb dX4_firstForce_11 (by decide) (fun cd => ?_) (fun cd => ?_)
    · have h := ifF cd h
      refine lv_iload_n hx hb dX4_firstForce_19 rfl (lv_at hl 0 rfl) ?_
      refine lv_iconst (v := 3) hx hb dX4_firstForce_20 (by decide) ?_
      refine lv_icmp_ne (tgt := 29) hx hb dX4_firstForce_21 (by decide) (fun cd => ?_) (fun cd => ?_)
      · have h := ifF cd h
        refine lv_bipush (v := 20) hx hb dX4_firstForce_29 (by decide) ?_
        exact W.iret (v := 20) hx hb hr (fun t ht _ => ⟨_, rfl, Option.some.inj h, ht⟩) (fun _ q => by cases q) dX4_firstForce_31
      · have h := ifT cd h
        refine lv_bipush (v := 25) hx hb dX4_firstForce_24 (by decide) ?_
        refine lv_goto (tgt := 31) hx hb dX4_firstForce_26 (by decide) ?_
        exact W.iret (v := 25) hx hb hr (fun t ht _ => ⟨_, rfl, Option.some.inj h, ht⟩) (fun _ q => by cases q) dX4_firstForce_31
    · have h := ifT cd h
      refine lv_bipush (v := 30) hx hb dX4_firstForce_14 (by decide) ?_
      refine lv_goto (tgt := 31) hx hb dX4_firstForce_16 (by decide) ?_
      exact W.iret (v := 30) hx hb hr (fun t ht _ => ⟨_, rfl, Option.some.inj h, ht⟩) (fun _ q => by cases q) dX4_firstForce_31
  · have h := ifT cd h
    refine lv_iconst (v := 5) hx hb dX4_firstForce_5 (by decide) ?_
    refine lv_goto (tgt := 31) hx hb dX4_firstForce_6 (by decide) ?_
    exact W.iret (v := 5) hx hb hr (fun t ht _ => ⟨_, rfl, Option.some.inj h, ht⟩) (fun _ q => by cases q) dX4_firstForce_31
theorem hd_X4_holdBy : yX4_holdBy.cls ≠ "java/lang/invoke/MethodHandle" ∧ yX4_holdBy.cls ≠ "java/lang/invoke/VarHandle" ∧ (parseMethodDescriptor yX4_holdBy.desc).map (fun d => d.parameters.length) = some 3 := by decide +kernel
set_option maxHeartbeats 4000000 in
set_option maxRecDepth 100000 in
theorem c_X4_holdBy (l : Launch) (D : va_G) (cy : Nat → ClassId) (p0 : Int32) (p1 : Int32) (p2 : Int32) (res : Int32) (h : f_X4_holdBy  p0 p1 p2 = some (res)) : Met l yX4_holdBy wo_X4_holdBy ({ frames := 1, cells := 0, slots := 0, locals := 14 }) (roPc D cy [.int p0, .int p1, .int p2] []) (vp_Si (fun r => r = res)) 0 0 (fun _ => False) := by
  refine Met.ofW (cc := cX4_holdBy) (maxL := 3) (ret := (some .int)) (by decide) rfl ?_
  intro p e s m args below meth c s₁ B hml hv
  obtain ⟨rfl, hP, hKN⟩ := hv
  have hK := hKN.1
  have hx := B.exec
  have hb := B.bytes
  have hr := B.returns
  have hts := wt_X4_holdBy hKN.2.2 (([.int p0, .int p1, .int p2] : List Value).toArray)
  have hown : s.vm.findClass RX4 = some m.cls := findClass_of_methodNamed B.named
  have hlocks := B.notSynchronized
  have hl := lv_entry ([.int p0, .int p1, .int p2]) (n := 3) (Nat.le_of_ble_eq_true rfl)
  rw [lg_entry_eq]
  generalize (lg_sl ([.int p0, .int p1, .int p2]) ++ List.replicate (3 - (lg_sl ([.int p0, .int p1, .int p2])).length) Slot.unset).toArray = ls at hl ⊢
  have hl : lv_has ls 3 [(0, .int p0), (1, .int p1), (2, .int p2)] := hl
  unfold f_X4_holdBy at h
  refine lv_iload_n hx hb dX4_holdBy_0 rfl (lv_at hl 0 rfl) ?_
  by_cases sw_1 : p0 = 1
  · have h := ifT sw_1 h
    refine lv_tableIn (tgt := 28) hx hb dX4_holdBy_1 (by rw [sw_1]; decide) (by rw [sw_1]; decide) (by rw [sw_1]; rfl) (by decide) ?_
    refine lv_iconst (v := 0) hx hb dX4_holdBy_28 (by decide) ?_
    refine lv_iload_n hx hb dX4_holdBy_29 rfl (lv_at hl 1 rfl) ?_
    refine lv_bipush (v := 20) hx hb dX4_holdBy_30 (by decide) ?_
    refine lv_isub hx hb dX4_holdBy_32 ?_
    refine va_mmax hx hb (hml.trans hl.1.symm) hown (hts (.methodLink RX4 19 Lib.Math.max.name) (by decide +kernel)) (hts (.static Lib.Math.max.name) (by decide +kernel)) (hts (.initialized "java/lang/Math") (by decide +kernel)) (hts (.code Lib.Math.max.name Lib.Math.max.code 2 (some .int)) (by decide +kernel)) (Nat.le_of_ble_eq_true rfl) (Nat.le_of_ble_eq_true rfl) (Nat.le_of_ble_eq_true rfl) (Nat.le_of_ble_eq_true rfl) dX4_holdBy_33 ?_
    exact W.iret (v := if (0 : Int32) < (p1 - 20) then p1 - 20 else 0) hx hb hr (fun t ht _ => ⟨_, rfl, Option.some.inj h, ht⟩) (fun _ q => by cases q) dX4_holdBy_36
  · have h := ifF sw_1 h
    by_cases sw_2 : p0 = 2
    · have h := ifT sw_2 h
      refine lv_tableIn (tgt := 37) hx hb dX4_holdBy_1 (by rw [sw_2]; decide) (by rw [sw_2]; decide) (by rw [sw_2]; rfl) (by decide) ?_
      refine lv_bipush (v := 100) hx hb dX4_holdBy_37 (by decide) ?_
      refine lv_iload_n hx hb dX4_holdBy_39 rfl (lv_at hl 1 rfl) ?_
      refine lv_bipush (v := 20) hx hb dX4_holdBy_40 (by decide) ?_
      refine lv_iadd hx hb dX4_holdBy_42 ?_
      refine va_mmin hx hb (hml.trans hl.1.symm) hown (hts (.methodLink RX4 25 Lib.Math.min.name) (by decide +kernel)) (hts (.static Lib.Math.min.name) (by decide +kernel)) (hts (.initialized "java/lang/Math") (by decide +kernel)) (hts (.code Lib.Math.min.name Lib.Math.min.code 2 (some .int)) (by decide +kernel)) (Nat.le_of_ble_eq_true rfl) (Nat.le_of_ble_eq_true rfl) (Nat.le_of_ble_eq_true rfl) (Nat.le_of_ble_eq_true rfl) dX4_holdBy_43 ?_
      exact W.iret (v := if (p1 + 20) < 100 then p1 + 20 else 100) hx hb hr (fun t ht _ => ⟨_, rfl, Option.some.inj h, ht⟩) (fun _ q => by cases q) dX4_holdBy_46
    · have h := ifF sw_2 h
      by_cases sw_3 : p0 = 3
      · have h := ifT sw_3 h
        refine lv_tableIn (tgt := 47) hx hb dX4_holdBy_1 (by rw [sw_3]; decide) (by rw [sw_3]; decide) (by rw [sw_3]; rfl) (by decide) ?_
        refine lv_iload_n hx hb dX4_holdBy_47 rfl (lv_at hl 2 rfl) ?_
        refine lv_if_eq (tgt := 57) hx hb dX4_holdBy_48 (by decide) (fun cd => ?_) (fun cd => ?_)
        · have h := ifT cd h
          refine lv_iload_n hx hb dX4_holdBy_57 rfl (lv_at hl 1 rfl) ?_
          exact W.iret (v := p1) hx hb hr (fun t ht _ => ⟨_, rfl, Option.some.inj h, ht⟩) (fun _ q => by cases q) dX4_holdBy_58
        · have h := ifF cd h
          refine lv_iload_n hx hb dX4_holdBy_51 rfl (lv_at hl 1 rfl) ?_
          refine lv_iconst (v := 2) hx hb dX4_holdBy_52 (by decide) ?_
          refine lv_idiv hx hb dX4_holdBy_53 (by decide) ?_
          refine lv_goto (tgt := 58) hx hb dX4_holdBy_54 (by decide) ?_
          exact W.iret (v := p1 / 2) hx hb hr (fun t ht _ => ⟨_, rfl, Option.some.inj h, ht⟩) (fun _ q => by cases q) dX4_holdBy_58
      · have h := ifF sw_3 h
        refine lv_tableOut (tgt := 59) hx hb dX4_holdBy_1 (by have q0 := sw_ne sw_1; have q1 := sw_ne sw_2; have q2 := sw_ne sw_3; rw [show (1 : Int32).toInt = 1 from rfl] at q0; rw [show (2 : Int32).toInt = 2 from rfl] at q1; rw [show (3 : Int32).toInt = 3 from rfl] at q2; omega) (by decide) ?_
        refine lv_iload_n hx hb dX4_holdBy_59 rfl (lv_at hl 1 rfl) ?_
        exact W.iret (v := p1) hx hb hr (fun t ht _ => ⟨_, rfl, Option.some.inj h, ht⟩) (fun _ q => by cases q) dX4_holdBy_60
theorem hd_X4_forceOf : yX4_forceOf.cls = RX4 ∧ yX4_forceOf.cls ≠ "java/lang/invoke/MethodHandle" ∧ yX4_forceOf.cls ≠ "java/lang/invoke/VarHandle" ∧ (parseMethodDescriptor yX4_forceOf.desc).map (fun d => d.parameters.length) = some 1 := by decide +kernel
set_option maxHeartbeats 4000000 in
set_option maxRecDepth 100000 in
theorem c_X4_forceOf (l : Launch) (D : va_G) (cy : Nat → ClassId) (a_la a_la_kind a_no a_no_wounds a_od : Nat) (la_lanes : Int32) (la_deep : Int32) (la_lanesTold : Int32) (la_who : Value) (la_firstStrong : Value) (la_beasts : Int32) (la_firstLane : Value) (la_mood : Value) (la_price : Value) (la_cities : Int32) (la_passes : Int32) (la_passBetween : Value) (la_turned : Int32) (la_kind : Nat → Int32) (no_strong : Value) (no_at : Value) (no_dead : Int32) (no_wet : Int32) (no_drawn : Int32) (no_wounds : Nat → Int32) (p1 : Int32) (res : Int32) (h : f_X4_forceOf la_kind no_dead no_wounds p1 = some (res)) : Met l yX4_forceOf wo_X4_forceOf ({ frames := 1, cells := 0, slots := 0, locals := 21 }) (roPc D cy [.ref a_od, .int p1] [(a_la, .inr (2, [.int la_lanes, .int la_deep, .int la_lanesTold, la_who, la_firstStrong, .int la_beasts, .ref a_la_kind, la_firstLane, la_mood, la_price, .int la_cities, .int la_passes, la_passBetween, .int la_turned])), (a_la_kind, .inl (cy 1, 5, .inl la_kind)), (a_no, .inr (8, [no_strong, no_at, .ref a_no_wounds, .int no_dead, .int no_wet, .int no_drawn])), (a_no_wounds, .inl (cy 1, 5, .inl no_wounds)), (a_od, .inr (4, [.ref a_la, .ref a_no]))]) (vp_Si (fun r => r = res)) 0 0 (fun _ => False) := by
  refine Met.ofW (cc := cX4_forceOf) (maxL := 2) (ret := (some .int)) (by decide) rfl ?_
  intro p e s m args below meth c s₁ B hml hv
  obtain ⟨rfl, hP, hKN⟩ := hv
  have hK := hKN.1
  have hx := B.exec
  have hb := B.bytes
  have hr := B.returns
  have hts := wt_X4_forceOf hKN.2.2 (([.ref a_od, .int p1] : List Value).toArray)
  have hown : s.vm.findClass RX4 = some m.cls := findClass_of_methodNamed B.named
  have hlocks := B.notSynchronized
  have hX2 := wc_X2 hKN.2.2 (([.ref a_od, .int p1] : List Value).toArray)
  have hX4 := wc_X4 hKN.2.2 (([.ref a_od, .int p1] : List Value).toArray)
  have hX8 := wc_X8 hKN.2.2 (([.ref a_od, .int p1] : List Value).toArray)
  have hl := lv_entry ([.ref a_od, .int p1]) (n := 2) (Nat.le_of_ble_eq_true rfl)
  rw [lg_entry_eq]
  generalize (lg_sl ([.ref a_od, .int p1]) ++ List.replicate (2 - (lg_sl ([.ref a_od, .int p1])).length) Slot.unset).toArray = ls at hl ⊢
  have hl : lv_has ls 2 [(0, .ref a_od), (1, .int p1)] := hl
  unfold f_X4_forceOf at h
  refine lv_aload_n hx hb dX4_forceOf_0 rfl (lv_at hl 0 rfl) ?_
  refine va_get (D := D) (ci := 4) (C := RX4) (T := TX4) (N := 2) (v := .ref a_no) hx hb hX4 (fun _ q => q) hown hK hP 4 rfl rfl 1 (by decide) (hts (.fieldLink RX4 15 "ElephantLine$Odds" "now" "LElephantLine$Stand;") (by decide +kernel)) (fun _ h9 => h9) rfl dX4_forceOf_1 ?_
  refine lv_iload_n hx hb dX4_forceOf_4 rfl (lv_at hl 1 rfl) ?_
  obtain ⟨r_1, hc_2, h⟩ := bd1_some h
  refine kVb [.int p1] [] ⟨hx, hb, hml, hown, hts⟩ (c_X8_isDead l D cy a_no (no_strong) (no_at) (.ref a_no_wounds) no_dead no_wet no_drawn p1 r_1 hc_2) gX4_forceOf_X8_isDead rfl hd_X8_isDead ⟨Nat.le_of_ble_eq_true rfl, Nat.le_of_ble_eq_true rfl⟩ rfl rfl hKN (hP.sub [2] rfl) 8 0 rfl rfl rfl hl.1 rfl (Nat.le_of_ble_eq_true rfl) dX4_forceOf_5 ⟨Nat.le_of_ble_eq_true rfl, Nat.le_of_ble_eq_true rfl⟩ (fun nb_3 => ?_)
  refine lv_if_eq (tgt := 15) hx hb dX4_forceOf_8 (by decide) (fun cd => ?_) (fun cd => ?_)
  · have h := ifT cd h
    refine lv_iconst (v := 0) hx hb dX4_forceOf_15 (by decide) ?_
    refine lv_aload_n hx hb dX4_forceOf_16 rfl (lv_at hl 0 rfl) ?_
    refine va_get (D := D) (ci := 4) (C := RX4) (T := TX4) (N := 2) (v := .ref a_la) hx hb hX4 (fun _ q => q) hown hK hP 4 rfl rfl 0 (by decide) (hts (.fieldLink RX4 9 "ElephantLine$Odds" "land" "LElephantLine$Land;") (by decide +kernel)) (fun _ h9 => h9) rfl dX4_forceOf_17 ?_
    refine va_getN (D := D) (ci := 2) (C := RX2) (T := TX2) (N := 14) (v := .ref a_la_kind) hx hb hX2 (fun _ q => q) hown hK hP 0 rfl rfl 6 (by decide) (va_Nw.use rfl (hKN.2.1.1 ("ElephantLine$Odds", 34, "ElephantLine$Land", "kind", "[I", "ElephantLine") (List.mem_of_getElem? (i := 21) rfl))) (fun _ h9 => h9) rfl dX4_forceOf_20 ?_
    refine lv_iload_n hx hb dX4_forceOf_23 rfl (lv_at hl 1 rfl) ?_
    obtain ⟨i_4, h⟩ := gIn_some h
    refine va_iald hx hb hK hP 1 1 rfl rfl i_4 dX4_forceOf_24 ?_
    obtain ⟨r_5, hc_6, h⟩ := bd1_some h
    refine kSi [.int (la_kind p1.toNatClampNeg)] [.int 0] ⟨hx, hb, hml, hown, hts⟩ (c_X4_firstForce l D cy (la_kind p1.toNatClampNeg) r_5 hc_6) gX4_forceOf_X4_firstForce rfl hd_X4_firstForce ⟨Nat.le_of_ble_eq_true rfl, Nat.le_of_ble_eq_true rfl⟩ rfl rfl hKN va_nil rfl hl.1 rfl (Nat.le_of_ble_eq_true rfl) dX4_forceOf_25 ⟨Nat.le_of_ble_eq_true rfl, Nat.le_of_ble_eq_true rfl⟩ ?_
    refine lv_aload_n hx hb dX4_forceOf_28 rfl (lv_at hl 0 rfl) ?_
    refine va_get (D := D) (ci := 4) (C := RX4) (T := TX4) (N := 2) (v := .ref a_no) hx hb hX4 (fun _ q => q) hown hK hP 4 rfl rfl 1 (by decide) (hts (.fieldLink RX4 15 "ElephantLine$Odds" "now" "LElephantLine$Stand;") (by decide +kernel)) (fun _ h9 => h9) rfl dX4_forceOf_29 ?_
    refine va_getN (D := D) (ci := 8) (C := RX8) (T := TX8) (N := 6) (v := .ref a_no_wounds) hx hb hX8 (fun _ q => q) hown hK hP 2 rfl rfl 2 (by decide) (va_Nw.use rfl (hKN.2.1.1 ("ElephantLine$Odds", 44, "ElephantLine$Stand", "wounds", "[I", "ElephantLine") (List.mem_of_getElem? (i := 49) rfl))) (fun _ h9 => h9) rfl dX4_forceOf_32 ?_
    refine lv_iload_n hx hb dX4_forceOf_35 rfl (lv_at hl 1 rfl) ?_
    obtain ⟨i_7, h⟩ := gIn_some h
    refine va_iald hx hb hK hP 3 1 rfl rfl i_7 dX4_forceOf_36 ?_
    refine lv_isub hx hb dX4_forceOf_37 ?_
    refine va_mmax hx hb (hml.trans hl.1.symm) hown (hts (.methodLink RX4 19 Lib.Math.max.name) (by decide +kernel)) (hts (.static Lib.Math.max.name) (by decide +kernel)) (hts (.initialized "java/lang/Math") (by decide +kernel)) (hts (.code Lib.Math.max.name Lib.Math.max.code 2 (some .int)) (by decide +kernel)) (Nat.le_of_ble_eq_true rfl) (Nat.le_of_ble_eq_true rfl) (Nat.le_of_ble_eq_true rfl) (Nat.le_of_ble_eq_true rfl) dX4_forceOf_38 ?_
    exact W.iret (v := if (0 : Int32) < (r_5 - (no_wounds p1.toNatClampNeg)) then r_5 - (no_wounds p1.toNatClampNeg) else 0) hx hb hr (fun t ht _ => ⟨_, rfl, Option.some.inj h, ht⟩) (fun _ q => by cases q) dX4_forceOf_41
  · have h := ifF cd h
    refine lv_iconst (v := 0) hx hb dX4_forceOf_11 (by decide) ?_
    refine lv_goto (tgt := 41) hx hb dX4_forceOf_12 (by decide) ?_
    exact W.iret (v := 0) hx hb hr (fun t ht _ => ⟨_, rfl, Option.some.inj h, ht⟩) (fun _ q => by cases q) dX4_forceOf_41
theorem hd_X4_holdOf : yX4_holdOf.cls = RX4 ∧ yX4_holdOf.cls ≠ "java/lang/invoke/MethodHandle" ∧ yX4_holdOf.cls ≠ "java/lang/invoke/VarHandle" ∧ (parseMethodDescriptor yX4_holdOf.desc).map (fun d => d.parameters.length) = some 1 := by decide +kernel
set_option maxHeartbeats 4000000 in
set_option maxRecDepth 100000 in
theorem c_X4_holdOf (l : Launch) (D : va_G) (cy : Nat → ClassId) (a_la a_la_kind a_la_mood a_no a_od : Nat) (la_lanes : Int32) (la_deep : Int32) (la_lanesTold : Int32) (la_who : Value) (la_firstStrong : Value) (la_beasts : Int32) (la_firstLane : Value) (la_price : Value) (la_cities : Int32) (la_passes : Int32) (la_passBetween : Value) (la_turned : Int32) (la_kind : Nat → Int32) (la_mood : Nat → Int32) (no_strong : Value) (no_at : Value) (no_wounds : Value) (no_dead : Int32) (no_wet : Int32) (no_drawn : Int32) (p1 : Int32) (res : Int32) (h : f_X4_holdOf la_kind la_mood no_wet p1 = some (res)) : Met l yX4_holdOf wo_X4_holdOf ({ frames := 2, cells := 0, slots := 0, locals := 36 }) (roPc D cy [.ref a_od, .int p1] [(a_la, .inr (2, [.int la_lanes, .int la_deep, .int la_lanesTold, la_who, la_firstStrong, .int la_beasts, .ref a_la_kind, la_firstLane, .ref a_la_mood, la_price, .int la_cities, .int la_passes, la_passBetween, .int la_turned])), (a_la_kind, .inl (cy 1, 5, .inl la_kind)), (a_la_mood, .inl (cy 1, 5, .inl la_mood)), (a_no, .inr (8, [no_strong, no_at, no_wounds, .int no_dead, .int no_wet, .int no_drawn])), (a_od, .inr (4, [.ref a_la, .ref a_no]))]) (vp_Si (fun r => r = res)) 0 0 (fun _ => False) := by
  refine Met.ofW (cc := cX4_holdOf) (maxL := 2) (ret := (some .int)) (by decide) rfl ?_
  intro p e s m args below meth c s₁ B hml hv
  obtain ⟨rfl, hP, hKN⟩ := hv
  have hK := hKN.1
  have hx := B.exec
  have hb := B.bytes
  have hr := B.returns
  have hts := wt_X4_holdOf hKN.2.2 (([.ref a_od, .int p1] : List Value).toArray)
  have hown : s.vm.findClass RX4 = some m.cls := findClass_of_methodNamed B.named
  have hlocks := B.notSynchronized
  have hX2 := wc_X2 hKN.2.2 (([.ref a_od, .int p1] : List Value).toArray)
  have hX4 := wc_X4 hKN.2.2 (([.ref a_od, .int p1] : List Value).toArray)
  have hX8 := wc_X8 hKN.2.2 (([.ref a_od, .int p1] : List Value).toArray)
  have hl := lv_entry ([.ref a_od, .int p1]) (n := 2) (Nat.le_of_ble_eq_true rfl)
  rw [lg_entry_eq]
  generalize (lg_sl ([.ref a_od, .int p1]) ++ List.replicate (2 - (lg_sl ([.ref a_od, .int p1])).length) Slot.unset).toArray = ls at hl ⊢
  have hl : lv_has ls 2 [(0, .ref a_od), (1, .int p1)] := hl
  unfold f_X4_holdOf at h
  refine lv_aload_n hx hb dX4_holdOf_0 rfl (lv_at hl 0 rfl) ?_
  refine va_get (D := D) (ci := 4) (C := RX4) (T := TX4) (N := 2) (v := .ref a_la) hx hb hX4 (fun _ q => q) hown hK hP 4 rfl rfl 0 (by decide) (hts (.fieldLink RX4 9 "ElephantLine$Odds" "land" "LElephantLine$Land;") (by decide +kernel)) (fun _ h9 => h9) rfl dX4_holdOf_1 ?_
  refine va_getN (D := D) (ci := 2) (C := RX2) (T := TX2) (N := 14) (v := .ref a_la_kind) hx hb hX2 (fun _ q => q) hown hK hP 0 rfl rfl 6 (by decide) (va_Nw.use rfl (hKN.2.1.1 ("ElephantLine$Odds", 34, "ElephantLine$Land", "kind", "[I", "ElephantLine") (List.mem_of_getElem? (i := 21) rfl))) (fun _ h9 => h9) rfl dX4_holdOf_4 ?_
  refine lv_iload_n hx hb dX4_holdOf_7 rfl (lv_at hl 1 rfl) ?_
  obtain ⟨i_1, h⟩ := gIn_some h
  refine va_iald hx hb hK hP 1 1 rfl rfl i_1 dX4_holdOf_8 ?_
  refine lv_aload_n hx hb dX4_holdOf_9 rfl (lv_at hl 0 rfl) ?_
  refine va_get (D := D) (ci := 4) (C := RX4) (T := TX4) (N := 2) (v := .ref a_la) hx hb hX4 (fun _ q => q) hown hK hP 4 rfl rfl 0 (by decide) (hts (.fieldLink RX4 9 "ElephantLine$Odds" "land" "LElephantLine$Land;") (by decide +kernel)) (fun _ h9 => h9) rfl dX4_holdOf_10 ?_
  refine va_getN (D := D) (ci := 2) (C := RX2) (T := TX2) (N := 14) (v := .ref a_la_mood) hx hb hX2 (fun _ q => q) hown hK hP 0 rfl rfl 8 (by decide) (va_Nw.use rfl (hKN.2.1.1 ("ElephantLine$Odds", 47, "ElephantLine$Land", "mood", "[I", "ElephantLine") (List.mem_of_getElem? (i := 25) rfl))) (fun _ h9 => h9) rfl dX4_holdOf_13 ?_
  refine lv_iload_n hx hb dX4_holdOf_16 rfl (lv_at hl 1 rfl) ?_
  obtain ⟨i_2, h⟩ := gIn_some h
  refine va_iald hx hb hK hP 2 1 rfl rfl i_2 dX4_holdOf_17 ?_
  refine lv_aload_n hx hb dX4_holdOf_18 rfl (lv_at hl 0 rfl) ?_
  refine va_get (D := D) (ci := 4) (C := RX4) (T := TX4) (N := 2) (v := .ref a_no) hx hb hX4 (fun _ q => q) hown hK hP 4 rfl rfl 1 (by decide) (hts (.fieldLink RX4 15 "ElephantLine$Odds" "now" "LElephantLine$Stand;") (by decide +kernel)) (fun _ h9 => h9) rfl dX4_holdOf_19 ?_
  refine va_getN (D := D) (ci := 8) (C := RX8) (T := TX8) (N := 6) (v := .int no_wet) hx hb hX8 (fun _ q => q) hown hK hP 3 rfl rfl 4 (by decide) (va_Nw.use rfl (hKN.2.1.1 ("ElephantLine$Odds", 50, "ElephantLine$Stand", "wet", "Z", "ElephantLine") (List.mem_of_getElem? (i := 53) rfl))) (fun _ h9 => h9) rfl dX4_holdOf_22 ?_
  obtain ⟨r_3, hc_4, h⟩ := bd1_some h
  refine kSi [.int (la_kind p1.toNatClampNeg), .int (la_mood p1.toNatClampNeg), .int no_wet] [] ⟨hx, hb, hml, hown, hts⟩ (c_X4_holdBy l D cy (la_kind p1.toNatClampNeg) (la_mood p1.toNatClampNeg) no_wet r_3 hc_4) gX4_holdOf_X4_holdBy rfl hd_X4_holdBy ⟨Nat.le_of_ble_eq_true rfl, Nat.le_of_ble_eq_true rfl⟩ rfl rfl hKN va_nil rfl hl.1 rfl (Nat.le_of_ble_eq_true rfl) dX4_holdOf_25 ⟨Nat.le_of_ble_eq_true rfl, Nat.le_of_ble_eq_true rfl⟩ ?_
  exact W.iret (v := r_3) hx hb hr (fun t ht _ => ⟨_, rfl, Option.some.inj h, ht⟩) (fun _ q => by cases q) dX4_holdOf_28
theorem hd_X4_foeHarm : yX4_foeHarm.cls ≠ "java/lang/invoke/MethodHandle" ∧ yX4_foeHarm.cls ≠ "java/lang/invoke/VarHandle" ∧ (parseMethodDescriptor yX4_foeHarm.desc).map (fun d => d.parameters.length) = some 4 := by decide +kernel
set_option maxHeartbeats 4000000 in
set_option maxRecDepth 100000 in
theorem c_X4_foeHarm (l : Launch) (D : va_G) (cy : Nat → ClassId) (p0 : Int32) (p1 : Int32) (p2 : Int32) (p3 : Int32) (res : Int32) (h : f_X4_foeHarm  p0 p1 p2 p3 = some (res)) : Met l yX4_foeHarm wo_X4_foeHarm ({ frames := 1, cells := 0, slots := 0, locals := 14 }) (roPc D cy [.int p0, .int p1, .int p2, .int p3] []) (vp_Si (fun r => r = res)) 0 0 (fun _ => False) := by
  refine Met.ofW (cc := cX4_foeHarm) (maxL := 4) (ret := (some .int)) (by decide) rfl ?_
  intro p e s m args below meth c s₁ B hml hv
  obtain ⟨rfl, hP, hKN⟩ := hv
  have hK := hKN.1
  have hx := B.exec
  have hb := B.bytes
  have hr := B.returns
  have hts := wt_X4_foeHarm hKN.2.2 (([.int p0, .int p1, .int p2, .int p3] : List Value).toArray)
  have hown : s.vm.findClass RX4 = some m.cls := findClass_of_methodNamed B.named
  have hlocks := B.notSynchronized
  have hl := lv_entry ([.int p0, .int p1, .int p2, .int p3]) (n := 4) (Nat.le_of_ble_eq_true rfl)
  rw [lg_entry_eq]
  generalize (lg_sl ([.int p0, .int p1, .int p2, .int p3]) ++ List.replicate (4 - (lg_sl ([.int p0, .int p1, .int p2, .int p3])).length) Slot.unset).toArray = ls at hl ⊢
  have hl : lv_has ls 4 [(0, .int p0), (1, .int p1), (2, .int p2), (3, .int p3)] := hl
  unfold f_X4_foeHarm at h
  refine lv_iload_n hx hb dX4_foeHarm_0 rfl (lv_at hl 2 rfl) ?_
  by_cases sw_1 : p2 = 1
  · have h := ifT sw_1 h
    refine lv_tableIn (tgt := 28) hx hb dX4_foeHarm_1 (by rw [sw_1]; decide) (by rw [sw_1]; decide) (by rw [sw_1]; rfl) (by decide) ?_
    refine lv_iload_n hx hb dX4_foeHarm_28 rfl (lv_at hl 0 rfl) ?_
    refine lv_iconst (v := 2) hx hb dX4_foeHarm_29 (by decide) ?_
    refine lv_icmp_ne (tgt := 38) hx hb dX4_foeHarm_30 (by decide) (fun cd => ?_) (fun cd => ?_)
    · have h := ifF cd h
      refine lv_iconst (v := 0) hx hb dX4_foeHarm_38 (by decide) ?_
      exact W.iret (v := 0) hx hb hr (fun t ht _ => ⟨_, rfl, Option.some.inj h, ht⟩) (fun _ q => by cases q) dX4_foeHarm_39
    · have h := ifT cd h
      refine lv_bipush (v := 10) hx hb dX4_foeHarm_33 (by decide) ?_
      refine lv_goto (tgt := 39) hx hb dX4_foeHarm_35 (by decide) ?_
      exact W.iret (v := 10) hx hb hr (fun t ht _ => ⟨_, rfl, Option.some.inj h, ht⟩) (fun _ q => by cases q) dX4_foeHarm_39
  · have h := ifF sw_1 h
    by_cases sw_2 : p2 = 2
    · have h := ifT sw_2 h
      refine lv_tableIn (tgt := 40) hx hb dX4_foeHarm_1 (by rw [sw_2]; decide) (by rw [sw_2]; decide) (by rw [sw_2]; rfl) (by decide) ?_
      refine lv_iload_n hx hb dX4_foeHarm_40 rfl (lv_at hl 1 rfl) ?_
      refine lv_iload_n hx hb dX4_foeHarm_41 rfl (lv_at hl 3 rfl) ?_
      refine lv_icmp_le (tgt := 49) hx hb dX4_foeHarm_42 (by decide) (fun cd => ?_) (fun cd => ?_)
      · have h := ifT cd h
        refine lv_iload_n hx hb dX4_foeHarm_49 rfl (lv_at hl 1 rfl) ?_
        refine lv_iconst (v := 2) hx hb dX4_foeHarm_50 (by decide) ?_
        refine lv_idiv hx hb dX4_foeHarm_51 (by decide) ?_
        exact W.iret (v := p1 / 2) hx hb hr (fun t ht _ => ⟨_, rfl, Option.some.inj h, ht⟩) (fun _ q => by cases q) dX4_foeHarm_52
      · have h := ifF cd h
        refine lv_iload_n hx hb dX4_foeHarm_45 rfl (lv_at hl 3 rfl) ?_
        refine lv_goto (tgt := 52) hx hb dX4_foeHarm_46 (by decide) ?_
        exact W.iret (v := p3) hx hb hr (fun t ht _ => ⟨_, rfl, Option.some.inj h, ht⟩) (fun _ q => by cases q) dX4_foeHarm_52
    · have h := ifF sw_2 h
      by_cases sw_3 : p2 = 3
      · have h := ifT sw_3 h
        refine lv_tableIn (tgt := 53) hx hb dX4_foeHarm_1 (by rw [sw_3]; decide) (by rw [sw_3]; decide) (by rw [sw_3]; rfl) (by decide) ?_
        refine lv_iload_n hx hb dX4_foeHarm_53 rfl (lv_at hl 3 rfl) ?_
        refine lv_bipush (v := 8) hx hb dX4_foeHarm_54 (by decide) ?_
        refine lv_icmp_ge (tgt := 64) hx hb dX4_foeHarm_56 (by decide) (fun cd => ?_) (fun cd => ?_)
        · have h := ifT cd h
          refine lv_iconst (v := 0) hx hb dX4_foeHarm_64 (by decide) ?_
          refine lv_iload_n hx hb dX4_foeHarm_65 rfl (lv_at hl 1 rfl) ?_
          refine lv_iload_n hx hb dX4_foeHarm_66 rfl (lv_at hl 3 rfl) ?_
          refine lv_isub hx hb dX4_foeHarm_67 ?_
          refine va_mmax hx hb (hml.trans hl.1.symm) hown (hts (.methodLink RX4 19 Lib.Math.max.name) (by decide +kernel)) (hts (.static Lib.Math.max.name) (by decide +kernel)) (hts (.initialized "java/lang/Math") (by decide +kernel)) (hts (.code Lib.Math.max.name Lib.Math.max.code 2 (some .int)) (by decide +kernel)) (Nat.le_of_ble_eq_true rfl) (Nat.le_of_ble_eq_true rfl) (Nat.le_of_ble_eq_true rfl) (Nat.le_of_ble_eq_true rfl) dX4_foeHarm_68 ?_
          exact W.iret (v := if (0 : Int32) < (p1 - p3) then p1 - p3 else 0) hx hb hr (fun t ht _ => ⟨_, rfl, Option.some.inj h, ht⟩) (fun _ q => by cases q) dX4_foeHarm_71
        · have h := ifF cd h
          refine lv_bipush (v := 15) hx hb dX4_foeHarm_59 (by decide) ?_
          refine lv_goto (tgt := 71) hx hb dX4_foeHarm_61 (by decide) ?_
          exact W.iret (v := 15) hx hb hr (fun t ht _ => ⟨_, rfl, Option.some.inj h, ht⟩) (fun _ q => by cases q) dX4_foeHarm_71
      · have h := ifF sw_3 h
        refine lv_tableOut (tgt := 72) hx hb dX4_foeHarm_1 (by have q0 := sw_ne sw_1; have q1 := sw_ne sw_2; have q2 := sw_ne sw_3; rw [show (1 : Int32).toInt = 1 from rfl] at q0; rw [show (2 : Int32).toInt = 2 from rfl] at q1; rw [show (3 : Int32).toInt = 3 from rfl] at q2; omega) (by decide) ?_
        refine lv_iconst (v := 0) hx hb dX4_foeHarm_72 (by decide) ?_
        exact W.iret (v := 0) hx hb hr (fun t ht _ => ⟨_, rfl, Option.some.inj h, ht⟩) (fun _ q => by cases q) dX4_foeHarm_73
theorem hd_X4_ownHarm : yX4_ownHarm.cls ≠ "java/lang/invoke/MethodHandle" ∧ yX4_ownHarm.cls ≠ "java/lang/invoke/VarHandle" ∧ (parseMethodDescriptor yX4_ownHarm.desc).map (fun d => d.parameters.length) = some 4 := by decide +kernel
set_option maxHeartbeats 4000000 in
set_option maxRecDepth 100000 in
theorem c_X4_ownHarm (l : Launch) (D : va_G) (cy : Nat → ClassId) (p0 : Int32) (p1 : Int32) (p2 : Int32) (p3 : Int32) (res : Int32) (h : f_X4_ownHarm  p0 p1 p2 p3 = some (res)) : Met l yX4_ownHarm wo_X4_ownHarm ({ frames := 0, cells := 0, slots := 0, locals := 0 }) (roPc D cy [.int p0, .int p1, .int p2, .int p3] []) (vp_Si (fun r => r = res)) 0 0 (fun _ => False) := by
  refine Met.ofW (cc := cX4_ownHarm) (maxL := 4) (ret := (some .int)) (by decide) rfl ?_
  intro p e s m args below meth c s₁ B hml hv
  obtain ⟨rfl, hP, hKN⟩ := hv
  have hK := hKN.1
  have hx := B.exec
  have hb := B.bytes
  have hr := B.returns
  have hts := wt_X4_ownHarm hKN.2.2 (([.int p0, .int p1, .int p2, .int p3] : List Value).toArray)
  have hown : s.vm.findClass RX4 = some m.cls := findClass_of_methodNamed B.named
  have hlocks := B.notSynchronized
  have hl := lv_entry ([.int p0, .int p1, .int p2, .int p3]) (n := 4) (Nat.le_of_ble_eq_true rfl)
  rw [lg_entry_eq]
  generalize (lg_sl ([.int p0, .int p1, .int p2, .int p3]) ++ List.replicate (4 - (lg_sl ([.int p0, .int p1, .int p2, .int p3])).length) Slot.unset).toArray = ls at hl ⊢
  have hl : lv_has ls 4 [(0, .int p0), (1, .int p1), (2, .int p2), (3, .int p3)] := hl
  unfold f_X4_ownHarm at h
  refine lv_iload_n hx hb dX4_ownHarm_0 rfl (lv_at hl 2 rfl) ?_
  by_cases sw_1 : p2 = 1
  · have h := ifT sw_1 h
    refine lv_lookup (off := 27) (tgt := 28) hx hb dX4_ownHarm_1 (by decide) (by rw [sw_1]; rfl) (by decide) ?_
    refine lv_iload_n hx hb dX4_ownHarm_28 rfl (lv_at hl 0 rfl) ?_
    refine lv_iconst (v := 2) hx hb dX4_ownHarm_29 (by decide) ?_
    refine lv_icmp_ne (tgt := 37) hx hb dX4_ownHarm_30 (by decide) (fun cd => ?_) (fun cd => ?_)
    · have h := ifF cd h
      refine lv_iload_n hx hb dX4_ownHarm_37 rfl (lv_at hl 1 rfl) ?_
      exact W.iret (v := p1) hx hb hr (fun t ht _ => ⟨_, rfl, Option.some.inj h, ht⟩) (fun _ q => by cases q) dX4_ownHarm_38
    · have h := ifT cd h
      refine lv_iconst (v := 0) hx hb dX4_ownHarm_33 (by decide) ?_
      refine lv_goto (tgt := 38) hx hb dX4_ownHarm_34 (by decide) ?_
      exact W.iret (v := 0) hx hb hr (fun t ht _ => ⟨_, rfl, Option.some.inj h, ht⟩) (fun _ q => by cases q) dX4_ownHarm_38
  · have h := ifF sw_1 h
    by_cases sw_2 : p2 = 2
    · have h := ifT sw_2 h
      refine lv_lookup (off := 38) (tgt := 39) hx hb dX4_ownHarm_1 (by decide) (by rw [sw_2]; rfl) (by decide) ?_
      refine lv_iload_n hx hb dX4_ownHarm_39 rfl (lv_at hl 1 rfl) ?_
      refine lv_iload_n hx hb dX4_ownHarm_40 rfl (lv_at hl 3 rfl) ?_
      refine lv_icmp_le (tgt := 48) hx hb dX4_ownHarm_41 (by decide) (fun cd => ?_) (fun cd => ?_)
      · have h := ifT cd h
        refine lv_iload_n hx hb dX4_ownHarm_48 rfl (lv_at hl 1 rfl) ?_
        exact W.iret (v := p1) hx hb hr (fun t ht _ => ⟨_, rfl, Option.some.inj h, ht⟩) (fun _ q => by cases q) dX4_ownHarm_49
      · have h := ifF cd h
        refine lv_iconst (v := 0) hx hb dX4_ownHarm_44 (by decide) ?_
        refine lv_goto (tgt := 49) hx hb dX4_ownHarm_45 (by decide) ?_
        exact W.iret (v := 0) hx hb hr (fun t ht _ => ⟨_, rfl, Option.some.inj h, ht⟩) (fun _ q => by cases q) dX4_ownHarm_49
    · have h := ifF sw_2 h
      refine lv_lookup (off := 49) (tgt := 50) hx hb dX4_ownHarm_1 (by decide) (by have q0 := sw_ne sw_1; have q1 := sw_ne sw_2; rw [show (1 : Int32).toInt = 1 from rfl] at q0; rw [show (2 : Int32).toInt = 2 from rfl] at q1; exact lk_out2 q0 q1) (by decide) ?_
      refine lv_iconst (v := 0) hx hb dX4_ownHarm_50 (by decide) ?_
      exact W.iret (v := 0) hx hb hr (fun t ht _ => ⟨_, rfl, Option.some.inj h, ht⟩) (fun _ q => by cases q) dX4_ownHarm_51
theorem hd_X4_turningHarm : yX4_turningHarm.cls ≠ "java/lang/invoke/MethodHandle" ∧ yX4_turningHarm.cls ≠ "java/lang/invoke/VarHandle" ∧ (parseMethodDescriptor yX4_turningHarm.desc).map (fun d => d.parameters.length) = some 1 := by decide +kernel
set_option maxHeartbeats 4000000 in
set_option maxRecDepth 100000 in
theorem c_X4_turningHarm (l : Launch) (D : va_G) (cy : Nat → ClassId) (p0 : Int32) (res : Int32) (h : f_X4_turningHarm  p0 = some (res)) : Met l yX4_turningHarm wo_X4_turningHarm ({ frames := 0, cells := 0, slots := 0, locals := 0 }) (roPc D cy [.int p0] []) (vp_Si (fun r => r = res)) 0 0 (fun _ => False) := by
  refine Met.ofW (cc := cX4_turningHarm) (maxL := 1) (ret := (some .int)) (by decide) rfl ?_
  intro p e s m args below meth c s₁ B hml hv
  obtain ⟨rfl, hP, hKN⟩ := hv
  have hK := hKN.1
  have hx := B.exec
  have hb := B.bytes
  have hr := B.returns
  have hts := wt_X4_turningHarm hKN.2.2 (([.int p0] : List Value).toArray)
  have hown : s.vm.findClass RX4 = some m.cls := findClass_of_methodNamed B.named
  have hlocks := B.notSynchronized
  have hl := lv_entry ([.int p0]) (n := 1) (Nat.le_of_ble_eq_true rfl)
  rw [lg_entry_eq]
  generalize (lg_sl ([.int p0]) ++ List.replicate (1 - (lg_sl ([.int p0])).length) Slot.unset).toArray = ls at hl ⊢
  have hl : lv_has ls 1 [(0, .int p0)] := hl
  unfold f_X4_turningHarm at h
  refine lv_iload_n hx hb dX4_turningHarm_0 rfl (lv_at hl 0 rfl) ?_
  refine lv_iconst (v := 2) hx hb dX4_turningHarm_1 (by decide) ?_
  refine lv_idiv hx hb dX4_turningHarm_2 (by decide) ?_
  exact W.iret (v := p0 / 2) hx hb hr (fun t ht _ => ⟨_, rfl, Option.some.inj h, ht⟩) (fun _ q => by cases q) dX4_turningHarm_3
theorem hd_X4_harmIn : yX4_harmIn.cls = RX4 ∧ yX4_harmIn.cls ≠ "java/lang/invoke/MethodHandle" ∧ yX4_harmIn.cls ≠ "java/lang/invoke/VarHandle" ∧ (parseMethodDescriptor yX4_harmIn.desc).map (fun d => d.parameters.length) = some 3 := by decide +kernel
set_option maxHeartbeats 4000000 in
set_option maxRecDepth 100000 in
theorem c_X4_harmIn (l : Launch) (D : va_G) (cy : Nat → ClassId) (a_la a_la_who a_la_kind a_no a_no_strong a_no_wounds a_od : Nat) (la_lanes : Int32) (la_deep : Int32) (la_lanesTold : Int32) (la_firstStrong : Value) (la_beasts : Int32) (la_firstLane : Value) (la_mood : Value) (la_price : Value) (la_cities : Int32) (la_passes : Int32) (la_passBetween : Value) (la_turned : Int32) (la_who : Nat → Int32) (la_kind : Nat → Int32) (no_at : Value) (no_dead : Int32) (no_wet : Int32) (no_drawn : Int32) (no_strong : Nat → Int32) (no_wounds : Nat → Int32) (p1 : Int32) (p2 : Int32) (p3 : Int32) (res : Int32) (h : f_X4_harmIn la_who la_kind no_dead no_strong no_wounds p1 p2 p3 = some (res)) : Met l yX4_harmIn wo_X4_harmIn ({ frames := 2, cells := 0, slots := 0, locals := 42 }) (roPc D cy [.ref a_od, .int p1, .int p2, .int p3] [(a_la, .inr (2, [.int la_lanes, .int la_deep, .int la_lanesTold, .ref a_la_who, la_firstStrong, .int la_beasts, .ref a_la_kind, la_firstLane, la_mood, la_price, .int la_cities, .int la_passes, la_passBetween, .int la_turned])), (a_la_who, .inl (cy 1, 6, .inl la_who)), (a_la_kind, .inl (cy 1, 5, .inl la_kind)), (a_no, .inr (8, [.ref a_no_strong, no_at, .ref a_no_wounds, .int no_dead, .int no_wet, .int no_drawn])), (a_no_strong, .inl (cy 1, 6, .inl no_strong)), (a_no_wounds, .inl (cy 1, 5, .inl no_wounds)), (a_od, .inr (4, [.ref a_la, .ref a_no]))]) (vp_Si (fun r => r = res)) 0 0 (fun _ => False) := by
  refine Met.ofW (cc := cX4_harmIn) (maxL := 5) (ret := (some .int)) (by decide) rfl ?_
  intro p e s m args below meth c s₁ B hml hv
  obtain ⟨rfl, hP, hKN⟩ := hv
  have hK := hKN.1
  have hx := B.exec
  have hb := B.bytes
  have hr := B.returns
  have hts := wt_X4_harmIn hKN.2.2 (([.ref a_od, .int p1, .int p2, .int p3] : List Value).toArray)
  have hown : s.vm.findClass RX4 = some m.cls := findClass_of_methodNamed B.named
  have hlocks := B.notSynchronized
  have hX2 := wc_X2 hKN.2.2 (([.ref a_od, .int p1, .int p2, .int p3] : List Value).toArray)
  have hX4 := wc_X4 hKN.2.2 (([.ref a_od, .int p1, .int p2, .int p3] : List Value).toArray)
  have hX8 := wc_X8 hKN.2.2 (([.ref a_od, .int p1, .int p2, .int p3] : List Value).toArray)
  have hl := lv_entry ([.ref a_od, .int p1, .int p2, .int p3]) (n := 5) (Nat.le_of_ble_eq_true rfl)
  rw [lg_entry_eq]
  generalize (lg_sl ([.ref a_od, .int p1, .int p2, .int p3]) ++ List.replicate (5 - (lg_sl ([.ref a_od, .int p1, .int p2, .int p3])).length) Slot.unset).toArray = ls at hl ⊢
  have hl : lv_has ls 5 [(0, .ref a_od), (1, .int p1), (2, .int p2), (3, .int p3)] := hl
  unfold f_X4_harmIn at h
  refine lv_aload_n hx hb dX4_harmIn_0 rfl (lv_at hl 0 rfl) ?_
  refine va_get (D := D) (ci := 4) (C := RX4) (T := TX4) (N := 2) (v := .ref a_no) hx hb hX4 (fun _ q => q) hown hK hP 6 rfl rfl 1 (by decide) (hts (.fieldLink RX4 15 "ElephantLine$Odds" "now" "LElephantLine$Stand;") (by decide +kernel)) (fun _ h9 => h9) rfl dX4_harmIn_1 ?_
  refine lv_iload_n hx hb dX4_harmIn_4 rfl (lv_at hl 1 rfl) ?_
  obtain ⟨r_1, hc_2, h⟩ := bd1_some h
  refine kVb [.int p1] [] ⟨hx, hb, hml, hown, hts⟩ (c_X8_isDead l D cy a_no (.ref a_no_strong) (no_at) (.ref a_no_wounds) no_dead no_wet no_drawn p1 r_1 hc_2) gX4_harmIn_X8_isDead rfl hd_X8_isDead ⟨Nat.le_of_ble_eq_true rfl, Nat.le_of_ble_eq_true rfl⟩ rfl rfl hKN (hP.sub [3] rfl) 8 0 rfl rfl rfl hl.1 rfl (Nat.le_of_ble_eq_true rfl) dX4_harmIn_5 ⟨Nat.le_of_ble_eq_true rfl, Nat.le_of_ble_eq_true rfl⟩ (fun nb_3 => ?_)
  refine lv_if_eq (tgt := 13) hx hb dX4_harmIn_8 (by decide) (fun cd => ?_) (fun cd => ?_)
  · have h := ifT cd h
    refine lv_aload_n hx hb dX4_harmIn_13 rfl (lv_at hl 0 rfl) ?_
    refine lv_iload_n hx hb dX4_harmIn_14 rfl (lv_at hl 1 rfl) ?_
    obtain ⟨r_4, hc_5, h⟩ := bd1_some h
    refine kVi [.int p1] [] ⟨hx, hb, hml, hown, hts⟩ (c_X4_forceOf l D cy a_la a_la_kind a_no a_no_wounds a_od la_lanes la_deep la_lanesTold (.ref a_la_who) (la_firstStrong) la_beasts (la_firstLane) (la_mood) (la_price) la_cities la_passes (la_passBetween) la_turned la_kind (.ref a_no_strong) (no_at) no_dead no_wet no_drawn no_wounds p1 r_4 hc_5) gX4_harmIn_X4_forceOf rfl hd_X4_forceOf ⟨Nat.le_of_ble_eq_true rfl, Nat.le_of_ble_eq_true rfl⟩ rfl rfl hKN (hP.sub [0, 2, 3, 5, 6] rfl) 4 4 rfl rfl rfl hl.1 rfl (Nat.le_of_ble_eq_true rfl) dX4_harmIn_15 ⟨Nat.le_of_ble_eq_true rfl, Nat.le_of_ble_eq_true rfl⟩ ?_
    refine lv_istore (lv' := [(4, .int r_4), (0, .ref a_od), (1, .int p1), (2, .int p2), (3, .int p3)]) hx hb dX4_harmIn_18 hl (by decide) rfl (fun ls hl => ?_)
    refine lv_iload_n hx hb dX4_harmIn_20 rfl (lv_at hl 4 rfl) ?_
    refine lv_if_eq (tgt := 59) hx hb dX4_harmIn_21 (by decide) (fun cd => ?_) (fun cd => ?_)
    · have h := ifT cd h
      refine lv_aload_n hx hb dX4_harmIn_59 rfl (lv_at hl 1 rfl) ?_
      refine va_get (D := D) (ci := 4) (C := RX4) (T := TX4) (N := 2) (v := .ref a_la) hx hb hX4 (fun _ q => q) hown hK hP 6 rfl rfl 0 (by decide) (hts (.fieldLink RX4 9 "ElephantLine$Odds" "land" "LElephantLine$Land;") (by decide +kernel)) (fun _ h9 => h9) rfl dX4_harmIn_60 ?_
      refine va_getN (D := D) (ci := 2) (C := RX2) (T := TX2) (N := 14) (v := .ref a_la_kind) hx hb hX2 (fun _ q => q) hown hK hP 0 rfl rfl 6 (by decide) (va_Nw.use rfl (hKN.2.1.1 ("ElephantLine$Odds", 34, "ElephantLine$Land", "kind", "[I", "ElephantLine") (List.mem_of_getElem? (i := 21) rfl))) (fun _ h9 => h9) rfl dX4_harmIn_63 ?_
      refine lv_iload_n hx hb dX4_harmIn_66 rfl (lv_at hl 2 rfl) ?_
      obtain ⟨i_6, h⟩ := gIn_some h
      refine va_iald hx hb hK hP 2 1 rfl rfl i_6 dX4_harmIn_67 ?_
      refine lv_iload hx hb dX4_harmIn_68 (lv_at hl 0 rfl) ?_
      refine lv_aload_n hx hb dX4_harmIn_70 rfl (lv_at hl 1 rfl) ?_
      refine va_get (D := D) (ci := 4) (C := RX4) (T := TX4) (N := 2) (v := .ref a_la) hx hb hX4 (fun _ q => q) hown hK hP 6 rfl rfl 0 (by decide) (hts (.fieldLink RX4 9 "ElephantLine$Odds" "land" "LElephantLine$Land;") (by decide +kernel)) (fun _ h9 => h9) rfl dX4_harmIn_71 ?_
      refine va_getN (D := D) (ci := 2) (C := RX2) (T := TX2) (N := 14) (v := .ref a_la_who) hx hb hX2 (fun _ q => q) hown hK hP 0 rfl rfl 3 (by decide) (va_Nw.use rfl (hKN.2.1.1 ("ElephantLine$Odds", 61, "ElephantLine$Land", "who", "[I", "ElephantLine") (List.mem_of_getElem? (i := 12) rfl))) (fun _ h9 => h9) rfl dX4_harmIn_74 ?_
      refine lv_iload_n hx hb dX4_harmIn_77 rfl (lv_at hl 3 rfl) ?_
      obtain ⟨i_7, h⟩ := gIn_some h
      refine va_iald hx hb hK hP 1 1 rfl rfl i_7 dX4_harmIn_78 ?_
      refine lv_aload_n hx hb dX4_harmIn_79 rfl (lv_at hl 1 rfl) ?_
      refine va_get (D := D) (ci := 4) (C := RX4) (T := TX4) (N := 2) (v := .ref a_no) hx hb hX4 (fun _ q => q) hown hK hP 6 rfl rfl 1 (by decide) (hts (.fieldLink RX4 15 "ElephantLine$Odds" "now" "LElephantLine$Stand;") (by decide +kernel)) (fun _ h9 => h9) rfl dX4_harmIn_80 ?_
      refine va_getN (D := D) (ci := 8) (C := RX8) (T := TX8) (N := 6) (v := .ref a_no_strong) hx hb hX8 (fun _ q => q) hown hK hP 3 rfl rfl 0 (by decide) (va_Nw.use rfl (hKN.2.1.1 ("ElephantLine$Odds", 64, "ElephantLine$Stand", "strong", "[I", "ElephantLine") (List.mem_of_getElem? (i := 43) rfl))) (fun _ h9 => h9) rfl dX4_harmIn_83 ?_
      refine lv_iload_n hx hb dX4_harmIn_86 rfl (lv_at hl 3 rfl) ?_
      obtain ⟨i_8, h⟩ := gIn_some h
      refine va_iald hx hb hK hP 4 1 rfl rfl i_8 dX4_harmIn_87 ?_
      obtain ⟨r_9, hc_10, h⟩ := bd1_some h
      refine kSi [.int (la_kind p1.toNatClampNeg), .int r_4, .int (la_who p2.toNatClampNeg), .int (no_strong p2.toNatClampNeg)] [] ⟨hx, hb, hml, hown, hts⟩ (c_X4_foeHarm l D cy (la_kind p1.toNatClampNeg) r_4 (la_who p2.toNatClampNeg) (no_strong p2.toNatClampNeg) r_9 hc_10) gX4_harmIn_X4_foeHarm rfl hd_X4_foeHarm ⟨Nat.le_of_ble_eq_true rfl, Nat.le_of_ble_eq_true rfl⟩ rfl rfl hKN va_nil rfl hl.1 rfl (Nat.le_of_ble_eq_true rfl) dX4_harmIn_88 ⟨Nat.le_of_ble_eq_true rfl, Nat.le_of_ble_eq_true rfl⟩ ?_
      exact W.iret (v := r_9) hx hb hr (fun t ht _ => ⟨_, rfl, Option.some.inj h, ht⟩) (fun _ q => by cases q) dX4_harmIn_91
    · have h := ifF cd h
      refine lv_aload_n hx hb dX4_harmIn_24 rfl (lv_at hl 1 rfl) ?_
      refine va_get (D := D) (ci := 4) (C := RX4) (T := TX4) (N := 2) (v := .ref a_la) hx hb hX4 (fun _ q => q) hown hK hP 6 rfl rfl 0 (by decide) (hts (.fieldLink RX4 9 "ElephantLine$Odds" "land" "LElephantLine$Land;") (by decide +kernel)) (fun _ h9 => h9) rfl dX4_harmIn_25 ?_
      refine va_getN (D := D) (ci := 2) (C := RX2) (T := TX2) (N := 14) (v := .ref a_la_kind) hx hb hX2 (fun _ q => q) hown hK hP 0 rfl rfl 6 (by decide) (va_Nw.use rfl (hKN.2.1.1 ("ElephantLine$Odds", 34, "ElephantLine$Land", "kind", "[I", "ElephantLine") (List.mem_of_getElem? (i := 21) rfl))) (fun _ h9 => h9) rfl dX4_harmIn_28 ?_
      refine lv_iload_n hx hb dX4_harmIn_31 rfl (lv_at hl 2 rfl) ?_
      obtain ⟨i_11, h⟩ := gIn_some h
      refine va_iald hx hb hK hP 2 1 rfl rfl i_11 dX4_harmIn_32 ?_
      refine lv_iload hx hb dX4_harmIn_33 (lv_at hl 0 rfl) ?_
      refine lv_aload_n hx hb dX4_harmIn_35 rfl (lv_at hl 1 rfl) ?_
      refine va_get (D := D) (ci := 4) (C := RX4) (T := TX4) (N := 2) (v := .ref a_la) hx hb hX4 (fun _ q => q) hown hK hP 6 rfl rfl 0 (by decide) (hts (.fieldLink RX4 9 "ElephantLine$Odds" "land" "LElephantLine$Land;") (by decide +kernel)) (fun _ h9 => h9) rfl dX4_harmIn_36 ?_
      refine va_getN (D := D) (ci := 2) (C := RX2) (T := TX2) (N := 14) (v := .ref a_la_who) hx hb hX2 (fun _ q => q) hown hK hP 0 rfl rfl 3 (by decide) (va_Nw.use rfl (hKN.2.1.1 ("ElephantLine$Odds", 61, "ElephantLine$Land", "who", "[I", "ElephantLine") (List.mem_of_getElem? (i := 12) rfl))) (fun _ h9 => h9) rfl dX4_harmIn_39 ?_
      refine lv_iload_n hx hb dX4_harmIn_42 rfl (lv_at hl 3 rfl) ?_
      obtain ⟨i_12, h⟩ := gIn_some h
      refine va_iald hx hb hK hP 1 1 rfl rfl i_12 dX4_harmIn_43 ?_
      refine lv_aload_n hx hb dX4_harmIn_44 rfl (lv_at hl 1 rfl) ?_
      refine va_get (D := D) (ci := 4) (C := RX4) (T := TX4) (N := 2) (v := .ref a_no) hx hb hX4 (fun _ q => q) hown hK hP 6 rfl rfl 1 (by decide) (hts (.fieldLink RX4 15 "ElephantLine$Odds" "now" "LElephantLine$Stand;") (by decide +kernel)) (fun _ h9 => h9) rfl dX4_harmIn_45 ?_
      refine va_getN (D := D) (ci := 8) (C := RX8) (T := TX8) (N := 6) (v := .ref a_no_strong) hx hb hX8 (fun _ q => q) hown hK hP 3 rfl rfl 0 (by decide) (va_Nw.use rfl (hKN.2.1.1 ("ElephantLine$Odds", 64, "ElephantLine$Stand", "strong", "[I", "ElephantLine") (List.mem_of_getElem? (i := 43) rfl))) (fun _ h9 => h9) rfl dX4_harmIn_48 ?_
      refine lv_iload_n hx hb dX4_harmIn_51 rfl (lv_at hl 3 rfl) ?_
      obtain ⟨i_13, h⟩ := gIn_some h
      refine va_iald hx hb hK hP 4 1 rfl rfl i_13 dX4_harmIn_52 ?_
      obtain ⟨r_14, hc_15, h⟩ := bd1_some h
      refine kSi [.int (la_kind p1.toNatClampNeg), .int r_4, .int (la_who p2.toNatClampNeg), .int (no_strong p2.toNatClampNeg)] [] ⟨hx, hb, hml, hown, hts⟩ (c_X4_ownHarm l D cy (la_kind p1.toNatClampNeg) r_4 (la_who p2.toNatClampNeg) (no_strong p2.toNatClampNeg) r_14 hc_15) gX4_harmIn_X4_ownHarm rfl hd_X4_ownHarm ⟨Nat.le_of_ble_eq_true rfl, Nat.le_of_ble_eq_true rfl⟩ rfl rfl hKN va_nil rfl hl.1 rfl (Nat.le_of_ble_eq_true rfl) dX4_harmIn_53 ⟨Nat.le_of_ble_eq_true rfl, Nat.le_of_ble_eq_true rfl⟩ ?_
      refine lv_goto (tgt := 91) hx hb dX4_harmIn_56 (by decide) ?_
      exact W.iret (v := r_14) hx hb hr (fun t ht _ => ⟨_, rfl, Option.some.inj h, ht⟩) (fun _ q => by cases q) dX4_harmIn_91
  · have h := ifF cd h
    refine lv_iconst (v := 0) hx hb dX4_harmIn_11 (by decide) ?_
    exact W.iret (v := 0) hx hb hr (fun t ht _ => ⟨_, rfl, Option.some.inj h, ht⟩) (fun _ q => by cases q) dX4_harmIn_12
theorem hd_X4_power : yX4_power.cls = RX4 ∧ yX4_power.cls ≠ "java/lang/invoke/MethodHandle" ∧ yX4_power.cls ≠ "java/lang/invoke/VarHandle" ∧ (parseMethodDescriptor yX4_power.desc).map (fun d => d.parameters.length) = some 1 := by decide +kernel
set_option maxHeartbeats 4000000 in
set_option maxRecDepth 100000 in
theorem c_X4_power (l : Launch) (D : va_G) (cy : Nat → ClassId) (a_la a_od : Nat) (la_lanes : Int32) (la_deep : Int32) (la_lanesTold : Int32) (la_who : Value) (la_firstStrong : Value) (la_beasts : Int32) (la_kind : Value) (la_firstLane : Value) (la_mood : Value) (la_price : Value) (la_cities : Int32) (la_passes : Int32) (la_passBetween : Value) (la_turned : Int32) (od_now : Value) (p1 : Int32) (res : Int64) (h : f_X4_power la_deep p1 = some (res)) : Met l yX4_power wo_X4_power ({ frames := 0, cells := 0, slots := 0, locals := 0 }) (roPc D cy [.ref a_od, .int p1] [(a_la, .inr (2, [.int la_lanes, .int la_deep, .int la_lanesTold, la_who, la_firstStrong, .int la_beasts, la_kind, la_firstLane, la_mood, la_price, .int la_cities, .int la_passes, la_passBetween, .int la_turned])), (a_od, .inr (4, [.ref a_la, od_now]))]) (vp_Sl (fun r => r = res)) 0 0 (fun _ => False) := by
  refine Met.ofW (cc := cX4_power) (maxL := 5) (ret := (some .long)) (by decide) rfl ?_
  intro p e s m args below meth c s₁ B hml hv
  obtain ⟨rfl, hP, hKN⟩ := hv
  have hK := hKN.1
  have hx := B.exec
  have hb := B.bytes
  have hr := B.returns
  have hts := wt_X4_power hKN.2.2 (([.ref a_od, .int p1] : List Value).toArray)
  have hown : s.vm.findClass RX4 = some m.cls := findClass_of_methodNamed B.named
  have hlocks := B.notSynchronized
  have hX2 := wc_X2 hKN.2.2 (([.ref a_od, .int p1] : List Value).toArray)
  have hX4 := wc_X4 hKN.2.2 (([.ref a_od, .int p1] : List Value).toArray)
  have hl := lv_entry ([.ref a_od, .int p1]) (n := 5) (Nat.le_of_ble_eq_true rfl)
  rw [lg_entry_eq]
  generalize (lg_sl ([.ref a_od, .int p1]) ++ List.replicate (5 - (lg_sl ([.ref a_od, .int p1])).length) Slot.unset).toArray = ls at hl ⊢
  have hl : lv_has ls 5 [(0, .ref a_od), (1, .int p1)] := hl
  unfold f_X4_power at h
  refine lv_lconst (v := 1) hx hb dX4_power_0 (by decide) ?_
  refine lv_lstore_n (lv' := [(2, .long 1), (0, .ref a_od), (1, .int p1)]) hx hb dX4_power_1 rfl hl (by decide) rfl (fun ls hl => ?_)
  refine lv_iconst (v := 0) hx hb dX4_power_2 (by decide) ?_
  refine lv_istore (lv' := [(4, .int 0), (2, .long 1), (0, .ref a_od), (1, .int p1)]) hx hb dX4_power_3 hl (by decide) rfl (fun ls hl => ?_)
  have lp5 : ∀ (n5 : Nat) (x2_1 : Int64) (x4_2 : Int32), f_X4_power_L5 la_deep p1 n5 x2_1 x4_2 = some (res) → ∀ ls : Array Slot, lv_has ls 5 [(0, .ref a_od), (1, .int p1), (2, .long x2_1), (4, .int x4_2)] → W p l e (headSpec wo_X4_power ({ frames := 0, cells := 0, slots := 0, locals := 0 })).room s m (([.ref a_od, .int p1] : List Value).toArray) below meth c s.heap [] 0 0 (MQ below (vp_Sl (fun r => r = res)) (([.ref a_od, .int p1] : List Value).toArray) s 0 0 (fun _ => False)) (F0 m 5 ls []) := by
    intro n5
    induction n5 with
    | zero => intro x2_1 x4_2 h; exact absurd (show (none : Option (Int64)) = some _ from h) (by intro q; cases q)
    | succ n5 ih5 =>
      intro x2_1 x4_2 h ls hl
      have h : f_X4_power_b5 la_deep p1 (f_X4_power_L5 la_deep p1 n5) x2_1 x4_2 = some (res) := h
      unfold f_X4_power_b5 at h
      refine lv_iload hx hb dX4_power_5 (lv_at hl 3 rfl) ?_
      refine lv_aload_n hx hb dX4_power_7 rfl (lv_at hl 0 rfl) ?_
      refine va_get (D := D) (ci := 4) (C := RX4) (T := TX4) (N := 2) (v := .ref a_la) hx hb hX4 (fun _ q => q) hown hK hP 1 rfl rfl 0 (by decide) (hts (.fieldLink RX4 9 "ElephantLine$Odds" "land" "LElephantLine$Land;") (by decide +kernel)) (fun _ h9 => h9) rfl dX4_power_8 ?_
      refine va_getN (D := D) (ci := 2) (C := RX2) (T := TX2) (N := 14) (v := .int la_deep) hx hb hX2 (fun _ q => q) hown hK hP 0 rfl rfl 1 (by decide) (va_Nw.use rfl (hKN.2.1.1 ("ElephantLine$Odds", 74, "ElephantLine$Land", "deep", "I", "ElephantLine") (List.mem_of_getElem? (i := 7) rfl))) (fun _ h9 => h9) rfl dX4_power_11 ?_
      refine lv_icmp_ge (tgt := 28) hx hb dX4_power_14 (by decide) (fun cd => ?_) (fun cd => ?_)
      · have h := ifT cd h
        refine lv_lload_n hx hb dX4_power_28 rfl (lv_at hl 2 rfl) ?_
        exact W.lret (v := x2_1) hx hb hr (fun t ht _ => ⟨_, rfl, Option.some.inj h, ht⟩) (fun _ q => by cases q) dX4_power_29
      · have h := ifF cd h
        refine lv_lload_n hx hb dX4_power_17 rfl (lv_at hl 2 rfl) ?_
        refine lv_iload_n hx hb dX4_power_18 rfl (lv_at hl 1 rfl) ?_
        refine lv_i2l hx hb dX4_power_19 rfl ?_
        refine lv_lmul hx hb dX4_power_20 ?_
        refine lv_lstore_n (lv' := [(2, .long (x2_1 * p1.toInt64)), (0, .ref a_od), (1, .int p1), (4, .int x4_2)]) hx hb dX4_power_21 rfl hl (by decide) rfl (fun ls hl => ?_)
        refine lv_iinc (v := x4_2 + 1) (lv' := [(4, .int (x4_2 + 1)), (2, .long (x2_1 * p1.toInt64)), (0, .ref a_od), (1, .int p1)]) hx hb dX4_power_22 hl (k := 3) rfl (by first | rfl | decide) (by decide) rfl (fun ls hl => ?_)
        refine lv_goto (tgt := 5) hx hb dX4_power_25 (by decide) ?_
        exact ih5 (x2_1 * p1.toInt64) (x4_2 + 1) h _ (lv_sub hl [2, 3, 1, 0] rfl)
  exact lp5 fuelN (1 : Int64) (0 : Int32) h _ (lv_sub hl [2, 3, 1, 0] rfl)
theorem hd_X4_full : yX4_full.cls = RX4 ∧ yX4_full.cls ≠ "java/lang/invoke/MethodHandle" ∧ yX4_full.cls ≠ "java/lang/invoke/VarHandle" ∧ (parseMethodDescriptor yX4_full.desc).map (fun d => d.parameters.length) = some 0 := by decide +kernel
set_option maxHeartbeats 4000000 in
set_option maxRecDepth 100000 in
theorem c_X4_full (l : Launch) (D : va_G) (cy : Nat → ClassId) (a_la a_od : Nat) (la_lanes : Int32) (la_deep : Int32) (la_lanesTold : Int32) (la_who : Value) (la_firstStrong : Value) (la_beasts : Int32) (la_kind : Value) (la_firstLane : Value) (la_mood : Value) (la_price : Value) (la_cities : Int32) (la_passes : Int32) (la_passBetween : Value) (la_turned : Int32) (od_now : Value) (res : Int64) (h : f_X4_full la_deep = some (res)) : Met l yX4_full wo_X4_full ({ frames := 1, cells := 0, slots := 0, locals := 24 }) (roPc D cy [.ref a_od] [(a_la, .inr (2, [.int la_lanes, .int la_deep, .int la_lanesTold, la_who, la_firstStrong, .int la_beasts, la_kind, la_firstLane, la_mood, la_price, .int la_cities, .int la_passes, la_passBetween, .int la_turned])), (a_od, .inr (4, [.ref a_la, od_now]))]) (vp_Sl (fun r => r = res)) 0 0 (fun _ => False) := by
  refine Met.ofW (cc := cX4_full) (maxL := 1) (ret := (some .long)) (by decide) rfl ?_
  intro p e s m args below meth c s₁ B hml hv
  obtain ⟨rfl, hP, hKN⟩ := hv
  have hK := hKN.1
  have hx := B.exec
  have hb := B.bytes
  have hr := B.returns
  have hts := wt_X4_full hKN.2.2 (([.ref a_od] : List Value).toArray)
  have hown : s.vm.findClass RX4 = some m.cls := findClass_of_methodNamed B.named
  have hlocks := B.notSynchronized
  have hl := lv_entry ([.ref a_od]) (n := 1) (Nat.le_of_ble_eq_true rfl)
  rw [lg_entry_eq]
  generalize (lg_sl ([.ref a_od]) ++ List.replicate (1 - (lg_sl ([.ref a_od])).length) Slot.unset).toArray = ls at hl ⊢
  have hl : lv_has ls 1 [(0, .ref a_od)] := hl
  unfold f_X4_full at h
  refine lv_aload_n hx hb dX4_full_0 rfl (lv_at hl 0 rfl) ?_
  refine lv_bipush (v := 100) hx hb dX4_full_1 (by decide) ?_
  obtain ⟨r_1, hc_2, h⟩ := bd1_some h
  refine kVl [.int 100] [] ⟨hx, hb, hml, hown, hts⟩ (c_X4_power l D cy a_la a_od la_lanes la_deep la_lanesTold (la_who) (la_firstStrong) la_beasts (la_kind) (la_firstLane) (la_mood) (la_price) la_cities la_passes (la_passBetween) la_turned (od_now) (100 : Int32) r_1 hc_2) gX4_full_X4_power rfl hd_X4_power ⟨Nat.le_of_ble_eq_true rfl, Nat.le_of_ble_eq_true rfl⟩ rfl rfl hKN (hP.sub [0, 1] rfl) 4 1 rfl rfl rfl hl.1 rfl (Nat.le_of_ble_eq_true rfl) dX4_full_3 ⟨Nat.le_of_ble_eq_true rfl, Nat.le_of_ble_eq_true rfl⟩ ?_
  exact W.lret (v := r_1) hx hb hr (fun t ht _ => ⟨_, rfl, Option.some.inj h, ht⟩) (fun _ q => by cases q) dX4_full_6
theorem hd_X4_acrossOverFull : yX4_acrossOverFull.cls = RX4 ∧ yX4_acrossOverFull.cls ≠ "java/lang/invoke/MethodHandle" ∧ yX4_acrossOverFull.cls ≠ "java/lang/invoke/VarHandle" ∧ (parseMethodDescriptor yX4_acrossOverFull.desc).map (fun d => d.parameters.length) = some 1 := by decide +kernel
set_option maxHeartbeats 4000000 in
set_option maxRecDepth 100000 in
theorem c_X4_acrossOverFull (l : Launch) (D : va_G) (cy : Nat → ClassId) (a_la a_la_kind a_la_mood a_no a_od : Nat) (la_lanes : Int32) (la_deep : Int32) (la_lanesTold : Int32) (la_who : Value) (la_firstStrong : Value) (la_beasts : Int32) (la_firstLane : Value) (la_price : Value) (la_cities : Int32) (la_passes : Int32) (la_passBetween : Value) (la_turned : Int32) (la_kind : Nat → Int32) (la_mood : Nat → Int32) (no_strong : Value) (no_at : Value) (no_wounds : Value) (no_dead : Int32) (no_wet : Int32) (no_drawn : Int32) (p1 : Int32) (res : Int64) (h : f_X4_acrossOverFull la_deep la_kind la_mood no_dead no_wet p1 = some (res)) : Met l yX4_acrossOverFull wo_X4_acrossOverFull ({ frames := 3, cells := 0, slots := 0, locals := 57 }) (roPc D cy [.ref a_od, .int p1] [(a_la, .inr (2, [.int la_lanes, .int la_deep, .int la_lanesTold, la_who, la_firstStrong, .int la_beasts, .ref a_la_kind, la_firstLane, .ref a_la_mood, la_price, .int la_cities, .int la_passes, la_passBetween, .int la_turned])), (a_la_kind, .inl (cy 1, 5, .inl la_kind)), (a_la_mood, .inl (cy 1, 5, .inl la_mood)), (a_no, .inr (8, [no_strong, no_at, no_wounds, .int no_dead, .int no_wet, .int no_drawn])), (a_od, .inr (4, [.ref a_la, .ref a_no]))]) (vp_Sl (fun r => r = res)) 0 0 (fun _ => False) := by
  refine Met.ofW (cc := cX4_acrossOverFull) (maxL := 2) (ret := (some .long)) (by decide) rfl ?_
  intro p e s m args below meth c s₁ B hml hv
  obtain ⟨rfl, hP, hKN⟩ := hv
  have hK := hKN.1
  have hx := B.exec
  have hb := B.bytes
  have hr := B.returns
  have hts := wt_X4_acrossOverFull hKN.2.2 (([.ref a_od, .int p1] : List Value).toArray)
  have hown : s.vm.findClass RX4 = some m.cls := findClass_of_methodNamed B.named
  have hlocks := B.notSynchronized
  have hX4 := wc_X4 hKN.2.2 (([.ref a_od, .int p1] : List Value).toArray)
  have hl := lv_entry ([.ref a_od, .int p1]) (n := 2) (Nat.le_of_ble_eq_true rfl)
  rw [lg_entry_eq]
  generalize (lg_sl ([.ref a_od, .int p1]) ++ List.replicate (2 - (lg_sl ([.ref a_od, .int p1])).length) Slot.unset).toArray = ls at hl ⊢
  have hl : lv_has ls 2 [(0, .ref a_od), (1, .int p1)] := hl
  unfold f_X4_acrossOverFull at h
  refine lv_aload_n hx hb dX4_acrossOverFull_0 rfl (lv_at hl 0 rfl) ?_
  refine va_get (D := D) (ci := 4) (C := RX4) (T := TX4) (N := 2) (v := .ref a_no) hx hb hX4 (fun _ q => q) hown hK hP 4 rfl rfl 1 (by decide) (hts (.fieldLink RX4 15 "ElephantLine$Odds" "now" "LElephantLine$Stand;") (by decide +kernel)) (fun _ h9 => h9) rfl dX4_acrossOverFull_1 ?_
  refine lv_iload_n hx hb dX4_acrossOverFull_4 rfl (lv_at hl 1 rfl) ?_
  obtain ⟨r_1, hc_2, h⟩ := bd1_some h
  refine kVb [.int p1] [] ⟨hx, hb, hml, hown, hts⟩ (c_X8_isDead l D cy a_no (no_strong) (no_at) (no_wounds) no_dead no_wet no_drawn p1 r_1 hc_2) gX4_acrossOverFull_X8_isDead rfl hd_X8_isDead ⟨Nat.le_of_ble_eq_true rfl, Nat.le_of_ble_eq_true rfl⟩ rfl rfl hKN (hP.sub [3] rfl) 8 0 rfl rfl rfl hl.1 rfl (Nat.le_of_ble_eq_true rfl) dX4_acrossOverFull_5 ⟨Nat.le_of_ble_eq_true rfl, Nat.le_of_ble_eq_true rfl⟩ (fun nb_3 => ?_)
  refine lv_if_eq (tgt := 15) hx hb dX4_acrossOverFull_8 (by decide) (fun cd => ?_) (fun cd => ?_)
  · have h := ifT cd h
    refine lv_aload_n hx hb dX4_acrossOverFull_15 rfl (lv_at hl 0 rfl) ?_
    refine lv_aload_n hx hb dX4_acrossOverFull_16 rfl (lv_at hl 0 rfl) ?_
    refine lv_iload_n hx hb dX4_acrossOverFull_17 rfl (lv_at hl 1 rfl) ?_
    obtain ⟨r_4, hc_5, h⟩ := bd1_some h
    refine kVi [.int p1] [.ref a_od] ⟨hx, hb, hml, hown, hts⟩ (c_X4_holdOf l D cy a_la a_la_kind a_la_mood a_no a_od la_lanes la_deep la_lanesTold (la_who) (la_firstStrong) la_beasts (la_firstLane) (la_price) la_cities la_passes (la_passBetween) la_turned la_kind la_mood (no_strong) (no_at) (no_wounds) no_dead no_wet no_drawn p1 r_4 hc_5) gX4_acrossOverFull_X4_holdOf rfl hd_X4_holdOf ⟨Nat.le_of_ble_eq_true rfl, Nat.le_of_ble_eq_true rfl⟩ rfl rfl hKN (hP.sub [0, 1, 2, 3, 4] rfl) 4 4 rfl rfl rfl hl.1 rfl (Nat.le_of_ble_eq_true rfl) dX4_acrossOverFull_18 ⟨Nat.le_of_ble_eq_true rfl, Nat.le_of_ble_eq_true rfl⟩ ?_
    obtain ⟨r_6, hc_7, h⟩ := bd1_some h
    refine kVl [.int r_4] [] ⟨hx, hb, hml, hown, hts⟩ (c_X4_power l D cy a_la a_od la_lanes la_deep la_lanesTold (la_who) (la_firstStrong) la_beasts (.ref a_la_kind) (la_firstLane) (.ref a_la_mood) (la_price) la_cities la_passes (la_passBetween) la_turned (.ref a_no) r_4 r_6 hc_7) gX4_acrossOverFull_X4_power rfl hd_X4_power ⟨Nat.le_of_ble_eq_true rfl, Nat.le_of_ble_eq_true rfl⟩ rfl rfl hKN (hP.sub [0, 4] rfl) 4 1 rfl rfl rfl hl.1 rfl (Nat.le_of_ble_eq_true rfl) dX4_acrossOverFull_21 ⟨Nat.le_of_ble_eq_true rfl, Nat.le_of_ble_eq_true rfl⟩ ?_
    exact W.lret (v := r_6) hx hb hr (fun t ht _ => ⟨_, rfl, Option.some.inj h, ht⟩) (fun _ q => by cases q) dX4_acrossOverFull_24
  · have h := ifF cd h
    refine lv_lconst (v := 0) hx hb dX4_acrossOverFull_11 (by decide) ?_
    refine lv_goto (tgt := 24) hx hb dX4_acrossOverFull_12 (by decide) ?_
    exact W.lret (v := 0) hx hb hr (fun t ht _ => ⟨_, rfl, Option.some.inj h, ht⟩) (fun _ q => by cases q) dX4_acrossOverFull_24
theorem hd_X4_meanIn : yX4_meanIn.cls = RX4 ∧ yX4_meanIn.cls ≠ "java/lang/invoke/MethodHandle" ∧ yX4_meanIn.cls ≠ "java/lang/invoke/VarHandle" ∧ (parseMethodDescriptor yX4_meanIn.desc).map (fun d => d.parameters.length) = some 3 := by decide +kernel
set_option maxHeartbeats 4000000 in
set_option maxRecDepth 100000 in
theorem c_X4_meanIn (l : Launch) (D : va_G) (cy : Nat → ClassId) (a_la a_la_who a_la_kind a_la_mood a_no a_no_strong a_no_wounds a_od : Nat) (la_lanes : Int32) (la_deep : Int32) (la_lanesTold : Int32) (la_firstStrong : Value) (la_beasts : Int32) (la_firstLane : Value) (la_price : Value) (la_cities : Int32) (la_passes : Int32) (la_passBetween : Value) (la_turned : Int32) (la_who : Nat → Int32) (la_kind : Nat → Int32) (la_mood : Nat → Int32) (no_at : Value) (no_dead : Int32) (no_wet : Int32) (no_drawn : Int32) (no_strong : Nat → Int32) (no_wounds : Nat → Int32) (p1 : Int32) (p2 : Int32) (p3 : Int32) (res : Int64) (h : f_X4_meanIn la_deep la_who la_kind la_mood no_dead no_wet no_strong no_wounds p1 p2 p3 = some (res)) : Met l yX4_meanIn wo_X4_meanIn ({ frames := 4, cells := 0, slots := 0, locals := 78 }) (roPc D cy [.ref a_od, .int p1, .int p2, .int p3] [(a_la, .inr (2, [.int la_lanes, .int la_deep, .int la_lanesTold, .ref a_la_who, la_firstStrong, .int la_beasts, .ref a_la_kind, la_firstLane, .ref a_la_mood, la_price, .int la_cities, .int la_passes, la_passBetween, .int la_turned])), (a_la_who, .inl (cy 1, 6, .inl la_who)), (a_la_kind, .inl (cy 1, 5, .inl la_kind)), (a_la_mood, .inl (cy 1, 5, .inl la_mood)), (a_no, .inr (8, [.ref a_no_strong, no_at, .ref a_no_wounds, .int no_dead, .int no_wet, .int no_drawn])), (a_no_strong, .inl (cy 1, 6, .inl no_strong)), (a_no_wounds, .inl (cy 1, 5, .inl no_wounds)), (a_od, .inr (4, [.ref a_la, .ref a_no]))]) (vp_Sl (fun r => r = res)) 0 0 (fun _ => False) := by
  refine Met.ofW (cc := cX4_meanIn) (maxL := 8) (ret := (some .long)) (by decide) rfl ?_
  intro p e s m args below meth c s₁ B hml hv
  obtain ⟨rfl, hP, hKN⟩ := hv
  have hK := hKN.1
  have hx := B.exec
  have hb := B.bytes
  have hr := B.returns
  have hts := wt_X4_meanIn hKN.2.2 (([.ref a_od, .int p1, .int p2, .int p3] : List Value).toArray)
  have hown : s.vm.findClass RX4 = some m.cls := findClass_of_methodNamed B.named
  have hlocks := B.notSynchronized
  have hl := lv_entry ([.ref a_od, .int p1, .int p2, .int p3]) (n := 8) (Nat.le_of_ble_eq_true rfl)
  rw [lg_entry_eq]
  generalize (lg_sl ([.ref a_od, .int p1, .int p2, .int p3]) ++ List.replicate (8 - (lg_sl ([.ref a_od, .int p1, .int p2, .int p3])).length) Slot.unset).toArray = ls at hl ⊢
  have hl : lv_has ls 8 [(0, .ref a_od), (1, .int p1), (2, .int p2), (3, .int p3)] := hl
  unfold f_X4_meanIn at h
  refine lv_aload_n hx hb dX4_meanIn_0 rfl (lv_at hl 0 rfl) ?_
  refine lv_iload_n hx hb dX4_meanIn_1 rfl (lv_at hl 1 rfl) ?_
  obtain ⟨r_1, hc_2, h⟩ := bd1_some h
  refine kVl [.int p1] [] ⟨hx, hb, hml, hown, hts⟩ (c_X4_acrossOverFull l D cy a_la a_la_kind a_la_mood a_no a_od la_lanes la_deep la_lanesTold (.ref a_la_who) (la_firstStrong) la_beasts (la_firstLane) (la_price) la_cities la_passes (la_passBetween) la_turned la_kind la_mood (.ref a_no_strong) (no_at) (.ref a_no_wounds) no_dead no_wet no_drawn p1 r_1 hc_2) gX4_meanIn_X4_acrossOverFull rfl hd_X4_acrossOverFull ⟨Nat.le_of_ble_eq_true rfl, Nat.le_of_ble_eq_true rfl⟩ rfl rfl hKN (hP.sub [0, 2, 3, 4, 7] rfl) 4 4 rfl rfl rfl hl.1 rfl (Nat.le_of_ble_eq_true rfl) dX4_meanIn_2 ⟨Nat.le_of_ble_eq_true rfl, Nat.le_of_ble_eq_true rfl⟩ ?_
  refine lv_lstore (lv' := [(4, .long r_1), (0, .ref a_od), (1, .int p1), (2, .int p2), (3, .int p3)]) hx hb dX4_meanIn_5 hl (by decide) rfl (fun ls hl => ?_)
  refine lv_iload_n hx hb dX4_meanIn_7 rfl (lv_at hl 4 rfl) ?_
  have jn32 : ∀ (t0_3 : Int64), f_X4_meanIn_B32 la_deep la_who la_kind la_mood no_dead no_wet no_strong no_wounds p1 p2 p3 r_1 t0_3 = some (res) → ∀ ls : Array Slot, lv_has ls 8 [(0, .ref a_od), (1, .int p1), (2, .int p2), (3, .int p3), (4, .long r_1)] → W p l e (headSpec wo_X4_meanIn ({ frames := 4, cells := 0, slots := 0, locals := 78 })).room s m (([.ref a_od, .int p1, .int p2, .int p3] : List Value).toArray) below meth c s.heap [] 0 0 (MQ below (vp_Sl (fun r => r = res)) (([.ref a_od, .int p1, .int p2, .int p3] : List Value).toArray) s 0 0 (fun _ => False)) (F0 m 32 ls [.long t0_3]) := by
    intro t0_3 h ls hl
    unfold f_X4_meanIn_B32 at h
    refine lv_lstore (lv' := [(6, .long t0_3), (0, .ref a_od), (1, .int p1), (2, .int p2), (3, .int p3), (4, .long r_1)]) hx hb dX4_meanIn_32 hl (by decide) rfl (fun ls hl => ?_)
    refine lv_lload hx hb dX4_meanIn_34 (lv_at hl 5 rfl) ?_
    refine lv_aload_n hx hb dX4_meanIn_36 rfl (lv_at hl 1 rfl) ?_
    refine lv_iload_n hx hb dX4_meanIn_37 rfl (lv_at hl 2 rfl) ?_
    refine lv_iload_n hx hb dX4_meanIn_38 rfl (lv_at hl 3 rfl) ?_
    refine lv_iload_n hx hb dX4_meanIn_39 rfl (lv_at hl 4 rfl) ?_
    obtain ⟨r_4, hc_5, h⟩ := bd1_some h
    refine kVi [.int p1, .int p2, .int p3] [.long r_1] ⟨hx, hb, hml, hown, hts⟩ (c_X4_harmIn l D cy a_la a_la_who a_la_kind a_no a_no_strong a_no_wounds a_od la_lanes la_deep la_lanesTold (la_firstStrong) la_beasts (la_firstLane) (.ref a_la_mood) (la_price) la_cities la_passes (la_passBetween) la_turned la_who la_kind (no_at) no_dead no_wet no_drawn no_strong no_wounds p1 p2 p3 r_4 hc_5) gX4_meanIn_X4_harmIn rfl hd_X4_harmIn ⟨Nat.le_of_ble_eq_true rfl, Nat.le_of_ble_eq_true rfl⟩ rfl rfl hKN (hP.sub [0, 1, 2, 4, 5, 6, 7] rfl) 4 6 rfl rfl rfl hl.1 rfl (Nat.le_of_ble_eq_true rfl) dX4_meanIn_40 ⟨Nat.le_of_ble_eq_true rfl, Nat.le_of_ble_eq_true rfl⟩ ?_
    refine lv_i2l hx hb dX4_meanIn_43 rfl ?_
    refine lv_lmul hx hb dX4_meanIn_44 ?_
    refine lv_lload hx hb dX4_meanIn_45 (lv_at hl 0 rfl) ?_
    refine lv_ladd hx hb dX4_meanIn_47 ?_
    exact W.lret (v := (r_1 * r_4.toInt64) + t0_3) hx hb hr (fun t ht _ => ⟨_, rfl, Option.some.inj h, ht⟩) (fun _ q => by cases q) dX4_meanIn_48
  refine lv_if_eq (tgt := 31) hx hb dX4_meanIn_8 (by decide) (fun cd => ?_) (fun cd => ?_)
  · have h := ifT cd h
    refine lv_lconst (v := 0) hx hb dX4_meanIn_31 (by decide) ?_
    exact jn32 (0 : Int64) h _ (lv_sub hl [1, 2, 3, 4, 0] rfl)
  · have h := ifF cd h
    refine lv_aload_n hx hb dX4_meanIn_11 rfl (lv_at hl 1 rfl) ?_
    obtain ⟨r_6, hc_7, h⟩ := bd1_some h
    refine kVl [] [] ⟨hx, hb, hml, hown, hts⟩ (c_X4_full l D cy a_la a_od la_lanes la_deep la_lanesTold (.ref a_la_who) (la_firstStrong) la_beasts (.ref a_la_kind) (la_firstLane) (.ref a_la_mood) (la_price) la_cities la_passes (la_passBetween) la_turned (.ref a_no) r_6 hc_7) gX4_meanIn_X4_full rfl hd_X4_full ⟨Nat.le_of_ble_eq_true rfl, Nat.le_of_ble_eq_true rfl⟩ rfl rfl hKN (hP.sub [0, 7] rfl) 4 1 rfl rfl rfl hl.1 rfl (Nat.le_of_ble_eq_true rfl) dX4_meanIn_12 ⟨Nat.le_of_ble_eq_true rfl, Nat.le_of_ble_eq_true rfl⟩ ?_
    refine lv_lload hx hb dX4_meanIn_15 (lv_at hl 0 rfl) ?_
    refine lv_lsub hx hb dX4_meanIn_17 ?_
    refine lv_aload_n hx hb dX4_meanIn_18 rfl (lv_at hl 1 rfl) ?_
    refine lv_iload_n hx hb dX4_meanIn_19 rfl (lv_at hl 2 rfl) ?_
    obtain ⟨r_8, hc_9, h⟩ := bd1_some h
    refine kVi [.int p1] [.long (r_6 - r_1)] ⟨hx, hb, hml, hown, hts⟩ (c_X4_forceOf l D cy a_la a_la_kind a_no a_no_wounds a_od la_lanes la_deep la_lanesTold (.ref a_la_who) (la_firstStrong) la_beasts (la_firstLane) (.ref a_la_mood) (la_price) la_cities la_passes (la_passBetween) la_turned la_kind (.ref a_no_strong) (no_at) no_dead no_wet no_drawn no_wounds p1 r_8 hc_9) gX4_meanIn_X4_forceOf rfl hd_X4_forceOf ⟨Nat.le_of_ble_eq_true rfl, Nat.le_of_ble_eq_true rfl⟩ rfl rfl hKN (hP.sub [0, 2, 4, 6, 7] rfl) 4 4 rfl rfl rfl hl.1 rfl (Nat.le_of_ble_eq_true rfl) dX4_meanIn_20 ⟨Nat.le_of_ble_eq_true rfl, Nat.le_of_ble_eq_true rfl⟩ ?_
    obtain ⟨r_10, hc_11, h⟩ := bd1_some h
    refine kSi [.int r_8] [.long (r_6 - r_1)] ⟨hx, hb, hml, hown, hts⟩ (c_X4_turningHarm l D cy r_8 r_10 hc_11) gX4_meanIn_X4_turningHarm rfl hd_X4_turningHarm ⟨Nat.le_of_ble_eq_true rfl, Nat.le_of_ble_eq_true rfl⟩ rfl rfl hKN va_nil rfl hl.1 rfl (Nat.le_of_ble_eq_true rfl) dX4_meanIn_23 ⟨Nat.le_of_ble_eq_true rfl, Nat.le_of_ble_eq_true rfl⟩ ?_
    refine lv_i2l hx hb dX4_meanIn_26 rfl ?_
    refine lv_lmul hx hb dX4_meanIn_27 ?_
    refine lv_goto (tgt := 32) hx hb dX4_meanIn_28 (by decide) ?_
    exact jn32 ((r_6 - r_1) * r_10.toInt64) h _ (lv_sub hl [1, 2, 3, 4, 0] rfl)
theorem hd_X4_worthBy : yX4_worthBy.cls = RX4 ∧ yX4_worthBy.cls ≠ "java/lang/invoke/MethodHandle" ∧ yX4_worthBy.cls ≠ "java/lang/invoke/VarHandle" ∧ (parseMethodDescriptor yX4_worthBy.desc).map (fun d => d.parameters.length) = some 4 := by decide +kernel
set_option maxHeartbeats 4000000 in
set_option maxRecDepth 100000 in
theorem c_X4_worthBy (l : Launch) (D : va_G) (cy : Nat → ClassId) (a_la a_la_kind a_no a_no_wounds a_od : Nat) (la_lanes : Int32) (la_deep : Int32) (la_lanesTold : Int32) (la_who : Value) (la_firstStrong : Value) (la_beasts : Int32) (la_firstLane : Value) (la_mood : Value) (la_price : Value) (la_cities : Int32) (la_passes : Int32) (la_passBetween : Value) (la_turned : Int32) (la_kind : Nat → Int32) (no_strong : Value) (no_at : Value) (no_dead : Int32) (no_wet : Int32) (no_drawn : Int32) (no_wounds : Nat → Int32) (p1 : Int32) (p2 : Int32) (p3 : Int32) (p4 : Int32) (res : Int64) (h : f_X4_worthBy la_deep la_kind no_dead no_wounds p1 p2 p3 p4 = some (res)) : Met l yX4_worthBy wo_X4_worthBy ({ frames := 2, cells := 0, slots := 0, locals := 44 }) (roPc D cy [.ref a_od, .int p1, .int p2, .int p3, .int p4] [(a_la, .inr (2, [.int la_lanes, .int la_deep, .int la_lanesTold, la_who, la_firstStrong, .int la_beasts, .ref a_la_kind, la_firstLane, la_mood, la_price, .int la_cities, .int la_passes, la_passBetween, .int la_turned])), (a_la_kind, .inl (cy 1, 5, .inl la_kind)), (a_no, .inr (8, [no_strong, no_at, .ref a_no_wounds, .int no_dead, .int no_wet, .int no_drawn])), (a_no_wounds, .inl (cy 1, 5, .inl no_wounds)), (a_od, .inr (4, [.ref a_la, .ref a_no]))]) (vp_Sl (fun r => r = res)) 0 0 (fun _ => False) := by
  refine Met.ofW (cc := cX4_worthBy) (maxL := 10) (ret := (some .long)) (by decide) rfl ?_
  intro p e s m args below meth c s₁ B hml hv
  obtain ⟨rfl, hP, hKN⟩ := hv
  have hK := hKN.1
  have hx := B.exec
  have hb := B.bytes
  have hr := B.returns
  have hts := wt_X4_worthBy hKN.2.2 (([.ref a_od, .int p1, .int p2, .int p3, .int p4] : List Value).toArray)
  have hown : s.vm.findClass RX4 = some m.cls := findClass_of_methodNamed B.named
  have hlocks := B.notSynchronized
  have hX2 := wc_X2 hKN.2.2 (([.ref a_od, .int p1, .int p2, .int p3, .int p4] : List Value).toArray)
  have hX4 := wc_X4 hKN.2.2 (([.ref a_od, .int p1, .int p2, .int p3, .int p4] : List Value).toArray)
  have hl := lv_entry ([.ref a_od, .int p1, .int p2, .int p3, .int p4]) (n := 10) (Nat.le_of_ble_eq_true rfl)
  rw [lg_entry_eq]
  generalize (lg_sl ([.ref a_od, .int p1, .int p2, .int p3, .int p4]) ++ List.replicate (10 - (lg_sl ([.ref a_od, .int p1, .int p2, .int p3, .int p4])).length) Slot.unset).toArray = ls at hl ⊢
  have hl : lv_has ls 10 [(0, .ref a_od), (1, .int p1), (2, .int p2), (3, .int p3), (4, .int p4)] := hl
  unfold f_X4_worthBy at h
  refine lv_aload_n hx hb dX4_worthBy_0 rfl (lv_at hl 0 rfl) ?_
  refine va_get (D := D) (ci := 4) (C := RX4) (T := TX4) (N := 2) (v := .ref a_no) hx hb hX4 (fun _ q => q) hown hK hP 4 rfl rfl 1 (by decide) (hts (.fieldLink RX4 15 "ElephantLine$Odds" "now" "LElephantLine$Stand;") (by decide +kernel)) (fun _ h9 => h9) rfl dX4_worthBy_1 ?_
  refine lv_iload_n hx hb dX4_worthBy_4 rfl (lv_at hl 1 rfl) ?_
  obtain ⟨r_1, hc_2, h⟩ := bd1_some h
  refine kVb [.int p1] [] ⟨hx, hb, hml, hown, hts⟩ (c_X8_isDead l D cy a_no (no_strong) (no_at) (.ref a_no_wounds) no_dead no_wet no_drawn p1 r_1 hc_2) gX4_worthBy_X8_isDead rfl hd_X8_isDead ⟨Nat.le_of_ble_eq_true rfl, Nat.le_of_ble_eq_true rfl⟩ rfl rfl hKN (hP.sub [2] rfl) 8 0 rfl rfl rfl hl.1 rfl (Nat.le_of_ble_eq_true rfl) dX4_worthBy_5 ⟨Nat.le_of_ble_eq_true rfl, Nat.le_of_ble_eq_true rfl⟩ (fun nb_3 => ?_)
  refine lv_if_eq (tgt := 13) hx hb dX4_worthBy_8 (by decide) (fun cd => ?_) (fun cd => ?_)
  · have h := ifT cd h
    refine lv_aload_n hx hb dX4_worthBy_13 rfl (lv_at hl 0 rfl) ?_
    refine va_get (D := D) (ci := 4) (C := RX4) (T := TX4) (N := 2) (v := .ref a_la) hx hb hX4 (fun _ q => q) hown hK hP 4 rfl rfl 0 (by decide) (hts (.fieldLink RX4 9 "ElephantLine$Odds" "land" "LElephantLine$Land;") (by decide +kernel)) (fun _ h9 => h9) rfl dX4_worthBy_14 ?_
    refine va_getN (D := D) (ci := 2) (C := RX2) (T := TX2) (N := 14) (v := .ref a_la_kind) hx hb hX2 (fun _ q => q) hown hK hP 0 rfl rfl 6 (by decide) (va_Nw.use rfl (hKN.2.1.1 ("ElephantLine$Odds", 34, "ElephantLine$Land", "kind", "[I", "ElephantLine") (List.mem_of_getElem? (i := 21) rfl))) (fun _ h9 => h9) rfl dX4_worthBy_17 ?_
    refine lv_iload_n hx hb dX4_worthBy_20 rfl (lv_at hl 1 rfl) ?_
    obtain ⟨i_4, h⟩ := gIn_some h
    refine va_iald hx hb hK hP 1 1 rfl rfl i_4 dX4_worthBy_21 ?_
    refine lv_istore (lv' := [(5, .int (la_kind p1.toNatClampNeg)), (0, .ref a_od), (1, .int p1), (2, .int p2), (3, .int p3), (4, .int p4)]) hx hb dX4_worthBy_22 hl (by decide) rfl (fun ls hl => ?_)
    refine lv_aload_n hx hb dX4_worthBy_24 rfl (lv_at hl 1 rfl) ?_
    refine lv_iload_n hx hb dX4_worthBy_25 rfl (lv_at hl 2 rfl) ?_
    obtain ⟨r_5, hc_6, h⟩ := bd1_some h
    refine kVi [.int p1] [] ⟨hx, hb, hml, hown, hts⟩ (c_X4_forceOf l D cy a_la a_la_kind a_no a_no_wounds a_od la_lanes la_deep la_lanesTold (la_who) (la_firstStrong) la_beasts (la_firstLane) (la_mood) (la_price) la_cities la_passes (la_passBetween) la_turned la_kind (no_strong) (no_at) no_dead no_wet no_drawn no_wounds p1 r_5 hc_6) gX4_worthBy_X4_forceOf rfl hd_X4_forceOf ⟨Nat.le_of_ble_eq_true rfl, Nat.le_of_ble_eq_true rfl⟩ rfl rfl hKN (hP.sub [0, 1, 2, 3, 4] rfl) 4 4 rfl rfl rfl hl.1 rfl (Nat.le_of_ble_eq_true rfl) dX4_worthBy_26 ⟨Nat.le_of_ble_eq_true rfl, Nat.le_of_ble_eq_true rfl⟩ ?_
    refine lv_istore (lv' := [(6, .int r_5), (5, .int (la_kind p1.toNatClampNeg)), (0, .ref a_od), (1, .int p1), (2, .int p2), (3, .int p3), (4, .int p4)]) hx hb dX4_worthBy_29 hl (by decide) rfl (fun ls hl => ?_)
    refine lv_aload_n hx hb dX4_worthBy_31 rfl (lv_at hl 2 rfl) ?_
    refine lv_iload hx hb dX4_worthBy_32 (lv_at hl 6 rfl) ?_
    obtain ⟨r_7, hc_8, h⟩ := bd1_some h
    refine kVl [.int p4] [] ⟨hx, hb, hml, hown, hts⟩ (c_X4_power l D cy a_la a_od la_lanes la_deep la_lanesTold (la_who) (la_firstStrong) la_beasts (.ref a_la_kind) (la_firstLane) (la_mood) (la_price) la_cities la_passes (la_passBetween) la_turned (.ref a_no) p4 r_7 hc_8) gX4_worthBy_X4_power rfl hd_X4_power ⟨Nat.le_of_ble_eq_true rfl, Nat.le_of_ble_eq_true rfl⟩ rfl rfl hKN (hP.sub [0, 4] rfl) 4 1 rfl rfl rfl hl.1 rfl (Nat.le_of_ble_eq_true rfl) dX4_worthBy_34 ⟨Nat.le_of_ble_eq_true rfl, Nat.le_of_ble_eq_true rfl⟩ ?_
    refine lv_lstore (lv' := [(7, .long r_7), (6, .int r_5), (5, .int (la_kind p1.toNatClampNeg)), (0, .ref a_od), (1, .int p1), (2, .int p2), (3, .int p3), (4, .int p4)]) hx hb dX4_worthBy_37 hl (by decide) rfl (fun ls hl => ?_)
    refine lv_iload hx hb dX4_worthBy_39 (lv_at hl 2 rfl) ?_
    refine lv_iload hx hb dX4_worthBy_41 (lv_at hl 1 rfl) ?_
    refine lv_iload_n hx hb dX4_worthBy_43 rfl (lv_at hl 5 rfl) ?_
    refine lv_iload_n hx hb dX4_worthBy_44 rfl (lv_at hl 6 rfl) ?_
    obtain ⟨r_9, hc_10, h⟩ := bd1_some h
    refine kSi [.int (la_kind p1.toNatClampNeg), .int r_5, .int p2, .int p3] [] ⟨hx, hb, hml, hown, hts⟩ (c_X4_foeHarm l D cy (la_kind p1.toNatClampNeg) r_5 p2 p3 r_9 hc_10) gX4_worthBy_X4_foeHarm rfl hd_X4_foeHarm ⟨Nat.le_of_ble_eq_true rfl, Nat.le_of_ble_eq_true rfl⟩ rfl rfl hKN va_nil rfl hl.1 rfl (Nat.le_of_ble_eq_true rfl) dX4_worthBy_45 ⟨Nat.le_of_ble_eq_true rfl, Nat.le_of_ble_eq_true rfl⟩ ?_
    refine lv_iload hx hb dX4_worthBy_48 (lv_at hl 2 rfl) ?_
    refine lv_iload hx hb dX4_worthBy_50 (lv_at hl 1 rfl) ?_
    refine lv_iload_n hx hb dX4_worthBy_52 rfl (lv_at hl 5 rfl) ?_
    refine lv_iload_n hx hb dX4_worthBy_53 rfl (lv_at hl 6 rfl) ?_
    obtain ⟨r_11, hc_12, h⟩ := bd1_some h
    refine kSi [.int (la_kind p1.toNatClampNeg), .int r_5, .int p2, .int p3] [.int r_9] ⟨hx, hb, hml, hown, hts⟩ (c_X4_ownHarm l D cy (la_kind p1.toNatClampNeg) r_5 p2 p3 r_11 hc_12) gX4_worthBy_X4_ownHarm rfl hd_X4_ownHarm ⟨Nat.le_of_ble_eq_true rfl, Nat.le_of_ble_eq_true rfl⟩ rfl rfl hKN va_nil rfl hl.1 rfl (Nat.le_of_ble_eq_true rfl) dX4_worthBy_54 ⟨Nat.le_of_ble_eq_true rfl, Nat.le_of_ble_eq_true rfl⟩ ?_
    refine lv_isub hx hb dX4_worthBy_57 ?_
    refine lv_istore (lv' := [(9, .int (r_9 - r_11)), (7, .long r_7), (6, .int r_5), (5, .int (la_kind p1.toNatClampNeg)), (0, .ref a_od), (1, .int p1), (2, .int p2), (3, .int p3), (4, .int p4)]) hx hb dX4_worthBy_58 hl (by decide) rfl (fun ls hl => ?_)
    refine lv_lload hx hb dX4_worthBy_60 (lv_at hl 1 rfl) ?_
    refine lv_iload hx hb dX4_worthBy_62 (lv_at hl 0 rfl) ?_
    refine lv_i2l hx hb dX4_worthBy_64 rfl ?_
    refine lv_lmul hx hb dX4_worthBy_65 ?_
    refine lv_aload_n hx hb dX4_worthBy_66 rfl (lv_at hl 4 rfl) ?_
    obtain ⟨r_13, hc_14, h⟩ := bd1_some h
    refine kVl [] [.long (r_7 * ((r_9 - r_11).toInt64))] ⟨hx, hb, hml, hown, hts⟩ (c_X4_full l D cy a_la a_od la_lanes la_deep la_lanesTold (la_who) (la_firstStrong) la_beasts (.ref a_la_kind) (la_firstLane) (la_mood) (la_price) la_cities la_passes (la_passBetween) la_turned (.ref a_no) r_13 hc_14) gX4_worthBy_X4_full rfl hd_X4_full ⟨Nat.le_of_ble_eq_true rfl, Nat.le_of_ble_eq_true rfl⟩ rfl rfl hKN (hP.sub [0, 4] rfl) 4 1 rfl rfl rfl hl.1 rfl (Nat.le_of_ble_eq_true rfl) dX4_worthBy_67 ⟨Nat.le_of_ble_eq_true rfl, Nat.le_of_ble_eq_true rfl⟩ ?_
    refine lv_lload hx hb dX4_worthBy_70 (lv_at hl 1 rfl) ?_
    refine lv_lsub hx hb dX4_worthBy_72 ?_
    refine lv_iload hx hb dX4_worthBy_73 (lv_at hl 2 rfl) ?_
    obtain ⟨r_15, hc_16, h⟩ := bd1_some h
    refine kSi [.int r_5] [.long (r_13 - r_7), .long (r_7 * ((r_9 - r_11).toInt64))] ⟨hx, hb, hml, hown, hts⟩ (c_X4_turningHarm l D cy r_5 r_15 hc_16) gX4_worthBy_X4_turningHarm rfl hd_X4_turningHarm ⟨Nat.le_of_ble_eq_true rfl, Nat.le_of_ble_eq_true rfl⟩ rfl rfl hKN va_nil rfl hl.1 rfl (Nat.le_of_ble_eq_true rfl) dX4_worthBy_75 ⟨Nat.le_of_ble_eq_true rfl, Nat.le_of_ble_eq_true rfl⟩ ?_
    refine lv_i2l hx hb dX4_worthBy_78 rfl ?_
    refine lv_lmul hx hb dX4_worthBy_79 ?_
    refine lv_lsub hx hb dX4_worthBy_80 ?_
    exact W.lret (v := (r_7 * ((r_9 - r_11).toInt64)) - ((r_13 - r_7) * r_15.toInt64)) hx hb hr (fun t ht _ => ⟨_, rfl, Option.some.inj h, ht⟩) (fun _ q => by cases q) dX4_worthBy_81
  · have h := ifF cd h
    refine lv_lconst (v := 0) hx hb dX4_worthBy_11 (by decide) ?_
    exact W.lret (v := 0) hx hb hr (fun t ht _ => ⟨_, rfl, Option.some.inj h, ht⟩) (fun _ q => by cases q) dX4_worthBy_12
theorem hd_X4_worthIn : yX4_worthIn.cls = RX4 ∧ yX4_worthIn.cls ≠ "java/lang/invoke/MethodHandle" ∧ yX4_worthIn.cls ≠ "java/lang/invoke/VarHandle" ∧ (parseMethodDescriptor yX4_worthIn.desc).map (fun d => d.parameters.length) = some 2 := by decide +kernel
set_option maxHeartbeats 4000000 in
set_option maxRecDepth 100000 in
theorem c_X4_worthIn (l : Launch) (D : va_G) (cy : Nat → ClassId) (a_la a_la_who a_la_kind a_la_mood a_no a_no_strong a_no_wounds a_od : Nat) (la_lanes : Int32) (la_deep : Int32) (la_lanesTold : Int32) (la_firstStrong : Value) (la_beasts : Int32) (la_firstLane : Value) (la_price : Value) (la_cities : Int32) (la_passes : Int32) (la_passBetween : Value) (la_turned : Int32) (la_who : Nat → Int32) (la_kind : Nat → Int32) (la_mood : Nat → Int32) (no_at : Value) (no_dead : Int32) (no_wet : Int32) (no_drawn : Int32) (no_strong : Nat → Int32) (no_wounds : Nat → Int32) (p1 : Int32) (p2 : Int32) (res : Int64) (h : f_X4_worthIn la_deep la_who la_kind la_mood no_dead no_wet no_strong no_wounds p1 p2 = some (res)) : Met l yX4_worthIn wo_X4_worthIn ({ frames := 3, cells := 0, slots := 0, locals := 73 }) (roPc D cy [.ref a_od, .int p1, .int p2] [(a_la, .inr (2, [.int la_lanes, .int la_deep, .int la_lanesTold, .ref a_la_who, la_firstStrong, .int la_beasts, .ref a_la_kind, la_firstLane, .ref a_la_mood, la_price, .int la_cities, .int la_passes, la_passBetween, .int la_turned])), (a_la_who, .inl (cy 1, 6, .inl la_who)), (a_la_kind, .inl (cy 1, 5, .inl la_kind)), (a_la_mood, .inl (cy 1, 5, .inl la_mood)), (a_no, .inr (8, [.ref a_no_strong, no_at, .ref a_no_wounds, .int no_dead, .int no_wet, .int no_drawn])), (a_no_strong, .inl (cy 1, 6, .inl no_strong)), (a_no_wounds, .inl (cy 1, 5, .inl no_wounds)), (a_od, .inr (4, [.ref a_la, .ref a_no]))]) (vp_Sl (fun r => r = res)) 0 0 (fun _ => False) := by
  refine Met.ofW (cc := cX4_worthIn) (maxL := 3) (ret := (some .long)) (by decide) rfl ?_
  intro p e s m args below meth c s₁ B hml hv
  obtain ⟨rfl, hP, hKN⟩ := hv
  have hK := hKN.1
  have hx := B.exec
  have hb := B.bytes
  have hr := B.returns
  have hts := wt_X4_worthIn hKN.2.2 (([.ref a_od, .int p1, .int p2] : List Value).toArray)
  have hown : s.vm.findClass RX4 = some m.cls := findClass_of_methodNamed B.named
  have hlocks := B.notSynchronized
  have hX2 := wc_X2 hKN.2.2 (([.ref a_od, .int p1, .int p2] : List Value).toArray)
  have hX4 := wc_X4 hKN.2.2 (([.ref a_od, .int p1, .int p2] : List Value).toArray)
  have hX8 := wc_X8 hKN.2.2 (([.ref a_od, .int p1, .int p2] : List Value).toArray)
  have hl := lv_entry ([.ref a_od, .int p1, .int p2]) (n := 3) (Nat.le_of_ble_eq_true rfl)
  rw [lg_entry_eq]
  generalize (lg_sl ([.ref a_od, .int p1, .int p2]) ++ List.replicate (3 - (lg_sl ([.ref a_od, .int p1, .int p2])).length) Slot.unset).toArray = ls at hl ⊢
  have hl : lv_has ls 3 [(0, .ref a_od), (1, .int p1), (2, .int p2)] := hl
  unfold f_X4_worthIn at h
  refine lv_aload_n hx hb dX4_worthIn_0 rfl (lv_at hl 0 rfl) ?_
  refine lv_iload_n hx hb dX4_worthIn_1 rfl (lv_at hl 1 rfl) ?_
  refine lv_aload_n hx hb dX4_worthIn_2 rfl (lv_at hl 0 rfl) ?_
  refine va_get (D := D) (ci := 4) (C := RX4) (T := TX4) (N := 2) (v := .ref a_la) hx hb hX4 (fun _ q => q) hown hK hP 7 rfl rfl 0 (by decide) (hts (.fieldLink RX4 9 "ElephantLine$Odds" "land" "LElephantLine$Land;") (by decide +kernel)) (fun _ h9 => h9) rfl dX4_worthIn_3 ?_
  refine va_getN (D := D) (ci := 2) (C := RX2) (T := TX2) (N := 14) (v := .ref a_la_who) hx hb hX2 (fun _ q => q) hown hK hP 0 rfl rfl 3 (by decide) (va_Nw.use rfl (hKN.2.1.1 ("ElephantLine$Odds", 61, "ElephantLine$Land", "who", "[I", "ElephantLine") (List.mem_of_getElem? (i := 12) rfl))) (fun _ h9 => h9) rfl dX4_worthIn_6 ?_
  refine lv_iload_n hx hb dX4_worthIn_9 rfl (lv_at hl 2 rfl) ?_
  obtain ⟨i_1, h⟩ := gIn_some h
  refine va_iald hx hb hK hP 1 1 rfl rfl i_1 dX4_worthIn_10 ?_
  refine lv_aload_n hx hb dX4_worthIn_11 rfl (lv_at hl 0 rfl) ?_
  refine va_get (D := D) (ci := 4) (C := RX4) (T := TX4) (N := 2) (v := .ref a_no) hx hb hX4 (fun _ q => q) hown hK hP 7 rfl rfl 1 (by decide) (hts (.fieldLink RX4 15 "ElephantLine$Odds" "now" "LElephantLine$Stand;") (by decide +kernel)) (fun _ h9 => h9) rfl dX4_worthIn_12 ?_
  refine va_getN (D := D) (ci := 8) (C := RX8) (T := TX8) (N := 6) (v := .ref a_no_strong) hx hb hX8 (fun _ q => q) hown hK hP 4 rfl rfl 0 (by decide) (va_Nw.use rfl (hKN.2.1.1 ("ElephantLine$Odds", 64, "ElephantLine$Stand", "strong", "[I", "ElephantLine") (List.mem_of_getElem? (i := 43) rfl))) (fun _ h9 => h9) rfl dX4_worthIn_15 ?_
  refine lv_iload_n hx hb dX4_worthIn_18 rfl (lv_at hl 2 rfl) ?_
  obtain ⟨i_2, h⟩ := gIn_some h
  refine va_iald hx hb hK hP 5 1 rfl rfl i_2 dX4_worthIn_19 ?_
  refine lv_aload_n hx hb dX4_worthIn_20 rfl (lv_at hl 0 rfl) ?_
  refine lv_iload_n hx hb dX4_worthIn_21 rfl (lv_at hl 1 rfl) ?_
  obtain ⟨r_3, hc_4, h⟩ := bd1_some h
  refine kVi [.int p1] [.int (no_strong p2.toNatClampNeg), .int (la_who p2.toNatClampNeg), .int p1, .ref a_od] ⟨hx, hb, hml, hown, hts⟩ (c_X4_holdOf l D cy a_la a_la_kind a_la_mood a_no a_od la_lanes la_deep la_lanesTold (.ref a_la_who) (la_firstStrong) la_beasts (la_firstLane) (la_price) la_cities la_passes (la_passBetween) la_turned la_kind la_mood (.ref a_no_strong) (no_at) (.ref a_no_wounds) no_dead no_wet no_drawn p1 r_3 hc_4) gX4_worthIn_X4_holdOf rfl hd_X4_holdOf ⟨Nat.le_of_ble_eq_true rfl, Nat.le_of_ble_eq_true rfl⟩ rfl rfl hKN (hP.sub [0, 2, 3, 4, 7] rfl) 4 4 rfl rfl rfl hl.1 rfl (Nat.le_of_ble_eq_true rfl) dX4_worthIn_22 ⟨Nat.le_of_ble_eq_true rfl, Nat.le_of_ble_eq_true rfl⟩ ?_
  obtain ⟨r_5, hc_6, h⟩ := bd1_some h
  refine kVl [.int p1, .int (la_who p2.toNatClampNeg), .int (no_strong p2.toNatClampNeg), .int r_3] [] ⟨hx, hb, hml, hown, hts⟩ (c_X4_worthBy l D cy a_la a_la_kind a_no a_no_wounds a_od la_lanes la_deep la_lanesTold (.ref a_la_who) (la_firstStrong) la_beasts (la_firstLane) (.ref a_la_mood) (la_price) la_cities la_passes (la_passBetween) la_turned la_kind (.ref a_no_strong) (no_at) no_dead no_wet no_drawn no_wounds p1 (la_who p2.toNatClampNeg) (no_strong p2.toNatClampNeg) r_3 r_5 hc_6) gX4_worthIn_X4_worthBy rfl hd_X4_worthBy ⟨Nat.le_of_ble_eq_true rfl, Nat.le_of_ble_eq_true rfl⟩ rfl rfl hKN (hP.sub [0, 2, 4, 6, 7] rfl) 4 4 rfl rfl rfl hl.1 rfl (Nat.le_of_ble_eq_true rfl) dX4_worthIn_25 ⟨Nat.le_of_ble_eq_true rfl, Nat.le_of_ble_eq_true rfl⟩ ?_
  exact W.lret (v := r_5) hx hb hr (fun t ht _ => ⟨_, rfl, Option.some.inj h, ht⟩) (fun _ q => by cases q) dX4_worthIn_28
theorem hd_X4_worthInOpen : yX4_worthInOpen.cls = RX4 ∧ yX4_worthInOpen.cls ≠ "java/lang/invoke/MethodHandle" ∧ yX4_worthInOpen.cls ≠ "java/lang/invoke/VarHandle" ∧ (parseMethodDescriptor yX4_worthInOpen.desc).map (fun d => d.parameters.length) = some 1 := by decide +kernel
set_option maxHeartbeats 4000000 in
set_option maxRecDepth 100000 in
theorem c_X4_worthInOpen (l : Launch) (D : va_G) (cy : Nat → ClassId) (a_la a_la_kind a_la_mood a_no a_no_wounds a_od : Nat) (la_lanes : Int32) (la_deep : Int32) (la_lanesTold : Int32) (la_who : Value) (la_firstStrong : Value) (la_beasts : Int32) (la_firstLane : Value) (la_price : Value) (la_cities : Int32) (la_passes : Int32) (la_passBetween : Value) (la_turned : Int32) (la_kind : Nat → Int32) (la_mood : Nat → Int32) (no_strong : Value) (no_at : Value) (no_dead : Int32) (no_wet : Int32) (no_drawn : Int32) (no_wounds : Nat → Int32) (p1 : Int32) (res : Int64) (h : f_X4_worthInOpen la_deep la_kind la_mood no_dead no_wet no_wounds p1 = some (res)) : Met l yX4_worthInOpen wo_X4_worthInOpen ({ frames := 3, cells := 0, slots := 0, locals := 73 }) (roPc D cy [.ref a_od, .int p1] [(a_la, .inr (2, [.int la_lanes, .int la_deep, .int la_lanesTold, la_who, la_firstStrong, .int la_beasts, .ref a_la_kind, la_firstLane, .ref a_la_mood, la_price, .int la_cities, .int la_passes, la_passBetween, .int la_turned])), (a_la_kind, .inl (cy 1, 5, .inl la_kind)), (a_la_mood, .inl (cy 1, 5, .inl la_mood)), (a_no, .inr (8, [no_strong, no_at, .ref a_no_wounds, .int no_dead, .int no_wet, .int no_drawn])), (a_no_wounds, .inl (cy 1, 5, .inl no_wounds)), (a_od, .inr (4, [.ref a_la, .ref a_no]))]) (vp_Sl (fun r => r = res)) 0 0 (fun _ => False) := by
  refine Met.ofW (cc := cX4_worthInOpen) (maxL := 2) (ret := (some .long)) (by decide) rfl ?_
  intro p e s m args below meth c s₁ B hml hv
  obtain ⟨rfl, hP, hKN⟩ := hv
  have hK := hKN.1
  have hx := B.exec
  have hb := B.bytes
  have hr := B.returns
  have hts := wt_X4_worthInOpen hKN.2.2 (([.ref a_od, .int p1] : List Value).toArray)
  have hown : s.vm.findClass RX4 = some m.cls := findClass_of_methodNamed B.named
  have hlocks := B.notSynchronized
  have hl := lv_entry ([.ref a_od, .int p1]) (n := 2) (Nat.le_of_ble_eq_true rfl)
  rw [lg_entry_eq]
  generalize (lg_sl ([.ref a_od, .int p1]) ++ List.replicate (2 - (lg_sl ([.ref a_od, .int p1])).length) Slot.unset).toArray = ls at hl ⊢
  have hl : lv_has ls 2 [(0, .ref a_od), (1, .int p1)] := hl
  unfold f_X4_worthInOpen at h
  refine lv_aload_n hx hb dX4_worthInOpen_0 rfl (lv_at hl 0 rfl) ?_
  refine lv_iload_n hx hb dX4_worthInOpen_1 rfl (lv_at hl 1 rfl) ?_
  refine lv_iconst (v := 0) hx hb dX4_worthInOpen_2 (by decide) ?_
  refine lv_iconst (v := 0) hx hb dX4_worthInOpen_3 (by decide) ?_
  refine lv_aload_n hx hb dX4_worthInOpen_4 rfl (lv_at hl 0 rfl) ?_
  refine lv_iload_n hx hb dX4_worthInOpen_5 rfl (lv_at hl 1 rfl) ?_
  obtain ⟨r_1, hc_2, h⟩ := bd1_some h
  refine kVi [.int p1] [.int 0, .int 0, .int p1, .ref a_od] ⟨hx, hb, hml, hown, hts⟩ (c_X4_holdOf l D cy a_la a_la_kind a_la_mood a_no a_od la_lanes la_deep la_lanesTold (la_who) (la_firstStrong) la_beasts (la_firstLane) (la_price) la_cities la_passes (la_passBetween) la_turned la_kind la_mood (no_strong) (no_at) (.ref a_no_wounds) no_dead no_wet no_drawn p1 r_1 hc_2) gX4_worthInOpen_X4_holdOf rfl hd_X4_holdOf ⟨Nat.le_of_ble_eq_true rfl, Nat.le_of_ble_eq_true rfl⟩ rfl rfl hKN (hP.sub [0, 1, 2, 3, 5] rfl) 4 4 rfl rfl rfl hl.1 rfl (Nat.le_of_ble_eq_true rfl) dX4_worthInOpen_6 ⟨Nat.le_of_ble_eq_true rfl, Nat.le_of_ble_eq_true rfl⟩ ?_
  obtain ⟨r_3, hc_4, h⟩ := bd1_some h
  refine kVl [.int p1, .int 0, .int 0, .int r_1] [] ⟨hx, hb, hml, hown, hts⟩ (c_X4_worthBy l D cy a_la a_la_kind a_no a_no_wounds a_od la_lanes la_deep la_lanesTold (la_who) (la_firstStrong) la_beasts (la_firstLane) (.ref a_la_mood) (la_price) la_cities la_passes (la_passBetween) la_turned la_kind (no_strong) (no_at) no_dead no_wet no_drawn no_wounds p1 (0 : Int32) (0 : Int32) r_1 r_3 hc_4) gX4_worthInOpen_X4_worthBy rfl hd_X4_worthBy ⟨Nat.le_of_ble_eq_true rfl, Nat.le_of_ble_eq_true rfl⟩ rfl rfl hKN (hP.sub [0, 1, 3, 4, 5] rfl) 4 4 rfl rfl rfl hl.1 rfl (Nat.le_of_ble_eq_true rfl) dX4_worthInOpen_9 ⟨Nat.le_of_ble_eq_true rfl, Nat.le_of_ble_eq_true rfl⟩ ?_
  exact W.lret (v := r_3) hx hb hr (fun t ht _ => ⟨_, rfl, Option.some.inj h, ht⟩) (fun _ q => by cases q) dX4_worthInOpen_12
theorem hd_X4_sumOfMeans : yX4_sumOfMeans.cls = RX4 ∧ yX4_sumOfMeans.cls ≠ "java/lang/invoke/MethodHandle" ∧ yX4_sumOfMeans.cls ≠ "java/lang/invoke/VarHandle" ∧ (parseMethodDescriptor yX4_sumOfMeans.desc).map (fun d => d.parameters.length) = some 1 := by decide +kernel
set_option maxHeartbeats 4000000 in
set_option maxRecDepth 100000 in
theorem c_X4_sumOfMeans (l : Launch) (D : va_G) (cy : Nat → ClassId) (a_la a_la_who a_la_kind a_la_mood a_no a_no_strong a_no_at a_no_wounds a_od : Nat) (la_lanes : Int32) (la_deep : Int32) (la_lanesTold : Int32) (la_firstStrong : Value) (la_beasts : Int32) (la_firstLane : Value) (la_price : Value) (la_cities : Int32) (la_passes : Int32) (la_passBetween : Value) (la_turned : Int32) (la_who : Nat → Int32) (la_kind : Nat → Int32) (la_mood : Nat → Int32) (no_dead : Int32) (no_wet : Int32) (no_drawn : Int32) (no_strong : Nat → Int32) (no_at : Nat → Int32) (no_wounds : Nat → Int32) (p1 : Int32) (res : Int64) (h : f_X4_sumOfMeans la_deep la_beasts la_who la_kind la_mood no_dead no_wet no_strong no_at no_wounds p1 = some (res)) : Met l yX4_sumOfMeans wo_X4_sumOfMeans ({ frames := 5, cells := 0, slots := 0, locals := 105 }) (roPc D cy [.ref a_od, .int p1] [(a_la, .inr (2, [.int la_lanes, .int la_deep, .int la_lanesTold, .ref a_la_who, la_firstStrong, .int la_beasts, .ref a_la_kind, la_firstLane, .ref a_la_mood, la_price, .int la_cities, .int la_passes, la_passBetween, .int la_turned])), (a_la_who, .inl (cy 1, 6, .inl la_who)), (a_la_kind, .inl (cy 1, 5, .inl la_kind)), (a_la_mood, .inl (cy 1, 5, .inl la_mood)), (a_no, .inr (8, [.ref a_no_strong, .ref a_no_at, .ref a_no_wounds, .int no_dead, .int no_wet, .int no_drawn])), (a_no_strong, .inl (cy 1, 6, .inl no_strong)), (a_no_at, .inl (cy 1, 5, .inl no_at)), (a_no_wounds, .inl (cy 1, 5, .inl no_wounds)), (a_od, .inr (4, [.ref a_la, .ref a_no]))]) (vp_Sl (fun r => r = res)) 0 0 (fun _ => False) := by
  refine Met.ofW (cc := cX4_sumOfMeans) (maxL := 5) (ret := (some .long)) (by decide) rfl ?_
  intro p e s m args below meth c s₁ B hml hv
  obtain ⟨rfl, hP, hKN⟩ := hv
  have hK := hKN.1
  have hx := B.exec
  have hb := B.bytes
  have hr := B.returns
  have hts := wt_X4_sumOfMeans hKN.2.2 (([.ref a_od, .int p1] : List Value).toArray)
  have hown : s.vm.findClass RX4 = some m.cls := findClass_of_methodNamed B.named
  have hlocks := B.notSynchronized
  have hX2 := wc_X2 hKN.2.2 (([.ref a_od, .int p1] : List Value).toArray)
  have hX4 := wc_X4 hKN.2.2 (([.ref a_od, .int p1] : List Value).toArray)
  have hX8 := wc_X8 hKN.2.2 (([.ref a_od, .int p1] : List Value).toArray)
  have hl := lv_entry ([.ref a_od, .int p1]) (n := 5) (Nat.le_of_ble_eq_true rfl)
  rw [lg_entry_eq]
  generalize (lg_sl ([.ref a_od, .int p1]) ++ List.replicate (5 - (lg_sl ([.ref a_od, .int p1])).length) Slot.unset).toArray = ls at hl ⊢
  have hl : lv_has ls 5 [(0, .ref a_od), (1, .int p1)] := hl
  unfold f_X4_sumOfMeans at h
  refine lv_lconst (v := 0) hx hb dX4_sumOfMeans_0 (by decide) ?_
  refine lv_lstore_n (lv' := [(2, .long 0), (0, .ref a_od), (1, .int p1)]) hx hb dX4_sumOfMeans_1 rfl hl (by decide) rfl (fun ls hl => ?_)
  refine lv_iconst (v := 0) hx hb dX4_sumOfMeans_2 (by decide) ?_
  refine lv_istore (lv' := [(4, .int 0), (2, .long 0), (0, .ref a_od), (1, .int p1)]) hx hb dX4_sumOfMeans_3 hl (by decide) rfl (fun ls hl => ?_)
  have lp5 : ∀ (n5 : Nat) (x2_1 : Int64) (x4_2 : Int32), f_X4_sumOfMeans_L5 la_deep la_beasts la_who la_kind la_mood no_dead no_wet no_strong no_at no_wounds p1 n5 x2_1 x4_2 = some (res) → ∀ ls : Array Slot, lv_has ls 5 [(0, .ref a_od), (1, .int p1), (2, .long x2_1), (4, .int x4_2)] → W p l e (headSpec wo_X4_sumOfMeans ({ frames := 5, cells := 0, slots := 0, locals := 105 })).room s m (([.ref a_od, .int p1] : List Value).toArray) below meth c s.heap [] 0 0 (MQ below (vp_Sl (fun r => r = res)) (([.ref a_od, .int p1] : List Value).toArray) s 0 0 (fun _ => False)) (F0 m 5 ls []) := by
    intro n5
    induction n5 with
    | zero => intro x2_1 x4_2 h; exact absurd (show (none : Option (Int64)) = some _ from h) (by intro q; cases q)
    | succ n5 ih5 =>
      intro x2_1 x4_2 h ls hl
      have h : f_X4_sumOfMeans_b5 la_deep la_beasts la_who la_kind la_mood no_dead no_wet no_strong no_at no_wounds p1 (f_X4_sumOfMeans_L5 la_deep la_beasts la_who la_kind la_mood no_dead no_wet no_strong no_at no_wounds p1 n5) x2_1 x4_2 = some (res) := h
      unfold f_X4_sumOfMeans_b5 at h
      refine lv_iload hx hb dX4_sumOfMeans_5 (lv_at hl 3 rfl) ?_
      refine lv_aload_n hx hb dX4_sumOfMeans_7 rfl (lv_at hl 0 rfl) ?_
      refine va_get (D := D) (ci := 4) (C := RX4) (T := TX4) (N := 2) (v := .ref a_la) hx hb hX4 (fun _ q => q) hown hK hP 8 rfl rfl 0 (by decide) (hts (.fieldLink RX4 9 "ElephantLine$Odds" "land" "LElephantLine$Land;") (by decide +kernel)) (fun _ h9 => h9) rfl dX4_sumOfMeans_8 ?_
      refine va_getN (D := D) (ci := 2) (C := RX2) (T := TX2) (N := 14) (v := .int la_beasts) hx hb hX2 (fun _ q => q) hown hK hP 0 rfl rfl 5 (by decide) (va_Nw.use rfl (hKN.2.1.1 ("ElephantLine$Odds", 102, "ElephantLine$Land", "beasts", "I", "ElephantLine") (List.mem_of_getElem? (i := 20) rfl))) (fun _ h9 => h9) rfl dX4_sumOfMeans_11 ?_
      refine lv_icmp_ge (tgt := 43) hx hb dX4_sumOfMeans_14 (by decide) (fun cd => ?_) (fun cd => ?_)
      · have h := ifT cd h
        refine lv_lload_n hx hb dX4_sumOfMeans_43 rfl (lv_at hl 2 rfl) ?_
        exact W.lret (v := x2_1) hx hb hr (fun t ht _ => ⟨_, rfl, Option.some.inj h, ht⟩) (fun _ q => by cases q) dX4_sumOfMeans_44
      · have h := ifF cd h
        refine lv_lload_n hx hb dX4_sumOfMeans_17 rfl (lv_at hl 2 rfl) ?_
        refine lv_aload_n hx hb dX4_sumOfMeans_18 rfl (lv_at hl 0 rfl) ?_
        refine lv_iload hx hb dX4_sumOfMeans_19 (lv_at hl 3 rfl) ?_
        refine lv_aload_n hx hb dX4_sumOfMeans_21 rfl (lv_at hl 0 rfl) ?_
        refine va_get (D := D) (ci := 4) (C := RX4) (T := TX4) (N := 2) (v := .ref a_no) hx hb hX4 (fun _ q => q) hown hK hP 8 rfl rfl 1 (by decide) (hts (.fieldLink RX4 15 "ElephantLine$Odds" "now" "LElephantLine$Stand;") (by decide +kernel)) (fun _ h9 => h9) rfl dX4_sumOfMeans_22 ?_
        refine va_getN (D := D) (ci := 8) (C := RX8) (T := TX8) (N := 6) (v := .ref a_no_at) hx hb hX8 (fun _ q => q) hown hK hP 4 rfl rfl 1 (by decide) (va_Nw.use rfl (hKN.2.1.1 ("ElephantLine$Odds", 105, "ElephantLine$Stand", "at", "[I", "ElephantLine") (List.mem_of_getElem? (i := 48) rfl))) (fun _ h9 => h9) rfl dX4_sumOfMeans_25 ?_
        refine lv_iload hx hb dX4_sumOfMeans_28 (lv_at hl 3 rfl) ?_
        obtain ⟨i_3, h⟩ := gIn_some h
        refine va_iald hx hb hK hP 6 1 rfl rfl i_3 dX4_sumOfMeans_30 ?_
        refine lv_iload_n hx hb dX4_sumOfMeans_31 rfl (lv_at hl 1 rfl) ?_
        obtain ⟨r_4, hc_5, h⟩ := bd1_some h
        refine kVl [.int x4_2, .int (no_at x4_2.toNatClampNeg), .int p1] [.long x2_1] ⟨hx, hb, hml, hown, hts⟩ (c_X4_meanIn l D cy a_la a_la_who a_la_kind a_la_mood a_no a_no_strong a_no_wounds a_od la_lanes la_deep la_lanesTold (la_firstStrong) la_beasts (la_firstLane) (la_price) la_cities la_passes (la_passBetween) la_turned la_who la_kind la_mood (.ref a_no_at) no_dead no_wet no_drawn no_strong no_wounds x4_2 (no_at x4_2.toNatClampNeg) p1 r_4 hc_5) gX4_sumOfMeans_X4_meanIn rfl hd_X4_meanIn ⟨Nat.le_of_ble_eq_true rfl, Nat.le_of_ble_eq_true rfl⟩ rfl rfl hKN (hP.sub [0, 1, 2, 3, 4, 5, 7, 8] rfl) 4 7 rfl rfl rfl hl.1 rfl (Nat.le_of_ble_eq_true rfl) dX4_sumOfMeans_32 ⟨Nat.le_of_ble_eq_true rfl, Nat.le_of_ble_eq_true rfl⟩ ?_
        refine lv_ladd hx hb dX4_sumOfMeans_35 ?_
        refine lv_lstore_n (lv' := [(2, .long (x2_1 + r_4)), (0, .ref a_od), (1, .int p1), (4, .int x4_2)]) hx hb dX4_sumOfMeans_36 rfl hl (by decide) rfl (fun ls hl => ?_)
        refine lv_iinc (v := x4_2 + 1) (lv' := [(4, .int (x4_2 + 1)), (2, .long (x2_1 + r_4)), (0, .ref a_od), (1, .int p1)]) hx hb dX4_sumOfMeans_37 hl (k := 3) rfl (by first | rfl | decide) (by decide) rfl (fun ls hl => ?_)
        refine lv_goto (tgt := 5) hx hb dX4_sumOfMeans_40 (by decide) ?_
        exact ih5 (x2_1 + r_4) (x4_2 + 1) h _ (lv_sub hl [2, 3, 1, 0] rfl)
  exact lp5 fuelN (0 : Int64) (0 : Int32) h _ (lv_sub hl [2, 3, 1, 0] rfl)
theorem hd_X4_laneOfMostWorth : yX4_laneOfMostWorth.cls = RX4 ∧ yX4_laneOfMostWorth.cls ≠ "java/lang/invoke/MethodHandle" ∧ yX4_laneOfMostWorth.cls ≠ "java/lang/invoke/VarHandle" ∧ (parseMethodDescriptor yX4_laneOfMostWorth.desc).map (fun d => d.parameters.length) = some 1 := by decide +kernel
set_option maxHeartbeats 4000000 in
set_option maxRecDepth 100000 in
theorem c_X4_laneOfMostWorth (l : Launch) (D : va_G) (cy : Nat → ClassId) (a_la a_la_who a_la_kind a_la_mood a_no a_no_strong a_no_wounds a_od : Nat) (la_lanes : Int32) (la_deep : Int32) (la_lanesTold : Int32) (la_firstStrong : Value) (la_beasts : Int32) (la_firstLane : Value) (la_price : Value) (la_cities : Int32) (la_passes : Int32) (la_passBetween : Value) (la_turned : Int32) (la_who : Nat → Int32) (la_kind : Nat → Int32) (la_mood : Nat → Int32) (no_at : Value) (no_dead : Int32) (no_wet : Int32) (no_drawn : Int32) (no_strong : Nat → Int32) (no_wounds : Nat → Int32) (p1 : Int32) (res : Int32) (h : f_X4_laneOfMostWorth la_lanes la_deep la_who la_kind la_mood no_dead no_wet no_strong no_wounds p1 = some (res)) : Met l yX4_laneOfMostWorth wo_X4_laneOfMostWorth ({ frames := 4, cells := 0, slots := 0, locals := 95 }) (roPc D cy [.ref a_od, .int p1] [(a_la, .inr (2, [.int la_lanes, .int la_deep, .int la_lanesTold, .ref a_la_who, la_firstStrong, .int la_beasts, .ref a_la_kind, la_firstLane, .ref a_la_mood, la_price, .int la_cities, .int la_passes, la_passBetween, .int la_turned])), (a_la_who, .inl (cy 1, 6, .inl la_who)), (a_la_kind, .inl (cy 1, 5, .inl la_kind)), (a_la_mood, .inl (cy 1, 5, .inl la_mood)), (a_no, .inr (8, [.ref a_no_strong, no_at, .ref a_no_wounds, .int no_dead, .int no_wet, .int no_drawn])), (a_no_strong, .inl (cy 1, 6, .inl no_strong)), (a_no_wounds, .inl (cy 1, 5, .inl no_wounds)), (a_od, .inr (4, [.ref a_la, .ref a_no]))]) (vp_Si (fun r => r = res)) 0 0 (fun _ => False) := by
  refine Met.ofW (cc := cX4_laneOfMostWorth) (maxL := 8) (ret := (some .int)) (by decide) rfl ?_
  intro p e s m args below meth c s₁ B hml hv
  obtain ⟨rfl, hP, hKN⟩ := hv
  have hK := hKN.1
  have hx := B.exec
  have hb := B.bytes
  have hr := B.returns
  have hts := wt_X4_laneOfMostWorth hKN.2.2 (([.ref a_od, .int p1] : List Value).toArray)
  have hown : s.vm.findClass RX4 = some m.cls := findClass_of_methodNamed B.named
  have hlocks := B.notSynchronized
  have hX2 := wc_X2 hKN.2.2 (([.ref a_od, .int p1] : List Value).toArray)
  have hX4 := wc_X4 hKN.2.2 (([.ref a_od, .int p1] : List Value).toArray)
  have hl := lv_entry ([.ref a_od, .int p1]) (n := 8) (Nat.le_of_ble_eq_true rfl)
  rw [lg_entry_eq]
  generalize (lg_sl ([.ref a_od, .int p1]) ++ List.replicate (8 - (lg_sl ([.ref a_od, .int p1])).length) Slot.unset).toArray = ls at hl ⊢
  have hl : lv_has ls 8 [(0, .ref a_od), (1, .int p1)] := hl
  unfold f_X4_laneOfMostWorth at h
  refine lv_iconst (v := 0) hx hb dX4_laneOfMostWorth_0 (by decide) ?_
  refine lv_istore_n (lv' := [(2, .int 0), (0, .ref a_od), (1, .int p1)]) hx hb dX4_laneOfMostWorth_1 rfl hl (by decide) rfl (fun ls hl => ?_)
  refine lv_aload_n hx hb dX4_laneOfMostWorth_2 rfl (lv_at hl 1 rfl) ?_
  refine lv_iload_n hx hb dX4_laneOfMostWorth_3 rfl (lv_at hl 2 rfl) ?_
  refine lv_iconst (v := 0) hx hb dX4_laneOfMostWorth_4 (by decide) ?_
  obtain ⟨r_1, hc_2, h⟩ := bd1_some h
  refine kVl [.int p1, .int 0] [] ⟨hx, hb, hml, hown, hts⟩ (c_X4_worthIn l D cy a_la a_la_who a_la_kind a_la_mood a_no a_no_strong a_no_wounds a_od la_lanes la_deep la_lanesTold (la_firstStrong) la_beasts (la_firstLane) (la_price) la_cities la_passes (la_passBetween) la_turned la_who la_kind la_mood (no_at) no_dead no_wet no_drawn no_strong no_wounds p1 (0 : Int32) r_1 hc_2) gX4_laneOfMostWorth_X4_worthIn rfl hd_X4_worthIn ⟨Nat.le_of_ble_eq_true rfl, Nat.le_of_ble_eq_true rfl⟩ rfl rfl hKN (hP.sub [0, 1, 2, 3, 4, 5, 6, 7] rfl) 4 7 rfl rfl rfl hl.1 rfl (Nat.le_of_ble_eq_true rfl) dX4_laneOfMostWorth_5 ⟨Nat.le_of_ble_eq_true rfl, Nat.le_of_ble_eq_true rfl⟩ ?_
  refine lv_lstore_n (lv' := [(3, .long r_1), (2, .int 0), (0, .ref a_od), (1, .int p1)]) hx hb dX4_laneOfMostWorth_8 rfl hl (by decide) rfl (fun ls hl => ?_)
  refine lv_iconst (v := 1) hx hb dX4_laneOfMostWorth_9 (by decide) ?_
  refine lv_istore (lv' := [(5, .int 1), (3, .long r_1), (2, .int 0), (0, .ref a_od), (1, .int p1)]) hx hb dX4_laneOfMostWorth_10 hl (by decide) rfl (fun ls hl => ?_)
  have lp12 : ∀ (n12 : Nat) (x2_3 : Int32) (x3_4 : Int64) (x5_5 : Int32), f_X4_laneOfMostWorth_L12 la_lanes la_deep la_who la_kind la_mood no_dead no_wet no_strong no_wounds p1 n12 x2_3 x3_4 x5_5 = some (res) → ∀ ls : Array Slot, lv_has ls 8 [(0, .ref a_od), (1, .int p1), (2, .int x2_3), (3, .long x3_4), (5, .int x5_5)] → W p l e (headSpec wo_X4_laneOfMostWorth ({ frames := 4, cells := 0, slots := 0, locals := 95 })).room s m (([.ref a_od, .int p1] : List Value).toArray) below meth c s.heap [] 0 0 (MQ below (vp_Si (fun r => r = res)) (([.ref a_od, .int p1] : List Value).toArray) s 0 0 (fun _ => False)) (F0 m 12 ls []) := by
    intro n12
    induction n12 with
    | zero => intro x2_3 x3_4 x5_5 h; exact absurd (show (none : Option (Int32)) = some _ from h) (by intro q; cases q)
    | succ n12 ih12 =>
      intro x2_3 x3_4 x5_5 h ls hl
      have h : f_X4_laneOfMostWorth_b12 la_lanes la_deep la_who la_kind la_mood no_dead no_wet no_strong no_wounds p1 (f_X4_laneOfMostWorth_L12 la_lanes la_deep la_who la_kind la_mood no_dead no_wet no_strong no_wounds p1 n12) x2_3 x3_4 x5_5 = some (res) := h
      unfold f_X4_laneOfMostWorth_b12 at h
      refine lv_iload hx hb dX4_laneOfMostWorth_12 (lv_at hl 4 rfl) ?_
      refine lv_aload_n hx hb dX4_laneOfMostWorth_14 rfl (lv_at hl 0 rfl) ?_
      refine va_get (D := D) (ci := 4) (C := RX4) (T := TX4) (N := 2) (v := .ref a_la) hx hb hX4 (fun _ q => q) hown hK hP 7 rfl rfl 0 (by decide) (hts (.fieldLink RX4 9 "ElephantLine$Odds" "land" "LElephantLine$Land;") (by decide +kernel)) (fun _ h9 => h9) rfl dX4_laneOfMostWorth_15 ?_
      refine va_getN (D := D) (ci := 2) (C := RX2) (T := TX2) (N := 14) (v := .int la_lanes) hx hb hX2 (fun _ q => q) hown hK hP 0 rfl rfl 0 (by decide) (va_Nw.use rfl (hKN.2.1.1 ("ElephantLine$Odds", 116, "ElephantLine$Land", "lanes", "I", "ElephantLine") (List.mem_of_getElem? (i := 3) rfl))) (fun _ h9 => h9) rfl dX4_laneOfMostWorth_18 ?_
      refine lv_icmp_ge (tgt := 52) hx hb dX4_laneOfMostWorth_21 (by decide) (fun cd => ?_) (fun cd => ?_)
      · have h := ifT cd h
        refine lv_iload_n hx hb dX4_laneOfMostWorth_52 rfl (lv_at hl 2 rfl) ?_
        exact W.iret (v := x2_3) hx hb hr (fun t ht _ => ⟨_, rfl, Option.some.inj h, ht⟩) (fun _ q => by cases q) dX4_laneOfMostWorth_53
      · have h := ifF cd h
        refine lv_aload_n hx hb dX4_laneOfMostWorth_24 rfl (lv_at hl 0 rfl) ?_
        refine lv_iload_n hx hb dX4_laneOfMostWorth_25 rfl (lv_at hl 1 rfl) ?_
        refine lv_iload hx hb dX4_laneOfMostWorth_26 (lv_at hl 4 rfl) ?_
        obtain ⟨r_6, hc_7, h⟩ := bd1_some h
        refine kVl [.int p1, .int x5_5] [] ⟨hx, hb, hml, hown, hts⟩ (c_X4_worthIn l D cy a_la a_la_who a_la_kind a_la_mood a_no a_no_strong a_no_wounds a_od la_lanes la_deep la_lanesTold (la_firstStrong) la_beasts (la_firstLane) (la_price) la_cities la_passes (la_passBetween) la_turned la_who la_kind la_mood (no_at) no_dead no_wet no_drawn no_strong no_wounds p1 x5_5 r_6 hc_7) gX4_laneOfMostWorth_X4_worthIn rfl hd_X4_worthIn ⟨Nat.le_of_ble_eq_true rfl, Nat.le_of_ble_eq_true rfl⟩ rfl rfl hKN (hP.sub [0, 1, 2, 3, 4, 5, 6, 7] rfl) 4 7 rfl rfl rfl hl.1 rfl (Nat.le_of_ble_eq_true rfl) dX4_laneOfMostWorth_28 ⟨Nat.le_of_ble_eq_true rfl, Nat.le_of_ble_eq_true rfl⟩ ?_
        refine lv_lstore (lv' := [(6, .long r_6), (0, .ref a_od), (1, .int p1), (2, .int x2_3), (3, .long x3_4), (5, .int x5_5)]) hx hb dX4_laneOfMostWorth_31 hl (by decide) rfl (fun ls hl => ?_)
        refine lv_lload hx hb dX4_laneOfMostWorth_33 (lv_at hl 0 rfl) ?_
        refine lv_lload_n hx hb dX4_laneOfMostWorth_35 rfl (lv_at hl 4 rfl) ?_
        refine W.lcmp hx hb dX4_laneOfMostWorth_36 ?_
        have jn46 : ∀ (x2_8 : Int32) (x3_9 : Int64), f_X4_laneOfMostWorth_B46 (f_X4_laneOfMostWorth_L12 la_lanes la_deep la_who la_kind la_mood no_dead no_wet no_strong no_wounds p1 n12) la_lanes la_deep la_who la_kind la_mood no_dead no_wet no_strong no_wounds p1 x2_8 x3_9 x5_5 = some (res) → ∀ ls : Array Slot, lv_has ls 8 [(0, .ref a_od), (1, .int p1), (2, .int x2_8), (3, .long x3_9), (5, .int x5_5)] → W p l e (headSpec wo_X4_laneOfMostWorth ({ frames := 4, cells := 0, slots := 0, locals := 95 })).room s m (([.ref a_od, .int p1] : List Value).toArray) below meth c s.heap [] 0 0 (MQ below (vp_Si (fun r => r = res)) (([.ref a_od, .int p1] : List Value).toArray) s 0 0 (fun _ => False)) (F0 m 46 ls []) := by
          intro x2_8 x3_9 h ls hl
          unfold f_X4_laneOfMostWorth_B46 at h
          refine lv_iinc (v := x5_5 + 1) (lv' := [(5, .int (x5_5 + 1)), (0, .ref a_od), (1, .int p1), (2, .int x2_8), (3, .long x3_9)]) hx hb dX4_laneOfMostWorth_46 hl (k := 4) rfl (by first | rfl | decide) (by decide) rfl (fun ls hl => ?_)
          refine lv_goto (tgt := 12) hx hb dX4_laneOfMostWorth_49 (by decide) ?_
          exact ih12 x2_8 x3_9 (x5_5 + 1) h _ (lv_sub hl [1, 2, 3, 4, 0] rfl)
        refine lv_if_le (tgt := 46) hx hb dX4_laneOfMostWorth_37 (by decide) (fun cd => ?_) (fun cd => ?_)
        · have cd := (lgc_le _ _).mp cd
          have h := ifT cd h
          exact jn46 x2_3 x3_4 h _ (lv_sub hl [1, 2, 3, 4, 5] rfl)
        · have cd := fun q => cd ((lgc_le _ _).mpr q)
          have h := ifF cd h
          refine lv_iload hx hb dX4_laneOfMostWorth_40 (lv_at hl 5 rfl) ?_
          refine lv_istore_n (lv' := [(2, .int x5_5), (6, .long r_6), (0, .ref a_od), (1, .int p1), (3, .long x3_4), (5, .int x5_5)]) hx hb dX4_laneOfMostWorth_42 rfl hl (by decide) rfl (fun ls hl => ?_)
          refine lv_lload hx hb dX4_laneOfMostWorth_43 (lv_at hl 1 rfl) ?_
          refine lv_lstore_n (lv' := [(3, .long r_6), (2, .int x5_5), (6, .long r_6), (0, .ref a_od), (1, .int p1), (5, .int x5_5)]) hx hb dX4_laneOfMostWorth_45 rfl hl (by decide) rfl (fun ls hl => ?_)
          exact jn46 x5_5 r_6 h _ (lv_sub hl [3, 4, 1, 0, 5] rfl)
  exact lp12 fuelN (0 : Int32) r_1 (1 : Int32) h _ (lv_sub hl [3, 4, 2, 1, 0] rfl)
theorem hd_X4_beastOfMostOwnHarm : yX4_beastOfMostOwnHarm.cls = RX4 ∧ yX4_beastOfMostOwnHarm.cls ≠ "java/lang/invoke/MethodHandle" ∧ yX4_beastOfMostOwnHarm.cls ≠ "java/lang/invoke/VarHandle" ∧ (parseMethodDescriptor yX4_beastOfMostOwnHarm.desc).map (fun d => d.parameters.length) = some 0 := by decide +kernel
set_option maxHeartbeats 4000000 in
set_option maxRecDepth 100000 in
theorem c_X4_beastOfMostOwnHarm (l : Launch) (D : va_G) (cy : Nat → ClassId) (a_la a_la_who a_la_kind a_la_mood a_no a_no_strong a_no_at a_no_wounds a_od : Nat) (la_lanes : Int32) (la_deep : Int32) (la_lanesTold : Int32) (la_firstStrong : Value) (la_beasts : Int32) (la_firstLane : Value) (la_price : Value) (la_cities : Int32) (la_passes : Int32) (la_passBetween : Value) (la_turned : Int32) (la_who : Nat → Int32) (la_kind : Nat → Int32) (la_mood : Nat → Int32) (no_dead : Int32) (no_wet : Int32) (no_drawn : Int32) (no_strong : Nat → Int32) (no_at : Nat → Int32) (no_wounds : Nat → Int32) (res : Int32) (h : f_X4_beastOfMostOwnHarm la_deep la_beasts la_who la_kind la_mood no_dead no_wet no_strong no_at no_wounds = some (res)) : Met l yX4_beastOfMostOwnHarm wo_X4_beastOfMostOwnHarm ({ frames := 5, cells := 0, slots := 0, locals := 105 }) (roPc D cy [.ref a_od] [(a_la, .inr (2, [.int la_lanes, .int la_deep, .int la_lanesTold, .ref a_la_who, la_firstStrong, .int la_beasts, .ref a_la_kind, la_firstLane, .ref a_la_mood, la_price, .int la_cities, .int la_passes, la_passBetween, .int la_turned])), (a_la_who, .inl (cy 1, 6, .inl la_who)), (a_la_kind, .inl (cy 1, 5, .inl la_kind)), (a_la_mood, .inl (cy 1, 5, .inl la_mood)), (a_no, .inr (8, [.ref a_no_strong, .ref a_no_at, .ref a_no_wounds, .int no_dead, .int no_wet, .int no_drawn])), (a_no_strong, .inl (cy 1, 6, .inl no_strong)), (a_no_at, .inl (cy 1, 5, .inl no_at)), (a_no_wounds, .inl (cy 1, 5, .inl no_wounds)), (a_od, .inr (4, [.ref a_la, .ref a_no]))]) (vp_Si (fun r => r = res)) 0 0 (fun _ => False) := by
  refine Met.ofW (cc := cX4_beastOfMostOwnHarm) (maxL := 7) (ret := (some .int)) (by decide) rfl ?_
  intro p e s m args below meth c s₁ B hml hv
  obtain ⟨rfl, hP, hKN⟩ := hv
  have hK := hKN.1
  have hx := B.exec
  have hb := B.bytes
  have hr := B.returns
  have hts := wt_X4_beastOfMostOwnHarm hKN.2.2 (([.ref a_od] : List Value).toArray)
  have hown : s.vm.findClass RX4 = some m.cls := findClass_of_methodNamed B.named
  have hlocks := B.notSynchronized
  have hX2 := wc_X2 hKN.2.2 (([.ref a_od] : List Value).toArray)
  have hX4 := wc_X4 hKN.2.2 (([.ref a_od] : List Value).toArray)
  have hX8 := wc_X8 hKN.2.2 (([.ref a_od] : List Value).toArray)
  have hl := lv_entry ([.ref a_od]) (n := 7) (Nat.le_of_ble_eq_true rfl)
  rw [lg_entry_eq]
  generalize (lg_sl ([.ref a_od]) ++ List.replicate (7 - (lg_sl ([.ref a_od])).length) Slot.unset).toArray = ls at hl ⊢
  have hl : lv_has ls 7 [(0, .ref a_od)] := hl
  unfold f_X4_beastOfMostOwnHarm at h
  refine lv_bipush (v := (-2)) hx hb dX4_beastOfMostOwnHarm_0 (by decide) ?_
  refine lv_istore_n (lv' := [(1, .int (-2)), (0, .ref a_od)]) hx hb dX4_beastOfMostOwnHarm_2 rfl hl (by decide) rfl (fun ls hl => ?_)
  refine lv_lconst (v := 0) hx hb dX4_beastOfMostOwnHarm_3 (by decide) ?_
  refine lv_lstore_n (lv' := [(2, .long 0), (1, .int (-2)), (0, .ref a_od)]) hx hb dX4_beastOfMostOwnHarm_4 rfl hl (by decide) rfl (fun ls hl => ?_)
  refine lv_iconst (v := 0) hx hb dX4_beastOfMostOwnHarm_5 (by decide) ?_
  refine lv_istore (lv' := [(4, .int 0), (2, .long 0), (1, .int (-2)), (0, .ref a_od)]) hx hb dX4_beastOfMostOwnHarm_6 hl (by decide) rfl (fun ls hl => ?_)
  have lp8 : ∀ (n8 : Nat) (x1_1 : Int32) (x2_2 : Int64) (x4_3 : Int32), f_X4_beastOfMostOwnHarm_L8 la_deep la_beasts la_who la_kind la_mood no_dead no_wet no_strong no_at no_wounds n8 x1_1 x2_2 x4_3 = some (res) → ∀ ls : Array Slot, lv_has ls 7 [(0, .ref a_od), (1, .int x1_1), (2, .long x2_2), (4, .int x4_3)] → W p l e (headSpec wo_X4_beastOfMostOwnHarm ({ frames := 5, cells := 0, slots := 0, locals := 105 })).room s m (([.ref a_od] : List Value).toArray) below meth c s.heap [] 0 0 (MQ below (vp_Si (fun r => r = res)) (([.ref a_od] : List Value).toArray) s 0 0 (fun _ => False)) (F0 m 8 ls []) := by
    intro n8
    induction n8 with
    | zero => intro x1_1 x2_2 x4_3 h; exact absurd (show (none : Option (Int32)) = some _ from h) (by intro q; cases q)
    | succ n8 ih8 =>
      intro x1_1 x2_2 x4_3 h ls hl
      have h : f_X4_beastOfMostOwnHarm_b8 la_deep la_beasts la_who la_kind la_mood no_dead no_wet no_strong no_at no_wounds (f_X4_beastOfMostOwnHarm_L8 la_deep la_beasts la_who la_kind la_mood no_dead no_wet no_strong no_at no_wounds n8) x1_1 x2_2 x4_3 = some (res) := h
      unfold f_X4_beastOfMostOwnHarm_b8 at h
      refine lv_iload hx hb dX4_beastOfMostOwnHarm_8 (lv_at hl 3 rfl) ?_
      refine lv_aload_n hx hb dX4_beastOfMostOwnHarm_10 rfl (lv_at hl 0 rfl) ?_
      refine va_get (D := D) (ci := 4) (C := RX4) (T := TX4) (N := 2) (v := .ref a_la) hx hb hX4 (fun _ q => q) hown hK hP 8 rfl rfl 0 (by decide) (hts (.fieldLink RX4 9 "ElephantLine$Odds" "land" "LElephantLine$Land;") (by decide +kernel)) (fun _ h9 => h9) rfl dX4_beastOfMostOwnHarm_11 ?_
      refine va_getN (D := D) (ci := 2) (C := RX2) (T := TX2) (N := 14) (v := .int la_beasts) hx hb hX2 (fun _ q => q) hown hK hP 0 rfl rfl 5 (by decide) (va_Nw.use rfl (hKN.2.1.1 ("ElephantLine$Odds", 102, "ElephantLine$Land", "beasts", "I", "ElephantLine") (List.mem_of_getElem? (i := 20) rfl))) (fun _ h9 => h9) rfl dX4_beastOfMostOwnHarm_14 ?_
      refine lv_icmp_ge (tgt := 58) hx hb dX4_beastOfMostOwnHarm_17 (by decide) (fun cd => ?_) (fun cd => ?_)
      · have h := ifT cd h
        refine lv_iload_n hx hb dX4_beastOfMostOwnHarm_58 rfl (lv_at hl 1 rfl) ?_
        exact W.iret (v := x1_1) hx hb hr (fun t ht _ => ⟨_, rfl, Option.some.inj h, ht⟩) (fun _ q => by cases q) dX4_beastOfMostOwnHarm_59
      · have h := ifF cd h
        refine lv_aload_n hx hb dX4_beastOfMostOwnHarm_20 rfl (lv_at hl 0 rfl) ?_
        refine lv_iload hx hb dX4_beastOfMostOwnHarm_21 (lv_at hl 3 rfl) ?_
        refine lv_aload_n hx hb dX4_beastOfMostOwnHarm_23 rfl (lv_at hl 0 rfl) ?_
        refine va_get (D := D) (ci := 4) (C := RX4) (T := TX4) (N := 2) (v := .ref a_no) hx hb hX4 (fun _ q => q) hown hK hP 8 rfl rfl 1 (by decide) (hts (.fieldLink RX4 15 "ElephantLine$Odds" "now" "LElephantLine$Stand;") (by decide +kernel)) (fun _ h9 => h9) rfl dX4_beastOfMostOwnHarm_24 ?_
        refine va_getN (D := D) (ci := 8) (C := RX8) (T := TX8) (N := 6) (v := .ref a_no_at) hx hb hX8 (fun _ q => q) hown hK hP 4 rfl rfl 1 (by decide) (va_Nw.use rfl (hKN.2.1.1 ("ElephantLine$Odds", 105, "ElephantLine$Stand", "at", "[I", "ElephantLine") (List.mem_of_getElem? (i := 48) rfl))) (fun _ h9 => h9) rfl dX4_beastOfMostOwnHarm_27 ?_
        refine lv_iload hx hb dX4_beastOfMostOwnHarm_30 (lv_at hl 3 rfl) ?_
        obtain ⟨i_4, h⟩ := gIn_some h
        refine va_iald hx hb hK hP 6 1 rfl rfl i_4 dX4_beastOfMostOwnHarm_32 ?_
        refine lv_iconst (v := 1) hx hb dX4_beastOfMostOwnHarm_33 (by decide) ?_
        obtain ⟨r_5, hc_6, h⟩ := bd1_some h
        refine kVl [.int x4_3, .int (no_at x4_3.toNatClampNeg), .int 1] [] ⟨hx, hb, hml, hown, hts⟩ (c_X4_meanIn l D cy a_la a_la_who a_la_kind a_la_mood a_no a_no_strong a_no_wounds a_od la_lanes la_deep la_lanesTold (la_firstStrong) la_beasts (la_firstLane) (la_price) la_cities la_passes (la_passBetween) la_turned la_who la_kind la_mood (.ref a_no_at) no_dead no_wet no_drawn no_strong no_wounds x4_3 (no_at x4_3.toNatClampNeg) (1 : Int32) r_5 hc_6) gX4_beastOfMostOwnHarm_X4_meanIn rfl hd_X4_meanIn ⟨Nat.le_of_ble_eq_true rfl, Nat.le_of_ble_eq_true rfl⟩ rfl rfl hKN (hP.sub [0, 1, 2, 3, 4, 5, 7, 8] rfl) 4 7 rfl rfl rfl hl.1 rfl (Nat.le_of_ble_eq_true rfl) dX4_beastOfMostOwnHarm_34 ⟨Nat.le_of_ble_eq_true rfl, Nat.le_of_ble_eq_true rfl⟩ ?_
        refine lv_lstore (lv' := [(5, .long r_5), (0, .ref a_od), (1, .int x1_1), (2, .long x2_2), (4, .int x4_3)]) hx hb dX4_beastOfMostOwnHarm_37 hl (by decide) rfl (fun ls hl => ?_)
        refine lv_lload hx hb dX4_beastOfMostOwnHarm_39 (lv_at hl 0 rfl) ?_
        refine lv_lload_n hx hb dX4_beastOfMostOwnHarm_41 rfl (lv_at hl 3 rfl) ?_
        refine W.lcmp hx hb dX4_beastOfMostOwnHarm_42 ?_
        have jn52 : ∀ (x1_7 : Int32) (x2_8 : Int64), f_X4_beastOfMostOwnHarm_B52 (f_X4_beastOfMostOwnHarm_L8 la_deep la_beasts la_who la_kind la_mood no_dead no_wet no_strong no_at no_wounds n8) la_deep la_beasts la_who la_kind la_mood no_dead no_wet no_strong no_at no_wounds x1_7 x2_8 x4_3 = some (res) → ∀ ls : Array Slot, lv_has ls 7 [(0, .ref a_od), (1, .int x1_7), (2, .long x2_8), (4, .int x4_3)] → W p l e (headSpec wo_X4_beastOfMostOwnHarm ({ frames := 5, cells := 0, slots := 0, locals := 105 })).room s m (([.ref a_od] : List Value).toArray) below meth c s.heap [] 0 0 (MQ below (vp_Si (fun r => r = res)) (([.ref a_od] : List Value).toArray) s 0 0 (fun _ => False)) (F0 m 52 ls []) := by
          intro x1_7 x2_8 h ls hl
          unfold f_X4_beastOfMostOwnHarm_B52 at h
          refine lv_iinc (v := x4_3 + 1) (lv' := [(4, .int (x4_3 + 1)), (0, .ref a_od), (1, .int x1_7), (2, .long x2_8)]) hx hb dX4_beastOfMostOwnHarm_52 hl (k := 3) rfl (by first | rfl | decide) (by decide) rfl (fun ls hl => ?_)
          refine lv_goto (tgt := 8) hx hb dX4_beastOfMostOwnHarm_55 (by decide) ?_
          exact ih8 x1_7 x2_8 (x4_3 + 1) h _ (lv_sub hl [1, 2, 3, 0] rfl)
        refine lv_if_le (tgt := 52) hx hb dX4_beastOfMostOwnHarm_43 (by decide) (fun cd => ?_) (fun cd => ?_)
        · have cd := (lgc_le _ _).mp cd
          have h := ifT cd h
          exact jn52 x1_1 x2_2 h _ (lv_sub hl [1, 2, 3, 4] rfl)
        · have cd := fun q => cd ((lgc_le _ _).mpr q)
          have h := ifF cd h
          refine lv_iload hx hb dX4_beastOfMostOwnHarm_46 (lv_at hl 4 rfl) ?_
          refine lv_istore_n (lv' := [(1, .int x4_3), (5, .long r_5), (0, .ref a_od), (2, .long x2_2), (4, .int x4_3)]) hx hb dX4_beastOfMostOwnHarm_48 rfl hl (by decide) rfl (fun ls hl => ?_)
          refine lv_lload hx hb dX4_beastOfMostOwnHarm_49 (lv_at hl 1 rfl) ?_
          refine lv_lstore_n (lv' := [(2, .long r_5), (1, .int x4_3), (5, .long r_5), (0, .ref a_od), (4, .int x4_3)]) hx hb dX4_beastOfMostOwnHarm_51 rfl hl (by decide) rfl (fun ls hl => ?_)
          exact jn52 x4_3 r_5 h _ (lv_sub hl [3, 1, 0, 4] rfl)
  exact lp8 fuelN ((-2) : Int32) (0 : Int64) (0 : Int32) h _ (lv_sub hl [3, 2, 1, 0] rfl)
theorem hd_X4_beastBetterDead : yX4_beastBetterDead.cls = RX4 ∧ yX4_beastBetterDead.cls ≠ "java/lang/invoke/MethodHandle" ∧ yX4_beastBetterDead.cls ≠ "java/lang/invoke/VarHandle" ∧ (parseMethodDescriptor yX4_beastBetterDead.desc).map (fun d => d.parameters.length) = some 0 := by decide +kernel
set_option maxHeartbeats 4000000 in
set_option maxRecDepth 100000 in
theorem c_X4_beastBetterDead (l : Launch) (D : va_G) (cy : Nat → ClassId) (a_la a_la_who a_la_kind a_la_mood a_no a_no_strong a_no_at a_no_wounds a_od : Nat) (la_lanes : Int32) (la_deep : Int32) (la_lanesTold : Int32) (la_firstStrong : Value) (la_beasts : Int32) (la_firstLane : Value) (la_price : Value) (la_cities : Int32) (la_passes : Int32) (la_passBetween : Value) (la_turned : Int32) (la_who : Nat → Int32) (la_kind : Nat → Int32) (la_mood : Nat → Int32) (no_dead : Int32) (no_wet : Int32) (no_drawn : Int32) (no_strong : Nat → Int32) (no_at : Nat → Int32) (no_wounds : Nat → Int32) (res : Int32) (h : f_X4_beastBetterDead la_deep la_beasts la_who la_kind la_mood no_dead no_wet no_strong no_at no_wounds = some (res)) : Met l yX4_beastBetterDead wo_X4_beastBetterDead ({ frames := 4, cells := 0, slots := 0, locals := 95 }) (roPc D cy [.ref a_od] [(a_la, .inr (2, [.int la_lanes, .int la_deep, .int la_lanesTold, .ref a_la_who, la_firstStrong, .int la_beasts, .ref a_la_kind, la_firstLane, .ref a_la_mood, la_price, .int la_cities, .int la_passes, la_passBetween, .int la_turned])), (a_la_who, .inl (cy 1, 6, .inl la_who)), (a_la_kind, .inl (cy 1, 5, .inl la_kind)), (a_la_mood, .inl (cy 1, 5, .inl la_mood)), (a_no, .inr (8, [.ref a_no_strong, .ref a_no_at, .ref a_no_wounds, .int no_dead, .int no_wet, .int no_drawn])), (a_no_strong, .inl (cy 1, 6, .inl no_strong)), (a_no_at, .inl (cy 1, 5, .inl no_at)), (a_no_wounds, .inl (cy 1, 5, .inl no_wounds)), (a_od, .inr (4, [.ref a_la, .ref a_no]))]) (vp_Si (fun r => r = res)) 0 0 (fun _ => False) := by
  refine Met.ofW (cc := cX4_beastBetterDead) (maxL := 7) (ret := (some .int)) (by decide) rfl ?_
  intro p e s m args below meth c s₁ B hml hv
  obtain ⟨rfl, hP, hKN⟩ := hv
  have hK := hKN.1
  have hx := B.exec
  have hb := B.bytes
  have hr := B.returns
  have hts := wt_X4_beastBetterDead hKN.2.2 (([.ref a_od] : List Value).toArray)
  have hown : s.vm.findClass RX4 = some m.cls := findClass_of_methodNamed B.named
  have hlocks := B.notSynchronized
  have hX2 := wc_X2 hKN.2.2 (([.ref a_od] : List Value).toArray)
  have hX4 := wc_X4 hKN.2.2 (([.ref a_od] : List Value).toArray)
  have hX8 := wc_X8 hKN.2.2 (([.ref a_od] : List Value).toArray)
  have hl := lv_entry ([.ref a_od]) (n := 7) (Nat.le_of_ble_eq_true rfl)
  rw [lg_entry_eq]
  generalize (lg_sl ([.ref a_od]) ++ List.replicate (7 - (lg_sl ([.ref a_od])).length) Slot.unset).toArray = ls at hl ⊢
  have hl : lv_has ls 7 [(0, .ref a_od)] := hl
  unfold f_X4_beastBetterDead at h
  refine lv_bipush (v := (-2)) hx hb dX4_beastBetterDead_0 (by decide) ?_
  refine lv_istore_n (lv' := [(1, .int (-2)), (0, .ref a_od)]) hx hb dX4_beastBetterDead_2 rfl hl (by decide) rfl (fun ls hl => ?_)
  refine lv_lconst (v := 0) hx hb dX4_beastBetterDead_3 (by decide) ?_
  refine lv_lstore_n (lv' := [(2, .long 0), (1, .int (-2)), (0, .ref a_od)]) hx hb dX4_beastBetterDead_4 rfl hl (by decide) rfl (fun ls hl => ?_)
  refine lv_iconst (v := 0) hx hb dX4_beastBetterDead_5 (by decide) ?_
  refine lv_istore (lv' := [(4, .int 0), (2, .long 0), (1, .int (-2)), (0, .ref a_od)]) hx hb dX4_beastBetterDead_6 hl (by decide) rfl (fun ls hl => ?_)
  have lp8 : ∀ (n8 : Nat) (x1_1 : Int32) (x2_2 : Int64) (x4_3 : Int32), f_X4_beastBetterDead_L8 la_deep la_beasts la_who la_kind la_mood no_dead no_wet no_strong no_at no_wounds n8 x1_1 x2_2 x4_3 = some (res) → ∀ ls : Array Slot, lv_has ls 7 [(0, .ref a_od), (1, .int x1_1), (2, .long x2_2), (4, .int x4_3)] → W p l e (headSpec wo_X4_beastBetterDead ({ frames := 4, cells := 0, slots := 0, locals := 95 })).room s m (([.ref a_od] : List Value).toArray) below meth c s.heap [] 0 0 (MQ below (vp_Si (fun r => r = res)) (([.ref a_od] : List Value).toArray) s 0 0 (fun _ => False)) (F0 m 8 ls []) := by
    intro n8
    induction n8 with
    | zero => intro x1_1 x2_2 x4_3 h; exact absurd (show (none : Option (Int32)) = some _ from h) (by intro q; cases q)
    | succ n8 ih8 =>
      intro x1_1 x2_2 x4_3 h ls hl
      have h : f_X4_beastBetterDead_b8 la_deep la_beasts la_who la_kind la_mood no_dead no_wet no_strong no_at no_wounds (f_X4_beastBetterDead_L8 la_deep la_beasts la_who la_kind la_mood no_dead no_wet no_strong no_at no_wounds n8) x1_1 x2_2 x4_3 = some (res) := h
      unfold f_X4_beastBetterDead_b8 at h
      refine lv_iload hx hb dX4_beastBetterDead_8 (lv_at hl 3 rfl) ?_
      refine lv_aload_n hx hb dX4_beastBetterDead_10 rfl (lv_at hl 0 rfl) ?_
      refine va_get (D := D) (ci := 4) (C := RX4) (T := TX4) (N := 2) (v := .ref a_la) hx hb hX4 (fun _ q => q) hown hK hP 8 rfl rfl 0 (by decide) (hts (.fieldLink RX4 9 "ElephantLine$Odds" "land" "LElephantLine$Land;") (by decide +kernel)) (fun _ h9 => h9) rfl dX4_beastBetterDead_11 ?_
      refine va_getN (D := D) (ci := 2) (C := RX2) (T := TX2) (N := 14) (v := .int la_beasts) hx hb hX2 (fun _ q => q) hown hK hP 0 rfl rfl 5 (by decide) (va_Nw.use rfl (hKN.2.1.1 ("ElephantLine$Odds", 102, "ElephantLine$Land", "beasts", "I", "ElephantLine") (List.mem_of_getElem? (i := 20) rfl))) (fun _ h9 => h9) rfl dX4_beastBetterDead_14 ?_
      refine lv_icmp_ge (tgt := 57) hx hb dX4_beastBetterDead_17 (by decide) (fun cd => ?_) (fun cd => ?_)
      · have h := ifT cd h
        refine lv_iload_n hx hb dX4_beastBetterDead_57 rfl (lv_at hl 1 rfl) ?_
        exact W.iret (v := x1_1) hx hb hr (fun t ht _ => ⟨_, rfl, Option.some.inj h, ht⟩) (fun _ q => by cases q) dX4_beastBetterDead_58
      · have h := ifF cd h
        refine lv_aload_n hx hb dX4_beastBetterDead_20 rfl (lv_at hl 0 rfl) ?_
        refine lv_iload hx hb dX4_beastBetterDead_21 (lv_at hl 3 rfl) ?_
        refine lv_aload_n hx hb dX4_beastBetterDead_23 rfl (lv_at hl 0 rfl) ?_
        refine va_get (D := D) (ci := 4) (C := RX4) (T := TX4) (N := 2) (v := .ref a_no) hx hb hX4 (fun _ q => q) hown hK hP 8 rfl rfl 1 (by decide) (hts (.fieldLink RX4 15 "ElephantLine$Odds" "now" "LElephantLine$Stand;") (by decide +kernel)) (fun _ h9 => h9) rfl dX4_beastBetterDead_24 ?_
        refine va_getN (D := D) (ci := 8) (C := RX8) (T := TX8) (N := 6) (v := .ref a_no_at) hx hb hX8 (fun _ q => q) hown hK hP 4 rfl rfl 1 (by decide) (va_Nw.use rfl (hKN.2.1.1 ("ElephantLine$Odds", 105, "ElephantLine$Stand", "at", "[I", "ElephantLine") (List.mem_of_getElem? (i := 48) rfl))) (fun _ h9 => h9) rfl dX4_beastBetterDead_27 ?_
        refine lv_iload hx hb dX4_beastBetterDead_30 (lv_at hl 3 rfl) ?_
        obtain ⟨i_4, h⟩ := gIn_some h
        refine va_iald hx hb hK hP 6 1 rfl rfl i_4 dX4_beastBetterDead_32 ?_
        obtain ⟨r_5, hc_6, h⟩ := bd1_some h
        refine kVl [.int x4_3, .int (no_at x4_3.toNatClampNeg)] [] ⟨hx, hb, hml, hown, hts⟩ (c_X4_worthIn l D cy a_la a_la_who a_la_kind a_la_mood a_no a_no_strong a_no_wounds a_od la_lanes la_deep la_lanesTold (la_firstStrong) la_beasts (la_firstLane) (la_price) la_cities la_passes (la_passBetween) la_turned la_who la_kind la_mood (.ref a_no_at) no_dead no_wet no_drawn no_strong no_wounds x4_3 (no_at x4_3.toNatClampNeg) r_5 hc_6) gX4_beastBetterDead_X4_worthIn rfl hd_X4_worthIn ⟨Nat.le_of_ble_eq_true rfl, Nat.le_of_ble_eq_true rfl⟩ rfl rfl hKN (hP.sub [0, 1, 2, 3, 4, 5, 7, 8] rfl) 4 7 rfl rfl rfl hl.1 rfl (Nat.le_of_ble_eq_true rfl) dX4_beastBetterDead_33 ⟨Nat.le_of_ble_eq_true rfl, Nat.le_of_ble_eq_true rfl⟩ ?_
        refine lv_lstore (lv' := [(5, .long r_5), (0, .ref a_od), (1, .int x1_1), (2, .long x2_2), (4, .int x4_3)]) hx hb dX4_beastBetterDead_36 hl (by decide) rfl (fun ls hl => ?_)
        refine lv_lload hx hb dX4_beastBetterDead_38 (lv_at hl 0 rfl) ?_
        refine lv_lload_n hx hb dX4_beastBetterDead_40 rfl (lv_at hl 3 rfl) ?_
        refine W.lcmp hx hb dX4_beastBetterDead_41 ?_
        have jn51 : ∀ (x1_7 : Int32) (x2_8 : Int64), f_X4_beastBetterDead_B51 (f_X4_beastBetterDead_L8 la_deep la_beasts la_who la_kind la_mood no_dead no_wet no_strong no_at no_wounds n8) la_deep la_beasts la_who la_kind la_mood no_dead no_wet no_strong no_at no_wounds x1_7 x2_8 x4_3 = some (res) → ∀ ls : Array Slot, lv_has ls 7 [(0, .ref a_od), (1, .int x1_7), (2, .long x2_8), (4, .int x4_3)] → W p l e (headSpec wo_X4_beastBetterDead ({ frames := 4, cells := 0, slots := 0, locals := 95 })).room s m (([.ref a_od] : List Value).toArray) below meth c s.heap [] 0 0 (MQ below (vp_Si (fun r => r = res)) (([.ref a_od] : List Value).toArray) s 0 0 (fun _ => False)) (F0 m 51 ls []) := by
          intro x1_7 x2_8 h ls hl
          unfold f_X4_beastBetterDead_B51 at h
          refine lv_iinc (v := x4_3 + 1) (lv' := [(4, .int (x4_3 + 1)), (0, .ref a_od), (1, .int x1_7), (2, .long x2_8)]) hx hb dX4_beastBetterDead_51 hl (k := 3) rfl (by first | rfl | decide) (by decide) rfl (fun ls hl => ?_)
          refine lv_goto (tgt := 8) hx hb dX4_beastBetterDead_54 (by decide) ?_
          exact ih8 x1_7 x2_8 (x4_3 + 1) h _ (lv_sub hl [1, 2, 3, 0] rfl)
        refine lv_if_ge (tgt := 51) hx hb dX4_beastBetterDead_42 (by decide) (fun cd => ?_) (fun cd => ?_)
        · have cd := (lgc_ge _ _).mp cd
          have h := ifT cd h
          exact jn51 x1_1 x2_2 h _ (lv_sub hl [1, 2, 3, 4] rfl)
        · have cd := fun q => cd ((lgc_ge _ _).mpr q)
          have h := ifF cd h
          refine lv_iload hx hb dX4_beastBetterDead_45 (lv_at hl 4 rfl) ?_
          refine lv_istore_n (lv' := [(1, .int x4_3), (5, .long r_5), (0, .ref a_od), (2, .long x2_2), (4, .int x4_3)]) hx hb dX4_beastBetterDead_47 rfl hl (by decide) rfl (fun ls hl => ?_)
          refine lv_lload hx hb dX4_beastBetterDead_48 (lv_at hl 1 rfl) ?_
          refine lv_lstore_n (lv' := [(2, .long r_5), (1, .int x4_3), (5, .long r_5), (0, .ref a_od), (4, .int x4_3)]) hx hb dX4_beastBetterDead_50 rfl hl (by decide) rfl (fun ls hl => ?_)
          exact jn51 x4_3 r_5 h _ (lv_sub hl [3, 1, 0, 4] rfl)
  exact lp8 fuelN ((-2) : Int32) (0 : Int64) (0 : Int32) h _ (lv_sub hl [3, 2, 1, 0] rfl)
theorem hd_X4_leastMood : yX4_leastMood.cls = RX4 ∧ yX4_leastMood.cls ≠ "java/lang/invoke/MethodHandle" ∧ yX4_leastMood.cls ≠ "java/lang/invoke/VarHandle" ∧ (parseMethodDescriptor yX4_leastMood.desc).map (fun d => d.parameters.length) = some 2 := by decide +kernel
set_option maxHeartbeats 4000000 in
set_option maxRecDepth 100000 in
theorem c_X4_leastMood (l : Launch) (D : va_G) (cy : Nat → ClassId) (a_la a_la_who a_la_kind a_no a_no_strong a_no_wounds a_od : Nat) (la_lanes : Int32) (la_deep : Int32) (la_lanesTold : Int32) (la_firstStrong : Value) (la_beasts : Int32) (la_firstLane : Value) (la_mood : Value) (la_price : Value) (la_cities : Int32) (la_passes : Int32) (la_passBetween : Value) (la_turned : Int32) (la_who : Nat → Int32) (la_kind : Nat → Int32) (no_at : Value) (no_dead : Int32) (no_wet : Int32) (no_drawn : Int32) (no_strong : Nat → Int32) (no_wounds : Nat → Int32) (p1 : Int32) (p2 : Int32) (res : Int32) (h : f_X4_leastMood la_deep la_who la_kind no_dead no_wet no_strong no_wounds p1 p2 = some (res)) : Met l yX4_leastMood wo_X4_leastMood ({ frames := 3, cells := 0, slots := 0, locals := 73 }) (roPc D cy [.ref a_od, .int p1, .int p2] [(a_la, .inr (2, [.int la_lanes, .int la_deep, .int la_lanesTold, .ref a_la_who, la_firstStrong, .int la_beasts, .ref a_la_kind, la_firstLane, la_mood, la_price, .int la_cities, .int la_passes, la_passBetween, .int la_turned])), (a_la_who, .inl (cy 1, 6, .inl la_who)), (a_la_kind, .inl (cy 1, 5, .inl la_kind)), (a_no, .inr (8, [.ref a_no_strong, no_at, .ref a_no_wounds, .int no_dead, .int no_wet, .int no_drawn])), (a_no_strong, .inl (cy 1, 6, .inl no_strong)), (a_no_wounds, .inl (cy 1, 5, .inl no_wounds)), (a_od, .inr (4, [.ref a_la, .ref a_no]))]) (vp_Si (fun r => r = res)) 0 0 (fun _ => False) := by
  refine Met.ofW (cc := cX4_leastMood) (maxL := 5) (ret := (some .int)) (by decide) rfl ?_
  intro p e s m args below meth c s₁ B hml hv
  obtain ⟨rfl, hP, hKN⟩ := hv
  have hK := hKN.1
  have hx := B.exec
  have hb := B.bytes
  have hr := B.returns
  have hts := wt_X4_leastMood hKN.2.2 (([.ref a_od, .int p1, .int p2] : List Value).toArray)
  have hown : s.vm.findClass RX4 = some m.cls := findClass_of_methodNamed B.named
  have hlocks := B.notSynchronized
  have hX2 := wc_X2 hKN.2.2 (([.ref a_od, .int p1, .int p2] : List Value).toArray)
  have hX4 := wc_X4 hKN.2.2 (([.ref a_od, .int p1, .int p2] : List Value).toArray)
  have hX8 := wc_X8 hKN.2.2 (([.ref a_od, .int p1, .int p2] : List Value).toArray)
  have hl := lv_entry ([.ref a_od, .int p1, .int p2]) (n := 5) (Nat.le_of_ble_eq_true rfl)
  rw [lg_entry_eq]
  generalize (lg_sl ([.ref a_od, .int p1, .int p2]) ++ List.replicate (5 - (lg_sl ([.ref a_od, .int p1, .int p2])).length) Slot.unset).toArray = ls at hl ⊢
  have hl : lv_has ls 5 [(0, .ref a_od), (1, .int p1), (2, .int p2)] := hl
  unfold f_X4_leastMood at h
  refine lv_iconst (v := 0) hx hb dX4_leastMood_0 (by decide) ?_
  refine lv_istore_n (lv' := [(3, .int 0), (0, .ref a_od), (1, .int p1), (2, .int p2)]) hx hb dX4_leastMood_1 rfl hl (by decide) rfl (fun ls hl => ?_)
  have lp2 : ∀ (n2 : Nat) (x3_1 : Int32), f_X4_leastMood_L2 la_deep la_who la_kind no_dead no_wet no_strong no_wounds p1 p2 n2 x3_1 = some (res) → ∀ ls : Array Slot, lv_has ls 5 [(0, .ref a_od), (1, .int p1), (2, .int p2), (3, .int x3_1)] → W p l e (headSpec wo_X4_leastMood ({ frames := 3, cells := 0, slots := 0, locals := 73 })).room s m (([.ref a_od, .int p1, .int p2] : List Value).toArray) below meth c s.heap [] 0 0 (MQ below (vp_Si (fun r => r = res)) (([.ref a_od, .int p1, .int p2] : List Value).toArray) s 0 0 (fun _ => False)) (F0 m 2 ls []) := by
    intro n2
    induction n2 with
    | zero => intro x3_1 h; exact absurd (show (none : Option (Int32)) = some _ from h) (by intro q; cases q)
    | succ n2 ih2 =>
      intro x3_1 h ls hl
      have h : f_X4_leastMood_b2 la_deep la_who la_kind no_dead no_wet no_strong no_wounds p1 p2 (f_X4_leastMood_L2 la_deep la_who la_kind no_dead no_wet no_strong no_wounds p1 p2 n2) x3_1 = some (res) := h
      unfold f_X4_leastMood_b2 at h
      refine lv_iload_n hx hb dX4_leastMood_2 rfl (lv_at hl 3 rfl) ?_
      refine lv_bipush (v := 100) hx hb dX4_leastMood_3 (by decide) ?_
      refine lv_icmp_gt (tgt := 68) hx hb dX4_leastMood_5 (by decide) (fun cd => ?_) (fun cd => ?_)
      · have h := ifT cd h
        refine lv_bipush (v := (-2)) hx hb dX4_leastMood_68 (by decide) ?_
        exact W.iret (v := (-2)) hx hb hr (fun t ht _ => ⟨_, rfl, Option.some.inj h, ht⟩) (fun _ q => by cases q) dX4_leastMood_70
      · have h := ifF cd h
        refine lv_aload_n hx hb dX4_leastMood_8 rfl (lv_at hl 0 rfl) ?_
        refine va_get (D := D) (ci := 4) (C := RX4) (T := TX4) (N := 2) (v := .ref a_la) hx hb hX4 (fun _ q => q) hown hK hP 6 rfl rfl 0 (by decide) (hts (.fieldLink RX4 9 "ElephantLine$Odds" "land" "LElephantLine$Land;") (by decide +kernel)) (fun _ h9 => h9) rfl dX4_leastMood_9 ?_
        refine va_getN (D := D) (ci := 2) (C := RX2) (T := TX2) (N := 14) (v := .ref a_la_kind) hx hb hX2 (fun _ q => q) hown hK hP 0 rfl rfl 6 (by decide) (va_Nw.use rfl (hKN.2.1.1 ("ElephantLine$Odds", 34, "ElephantLine$Land", "kind", "[I", "ElephantLine") (List.mem_of_getElem? (i := 21) rfl))) (fun _ h9 => h9) rfl dX4_leastMood_12 ?_
        refine lv_iload_n hx hb dX4_leastMood_15 rfl (lv_at hl 1 rfl) ?_
        obtain ⟨i_2, h⟩ := gIn_some h
        refine va_iald hx hb hK hP 2 1 rfl rfl i_2 dX4_leastMood_16 ?_
        refine lv_iload_n hx hb dX4_leastMood_17 rfl (lv_at hl 3 rfl) ?_
        refine lv_aload_n hx hb dX4_leastMood_18 rfl (lv_at hl 0 rfl) ?_
        refine va_get (D := D) (ci := 4) (C := RX4) (T := TX4) (N := 2) (v := .ref a_no) hx hb hX4 (fun _ q => q) hown hK hP 6 rfl rfl 1 (by decide) (hts (.fieldLink RX4 15 "ElephantLine$Odds" "now" "LElephantLine$Stand;") (by decide +kernel)) (fun _ h9 => h9) rfl dX4_leastMood_19 ?_
        refine va_getN (D := D) (ci := 8) (C := RX8) (T := TX8) (N := 6) (v := .int no_wet) hx hb hX8 (fun _ q => q) hown hK hP 3 rfl rfl 4 (by decide) (va_Nw.use rfl (hKN.2.1.1 ("ElephantLine$Odds", 50, "ElephantLine$Stand", "wet", "Z", "ElephantLine") (List.mem_of_getElem? (i := 53) rfl))) (fun _ h9 => h9) rfl dX4_leastMood_22 ?_
        obtain ⟨r_3, hc_4, h⟩ := bd1_some h
        refine kSi [.int (la_kind p1.toNatClampNeg), .int x3_1, .int no_wet] [] ⟨hx, hb, hml, hown, hts⟩ (c_X4_holdBy l D cy (la_kind p1.toNatClampNeg) x3_1 no_wet r_3 hc_4) gX4_leastMood_X4_holdBy rfl hd_X4_holdBy ⟨Nat.le_of_ble_eq_true rfl, Nat.le_of_ble_eq_true rfl⟩ rfl rfl hKN va_nil rfl hl.1 rfl (Nat.le_of_ble_eq_true rfl) dX4_leastMood_25 ⟨Nat.le_of_ble_eq_true rfl, Nat.le_of_ble_eq_true rfl⟩ ?_
        refine lv_istore (lv' := [(4, .int r_3), (0, .ref a_od), (1, .int p1), (2, .int p2), (3, .int x3_1)]) hx hb dX4_leastMood_28 hl (by decide) rfl (fun ls hl => ?_)
        refine lv_aload_n hx hb dX4_leastMood_30 rfl (lv_at hl 1 rfl) ?_
        refine lv_iload_n hx hb dX4_leastMood_31 rfl (lv_at hl 2 rfl) ?_
        refine lv_aload_n hx hb dX4_leastMood_32 rfl (lv_at hl 1 rfl) ?_
        refine va_get (D := D) (ci := 4) (C := RX4) (T := TX4) (N := 2) (v := .ref a_la) hx hb hX4 (fun _ q => q) hown hK hP 6 rfl rfl 0 (by decide) (hts (.fieldLink RX4 9 "ElephantLine$Odds" "land" "LElephantLine$Land;") (by decide +kernel)) (fun _ h9 => h9) rfl dX4_leastMood_33 ?_
        refine va_getN (D := D) (ci := 2) (C := RX2) (T := TX2) (N := 14) (v := .ref a_la_who) hx hb hX2 (fun _ q => q) hown hK hP 0 rfl rfl 3 (by decide) (va_Nw.use rfl (hKN.2.1.1 ("ElephantLine$Odds", 61, "ElephantLine$Land", "who", "[I", "ElephantLine") (List.mem_of_getElem? (i := 12) rfl))) (fun _ h9 => h9) rfl dX4_leastMood_36 ?_
        refine lv_iload_n hx hb dX4_leastMood_39 rfl (lv_at hl 3 rfl) ?_
        obtain ⟨i_5, h⟩ := gIn_some h
        refine va_iald hx hb hK hP 1 1 rfl rfl i_5 dX4_leastMood_40 ?_
        refine lv_aload_n hx hb dX4_leastMood_41 rfl (lv_at hl 1 rfl) ?_
        refine va_get (D := D) (ci := 4) (C := RX4) (T := TX4) (N := 2) (v := .ref a_no) hx hb hX4 (fun _ q => q) hown hK hP 6 rfl rfl 1 (by decide) (hts (.fieldLink RX4 15 "ElephantLine$Odds" "now" "LElephantLine$Stand;") (by decide +kernel)) (fun _ h9 => h9) rfl dX4_leastMood_42 ?_
        refine va_getN (D := D) (ci := 8) (C := RX8) (T := TX8) (N := 6) (v := .ref a_no_strong) hx hb hX8 (fun _ q => q) hown hK hP 3 rfl rfl 0 (by decide) (va_Nw.use rfl (hKN.2.1.1 ("ElephantLine$Odds", 64, "ElephantLine$Stand", "strong", "[I", "ElephantLine") (List.mem_of_getElem? (i := 43) rfl))) (fun _ h9 => h9) rfl dX4_leastMood_45 ?_
        refine lv_iload_n hx hb dX4_leastMood_48 rfl (lv_at hl 3 rfl) ?_
        obtain ⟨i_6, h⟩ := gIn_some h
        refine va_iald hx hb hK hP 4 1 rfl rfl i_6 dX4_leastMood_49 ?_
        refine lv_iload hx hb dX4_leastMood_50 (lv_at hl 0 rfl) ?_
        obtain ⟨r_7, hc_8, h⟩ := bd1_some h
        refine kVl [.int p1, .int (la_who p2.toNatClampNeg), .int (no_strong p2.toNatClampNeg), .int r_3] [] ⟨hx, hb, hml, hown, hts⟩ (c_X4_worthBy l D cy a_la a_la_kind a_no a_no_wounds a_od la_lanes la_deep la_lanesTold (.ref a_la_who) (la_firstStrong) la_beasts (la_firstLane) (la_mood) (la_price) la_cities la_passes (la_passBetween) la_turned la_kind (.ref a_no_strong) (no_at) no_dead no_wet no_drawn no_wounds p1 (la_who p2.toNatClampNeg) (no_strong p2.toNatClampNeg) r_3 r_7 hc_8) gX4_leastMood_X4_worthBy rfl hd_X4_worthBy ⟨Nat.le_of_ble_eq_true rfl, Nat.le_of_ble_eq_true rfl⟩ rfl rfl hKN (hP.sub [0, 2, 3, 5, 6] rfl) 4 4 rfl rfl rfl hl.1 rfl (Nat.le_of_ble_eq_true rfl) dX4_leastMood_52 ⟨Nat.le_of_ble_eq_true rfl, Nat.le_of_ble_eq_true rfl⟩ ?_
        refine lv_lconst (v := 0) hx hb dX4_leastMood_55 (by decide) ?_
        refine W.lcmp hx hb dX4_leastMood_56 ?_
        refine lv_if_le (tgt := 62) hx hb dX4_leastMood_57 (by decide) (fun cd => ?_) (fun cd => ?_)
        · have cd := (lgc_le _ _).mp cd
          have h := ifT cd h
          refine lv_iinc (v := x3_1 + 1) (lv' := [(3, .int (x3_1 + 1)), (4, .int r_3), (0, .ref a_od), (1, .int p1), (2, .int p2)]) hx hb dX4_leastMood_62 hl (k := 4) rfl (by first | rfl | decide) (by decide) rfl (fun ls hl => ?_)
          refine lv_goto (tgt := 2) hx hb dX4_leastMood_65 (by decide) ?_
          exact ih2 (x3_1 + 1) h _ (lv_sub hl [2, 3, 4, 0] rfl)
        · have cd := fun q => cd ((lgc_le _ _).mpr q)
          have h := ifF cd h
          refine lv_iload_n hx hb dX4_leastMood_60 rfl (lv_at hl 4 rfl) ?_
          exact W.iret (v := x3_1) hx hb hr (fun t ht _ => ⟨_, rfl, Option.some.inj h, ht⟩) (fun _ q => by cases q) dX4_leastMood_61
  exact lp2 fuelN (0 : Int32) h _ (lv_sub hl [1, 2, 3, 0] rfl)
theorem hd_X4_anyGainsByHorse : yX4_anyGainsByHorse.cls = RX4 ∧ yX4_anyGainsByHorse.cls ≠ "java/lang/invoke/MethodHandle" ∧ yX4_anyGainsByHorse.cls ≠ "java/lang/invoke/VarHandle" ∧ (parseMethodDescriptor yX4_anyGainsByHorse.desc).map (fun d => d.parameters.length) = some 1 := by decide +kernel
set_option maxHeartbeats 4000000 in
set_option maxRecDepth 100000 in
theorem c_X4_anyGainsByHorse (l : Launch) (D : va_G) (cy : Nat → ClassId) (a_la a_la_kind a_la_mood a_no a_no_wounds a_od : Nat) (la_lanes : Int32) (la_deep : Int32) (la_lanesTold : Int32) (la_who : Value) (la_firstStrong : Value) (la_beasts : Int32) (la_firstLane : Value) (la_price : Value) (la_cities : Int32) (la_passes : Int32) (la_passBetween : Value) (la_turned : Int32) (la_kind : Nat → Int32) (la_mood : Nat → Int32) (no_strong : Value) (no_at : Value) (no_dead : Int32) (no_wet : Int32) (no_drawn : Int32) (no_wounds : Nat → Int32) (p1 : Int32) (res : Int32) (h : f_X4_anyGainsByHorse la_deep la_beasts la_kind la_mood no_dead no_wet no_wounds p1 = some (res)) : Met l yX4_anyGainsByHorse wo_X4_anyGainsByHorse ({ frames := 3, cells := 0, slots := 0, locals := 73 }) (roPc D cy [.ref a_od, .int p1] [(a_la, .inr (2, [.int la_lanes, .int la_deep, .int la_lanesTold, la_who, la_firstStrong, .int la_beasts, .ref a_la_kind, la_firstLane, .ref a_la_mood, la_price, .int la_cities, .int la_passes, la_passBetween, .int la_turned])), (a_la_kind, .inl (cy 1, 5, .inl la_kind)), (a_la_mood, .inl (cy 1, 5, .inl la_mood)), (a_no, .inr (8, [no_strong, no_at, .ref a_no_wounds, .int no_dead, .int no_wet, .int no_drawn])), (a_no_wounds, .inl (cy 1, 5, .inl no_wounds)), (a_od, .inr (4, [.ref a_la, .ref a_no]))]) (vp_Si (fun r => r = res ∧ nbv r)) 0 0 (fun _ => False) := by
  refine Met.ofW (cc := cX4_anyGainsByHorse) (maxL := 3) (ret := (some .boolean)) (by decide) rfl ?_
  intro p e s m args below meth c s₁ B hml hv
  obtain ⟨rfl, hP, hKN⟩ := hv
  have hK := hKN.1
  have hx := B.exec
  have hb := B.bytes
  have hr := B.returns
  have hts := wt_X4_anyGainsByHorse hKN.2.2 (([.ref a_od, .int p1] : List Value).toArray)
  have hown : s.vm.findClass RX4 = some m.cls := findClass_of_methodNamed B.named
  have hlocks := B.notSynchronized
  have hX2 := wc_X2 hKN.2.2 (([.ref a_od, .int p1] : List Value).toArray)
  have hX4 := wc_X4 hKN.2.2 (([.ref a_od, .int p1] : List Value).toArray)
  have hl := lv_entry ([.ref a_od, .int p1]) (n := 3) (Nat.le_of_ble_eq_true rfl)
  rw [lg_entry_eq]
  generalize (lg_sl ([.ref a_od, .int p1]) ++ List.replicate (3 - (lg_sl ([.ref a_od, .int p1])).length) Slot.unset).toArray = ls at hl ⊢
  have hl : lv_has ls 3 [(0, .ref a_od), (1, .int p1)] := hl
  unfold f_X4_anyGainsByHorse at h
  refine lv_iconst (v := 0) hx hb dX4_anyGainsByHorse_0 (by decide) ?_
  refine lv_istore_n (lv' := [(2, .int 0), (0, .ref a_od), (1, .int p1)]) hx hb dX4_anyGainsByHorse_1 rfl hl (by decide) rfl (fun ls hl => ?_)
  have lp2 : ∀ (n2 : Nat) (x2_1 : Int32), f_X4_anyGainsByHorse_L2 la_deep la_beasts la_kind la_mood no_dead no_wet no_wounds p1 n2 x2_1 = some (res) → ∀ ls : Array Slot, lv_has ls 3 [(0, .ref a_od), (1, .int p1), (2, .int x2_1)] → W p l e (headSpec wo_X4_anyGainsByHorse ({ frames := 3, cells := 0, slots := 0, locals := 73 })).room s m (([.ref a_od, .int p1] : List Value).toArray) below meth c s.heap [] 0 0 (MQ below (vp_Si (fun r => r = res ∧ nbv r)) (([.ref a_od, .int p1] : List Value).toArray) s 0 0 (fun _ => False)) (F0 m 2 ls []) := by
    intro n2
    induction n2 with
    | zero => intro x2_1 h; exact absurd (show (none : Option (Int32)) = some _ from h) (by intro q; cases q)
    | succ n2 ih2 =>
      intro x2_1 h ls hl
      have h : f_X4_anyGainsByHorse_b2 la_deep la_beasts la_kind la_mood no_dead no_wet no_wounds p1 (f_X4_anyGainsByHorse_L2 la_deep la_beasts la_kind la_mood no_dead no_wet no_wounds p1 n2) x2_1 = some (res) := h
      unfold f_X4_anyGainsByHorse_b2 at h
      refine lv_iload_n hx hb dX4_anyGainsByHorse_2 rfl (lv_at hl 2 rfl) ?_
      refine lv_aload_n hx hb dX4_anyGainsByHorse_3 rfl (lv_at hl 0 rfl) ?_
      refine va_get (D := D) (ci := 4) (C := RX4) (T := TX4) (N := 2) (v := .ref a_la) hx hb hX4 (fun _ q => q) hown hK hP 5 rfl rfl 0 (by decide) (hts (.fieldLink RX4 9 "ElephantLine$Odds" "land" "LElephantLine$Land;") (by decide +kernel)) (fun _ h9 => h9) rfl dX4_anyGainsByHorse_4 ?_
      refine va_getN (D := D) (ci := 2) (C := RX2) (T := TX2) (N := 14) (v := .int la_beasts) hx hb hX2 (fun _ q => q) hown hK hP 0 rfl rfl 5 (by decide) (va_Nw.use rfl (hKN.2.1.1 ("ElephantLine$Odds", 102, "ElephantLine$Land", "beasts", "I", "ElephantLine") (List.mem_of_getElem? (i := 20) rfl))) (fun _ h9 => h9) rfl dX4_anyGainsByHorse_7 ?_
      refine lv_icmp_ge (tgt := 38) hx hb dX4_anyGainsByHorse_10 (by decide) (fun cd => ?_) (fun cd => ?_)
      · have h := ifT cd h
        refine lv_iconst (v := 0) hx hb dX4_anyGainsByHorse_38 (by decide) ?_
        exact W.zret (ty := .boolean) (v := 0) hx hb hr (nbv.n nbv_0) (fun t ht _ => ⟨_, rfl, ⟨Option.some.inj h, nbv_0⟩, ht⟩) (fun _ q => by cases q) dX4_anyGainsByHorse_39
      · have h := ifF cd h
        refine lv_aload_n hx hb dX4_anyGainsByHorse_13 rfl (lv_at hl 0 rfl) ?_
        refine lv_iload_n hx hb dX4_anyGainsByHorse_14 rfl (lv_at hl 2 rfl) ?_
        refine lv_iconst (v := 3) hx hb dX4_anyGainsByHorse_15 (by decide) ?_
        refine lv_iload_n hx hb dX4_anyGainsByHorse_16 rfl (lv_at hl 1 rfl) ?_
        refine lv_aload_n hx hb dX4_anyGainsByHorse_17 rfl (lv_at hl 0 rfl) ?_
        refine lv_iload_n hx hb dX4_anyGainsByHorse_18 rfl (lv_at hl 2 rfl) ?_
        obtain ⟨r_2, hc_3, h⟩ := bd1_some h
        refine kVi [.int x2_1] [.int p1, .int 3, .int x2_1, .ref a_od] ⟨hx, hb, hml, hown, hts⟩ (c_X4_holdOf l D cy a_la a_la_kind a_la_mood a_no a_od la_lanes la_deep la_lanesTold (la_who) (la_firstStrong) la_beasts (la_firstLane) (la_price) la_cities la_passes (la_passBetween) la_turned la_kind la_mood (no_strong) (no_at) (.ref a_no_wounds) no_dead no_wet no_drawn x2_1 r_2 hc_3) gX4_anyGainsByHorse_X4_holdOf rfl hd_X4_holdOf ⟨Nat.le_of_ble_eq_true rfl, Nat.le_of_ble_eq_true rfl⟩ rfl rfl hKN (hP.sub [0, 1, 2, 3, 5] rfl) 4 4 rfl rfl rfl hl.1 rfl (Nat.le_of_ble_eq_true rfl) dX4_anyGainsByHorse_19 ⟨Nat.le_of_ble_eq_true rfl, Nat.le_of_ble_eq_true rfl⟩ ?_
        obtain ⟨r_4, hc_5, h⟩ := bd1_some h
        refine kVl [.int x2_1, .int 3, .int p1, .int r_2] [] ⟨hx, hb, hml, hown, hts⟩ (c_X4_worthBy l D cy a_la a_la_kind a_no a_no_wounds a_od la_lanes la_deep la_lanesTold (la_who) (la_firstStrong) la_beasts (la_firstLane) (.ref a_la_mood) (la_price) la_cities la_passes (la_passBetween) la_turned la_kind (no_strong) (no_at) no_dead no_wet no_drawn no_wounds x2_1 (3 : Int32) p1 r_2 r_4 hc_5) gX4_anyGainsByHorse_X4_worthBy rfl hd_X4_worthBy ⟨Nat.le_of_ble_eq_true rfl, Nat.le_of_ble_eq_true rfl⟩ rfl rfl hKN (hP.sub [0, 1, 3, 4, 5] rfl) 4 4 rfl rfl rfl hl.1 rfl (Nat.le_of_ble_eq_true rfl) dX4_anyGainsByHorse_22 ⟨Nat.le_of_ble_eq_true rfl, Nat.le_of_ble_eq_true rfl⟩ ?_
        refine lv_lconst (v := 0) hx hb dX4_anyGainsByHorse_25 (by decide) ?_
        refine W.lcmp hx hb dX4_anyGainsByHorse_26 ?_
        refine lv_if_le (tgt := 32) hx hb dX4_anyGainsByHorse_27 (by decide) (fun cd => ?_) (fun cd => ?_)
        · have cd := (lgc_le _ _).mp cd
          have h := ifT cd h
          refine lv_iinc (v := x2_1 + 1) (lv' := [(2, .int (x2_1 + 1)), (0, .ref a_od), (1, .int p1)]) hx hb dX4_anyGainsByHorse_32 hl (k := 2) rfl (by first | rfl | decide) (by decide) rfl (fun ls hl => ?_)
          refine lv_goto (tgt := 2) hx hb dX4_anyGainsByHorse_35 (by decide) ?_
          exact ih2 (x2_1 + 1) h _ (lv_sub hl [1, 2, 0] rfl)
        · have cd := fun q => cd ((lgc_le _ _).mpr q)
          have h := ifF cd h
          refine lv_iconst (v := 1) hx hb dX4_anyGainsByHorse_30 (by decide) ?_
          exact W.zret (ty := .boolean) (v := 1) hx hb hr (nbv.n nbv_1) (fun t ht _ => ⟨_, rfl, ⟨Option.some.inj h, nbv_1⟩, ht⟩) (fun _ q => by cases q) dX4_anyGainsByHorse_31
  exact lp2 fuelN (0 : Int32) h _ (lv_sub hl [1, 2, 0] rfl)
theorem hd_X4_commonDivisor : yX4_commonDivisor.cls ≠ "java/lang/invoke/MethodHandle" ∧ yX4_commonDivisor.cls ≠ "java/lang/invoke/VarHandle" ∧ (parseMethodDescriptor yX4_commonDivisor.desc).map (fun d => d.parameters.length) = some 2 := by decide +kernel
set_option maxHeartbeats 4000000 in
set_option maxRecDepth 100000 in
theorem c_X4_commonDivisor (l : Launch) (D : va_G) (cy : Nat → ClassId) (p0 : Int64) (p2 : Int64) (res : Int64) (h : f_X4_commonDivisor  p0 p2 = some (res)) : Met l yX4_commonDivisor wo_X4_commonDivisor ({ frames := 0, cells := 0, slots := 0, locals := 0 }) (roPc D cy [.long p0, .long p2] []) (vp_Sl (fun r => r = res)) 0 0 (fun _ => False) := by
  refine Met.ofW (cc := cX4_commonDivisor) (maxL := 11) (ret := (some .long)) (by decide) rfl ?_
  intro p e s m args below meth c s₁ B hml hv
  obtain ⟨rfl, hP, hKN⟩ := hv
  have hK := hKN.1
  have hx := B.exec
  have hb := B.bytes
  have hr := B.returns
  have hts := wt_X4_commonDivisor hKN.2.2 (([.long p0, .long p2] : List Value).toArray)
  have hown : s.vm.findClass RX4 = some m.cls := findClass_of_methodNamed B.named
  have hlocks := B.notSynchronized
  have hl := lv_entry ([.long p0, .long p2]) (n := 11) (Nat.le_of_ble_eq_true rfl)
  rw [lg_entry_eq]
  generalize (lg_sl ([.long p0, .long p2]) ++ List.replicate (11 - (lg_sl ([.long p0, .long p2])).length) Slot.unset).toArray = ls at hl ⊢
  have hl : lv_has ls 11 [(0, .long p0), (2, .long p2)] := hl
  unfold f_X4_commonDivisor at h
  refine lv_lload_n hx hb dX4_commonDivisor_0 rfl (lv_at hl 0 rfl) ?_
  refine lv_lstore (lv' := [(4, .long p0), (0, .long p0), (2, .long p2)]) hx hb dX4_commonDivisor_1 hl (by decide) rfl (fun ls hl => ?_)
  refine lv_lload_n hx hb dX4_commonDivisor_3 rfl (lv_at hl 2 rfl) ?_
  refine lv_lstore (lv' := [(6, .long p2), (4, .long p0), (0, .long p0), (2, .long p2)]) hx hb dX4_commonDivisor_4 hl (by decide) rfl (fun ls hl => ?_)
  refine lv_iconst (v := 0) hx hb dX4_commonDivisor_6 (by decide) ?_
  refine lv_istore (lv' := [(8, .int 0), (6, .long p2), (4, .long p0), (0, .long p0), (2, .long p2)]) hx hb dX4_commonDivisor_7 hl (by decide) rfl (fun ls hl => ?_)
  have lp9 : ∀ (n9 : Nat) (x4_1 : Int64) (x6_2 : Int64) (x8_3 : Int32), f_X4_commonDivisor_L9 n9 x4_1 x6_2 x8_3 = some (res) → ∀ ls : Array Slot, lv_has ls 11 [(4, .long x4_1), (6, .long x6_2), (8, .int x8_3)] → W p l e (headSpec wo_X4_commonDivisor ({ frames := 0, cells := 0, slots := 0, locals := 0 })).room s m (([.long p0, .long p2] : List Value).toArray) below meth c s.heap [] 0 0 (MQ below (vp_Sl (fun r => r = res)) (([.long p0, .long p2] : List Value).toArray) s 0 0 (fun _ => False)) (F0 m 9 ls []) := by
    intro n9
    induction n9 with
    | zero => intro x4_1 x6_2 x8_3 h; exact absurd (show (none : Option (Int64)) = some _ from h) (by intro q; cases q)
    | succ n9 ih9 =>
      intro x4_1 x6_2 x8_3 h ls hl
      have h : f_X4_commonDivisor_b9 (f_X4_commonDivisor_L9 n9) x4_1 x6_2 x8_3 = some (res) := h
      unfold f_X4_commonDivisor_b9 at h
      refine lv_iload hx hb dX4_commonDivisor_9 (lv_at hl 2 rfl) ?_
      refine lv_sipush (v := 128) hx hb dX4_commonDivisor_11 (by decide) ?_
      refine lv_icmp_ge (tgt := 45) hx hb dX4_commonDivisor_14 (by decide) (fun cd => ?_) (fun cd => ?_)
      · have h := ifT cd h
        refine lv_lload hx hb dX4_commonDivisor_45 (lv_at hl 0 rfl) ?_
        exact W.lret (v := x4_1) hx hb hr (fun t ht _ => ⟨_, rfl, Option.some.inj h, ht⟩) (fun _ q => by cases q) dX4_commonDivisor_47
      · have h := ifF cd h
        refine lv_lload hx hb dX4_commonDivisor_17 (lv_at hl 1 rfl) ?_
        refine lv_lconst (v := 0) hx hb dX4_commonDivisor_19 (by decide) ?_
        refine W.lcmp hx hb dX4_commonDivisor_20 ?_
        refine lv_if_eq (tgt := 45) hx hb dX4_commonDivisor_21 (by decide) (fun cd => ?_) (fun cd => ?_)
        · have cd := (lgc_eq _ _).mp cd
          have h := ifT cd h
          refine lv_lload hx hb dX4_commonDivisor_45 (lv_at hl 0 rfl) ?_
          exact W.lret (v := x4_1) hx hb hr (fun t ht _ => ⟨_, rfl, Option.some.inj h, ht⟩) (fun _ q => by cases q) dX4_commonDivisor_47
        · have cd := fun q => cd ((lgc_eq _ _).mpr q)
          have h := ifF cd h
          refine lv_lload hx hb dX4_commonDivisor_24 (lv_at hl 0 rfl) ?_
          refine lv_lload hx hb dX4_commonDivisor_26 (lv_at hl 1 rfl) ?_
          obtain ⟨z_4, h⟩ := gNz_some h
          refine lv_lrem hx hb dX4_commonDivisor_28 z_4 ?_
          refine lv_lstore (lv' := [(9, .long (x4_1 - x4_1 / x6_2 * x6_2)), (4, .long x4_1), (6, .long x6_2), (8, .int x8_3)]) hx hb dX4_commonDivisor_29 hl (by decide) rfl (fun ls hl => ?_)
          refine lv_lload hx hb dX4_commonDivisor_31 (lv_at hl 2 rfl) ?_
          refine lv_lstore (lv' := [(4, .long x6_2), (9, .long (x4_1 - x4_1 / x6_2 * x6_2)), (6, .long x6_2), (8, .int x8_3)]) hx hb dX4_commonDivisor_33 hl (by decide) rfl (fun ls hl => ?_)
          refine lv_lload hx hb dX4_commonDivisor_35 (lv_at hl 1 rfl) ?_
          refine lv_lstore (lv' := [(6, .long (x4_1 - x4_1 / x6_2 * x6_2)), (4, .long x6_2), (9, .long (x4_1 - x4_1 / x6_2 * x6_2)), (8, .int x8_3)]) hx hb dX4_commonDivisor_37 hl (by decide) rfl (fun ls hl => ?_)
          refine lv_iinc (v := x8_3 + 1) (lv' := [(8, .int (x8_3 + 1)), (6, .long (x4_1 - x4_1 / x6_2 * x6_2)), (4, .long x6_2), (9, .long (x4_1 - x4_1 / x6_2 * x6_2))]) hx hb dX4_commonDivisor_39 hl (k := 3) rfl (by first | rfl | decide) (by decide) rfl (fun ls hl => ?_)
          refine lv_goto (tgt := 9) hx hb dX4_commonDivisor_42 (by decide) ?_
          exact ih9 x6_2 (x4_1 - x4_1 / x6_2 * x6_2) (x8_3 + 1) h _ (lv_sub hl [2, 1, 0] rfl)
  exact lp9 fuelN p0 p2 (0 : Int32) h _ (lv_sub hl [2, 1, 0] rfl)
theorem hd_X4_leastWeeks : yX4_leastWeeks.cls = RX4 ∧ yX4_leastWeeks.cls ≠ "java/lang/invoke/MethodHandle" ∧ yX4_leastWeeks.cls ≠ "java/lang/invoke/VarHandle" ∧ (parseMethodDescriptor yX4_leastWeeks.desc).map (fun d => d.parameters.length) = some 0 := by decide +kernel
set_option maxHeartbeats 4000000 in
set_option maxRecDepth 100000 in
theorem c_X4_leastWeeks (l : Launch) (D : va_G) (cy : Nat → ClassId) (a_la a_la_kind a_la_mood a_no a_no_wounds a_od : Nat) (la_lanes : Int32) (la_deep : Int32) (la_lanesTold : Int32) (la_who : Value) (la_firstStrong : Value) (la_beasts : Int32) (la_firstLane : Value) (la_price : Value) (la_cities : Int32) (la_passes : Int32) (la_passBetween : Value) (la_turned : Int32) (la_kind : Nat → Int32) (la_mood : Nat → Int32) (no_strong : Value) (no_at : Value) (no_dead : Int32) (no_wet : Int32) (no_drawn : Int32) (no_wounds : Nat → Int32) (res : Int32) (h : f_X4_leastWeeks la_deep la_beasts la_kind la_mood no_dead no_wet no_wounds = some (res)) : Met l yX4_leastWeeks wo_X4_leastWeeks ({ frames := 4, cells := 0, slots := 0, locals := 95 }) (roPc D cy [.ref a_od] [(a_la, .inr (2, [.int la_lanes, .int la_deep, .int la_lanesTold, la_who, la_firstStrong, .int la_beasts, .ref a_la_kind, la_firstLane, .ref a_la_mood, la_price, .int la_cities, .int la_passes, la_passBetween, .int la_turned])), (a_la_kind, .inl (cy 1, 5, .inl la_kind)), (a_la_mood, .inl (cy 1, 5, .inl la_mood)), (a_no, .inr (8, [no_strong, no_at, .ref a_no_wounds, .int no_dead, .int no_wet, .int no_drawn])), (a_no_wounds, .inl (cy 1, 5, .inl no_wounds)), (a_od, .inr (4, [.ref a_la, .ref a_no]))]) (vp_Si (fun r => r = res)) 0 0 (fun _ => False) := by
  refine Met.ofW (cc := cX4_leastWeeks) (maxL := 2) (ret := (some .int)) (by decide) rfl ?_
  intro p e s m args below meth c s₁ B hml hv
  obtain ⟨rfl, hP, hKN⟩ := hv
  have hK := hKN.1
  have hx := B.exec
  have hb := B.bytes
  have hr := B.returns
  have hts := wt_X4_leastWeeks hKN.2.2 (([.ref a_od] : List Value).toArray)
  have hown : s.vm.findClass RX4 = some m.cls := findClass_of_methodNamed B.named
  have hlocks := B.notSynchronized
  have hl := lv_entry ([.ref a_od]) (n := 2) (Nat.le_of_ble_eq_true rfl)
  rw [lg_entry_eq]
  generalize (lg_sl ([.ref a_od]) ++ List.replicate (2 - (lg_sl ([.ref a_od])).length) Slot.unset).toArray = ls at hl ⊢
  have hl : lv_has ls 2 [(0, .ref a_od)] := hl
  unfold f_X4_leastWeeks at h
  refine lv_iconst (v := 0) hx hb dX4_leastWeeks_0 (by decide) ?_
  refine lv_istore_n (lv' := [(1, .int 0), (0, .ref a_od)]) hx hb dX4_leastWeeks_1 rfl hl (by decide) rfl (fun ls hl => ?_)
  have lp2 : ∀ (n2 : Nat) (x1_1 : Int32), f_X4_leastWeeks_L2 la_deep la_beasts la_kind la_mood no_dead no_wet no_wounds n2 x1_1 = some (res) → ∀ ls : Array Slot, lv_has ls 2 [(0, .ref a_od), (1, .int x1_1)] → W p l e (headSpec wo_X4_leastWeeks ({ frames := 4, cells := 0, slots := 0, locals := 95 })).room s m (([.ref a_od] : List Value).toArray) below meth c s.heap [] 0 0 (MQ below (vp_Si (fun r => r = res)) (([.ref a_od] : List Value).toArray) s 0 0 (fun _ => False)) (F0 m 2 ls []) := by
    intro n2
    induction n2 with
    | zero => intro x1_1 h; exact absurd (show (none : Option (Int32)) = some _ from h) (by intro q; cases q)
    | succ n2 ih2 =>
      intro x1_1 h ls hl
      have h : f_X4_leastWeeks_b2 la_deep la_beasts la_kind la_mood no_dead no_wet no_wounds (f_X4_leastWeeks_L2 la_deep la_beasts la_kind la_mood no_dead no_wet no_wounds n2) x1_1 = some (res) := h
      unfold f_X4_leastWeeks_b2 at h
      refine lv_iload_n hx hb dX4_leastWeeks_2 rfl (lv_at hl 1 rfl) ?_
      refine lv_bipush (v := 30) hx hb dX4_leastWeeks_3 (by decide) ?_
      refine lv_icmp_gt (tgt := 24) hx hb dX4_leastWeeks_5 (by decide) (fun cd => ?_) (fun cd => ?_)
      · have h := ifT cd h
        refine lv_bipush (v := (-2)) hx hb dX4_leastWeeks_24 (by decide) ?_
        exact W.iret (v := (-2)) hx hb hr (fun t ht _ => ⟨_, rfl, Option.some.inj h, ht⟩) (fun _ q => by cases q) dX4_leastWeeks_26
      · have h := ifF cd h
        refine lv_aload_n hx hb dX4_leastWeeks_8 rfl (lv_at hl 0 rfl) ?_
        refine lv_iload_n hx hb dX4_leastWeeks_9 rfl (lv_at hl 1 rfl) ?_
        obtain ⟨r_2, hc_3, h⟩ := bd1_some h
        refine kVb [.int x1_1] [] ⟨hx, hb, hml, hown, hts⟩ (c_X4_anyGainsByHorse l D cy a_la a_la_kind a_la_mood a_no a_no_wounds a_od la_lanes la_deep la_lanesTold (la_who) (la_firstStrong) la_beasts (la_firstLane) (la_price) la_cities la_passes (la_passBetween) la_turned la_kind la_mood (no_strong) (no_at) no_dead no_wet no_drawn no_wounds x1_1 r_2 hc_3) gX4_leastWeeks_X4_anyGainsByHorse rfl hd_X4_anyGainsByHorse ⟨Nat.le_of_ble_eq_true rfl, Nat.le_of_ble_eq_true rfl⟩ rfl rfl hKN (hP.sub [0, 1, 2, 3, 4, 5] rfl) 4 5 rfl rfl rfl hl.1 rfl (Nat.le_of_ble_eq_true rfl) dX4_leastWeeks_10 ⟨Nat.le_of_ble_eq_true rfl, Nat.le_of_ble_eq_true rfl⟩ (fun nb_4 => ?_)
        refine lv_if_ne (tgt := 18) hx hb dX4_leastWeeks_13 (by decide) (fun cd => ?_) (fun cd => ?_)
        · have h := ifF cd h
          refine lv_iinc (v := x1_1 + 1) (lv' := [(1, .int (x1_1 + 1)), (0, .ref a_od)]) hx hb dX4_leastWeeks_18 hl (k := 1) rfl (by first | rfl | decide) (by decide) rfl (fun ls hl => ?_)
          refine lv_goto (tgt := 2) hx hb dX4_leastWeeks_21 (by decide) ?_
          exact ih2 (x1_1 + 1) h _ (lv_sub hl [1, 0] rfl)
        · have h := ifT cd h
          refine lv_iload_n hx hb dX4_leastWeeks_16 rfl (lv_at hl 1 rfl) ?_
          exact W.iret (v := x1_1) hx hb hr (fun t ht _ => ⟨_, rfl, Option.some.inj h, ht⟩) (fun _ q => by cases q) dX4_leastWeeks_17
  exact lp2 fuelN (0 : Int32) h _ (lv_sub hl [1, 0] rfl)
theorem hd_X4_told : yX4_told.cls = RX4 ∧ yX4_told.cls ≠ "java/lang/invoke/MethodHandle" ∧ yX4_told.cls ≠ "java/lang/invoke/VarHandle" ∧ (parseMethodDescriptor yX4_told.desc).map (fun d => d.parameters.length) = some 2 := by decide +kernel
set_option maxHeartbeats 4000000 in
set_option maxRecDepth 100000 in
theorem c_X4_told (l : Launch) (D : va_G) (cy : Nat → ClassId) (a_la a_od : Nat) (la_lanes : Int32) (la_deep : Int32) (la_lanesTold : Int32) (la_who : Value) (la_firstStrong : Value) (la_beasts : Int32) (la_kind : Value) (la_firstLane : Value) (la_mood : Value) (la_price : Value) (la_cities : Int32) (la_passes : Int32) (la_passBetween : Value) (la_turned : Int32) (od_now : Value) (p1 : Int64) (p3 : Int32) (res : Int64) (h : f_X4_told la_deep p1 p3 = some (res)) : Met l yX4_told wo_X4_told ({ frames := 2, cells := 0, slots := 0, locals := 44 }) (roPc D cy [.ref a_od, .long p1, .int p3] [(a_la, .inr (2, [.int la_lanes, .int la_deep, .int la_lanesTold, la_who, la_firstStrong, .int la_beasts, la_kind, la_firstLane, la_mood, la_price, .int la_cities, .int la_passes, la_passBetween, .int la_turned])), (a_od, .inr (4, [.ref a_la, od_now]))]) (vp_Sl (fun r => r = res)) 0 0 (fun _ => False) := by
  refine Met.ofW (cc := cX4_told) (maxL := 10) (ret := (some .long)) (by decide) rfl ?_
  intro p e s m args below meth c s₁ B hml hv
  obtain ⟨rfl, hP, hKN⟩ := hv
  have hK := hKN.1
  have hx := B.exec
  have hb := B.bytes
  have hr := B.returns
  have hts := wt_X4_told hKN.2.2 (([.ref a_od, .long p1, .int p3] : List Value).toArray)
  have hown : s.vm.findClass RX4 = some m.cls := findClass_of_methodNamed B.named
  have hlocks := B.notSynchronized
  have hl := lv_entry ([.ref a_od, .long p1, .int p3]) (n := 10) (Nat.le_of_ble_eq_true rfl)
  rw [lg_entry_eq]
  generalize (lg_sl ([.ref a_od, .long p1, .int p3]) ++ List.replicate (10 - (lg_sl ([.ref a_od, .long p1, .int p3])).length) Slot.unset).toArray = ls at hl ⊢
  have hl : lv_has ls 10 [(0, .ref a_od), (1, .long p1), (3, .int p3)] := hl
  unfold f_X4_told at h
  refine lv_aload_n hx hb dX4_told_0 rfl (lv_at hl 0 rfl) ?_
  obtain ⟨r_1, hc_2, h⟩ := bd1_some h
  refine kVl [] [] ⟨hx, hb, hml, hown, hts⟩ (c_X4_full l D cy a_la a_od la_lanes la_deep la_lanesTold (la_who) (la_firstStrong) la_beasts (la_kind) (la_firstLane) (la_mood) (la_price) la_cities la_passes (la_passBetween) la_turned (od_now) r_1 hc_2) gX4_told_X4_full rfl hd_X4_full ⟨Nat.le_of_ble_eq_true rfl, Nat.le_of_ble_eq_true rfl⟩ rfl rfl hKN (hP.sub [0, 1] rfl) 4 1 rfl rfl rfl hl.1 rfl (Nat.le_of_ble_eq_true rfl) dX4_told_1 ⟨Nat.le_of_ble_eq_true rfl, Nat.le_of_ble_eq_true rfl⟩ ?_
  refine lv_lstore (lv' := [(4, .long r_1), (0, .ref a_od), (1, .long p1), (3, .int p3)]) hx hb dX4_told_4 hl (by decide) rfl (fun ls hl => ?_)
  refine lv_lload_n hx hb dX4_told_6 rfl (lv_at hl 2 rfl) ?_
  refine va_mabs_long hx hb (hml.trans hl.1.symm) hown (hts (.methodLink RX4 122 Lib.MathLoose.abs_long.x) (by decide +kernel)) (hts (.static Lib.MathLoose.abs_long.x) (by decide +kernel)) (hts (.initialized "java/lang/Math") (by decide +kernel)) (hts (.code Lib.MathLoose.abs_long.x Lib.MathLoose.abs_long.code 2 (some .long)) (by decide +kernel)) (Nat.le_of_ble_eq_true rfl) (Nat.le_of_ble_eq_true rfl) (Nat.le_of_ble_eq_true rfl) (Nat.le_of_ble_eq_true rfl) dX4_told_7 ?_
  refine lv_lload hx hb dX4_told_10 (lv_at hl 0 rfl) ?_
  obtain ⟨r_3, hc_4, h⟩ := bd1_some h
  refine kSl [.long (if 0 < p1 then p1 else -p1), .long r_1] [] ⟨hx, hb, hml, hown, hts⟩ (c_X4_commonDivisor l D cy (if 0 < p1 then p1 else -p1) r_1 r_3 hc_4) gX4_told_X4_commonDivisor rfl hd_X4_commonDivisor ⟨Nat.le_of_ble_eq_true rfl, Nat.le_of_ble_eq_true rfl⟩ rfl rfl hKN va_nil rfl hl.1 rfl (Nat.le_of_ble_eq_true rfl) dX4_told_12 ⟨Nat.le_of_ble_eq_true rfl, Nat.le_of_ble_eq_true rfl⟩ ?_
  refine lv_lstore (lv' := [(6, .long r_3), (4, .long r_1), (0, .ref a_od), (1, .long p1), (3, .int p3)]) hx hb dX4_told_15 hl (by decide) rfl (fun ls hl => ?_)
  refine lv_iload_n hx hb dX4_told_17 rfl (lv_at hl 4 rfl) ?_
  have jn27 : ∀ (t0_5 : Int64), f_X4_told_B27 la_deep r_3 t0_5 = some (res) → ∀ ls : Array Slot, lv_has ls 10 [(6, .long r_3)] → W p l e (headSpec wo_X4_told ({ frames := 2, cells := 0, slots := 0, locals := 44 })).room s m (([.ref a_od, .long p1, .int p3] : List Value).toArray) below meth c s.heap [] 0 0 (MQ below (vp_Sl (fun r => r = res)) (([.ref a_od, .long p1, .int p3] : List Value).toArray) s 0 0 (fun _ => False)) (F0 m 27 ls [.long t0_5]) := by
    intro t0_5 h ls hl
    unfold f_X4_told_B27 at h
    refine lv_lstore (lv' := [(8, .long t0_5), (6, .long r_3)]) hx hb dX4_told_27 hl (by decide) rfl (fun ls hl => ?_)
    refine lv_lload hx hb dX4_told_29 (lv_at hl 1 rfl) ?_
    refine lv_lconst (v := 1) hx hb dX4_told_31 (by decide) ?_
    refine W.lcmp hx hb dX4_told_32 ?_
    refine lv_if_le (tgt := 44) hx hb dX4_told_33 (by decide) (fun cd => ?_) (fun cd => ?_)
    · have cd := (lgc_le _ _).mp cd
      have h := ifT cd h
      refine lv_lload hx hb dX4_told_44 (lv_at hl 0 rfl) ?_
      exact W.lret (v := t0_5) hx hb hr (fun t ht _ => ⟨_, rfl, Option.some.inj h, ht⟩) (fun _ q => by cases q) dX4_told_46
    · have cd := fun q => cd ((lgc_le _ _).mpr q)
      have h := ifF cd h
      refine lv_lload hx hb dX4_told_36 (lv_at hl 0 rfl) ?_
      refine lv_lload hx hb dX4_told_38 (lv_at hl 1 rfl) ?_
      obtain ⟨z_6, h⟩ := gNz_some h
      refine lv_ldiv hx hb dX4_told_40 z_6 ?_
      refine lv_goto (tgt := 46) hx hb dX4_told_41 (by decide) ?_
      exact W.lret (v := t0_5 / r_3) hx hb hr (fun t ht _ => ⟨_, rfl, Option.some.inj h, ht⟩) (fun _ q => by cases q) dX4_told_46
  refine lv_if_eq (tgt := 26) hx hb dX4_told_18 (by decide) (fun cd => ?_) (fun cd => ?_)
  · have h := ifT cd h
    refine lv_lload_n hx hb dX4_told_26 rfl (lv_at hl 3 rfl) ?_
    exact jn27 p1 h _ (lv_sub hl [0] rfl)
  · have h := ifF cd h
    refine lv_lload hx hb dX4_told_21 (lv_at hl 1 rfl) ?_
    refine lv_goto (tgt := 27) hx hb dX4_told_23 (by decide) ?_
    exact jn27 r_1 h _ (lv_sub hl [0] rfl)
