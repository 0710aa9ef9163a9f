theorem hd_X10_turnBy : yX10_turnBy.cls = RX10 ∧ yX10_turnBy.cls ≠ "java/lang/invoke/MethodHandle" ∧ yX10_turnBy.cls ≠ "java/lang/invoke/VarHandle" ∧ (parseMethodDescriptor yX10_turnBy.desc).map (fun d => d.parameters.length) = some 1 := by decide +kernel
set_option maxHeartbeats 4000000 in
set_option maxRecDepth 100000 in
theorem c_X10_turnBy (l : Launch) (D : va_G) (cy : Nat → ClassId) (a_la a_la_kind a_la_mood a_no a_no_at a_od a_tr : Nat) (la_lanes : Int32) (la_deep : Int32) (la_lanesTold : Int32) (la_who : Value) (la_firstStrong : Value) (la_beasts : Int32) (la_firstLane : Value) (la_price : Value) (la_cities : Int32) (la_passes : Int32) (la_passBetween : Value) (la_turned : Int32) (la_kind : Nat → Int32) (la_mood : Nat → Int32) (no_strong : Value) (no_wounds : Value) (no_dead : Int32) (no_wet : Int32) (no_drawn : Int32) (no_at : Nat → Int32) (tr_turns : Value) (tr_setsWith : Value) (tr_sets : Int32) (tr_inSome : Int32) (tr_inAll : Int32) (p1 : Int32) (res : Int32) (h : f_X10_turnBy la_beasts la_kind la_mood no_dead no_wet no_at p1 = some (res)) : Met l yX10_turnBy wo_X10_turnBy ({ frames := 3, cells := 0, slots := 0, locals := 57 }) (roPc D cy [.ref a_tr, .int p1] [(a_la, .inr (2, [.int la_lanes, .int la_deep, .int la_lanesTold, la_who, la_firstStrong, .int la_beasts, .ref a_la_kind, la_firstLane, .ref a_la_mood, la_price, .int la_cities, .int la_passes, la_passBetween, .int la_turned])), (a_la_kind, .inl (cy 1, 5, .inl la_kind)), (a_la_mood, .inl (cy 1, 5, .inl la_mood)), (a_no, .inr (8, [no_strong, .ref a_no_at, no_wounds, .int no_dead, .int no_wet, .int no_drawn])), (a_no_at, .inl (cy 1, 5, .inl no_at)), (a_od, .inr (4, [.ref a_la, .ref a_no])), (a_tr, .inr (10, [.ref a_la, .ref a_no, .ref a_od, tr_turns, tr_setsWith, .int tr_sets, .int tr_inSome, .int tr_inAll]))]) (vp_Si (fun r => r = res)) 0 0 (fun _ => False) := by
  refine Met.ofW (cc := cX10_turnBy) (maxL := 5) (ret := (some .int)) (by decide) rfl ?_
  intro p e s m args below meth c s₁ B hml hv
  obtain ⟨rfl, hP, hKN⟩ := hv
  have hK := hKN.1
  have hx := B.exec
  have hb := B.bytes
  have hr := B.returns
  have hts := wt_X10_turnBy hKN.2.2 (([.ref a_tr, .int p1] : List Value).toArray)
  have hown : s.vm.findClass RX10 = some m.cls := findClass_of_methodNamed B.named
  have hlocks := B.notSynchronized
  have hX10 := wc_X10 hKN.2.2 (([.ref a_tr, .int p1] : List Value).toArray)
  have hX2 := wc_X2 hKN.2.2 (([.ref a_tr, .int p1] : List Value).toArray)
  have hX8 := wc_X8 hKN.2.2 (([.ref a_tr, .int p1] : List Value).toArray)
  have hl := lv_entry ([.ref a_tr, .int p1]) (n := 5) (Nat.le_of_ble_eq_true rfl)
  rw [lg_entry_eq]
  generalize (lg_sl ([.ref a_tr, .int p1]) ++ List.replicate (5 - (lg_sl ([.ref a_tr, .int p1])).length) Slot.unset).toArray = ls at hl ⊢
  have hl : lv_has ls 5 [(0, .ref a_tr), (1, .int p1)] := hl
  unfold f_X10_turnBy at h
  refine lv_aload_n hx hb dX10_turnBy_0 rfl (lv_at hl 0 rfl) ?_
  refine va_get (D := D) (ci := 10) (C := RX10) (T := TX10) (N := 8) (v := .ref a_no) hx hb hX10 (fun _ q => q) hown hK hP 6 rfl rfl 1 (by decide) (hts (.fieldLink RX10 22 "ElephantLine$Trumpets" "now" "LElephantLine$Stand;") (by decide +kernel)) (fun _ h9 => h9) rfl dX10_turnBy_1 ?_
  refine lv_iload_n hx hb dX10_turnBy_4 rfl (lv_at hl 1 rfl) ?_
  obtain ⟨r_1, hc_2, h⟩ := bd1_some h
  refine kVb [.int p1] [] ⟨hx, hb, hml, hown, hts⟩ (c_X8_isDead l D cy a_no (no_strong) (.ref a_no_at) (no_wounds) no_dead no_wet no_drawn p1 r_1 hc_2) gX10_turnBy_X8_isDead rfl hd_X8_isDead ⟨Nat.le_of_ble_eq_true rfl, Nat.le_of_ble_eq_true rfl⟩ rfl rfl hKN (hP.sub [3] rfl) 8 0 rfl rfl rfl hl.1 rfl (Nat.le_of_ble_eq_true rfl) dX10_turnBy_5 ⟨Nat.le_of_ble_eq_true rfl, Nat.le_of_ble_eq_true rfl⟩ (fun nb_3 => ?_)
  refine lv_if_eq (tgt := 13) hx hb dX10_turnBy_8 (by decide) (fun cd => ?_) (fun cd => ?_)
  · have h := ifT cd h
    refine lv_iconst (v := 0) hx hb dX10_turnBy_13 (by decide) ?_
    refine lv_istore_n (lv' := [(2, .int 0), (0, .ref a_tr), (1, .int p1)]) hx hb dX10_turnBy_14 rfl hl (by decide) rfl (fun ls hl => ?_)
    refine lv_iconst (v := 0) hx hb dX10_turnBy_15 (by decide) ?_
    refine lv_istore_n (lv' := [(3, .int 0), (2, .int 0), (0, .ref a_tr), (1, .int p1)]) hx hb dX10_turnBy_16 rfl hl (by decide) rfl (fun ls hl => ?_)
    have lp17 : ∀ (n17 : Nat) (x2_4 : Int32) (x3_5 : Int32), f_X10_turnBy_L17 la_beasts la_kind la_mood no_dead no_wet no_at p1 n17 x2_4 x3_5 = some (res) → ∀ ls : Array Slot, lv_has ls 5 [(0, .ref a_tr), (1, .int p1), (2, .int x2_4), (3, .int x3_5)] → W p l e (headSpec wo_X10_turnBy ({ frames := 3, cells := 0, slots := 0, locals := 57 })).room s m (([.ref a_tr, .int p1] : List Value).toArray) below meth c s.heap [] 0 0 (MQ below (vp_Si (fun r => r = res)) (([.ref a_tr, .int p1] : List Value).toArray) s 0 0 (fun _ => False)) (F0 m 17 ls []) := by
      intro n17
      induction n17 with
      | zero => intro x2_4 x3_5 h; exact absurd (show (none : Option (Int32)) = some _ from h) (by intro q; cases q)
      | succ n17 ih17 =>
        intro x2_4 x3_5 h ls hl
        have h : f_X10_turnBy_b17 la_beasts la_kind la_mood no_dead no_wet no_at p1 (f_X10_turnBy_L17 la_beasts la_kind la_mood no_dead no_wet no_at p1 n17) x2_4 x3_5 = some (res) := h
        unfold f_X10_turnBy_b17 at h
        refine lv_iload_n hx hb dX10_turnBy_17 rfl (lv_at hl 3 rfl) ?_
        refine lv_aload_n hx hb dX10_turnBy_18 rfl (lv_at hl 0 rfl) ?_
        refine va_get (D := D) (ci := 10) (C := RX10) (T := TX10) (N := 8) (v := .ref a_la) hx hb hX10 (fun _ q => q) hown hK hP 6 rfl rfl 0 (by decide) (hts (.fieldLink RX10 18 "ElephantLine$Trumpets" "land" "LElephantLine$Land;") (by decide +kernel)) (fun _ h9 => h9) rfl dX10_turnBy_19 ?_
        refine va_getN (D := D) (ci := 2) (C := RX2) (T := TX2) (N := 14) (v := .int la_beasts) hx hb hX2 (fun _ q => q) hown hK hP 0 rfl rfl 5 (by decide) (va_Nw.use rfl (hKN.2.1.1 ("ElephantLine$Trumpets", 36, "ElephantLine$Land", "beasts", "I", "ElephantLine") (List.mem_of_getElem? (i := 15) rfl))) (fun _ h9 => h9) rfl dX10_turnBy_22 ?_
        refine lv_icmp_ge (tgt := 94) hx hb dX10_turnBy_25 (by decide) (fun cd => ?_) (fun cd => ?_)
        · have h := ifT cd h
          refine lv_iload_n hx hb dX10_turnBy_94 rfl (lv_at hl 2 rfl) ?_
          exact W.iret (v := x2_4) hx hb hr (fun t ht _ => ⟨_, rfl, Option.some.inj h, ht⟩) (fun _ q => by cases q) dX10_turnBy_95
        · have h := ifF cd h
          refine lv_aload_n hx hb dX10_turnBy_28 rfl (lv_at hl 0 rfl) ?_
          refine va_get (D := D) (ci := 10) (C := RX10) (T := TX10) (N := 8) (v := .ref a_no) hx hb hX10 (fun _ q => q) hown hK hP 6 rfl rfl 1 (by decide) (hts (.fieldLink RX10 22 "ElephantLine$Trumpets" "now" "LElephantLine$Stand;") (by decide +kernel)) (fun _ h9 => h9) rfl dX10_turnBy_29 ?_
          refine va_getN (D := D) (ci := 8) (C := RX8) (T := TX8) (N := 6) (v := .ref a_no_at) hx hb hX8 (fun _ q => q) hown hK hP 3 rfl rfl 1 (by decide) (va_Nw.use rfl (hKN.2.1.1 ("ElephantLine$Trumpets", 42, "ElephantLine$Stand", "at", "[I", "ElephantLine") (List.mem_of_getElem? (i := 45) rfl))) (fun _ h9 => h9) rfl dX10_turnBy_32 ?_
          refine lv_iload_n hx hb dX10_turnBy_35 rfl (lv_at hl 3 rfl) ?_
          obtain ⟨i_6, h⟩ := gIn_some h
          refine va_iald hx hb hK hP 4 1 rfl rfl i_6 dX10_turnBy_36 ?_
          refine lv_aload_n hx hb dX10_turnBy_37 rfl (lv_at hl 0 rfl) ?_
          refine va_get (D := D) (ci := 10) (C := RX10) (T := TX10) (N := 8) (v := .ref a_no) hx hb hX10 (fun _ q => q) hown hK hP 6 rfl rfl 1 (by decide) (hts (.fieldLink RX10 22 "ElephantLine$Trumpets" "now" "LElephantLine$Stand;") (by decide +kernel)) (fun _ h9 => h9) rfl dX10_turnBy_38 ?_
          refine va_getN (D := D) (ci := 8) (C := RX8) (T := TX8) (N := 6) (v := .ref a_no_at) hx hb hX8 (fun _ q => q) hown hK hP 3 rfl rfl 1 (by decide) (va_Nw.use rfl (hKN.2.1.1 ("ElephantLine$Trumpets", 42, "ElephantLine$Stand", "at", "[I", "ElephantLine") (List.mem_of_getElem? (i := 45) rfl))) (fun _ h9 => h9) rfl dX10_turnBy_41 ?_
          refine lv_iload_n hx hb dX10_turnBy_44 rfl (lv_at hl 1 rfl) ?_
          obtain ⟨i_7, h⟩ := gIn_some h
          refine va_iald hx hb hK hP 4 1 rfl rfl i_7 dX10_turnBy_45 ?_
          refine lv_isub hx hb dX10_turnBy_46 ?_
          refine va_mabs hx hb (hml.trans hl.1.symm) hown (hts (.methodLink RX10 45 Lib.Math.abs.name) (by decide +kernel)) (hts (.static Lib.Math.abs.name) (by decide +kernel)) (hts (.initialized "java/lang/Math") (by decide +kernel)) (hts (.code Lib.Math.abs.name Lib.Math.abs.code 1 (some .int)) (by decide +kernel)) (Nat.le_of_ble_eq_true rfl) (Nat.le_of_ble_eq_true rfl) (Nat.le_of_ble_eq_true rfl) (Nat.le_of_ble_eq_true rfl) dX10_turnBy_47 ?_
          refine lv_istore (lv' := [(4, .int (if 0 ≤ ((no_at x3_5.toNatClampNeg) - (no_at p1.toNatClampNeg)) then (no_at x3_5.toNatClampNeg) - (no_at p1.toNatClampNeg) else 0 - ((no_at x3_5.toNatClampNeg) - (no_at p1.toNatClampNeg)))), (0, .ref a_tr), (1, .int p1), (2, .int x2_4), (3, .int x3_5)]) hx hb dX10_turnBy_50 hl (by decide) rfl (fun ls hl => ?_)
          refine lv_iload hx hb dX10_turnBy_52 (lv_at hl 0 rfl) ?_
          refine lv_iconst (v := 1) hx hb dX10_turnBy_54 (by decide) ?_
          have jn88 : ∀ (x2_8 : Int32), f_X10_turnBy_B88 (f_X10_turnBy_L17 la_beasts la_kind la_mood no_dead no_wet no_at p1 n17) la_beasts la_kind la_mood no_dead no_wet no_at p1 x2_8 x3_5 = some (res) → ∀ ls : Array Slot, lv_has ls 5 [(0, .ref a_tr), (1, .int p1), (2, .int x2_8), (3, .int x3_5)] → W p l e (headSpec wo_X10_turnBy ({ frames := 3, cells := 0, slots := 0, locals := 57 })).room s m (([.ref a_tr, .int p1] : List Value).toArray) below meth c s.heap [] 0 0 (MQ below (vp_Si (fun r => r = res)) (([.ref a_tr, .int p1] : List Value).toArray) s 0 0 (fun _ => False)) (F0 m 88 ls []) := by
            intro x2_8 h ls hl
            unfold f_X10_turnBy_B88 at h
            refine lv_iinc (v := x3_5 + 1) (lv' := [(3, .int (x3_5 + 1)), (0, .ref a_tr), (1, .int p1), (2, .int x2_8)]) hx hb dX10_turnBy_88 hl (k := 3) rfl (by first | rfl | decide) (by decide) rfl (fun ls hl => ?_)
            refine lv_goto (tgt := 17) hx hb dX10_turnBy_91 (by decide) ?_
            exact ih17 x2_8 (x3_5 + 1) h _ (lv_sub hl [1, 2, 3, 0] rfl)
          refine lv_icmp_gt (tgt := 88) hx hb dX10_turnBy_55 (by decide) (fun cd => ?_) (fun cd => ?_)
          · have h := ifT cd h
            exact jn88 x2_4 h _ (lv_sub hl [1, 2, 3, 4] rfl)
          · have h := ifF cd h
            refine lv_aload_n hx hb dX10_turnBy_58 rfl (lv_at hl 1 rfl) ?_
            refine va_get (D := D) (ci := 10) (C := RX10) (T := TX10) (N := 8) (v := .ref a_no) hx hb hX10 (fun _ q => q) hown hK hP 6 rfl rfl 1 (by decide) (hts (.fieldLink RX10 22 "ElephantLine$Trumpets" "now" "LElephantLine$Stand;") (by decide +kernel)) (fun _ h9 => h9) rfl dX10_turnBy_59 ?_
            refine lv_iload_n hx hb dX10_turnBy_62 rfl (lv_at hl 4 rfl) ?_
            obtain ⟨r_9, hc_10, h⟩ := bd1_some h
            refine kVb [.int x3_5] [] ⟨hx, hb, hml, hown, hts⟩ (c_X8_isDead l D cy a_no (no_strong) (.ref a_no_at) (no_wounds) no_dead no_wet no_drawn x3_5 r_9 hc_10) gX10_turnBy_X8_isDead rfl hd_X8_isDead ⟨Nat.le_of_ble_eq_true rfl, Nat.le_of_ble_eq_true rfl⟩ rfl rfl hKN (hP.sub [3] rfl) 8 0 rfl rfl rfl hl.1 rfl (Nat.le_of_ble_eq_true rfl) dX10_turnBy_63 ⟨Nat.le_of_ble_eq_true rfl, Nat.le_of_ble_eq_true rfl⟩ (fun nb_11 => ?_)
            refine lv_if_ne (tgt := 88) hx hb dX10_turnBy_66 (by decide) (fun cd => ?_) (fun cd => ?_)
            · have h := ifF cd h
              exact jn88 x2_4 h _ (lv_sub hl [1, 2, 3, 4] rfl)
            · have h := ifT cd h
              refine lv_aload_n hx hb dX10_turnBy_69 rfl (lv_at hl 1 rfl) ?_
              refine va_get (D := D) (ci := 10) (C := RX10) (T := TX10) (N := 8) (v := .ref a_od) hx hb hX10 (fun _ q => q) hown hK hP 6 rfl rfl 2 (by decide) (hts (.fieldLink RX10 26 "ElephantLine$Trumpets" "odds" "LElephantLine$Odds;") (by decide +kernel)) (fun _ h9 => h9) rfl dX10_turnBy_70 ?_
              refine lv_iload_n hx hb dX10_turnBy_73 rfl (lv_at hl 4 rfl) ?_
              obtain ⟨r_12, hc_13, h⟩ := bd1_some h
              refine kVi [.int x3_5] [] ⟨hx, hb, hml, hown, hts⟩ (c_X4_holdOf l D cy a_la a_la_kind a_la_mood a_no a_od la_lanes la_deep la_lanesTold (la_who) (la_firstStrong) la_beasts (la_firstLane) (la_price) la_cities la_passes (la_passBetween) la_turned la_kind la_mood (no_strong) (.ref a_no_at) (no_wounds) no_dead no_wet no_drawn x3_5 r_12 hc_13) gX10_turnBy_X4_holdOf rfl hd_X4_holdOf ⟨Nat.le_of_ble_eq_true rfl, Nat.le_of_ble_eq_true rfl⟩ rfl rfl hKN (hP.sub [0, 1, 2, 3, 5] rfl) 4 4 rfl rfl rfl hl.1 rfl (Nat.le_of_ble_eq_true rfl) dX10_turnBy_74 ⟨Nat.le_of_ble_eq_true rfl, Nat.le_of_ble_eq_true rfl⟩ ?_
              refine lv_bipush (v := 50) hx hb dX10_turnBy_77 (by decide) ?_
              refine lv_icmp_ge (tgt := 88) hx hb dX10_turnBy_79 (by decide) (fun cd => ?_) (fun cd => ?_)
              · have h := ifT cd h
                exact jn88 x2_4 h _ (lv_sub hl [1, 2, 3, 4] rfl)
              · have h := ifF cd h
                refine lv_iload_n hx hb dX10_turnBy_82 rfl (lv_at hl 3 rfl) ?_
                refine lv_iconst (v := 1) hx hb dX10_turnBy_83 (by decide) ?_
                refine lv_iload_n hx hb dX10_turnBy_84 rfl (lv_at hl 4 rfl) ?_
                refine lv_ishl hx hb dX10_turnBy_85 ?_
                refine lv_ior hx hb dX10_turnBy_86 ?_
                refine lv_istore_n (lv' := [(2, .int (x2_4 ||| ((1 : Int32) <<< (x3_5 &&& 31)))), (4, .int (if 0 ≤ ((no_at x3_5.toNatClampNeg) - (no_at p1.toNatClampNeg)) then (no_at x3_5.toNatClampNeg) - (no_at p1.toNatClampNeg) else 0 - ((no_at x3_5.toNatClampNeg) - (no_at p1.toNatClampNeg)))), (0, .ref a_tr), (1, .int p1), (3, .int x3_5)]) hx hb dX10_turnBy_87 rfl hl (by decide) rfl (fun ls hl => ?_)
                exact jn88 (x2_4 ||| ((1 : Int32) <<< (x3_5 &&& 31))) h _ (lv_sub hl [2, 3, 0, 4] rfl)
    exact lp17 fuelN (0 : Int32) (0 : Int32) h _ (lv_sub hl [2, 3, 1, 0] rfl)
  · have h := ifF cd h
    refine lv_iconst (v := 0) hx hb dX10_turnBy_11 (by decide) ?_
    exact W.iret (v := 0) hx hb hr (fun t ht _ => ⟨_, rfl, Option.some.inj h, ht⟩) (fun _ q => by cases q) dX10_turnBy_12
theorem hd_X10_turnBySet : yX10_turnBySet.cls = RX10 ∧ yX10_turnBySet.cls ≠ "java/lang/invoke/MethodHandle" ∧ yX10_turnBySet.cls ≠ "java/lang/invoke/VarHandle" ∧ (parseMethodDescriptor yX10_turnBySet.desc).map (fun d => d.parameters.length) = some 1 := by decide +kernel
set_option maxHeartbeats 4000000 in
set_option maxRecDepth 100000 in
theorem c_X10_turnBySet (l : Launch) (D : va_G) (cy : Nat → ClassId) (a_la a_tr a_tr_turns : Nat) (la_lanes : Int32) (la_deep : Int32) (la_lanesTold : Int32) (la_who : Value) (la_firstStrong : Value) (la_beasts : Int32) (la_kind : Value) (la_firstLane : Value) (la_mood : Value) (la_price : Value) (la_cities : Int32) (la_passes : Int32) (la_passBetween : Value) (la_turned : Int32) (tr_now : Value) (tr_odds : Value) (tr_setsWith : Value) (tr_sets : Int32) (tr_inSome : Int32) (tr_inAll : Int32) (tr_turns : Nat → Int32) (p1 : Int32) (res : Int32) (h : f_X10_turnBySet la_beasts tr_turns p1 = some (res)) : Met l yX10_turnBySet wo_X10_turnBySet ({ frames := 0, cells := 0, slots := 0, locals := 0 }) (roPc D cy [.ref a_tr, .int p1] [(a_la, .inr (2, [.int la_lanes, .int la_deep, .int la_lanesTold, la_who, la_firstStrong, .int la_beasts, la_kind, la_firstLane, la_mood, la_price, .int la_cities, .int la_passes, la_passBetween, .int la_turned])), (a_tr, .inr (10, [.ref a_la, tr_now, tr_odds, .ref a_tr_turns, tr_setsWith, .int tr_sets, .int tr_inSome, .int tr_inAll])), (a_tr_turns, .inl (cy 1, 5, .inl tr_turns))]) (vp_Si (fun r => r = res)) 0 0 (fun _ => False) := by
  refine Met.ofW (cc := cX10_turnBySet) (maxL := 4) (ret := (some .int)) (by decide) rfl ?_
  intro p e s m args below meth c s₁ B hml hv
  obtain ⟨rfl, hP, hKN⟩ := hv
  have hK := hKN.1
  have hx := B.exec
  have hb := B.bytes
  have hr := B.returns
  have hts := wt_X10_turnBySet hKN.2.2 (([.ref a_tr, .int p1] : List Value).toArray)
  have hown : s.vm.findClass RX10 = some m.cls := findClass_of_methodNamed B.named
  have hlocks := B.notSynchronized
  have hX10 := wc_X10 hKN.2.2 (([.ref a_tr, .int p1] : List Value).toArray)
  have hX2 := wc_X2 hKN.2.2 (([.ref a_tr, .int p1] : List Value).toArray)
  have hl := lv_entry ([.ref a_tr, .int p1]) (n := 4) (Nat.le_of_ble_eq_true rfl)
  rw [lg_entry_eq]
  generalize (lg_sl ([.ref a_tr, .int p1]) ++ List.replicate (4 - (lg_sl ([.ref a_tr, .int p1])).length) Slot.unset).toArray = ls at hl ⊢
  have hl : lv_has ls 4 [(0, .ref a_tr), (1, .int p1)] := hl
  unfold f_X10_turnBySet at h
  refine lv_iconst (v := 0) hx hb dX10_turnBySet_0 (by decide) ?_
  refine lv_istore_n (lv' := [(2, .int 0), (0, .ref a_tr), (1, .int p1)]) hx hb dX10_turnBySet_1 rfl hl (by decide) rfl (fun ls hl => ?_)
  refine lv_iconst (v := 0) hx hb dX10_turnBySet_2 (by decide) ?_
  refine lv_istore_n (lv' := [(3, .int 0), (2, .int 0), (0, .ref a_tr), (1, .int p1)]) hx hb dX10_turnBySet_3 rfl hl (by decide) rfl (fun ls hl => ?_)
  have lp4 : ∀ (n4 : Nat) (x2_1 : Int32) (x3_2 : Int32), f_X10_turnBySet_L4 la_beasts tr_turns p1 n4 x2_1 x3_2 = some (res) → ∀ ls : Array Slot, lv_has ls 4 [(0, .ref a_tr), (1, .int p1), (2, .int x2_1), (3, .int x3_2)] → W p l e (headSpec wo_X10_turnBySet ({ frames := 0, cells := 0, slots := 0, locals := 0 })).room s m (([.ref a_tr, .int p1] : List Value).toArray) below meth c s.heap [] 0 0 (MQ below (vp_Si (fun r => r = res)) (([.ref a_tr, .int p1] : List Value).toArray) s 0 0 (fun _ => False)) (F0 m 4 ls []) := by
    intro n4
    induction n4 with
    | zero => intro x2_1 x3_2 h; exact absurd (show (none : Option (Int32)) = some _ from h) (by intro q; cases q)
    | succ n4 ih4 =>
      intro x2_1 x3_2 h ls hl
      have h : f_X10_turnBySet_b4 la_beasts tr_turns p1 (f_X10_turnBySet_L4 la_beasts tr_turns p1 n4) x2_1 x3_2 = some (res) := h
      unfold f_X10_turnBySet_b4 at h
      refine lv_iload_n hx hb dX10_turnBySet_4 rfl (lv_at hl 3 rfl) ?_
      refine lv_aload_n hx hb dX10_turnBySet_5 rfl (lv_at hl 0 rfl) ?_
      refine va_get (D := D) (ci := 10) (C := RX10) (T := TX10) (N := 8) (v := .ref a_la) hx hb hX10 (fun _ q => q) hown hK hP 1 rfl rfl 0 (by decide) (hts (.fieldLink RX10 18 "ElephantLine$Trumpets" "land" "LElephantLine$Land;") (by decide +kernel)) (fun _ h9 => h9) rfl dX10_turnBySet_6 ?_
      refine va_getN (D := D) (ci := 2) (C := RX2) (T := TX2) (N := 14) (v := .int la_beasts) hx hb hX2 (fun _ q => q) hown hK hP 0 rfl rfl 5 (by decide) (va_Nw.use rfl (hKN.2.1.1 ("ElephantLine$Trumpets", 36, "ElephantLine$Land", "beasts", "I", "ElephantLine") (List.mem_of_getElem? (i := 15) rfl))) (fun _ h9 => h9) rfl dX10_turnBySet_9 ?_
      refine lv_icmp_ge (tgt := 43) hx hb dX10_turnBySet_12 (by decide) (fun cd => ?_) (fun cd => ?_)
      · have h := ifT cd h
        refine lv_iload_n hx hb dX10_turnBySet_43 rfl (lv_at hl 2 rfl) ?_
        exact W.iret (v := x2_1) hx hb hr (fun t ht _ => ⟨_, rfl, Option.some.inj h, ht⟩) (fun _ q => by cases q) dX10_turnBySet_44
      · have h := ifF cd h
        refine lv_iload_n hx hb dX10_turnBySet_15 rfl (lv_at hl 2 rfl) ?_
        refine lv_iload_n hx hb dX10_turnBySet_16 rfl (lv_at hl 1 rfl) ?_
        refine lv_iload_n hx hb dX10_turnBySet_17 rfl (lv_at hl 3 rfl) ?_
        refine lv_ishr hx hb dX10_turnBySet_18 ?_
        refine lv_iconst (v := 1) hx hb dX10_turnBySet_19 (by decide) ?_
        refine lv_iand hx hb dX10_turnBySet_20 ?_
        refine lv_iconst (v := 1) hx hb dX10_turnBySet_21 (by decide) ?_
        have jn35 : ∀ (t1_3 : Int32), f_X10_turnBySet_B35 (f_X10_turnBySet_L4 la_beasts tr_turns p1 n4) la_beasts tr_turns p1 x3_2 x2_1 t1_3 = some (res) → ∀ ls : Array Slot, lv_has ls 4 [(0, .ref a_tr), (1, .int p1), (3, .int x3_2)] → W p l e (headSpec wo_X10_turnBySet ({ frames := 0, cells := 0, slots := 0, locals := 0 })).room s m (([.ref a_tr, .int p1] : List Value).toArray) below meth c s.heap [] 0 0 (MQ below (vp_Si (fun r => r = res)) (([.ref a_tr, .int p1] : List Value).toArray) s 0 0 (fun _ => False)) (F0 m 35 ls [.int t1_3, .int x2_1]) := by
          intro t1_3 h ls hl
          unfold f_X10_turnBySet_B35 at h
          refine lv_ior hx hb dX10_turnBySet_35 ?_
          refine lv_istore_n (lv' := [(2, .int (x2_1 ||| t1_3)), (0, .ref a_tr), (1, .int p1), (3, .int x3_2)]) hx hb dX10_turnBySet_36 rfl hl (by decide) rfl (fun ls hl => ?_)
          refine lv_iinc (v := x3_2 + 1) (lv' := [(3, .int (x3_2 + 1)), (2, .int (x2_1 ||| t1_3)), (0, .ref a_tr), (1, .int p1)]) hx hb dX10_turnBySet_37 hl (k := 3) rfl (by first | rfl | decide) (by decide) rfl (fun ls hl => ?_)
          refine lv_goto (tgt := 4) hx hb dX10_turnBySet_40 (by decide) ?_
          exact ih4 (x2_1 ||| t1_3) (x3_2 + 1) h _ (lv_sub hl [2, 3, 1, 0] rfl)
        refine lv_icmp_ne (tgt := 34) hx hb dX10_turnBySet_22 (by decide) (fun cd => ?_) (fun cd => ?_)
        · have h := ifF cd h
          refine lv_iconst (v := 0) hx hb dX10_turnBySet_34 (by decide) ?_
          exact jn35 (0 : Int32) h _ (lv_sub hl [0, 1, 3] rfl)
        · have h := ifT cd h
          refine lv_aload_n hx hb dX10_turnBySet_25 rfl (lv_at hl 0 rfl) ?_
          refine va_get (D := D) (ci := 10) (C := RX10) (T := TX10) (N := 8) (v := .ref a_tr_turns) hx hb hX10 (fun _ q => q) hown hK hP 1 rfl rfl 3 (by decide) (hts (.fieldLink RX10 9 "ElephantLine$Trumpets" "turns" "[I") (by decide +kernel)) (fun _ h9 => h9) rfl dX10_turnBySet_26 ?_
          refine lv_iload_n hx hb dX10_turnBySet_29 rfl (lv_at hl 3 rfl) ?_
          obtain ⟨i_4, h⟩ := gIn_some h
          refine va_iald hx hb hK hP 2 1 rfl rfl i_4 dX10_turnBySet_30 ?_
          refine lv_goto (tgt := 35) hx hb dX10_turnBySet_31 (by decide) ?_
          exact jn35 (tr_turns x3_2.toNatClampNeg) h _ (lv_sub hl [0, 1, 3] rfl)
  exact lp4 fuelN (0 : Int32) (0 : Int32) h _ (lv_sub hl [2, 3, 1, 0] rfl)
theorem hd_X10_count : yX10_count.cls = RX10 ∧ yX10_count.cls ≠ "java/lang/invoke/MethodHandle" ∧ yX10_count.cls ≠ "java/lang/invoke/VarHandle" ∧ (parseMethodDescriptor yX10_count.desc).map (fun d => d.parameters.length) = some 1 := by decide +kernel
set_option maxHeartbeats 4000000 in
set_option maxRecDepth 100000 in
theorem c_X10_count (l : Launch) (D : va_G) (cy : Nat → ClassId) (A : Nat → Prop) (X : va_W) (a_la a_tr a_tr_setsWith : Nat) (la_lanes : Int32) (la_deep : Int32) (la_lanesTold : Int32) (la_who : Value) (la_firstStrong : Value) (la_beasts : Int32) (la_kind : Value) (la_firstLane : Value) (la_mood : Value) (la_price : Value) (la_cities : Int32) (la_passes : Int32) (la_passBetween : Value) (la_turned : Int32) (tr_now : Value) (tr_odds : Value) (tr_turns : Value) (tr_sets : Int32) (tr_inSome : Int32) (tr_inAll : Int32) (tr_setsWith : Nat → Int32) (p1 : Int32) (tr_sets' : Int32) (tr_inSome' : Int32) (tr_inAll' : Int32) (tr_setsWith' : Nat → Int32) (h : f_X10_count la_beasts tr_sets tr_inSome tr_inAll tr_setsWith p1 = some (tr_sets', tr_inSome', tr_inAll', tr_setsWith')) : Met l yX10_count wo_X10_count ({ frames := 0, cells := 0, slots := 0, locals := 0 }) (wrPc D cy A [.ref a_tr, .int p1] ([(a_la, .inr (2, [.int la_lanes, .int la_deep, .int la_lanesTold, la_who, la_firstStrong, .int la_beasts, la_kind, la_firstLane, la_mood, la_price, .int la_cities, .int la_passes, la_passBetween, .int la_turned])), (a_tr, .inr (10, [.ref a_la, tr_now, tr_odds, tr_turns, .ref a_tr_setsWith, .int tr_sets, .int tr_inSome, .int tr_inAll])), (a_tr_setsWith, .inl (cy 1, 5, .inl tr_setsWith))] ++ X)) (va_Qv (fun (_ : Unit) => True) (wB D A ([(a_la, .inr (2, [.int la_lanes, .int la_deep, .int la_lanesTold, la_who, la_firstStrong, .int la_beasts, la_kind, la_firstLane, la_mood, la_price, .int la_cities, .int la_passes, la_passBetween, .int la_turned])), (a_tr, .inr (10, [.ref a_la, tr_now, tr_odds, tr_turns, .ref a_tr_setsWith, .int tr_sets', .int tr_inSome', .int tr_inAll'])), (a_tr_setsWith, .inl (cy 1, 5, .inl tr_setsWith'))] ++ X)) A) 0 0 A := by
  refine Met.ofW (cc := cX10_count) (maxL := 3) (ret := none) (by decide) rfl ?_
  intro p e s m args below meth c s₁ B hml hv
  obtain ⟨rfl, hP, hKN, hD, hA⟩ := hv
  have hK := hKN.1
  have hx := B.exec
  have hb := B.bytes
  have hr := B.returns
  have hts := wt_X10_count hKN.2.2 (([.ref a_tr, .int p1] : List Value).toArray)
  have hown : s.vm.findClass RX10 = some m.cls := findClass_of_methodNamed B.named
  have hlocks := B.notSynchronized
  have hS : va_S A s.heap s.heap [] := va_S.rf
  have hX10 := wc_X10 hKN.2.2 (([.ref a_tr, .int p1] : List Value).toArray)
  have hX2 := wc_X2 hKN.2.2 (([.ref a_tr, .int p1] : List Value).toArray)
  have hl := lv_entry ([.ref a_tr, .int p1]) (n := 3) (Nat.le_of_ble_eq_true rfl)
  rw [lg_entry_eq]
  generalize (lg_sl ([.ref a_tr, .int p1]) ++ List.replicate (3 - (lg_sl ([.ref a_tr, .int p1])).length) Slot.unset).toArray = ls at hl ⊢
  have hl : lv_has ls 3 [(0, .ref a_tr), (1, .int p1)] := hl
  unfold f_X10_count at h
  refine lv_aload_n hx hb dX10_count_0 rfl (lv_at hl 0 rfl) ?_
  refine lv_dup hx hb dX10_count_1 rfl ?_
  refine va_get (D := D) (ci := 10) (C := RX10) (T := TX10) (N := 8) (v := .int tr_sets) hx hb hX10 (fun _ q => q) hown hK hP 1 rfl rfl 5 (by decide) (hts (.fieldLink RX10 56 "ElephantLine$Trumpets" "sets" "I") (by decide +kernel)) (fun _ h9 => h9) rfl dX10_count_2 ?_
  refine lv_iconst (v := 1) hx hb dX10_count_5 (by decide) ?_
  refine lv_iadd hx hb dX10_count_6 ?_
  refine va_put (D := D) (ci := 10) (C := RX10) (T := TX10) (N := 8) (v := .int (tr_sets + 1)) (ty := .int) hx hb hX10 (fun _ q => q) tyX10 tyX10_ok nmX10 hown hK hP hD hS 1 rfl rfl 5 (by decide) (hts (.fieldLink RX10 56 "ElephantLine$Trumpets" "sets" "I") (by decide +kernel)) (fun _ h9 => h9) rfl (tyX10_ok 5 (by decide)) rfl rfl (Nat.le_of_ble_eq_true rfl) dX10_count_7 (fun H locs hP hD hS => ?_)
  refine lv_aload_n hx hb dX10_count_10 rfl (lv_at hl 0 rfl) ?_
  refine lv_dup hx hb dX10_count_11 rfl ?_
  refine va_get (D := D) (ci := 10) (C := RX10) (T := TX10) (N := 8) (v := .int tr_inSome) hx hb hX10 (fun _ q => q) hown hK hP 1 rfl rfl 6 (by decide) (hts (.fieldLink RX10 59 "ElephantLine$Trumpets" "inSome" "I") (by decide +kernel)) (fun _ h9 => h9) rfl dX10_count_12 ?_
  refine lv_iload_n hx hb dX10_count_15 rfl (lv_at hl 1 rfl) ?_
  refine lv_ior hx hb dX10_count_16 ?_
  refine va_put (D := D) (ci := 10) (C := RX10) (T := TX10) (N := 8) (v := .int (tr_inSome ||| p1)) (ty := .int) hx hb hX10 (fun _ q => q) tyX10 tyX10_ok nmX10 hown hK hP hD hS 1 rfl rfl 6 (by decide) (hts (.fieldLink RX10 59 "ElephantLine$Trumpets" "inSome" "I") (by decide +kernel)) (fun _ h9 => h9) rfl (tyX10_ok 6 (by decide)) rfl rfl (Nat.le_of_ble_eq_true rfl) dX10_count_17 (fun H locs hP hD hS => ?_)
  refine lv_aload_n hx hb dX10_count_20 rfl (lv_at hl 0 rfl) ?_
  refine lv_dup hx hb dX10_count_21 rfl ?_
  refine va_get (D := D) (ci := 10) (C := RX10) (T := TX10) (N := 8) (v := .int tr_inAll) hx hb hX10 (fun _ q => q) hown hK hP 1 rfl rfl 7 (by decide) (hts (.fieldLink RX10 62 "ElephantLine$Trumpets" "inAll" "I") (by decide +kernel)) (fun _ h9 => h9) rfl dX10_count_22 ?_
  refine lv_iload_n hx hb dX10_count_25 rfl (lv_at hl 1 rfl) ?_
  refine lv_iand hx hb dX10_count_26 ?_
  refine va_put (D := D) (ci := 10) (C := RX10) (T := TX10) (N := 8) (v := .int (tr_inAll &&& p1)) (ty := .int) hx hb hX10 (fun _ q => q) tyX10 tyX10_ok nmX10 hown hK hP hD hS 1 rfl rfl 7 (by decide) (hts (.fieldLink RX10 62 "ElephantLine$Trumpets" "inAll" "I") (by decide +kernel)) (fun _ h9 => h9) rfl (tyX10_ok 7 (by decide)) rfl rfl (Nat.le_of_ble_eq_true rfl) dX10_count_27 (fun H locs hP hD hS => ?_)
  refine lv_iconst (v := 0) hx hb dX10_count_30 (by decide) ?_
  refine lv_istore_n (lv' := [(2, .int 0), (0, .ref a_tr), (1, .int p1)]) hx hb dX10_count_31 rfl hl (by decide) rfl (fun ls hl => ?_)
  have lp32 : ∀ (n32 : Nat) (x2_1 : Int32) (tr_setsWith_2 : Nat → Int32), f_X10_count_L32 la_beasts p1 (tr_sets + 1) (tr_inSome ||| p1) (tr_inAll &&& p1) n32 x2_1 tr_setsWith_2 = some (tr_sets', tr_inSome', tr_inAll', tr_setsWith') → ∀ (H : Heap) (locs : List Loc), va_P D vwCl ([(a_la, .inr (2, [.int la_lanes, .int la_deep, .int la_lanesTold, la_who, la_firstStrong, .int la_beasts, la_kind, la_firstLane, la_mood, la_price, .int la_cities, .int la_passes, la_passBetween, .int la_turned])), (a_tr, .inr (10, [.ref a_la, tr_now, tr_odds, tr_turns, .ref a_tr_setsWith, .int (tr_sets + 1), .int (tr_inSome ||| p1), .int (tr_inAll &&& p1)])), (a_tr_setsWith, .inl (cy 1, 5, .inl tr_setsWith_2))] ++ X) H → va_D A ([(a_la, .inr (2, [.int la_lanes, .int la_deep, .int la_lanesTold, la_who, la_firstStrong, .int la_beasts, la_kind, la_firstLane, la_mood, la_price, .int la_cities, .int la_passes, la_passBetween, .int la_turned])), (a_tr, .inr (10, [.ref a_la, tr_now, tr_odds, tr_turns, .ref a_tr_setsWith, .int (tr_sets + 1), .int (tr_inSome ||| p1), .int (tr_inAll &&& p1)])), (a_tr_setsWith, .inl (cy 1, 5, .inl tr_setsWith_2))] ++ X) → va_S A s.heap H locs → ∀ ls : Array Slot, lv_has ls 3 [(0, .ref a_tr), (1, .int p1), (2, .int x2_1)] → W p l e (headSpec wo_X10_count ({ frames := 0, cells := 0, slots := 0, locals := 0 })).room s m (([.ref a_tr, .int p1] : List Value).toArray) below meth c H locs 0 0 (MQ below (va_Qv (fun (_ : Unit) => True) (wB D A ([(a_la, .inr (2, [.int la_lanes, .int la_deep, .int la_lanesTold, la_who, la_firstStrong, .int la_beasts, la_kind, la_firstLane, la_mood, la_price, .int la_cities, .int la_passes, la_passBetween, .int la_turned])), (a_tr, .inr (10, [.ref a_la, tr_now, tr_odds, tr_turns, .ref a_tr_setsWith, .int tr_sets', .int tr_inSome', .int tr_inAll'])), (a_tr_setsWith, .inl (cy 1, 5, .inl tr_setsWith'))] ++ X)) A) (([.ref a_tr, .int p1] : List Value).toArray) s 0 0 A) (F0 m 32 ls []) := by
    intro n32
    induction n32 with
    | zero => intro x2_1 tr_setsWith_2 h; exact absurd (show (none : Option (Int32 × Int32 × Int32 × (Nat → Int32))) = some _ from h) (by intro q; cases q)
    | succ n32 ih32 =>
      intro x2_1 tr_setsWith_2 h H locs hP hD hS ls hl
      have h : f_X10_count_b32 la_beasts p1 (tr_sets + 1) (tr_inSome ||| p1) (tr_inAll &&& p1) (f_X10_count_L32 la_beasts p1 (tr_sets + 1) (tr_inSome ||| p1) (tr_inAll &&& p1) n32) x2_1 tr_setsWith_2 = some (tr_sets', tr_inSome', tr_inAll', tr_setsWith') := h
      unfold f_X10_count_b32 at h
      refine lv_iload_n hx hb dX10_count_32 rfl (lv_at hl 2 rfl) ?_
      refine lv_aload_n hx hb dX10_count_33 rfl (lv_at hl 0 rfl) ?_
      refine va_get (D := D) (ci := 10) (C := RX10) (T := TX10) (N := 8) (v := .ref a_la) hx hb hX10 (fun _ q => q) hown hK hP 1 rfl rfl 0 (by decide) (hts (.fieldLink RX10 18 "ElephantLine$Trumpets" "land" "LElephantLine$Land;") (by decide +kernel)) (fun _ h9 => h9) rfl dX10_count_34 ?_
      refine va_getN (D := D) (ci := 2) (C := RX2) (T := TX2) (N := 14) (v := .int la_beasts) hx hb hX2 (fun _ q => q) hown hK hP 0 rfl rfl 5 (by decide) (va_Nw.use rfl (hKN.2.1.1 ("ElephantLine$Trumpets", 36, "ElephantLine$Land", "beasts", "I", "ElephantLine") (List.mem_of_getElem? (i := 15) rfl))) (fun _ h9 => h9) rfl dX10_count_37 ?_
      refine lv_icmp_ge (tgt := 63) hx hb dX10_count_40 (by decide) (fun cd => ?_) (fun cd => ?_)
      · have h := ifT cd h
        cases h
        exact W.vret hx hb hr (fun t ht _ => ⟨⟨(), rfl, trivial, by rw [ht]; exact hP, hD⟩, hS.F ht⟩) hS.2.2 dX10_count_63
      · have h := ifF cd h
        refine lv_aload_n hx hb dX10_count_43 rfl (lv_at hl 0 rfl) ?_
        refine va_get (D := D) (ci := 10) (C := RX10) (T := TX10) (N := 8) (v := .ref a_tr_setsWith) hx hb hX10 (fun _ q => q) hown hK hP 1 rfl rfl 4 (by decide) (hts (.fieldLink RX10 15 "ElephantLine$Trumpets" "setsWith" "[I") (by decide +kernel)) (fun _ h9 => h9) rfl dX10_count_44 ?_
        refine lv_iload_n hx hb dX10_count_47 rfl (lv_at hl 2 rfl) ?_
        refine lv_dup2_11 hx hb dX10_count_48 rfl rfl ?_
        obtain ⟨i_3, h⟩ := gIn_some h
        refine va_iald hx hb hK hP 2 1 rfl rfl i_3 dX10_count_49 ?_
        refine lv_iload_n hx hb dX10_count_50 rfl (lv_at hl 1 rfl) ?_
        refine lv_iload_n hx hb dX10_count_51 rfl (lv_at hl 2 rfl) ?_
        refine lv_ishr hx hb dX10_count_52 ?_
        refine lv_iconst (v := 1) hx hb dX10_count_53 (by decide) ?_
        refine lv_iand hx hb dX10_count_54 ?_
        refine lv_iadd hx hb dX10_count_55 ?_
        obtain ⟨i_4, h⟩ := gIn_some h
        refine va_iast hx hb hK hP hD hS 2 1 rfl rfl i_4 dX10_count_56 (fun H locs hP hD hS => ?_)
        refine lv_iinc (v := x2_1 + 1) (lv' := [(2, .int (x2_1 + 1)), (0, .ref a_tr), (1, .int p1)]) hx hb dX10_count_57 hl (k := 2) rfl (by first | rfl | decide) (by decide) rfl (fun ls hl => ?_)
        refine lv_goto (tgt := 32) hx hb dX10_count_60 (by decide) ?_
        exact ih32 (x2_1 + 1) (upd tr_setsWith_2 x2_1.toNatClampNeg ((tr_setsWith_2 x2_1.toNatClampNeg) + ((p1 >>> (x2_1 &&& 31)) &&& 1))) h _ _ hP hD hS _ (lv_sub hl [1, 2, 0] rfl)
  exact lp32 fuelN (0 : Int32) tr_setsWith h _ _ hP hD hS _ (lv_sub hl [1, 2, 0] rfl)
theorem hd_X10_bestToAsk : yX10_bestToAsk.cls = RX10 ∧ yX10_bestToAsk.cls ≠ "java/lang/invoke/MethodHandle" ∧ yX10_bestToAsk.cls ≠ "java/lang/invoke/VarHandle" ∧ (parseMethodDescriptor yX10_bestToAsk.desc).map (fun d => d.parameters.length) = some 0 := by decide +kernel
set_option maxHeartbeats 4000000 in
set_option maxRecDepth 100000 in
theorem c_X10_bestToAsk (l : Launch) (D : va_G) (cy : Nat → ClassId) (a_la a_tr a_tr_setsWith : Nat) (la_lanes : Int32) (la_deep : Int32) (la_lanesTold : Int32) (la_who : Value) (la_firstStrong : Value) (la_beasts : Int32) (la_kind : Value) (la_firstLane : Value) (la_mood : Value) (la_price : Value) (la_cities : Int32) (la_passes : Int32) (la_passBetween : Value) (la_turned : Int32) (tr_now : Value) (tr_odds : Value) (tr_turns : Value) (tr_sets : Int32) (tr_inSome : Int32) (tr_inAll : Int32) (tr_setsWith : Nat → Int32) (res : Int32) (h : f_X10_bestToAsk la_beasts tr_sets tr_setsWith = some (res)) : Met l yX10_bestToAsk wo_X10_bestToAsk ({ frames := 1, cells := 0, slots := 0, locals := 14 }) (roPc D cy [.ref a_tr] [(a_la, .inr (2, [.int la_lanes, .int la_deep, .int la_lanesTold, la_who, la_firstStrong, .int la_beasts, la_kind, la_firstLane, la_mood, la_price, .int la_cities, .int la_passes, la_passBetween, .int la_turned])), (a_tr, .inr (10, [.ref a_la, tr_now, tr_odds, tr_turns, .ref a_tr_setsWith, .int tr_sets, .int tr_inSome, .int tr_inAll])), (a_tr_setsWith, .inl (cy 1, 5, .inl tr_setsWith))]) (vp_Si (fun r => r = res)) 0 0 (fun _ => False) := by
  refine Met.ofW (cc := cX10_bestToAsk) (maxL := 5) (ret := (some .int)) (by decide) rfl ?_
  intro p e s m args below meth c s₁ B hml hv
  obtain ⟨rfl, hP, hKN⟩ := hv
  have hK := hKN.1
  have hx := B.exec
  have hb := B.bytes
  have hr := B.returns
  have hts := wt_X10_bestToAsk hKN.2.2 (([.ref a_tr] : List Value).toArray)
  have hown : s.vm.findClass RX10 = some m.cls := findClass_of_methodNamed B.named
  have hlocks := B.notSynchronized
  have hX10 := wc_X10 hKN.2.2 (([.ref a_tr] : List Value).toArray)
  have hX2 := wc_X2 hKN.2.2 (([.ref a_tr] : List Value).toArray)
  have hl := lv_entry ([.ref a_tr]) (n := 5) (Nat.le_of_ble_eq_true rfl)
  rw [lg_entry_eq]
  generalize (lg_sl ([.ref a_tr]) ++ List.replicate (5 - (lg_sl ([.ref a_tr])).length) Slot.unset).toArray = ls at hl ⊢
  have hl : lv_has ls 5 [(0, .ref a_tr)] := hl
  unfold f_X10_bestToAsk at h
  refine lv_bipush (v := (-2)) hx hb dX10_bestToAsk_0 (by decide) ?_
  refine lv_istore_n (lv' := [(1, .int (-2)), (0, .ref a_tr)]) hx hb dX10_bestToAsk_2 rfl hl (by decide) rfl (fun ls hl => ?_)
  refine lv_aload_n hx hb dX10_bestToAsk_3 rfl (lv_at hl 1 rfl) ?_
  refine va_get (D := D) (ci := 10) (C := RX10) (T := TX10) (N := 8) (v := .int tr_sets) hx hb hX10 (fun _ q => q) hown hK hP 1 rfl rfl 5 (by decide) (hts (.fieldLink RX10 56 "ElephantLine$Trumpets" "sets" "I") (by decide +kernel)) (fun _ h9 => h9) rfl dX10_bestToAsk_4 ?_
  refine lv_istore_n (lv' := [(2, .int tr_sets), (1, .int (-2)), (0, .ref a_tr)]) hx hb dX10_bestToAsk_7 rfl hl (by decide) rfl (fun ls hl => ?_)
  refine lv_iconst (v := 0) hx hb dX10_bestToAsk_8 (by decide) ?_
  refine lv_istore_n (lv' := [(3, .int 0), (2, .int tr_sets), (1, .int (-2)), (0, .ref a_tr)]) hx hb dX10_bestToAsk_9 rfl hl (by decide) rfl (fun ls hl => ?_)
  have lp10 : ∀ (n10 : Nat) (x1_1 : Int32) (x2_2 : Int32) (x3_3 : Int32), f_X10_bestToAsk_L10 la_beasts tr_sets tr_setsWith n10 x1_1 x2_2 x3_3 = some (res) → ∀ ls : Array Slot, lv_has ls 5 [(0, .ref a_tr), (1, .int x1_1), (2, .int x2_2), (3, .int x3_3)] → W p l e (headSpec wo_X10_bestToAsk ({ frames := 1, cells := 0, slots := 0, locals := 14 })).room s m (([.ref a_tr] : List Value).toArray) below meth c s.heap [] 0 0 (MQ below (vp_Si (fun r => r = res)) (([.ref a_tr] : List Value).toArray) s 0 0 (fun _ => False)) (F0 m 10 ls []) := by
    intro n10
    induction n10 with
    | zero => intro x1_1 x2_2 x3_3 h; exact absurd (show (none : Option (Int32)) = some _ from h) (by intro q; cases q)
    | succ n10 ih10 =>
      intro x1_1 x2_2 x3_3 h ls hl
      have h : f_X10_bestToAsk_b10 la_beasts tr_sets tr_setsWith (f_X10_bestToAsk_L10 la_beasts tr_sets tr_setsWith n10) x1_1 x2_2 x3_3 = some (res) := h
      unfold f_X10_bestToAsk_b10 at h
      refine lv_iload_n hx hb dX10_bestToAsk_10 rfl (lv_at hl 3 rfl) ?_
      refine lv_aload_n hx hb dX10_bestToAsk_11 rfl (lv_at hl 0 rfl) ?_
      refine va_get (D := D) (ci := 10) (C := RX10) (T := TX10) (N := 8) (v := .ref a_la) hx hb hX10 (fun _ q => q) hown hK hP 1 rfl rfl 0 (by decide) (hts (.fieldLink RX10 18 "ElephantLine$Trumpets" "land" "LElephantLine$Land;") (by decide +kernel)) (fun _ h9 => h9) rfl dX10_bestToAsk_12 ?_
      refine va_getN (D := D) (ci := 2) (C := RX2) (T := TX2) (N := 14) (v := .int la_beasts) hx hb hX2 (fun _ q => q) hown hK hP 0 rfl rfl 5 (by decide) (va_Nw.use rfl (hKN.2.1.1 ("ElephantLine$Trumpets", 36, "ElephantLine$Land", "beasts", "I", "ElephantLine") (List.mem_of_getElem? (i := 15) rfl))) (fun _ h9 => h9) rfl dX10_bestToAsk_15 ?_
      refine lv_icmp_ge (tgt := 73) hx hb dX10_bestToAsk_18 (by decide) (fun cd => ?_) (fun cd => ?_)
      · have h := ifT cd h
        refine lv_iload_n hx hb dX10_bestToAsk_73 rfl (lv_at hl 1 rfl) ?_
        exact W.iret (v := x1_1) hx hb hr (fun t ht _ => ⟨_, rfl, Option.some.inj h, ht⟩) (fun _ q => by cases q) dX10_bestToAsk_74
      · have h := ifF cd h
        refine lv_aload_n hx hb dX10_bestToAsk_21 rfl (lv_at hl 0 rfl) ?_
        refine va_get (D := D) (ci := 10) (C := RX10) (T := TX10) (N := 8) (v := .int tr_sets) hx hb hX10 (fun _ q => q) hown hK hP 1 rfl rfl 5 (by decide) (hts (.fieldLink RX10 56 "ElephantLine$Trumpets" "sets" "I") (by decide +kernel)) (fun _ h9 => h9) rfl dX10_bestToAsk_22 ?_
        refine lv_if_le (tgt := 73) hx hb dX10_bestToAsk_25 (by decide) (fun cd => ?_) (fun cd => ?_)
        · have h := ifT cd h
          refine lv_iload_n hx hb dX10_bestToAsk_73 rfl (lv_at hl 1 rfl) ?_
          exact W.iret (v := x1_1) hx hb hr (fun t ht _ => ⟨_, rfl, Option.some.inj h, ht⟩) (fun _ q => by cases q) dX10_bestToAsk_74
        · have h := ifF cd h
          refine lv_aload_n hx hb dX10_bestToAsk_28 rfl (lv_at hl 0 rfl) ?_
          refine va_get (D := D) (ci := 10) (C := RX10) (T := TX10) (N := 8) (v := .ref a_tr_setsWith) hx hb hX10 (fun _ q => q) hown hK hP 1 rfl rfl 4 (by decide) (hts (.fieldLink RX10 15 "ElephantLine$Trumpets" "setsWith" "[I") (by decide +kernel)) (fun _ h9 => h9) rfl dX10_bestToAsk_29 ?_
          refine lv_iload_n hx hb dX10_bestToAsk_32 rfl (lv_at hl 3 rfl) ?_
          obtain ⟨i_4, h⟩ := gIn_some h
          refine va_iald hx hb hK hP 2 1 rfl rfl i_4 dX10_bestToAsk_33 ?_
          refine lv_aload_n hx hb dX10_bestToAsk_34 rfl (lv_at hl 0 rfl) ?_
          refine va_get (D := D) (ci := 10) (C := RX10) (T := TX10) (N := 8) (v := .int tr_sets) hx hb hX10 (fun _ q => q) hown hK hP 1 rfl rfl 5 (by decide) (hts (.fieldLink RX10 56 "ElephantLine$Trumpets" "sets" "I") (by decide +kernel)) (fun _ h9 => h9) rfl dX10_bestToAsk_35 ?_
          refine lv_aload_n hx hb dX10_bestToAsk_38 rfl (lv_at hl 0 rfl) ?_
          refine va_get (D := D) (ci := 10) (C := RX10) (T := TX10) (N := 8) (v := .ref a_tr_setsWith) hx hb hX10 (fun _ q => q) hown hK hP 1 rfl rfl 4 (by decide) (hts (.fieldLink RX10 15 "ElephantLine$Trumpets" "setsWith" "[I") (by decide +kernel)) (fun _ h9 => h9) rfl dX10_bestToAsk_39 ?_
          refine lv_iload_n hx hb dX10_bestToAsk_42 rfl (lv_at hl 3 rfl) ?_
          obtain ⟨i_5, h⟩ := gIn_some h
          refine va_iald hx hb hK hP 2 1 rfl rfl i_5 dX10_bestToAsk_43 ?_
          refine lv_isub hx hb dX10_bestToAsk_44 ?_
          refine va_mmax hx hb (hml.trans hl.1.symm) hown (hts (.methodLink RX10 81 Lib.Math.max.name) (by decide +kernel)) (hts (.static Lib.Math.max.name) (by decide +kernel)) (hts (.initialized "java/lang/Math") (by decide +kernel)) (hts (.code Lib.Math.max.name Lib.Math.max.code 2 (some .int)) (by decide +kernel)) (Nat.le_of_ble_eq_true rfl) (Nat.le_of_ble_eq_true rfl) (Nat.le_of_ble_eq_true rfl) (Nat.le_of_ble_eq_true rfl) dX10_bestToAsk_45 ?_
          refine lv_istore (lv' := [(4, .int (if (tr_setsWith x3_3.toNatClampNeg) < (tr_sets - (tr_setsWith x3_3.toNatClampNeg)) then tr_sets - (tr_setsWith x3_3.toNatClampNeg) else tr_setsWith x3_3.toNatClampNeg)), (0, .ref a_tr), (1, .int x1_1), (2, .int x2_2), (3, .int x3_3)]) hx hb dX10_bestToAsk_48 hl (by decide) rfl (fun ls hl => ?_)
          refine lv_iload_n hx hb dX10_bestToAsk_50 rfl (lv_at hl 2 rfl) ?_
          refine lv_bipush (v := (-2)) hx hb dX10_bestToAsk_51 (by decide) ?_
          have jn67 : ∀ (x1_6 : Int32) (x2_7 : Int32), f_X10_bestToAsk_B67 (f_X10_bestToAsk_L10 la_beasts tr_sets tr_setsWith n10) la_beasts tr_sets tr_setsWith x1_6 x2_7 x3_3 = some (res) → ∀ ls : Array Slot, lv_has ls 5 [(0, .ref a_tr), (1, .int x1_6), (2, .int x2_7), (3, .int x3_3)] → W p l e (headSpec wo_X10_bestToAsk ({ frames := 1, cells := 0, slots := 0, locals := 14 })).room s m (([.ref a_tr] : List Value).toArray) below meth c s.heap [] 0 0 (MQ below (vp_Si (fun r => r = res)) (([.ref a_tr] : List Value).toArray) s 0 0 (fun _ => False)) (F0 m 67 ls []) := by
            intro x1_6 x2_7 h ls hl
            unfold f_X10_bestToAsk_B67 at h
            refine lv_iinc (v := x3_3 + 1) (lv' := [(3, .int (x3_3 + 1)), (0, .ref a_tr), (1, .int x1_6), (2, .int x2_7)]) hx hb dX10_bestToAsk_67 hl (k := 3) rfl (by first | rfl | decide) (by decide) rfl (fun ls hl => ?_)
            refine lv_goto (tgt := 10) hx hb dX10_bestToAsk_70 (by decide) ?_
            exact ih10 x1_6 x2_7 (x3_3 + 1) h _ (lv_sub hl [1, 2, 3, 0] rfl)
          have jn62 : f_X10_bestToAsk_B62 (f_X10_bestToAsk_L10 la_beasts tr_sets tr_setsWith n10) la_beasts tr_sets tr_setsWith x3_3 (if (tr_setsWith x3_3.toNatClampNeg) < (tr_sets - (tr_setsWith x3_3.toNatClampNeg)) then tr_sets - (tr_setsWith x3_3.toNatClampNeg) else tr_setsWith x3_3.toNatClampNeg) = some (res) → ∀ ls : Array Slot, lv_has ls 5 [(0, .ref a_tr), (3, .int x3_3), (4, .int (if (tr_setsWith x3_3.toNatClampNeg) < (tr_sets - (tr_setsWith x3_3.toNatClampNeg)) then tr_sets - (tr_setsWith x3_3.toNatClampNeg) else tr_setsWith x3_3.toNatClampNeg))] → W p l e (headSpec wo_X10_bestToAsk ({ frames := 1, cells := 0, slots := 0, locals := 14 })).room s m (([.ref a_tr] : List Value).toArray) below meth c s.heap [] 0 0 (MQ below (vp_Si (fun r => r = res)) (([.ref a_tr] : List Value).toArray) s 0 0 (fun _ => False)) (F0 m 62 ls []) := by
            intro h ls hl
            unfold f_X10_bestToAsk_B62 at h
            refine lv_iload_n hx hb dX10_bestToAsk_62 rfl (lv_at hl 1 rfl) ?_
            refine lv_istore_n (lv' := [(1, .int x3_3), (0, .ref a_tr), (3, .int x3_3), (4, .int (if (tr_setsWith x3_3.toNatClampNeg) < (tr_sets - (tr_setsWith x3_3.toNatClampNeg)) then tr_sets - (tr_setsWith x3_3.toNatClampNeg) else tr_setsWith x3_3.toNatClampNeg))]) hx hb dX10_bestToAsk_63 rfl hl (by decide) rfl (fun ls hl => ?_)
            refine lv_iload hx hb dX10_bestToAsk_64 (lv_at hl 3 rfl) ?_
            refine lv_istore_n (lv' := [(2, .int (if (tr_setsWith x3_3.toNatClampNeg) < (tr_sets - (tr_setsWith x3_3.toNatClampNeg)) then tr_sets - (tr_setsWith x3_3.toNatClampNeg) else tr_setsWith x3_3.toNatClampNeg)), (1, .int x3_3), (0, .ref a_tr), (3, .int x3_3), (4, .int (if (tr_setsWith x3_3.toNatClampNeg) < (tr_sets - (tr_setsWith x3_3.toNatClampNeg)) then tr_sets - (tr_setsWith x3_3.toNatClampNeg) else tr_setsWith x3_3.toNatClampNeg))]) hx hb dX10_bestToAsk_66 rfl hl (by decide) rfl (fun ls hl => ?_)
            exact jn67 x3_3 (if (tr_setsWith x3_3.toNatClampNeg) < (tr_sets - (tr_setsWith x3_3.toNatClampNeg)) then tr_sets - (tr_setsWith x3_3.toNatClampNeg) else tr_setsWith x3_3.toNatClampNeg) h _ (lv_sub hl [2, 1, 0, 3] rfl)
          refine lv_icmp_eq (tgt := 62) hx hb dX10_bestToAsk_53 (by decide) (fun cd => ?_) (fun cd => ?_)
          · have h := ifT cd h
            exact jn62 h _ (lv_sub hl [1, 4, 0] rfl)
          · have h := ifF cd h
            refine lv_iload hx hb dX10_bestToAsk_56 (lv_at hl 0 rfl) ?_
            refine lv_iload_n hx hb dX10_bestToAsk_58 rfl (lv_at hl 3 rfl) ?_
            refine lv_icmp_ge (tgt := 67) hx hb dX10_bestToAsk_59 (by decide) (fun cd => ?_) (fun cd => ?_)
            · have h := ifT cd h
              exact jn67 x1_1 x2_2 h _ (lv_sub hl [1, 2, 3, 4] rfl)
            · have h := ifF cd h
              exact jn62 h _ (lv_sub hl [1, 4, 0] rfl)
  exact lp10 fuelN ((-2) : Int32) tr_sets (0 : Int32) h _ (lv_sub hl [3, 2, 1, 0] rfl)
theorem hd_X10_findSets : yX10_findSets.cls = RX10 ∧ yX10_findSets.cls ≠ "java/lang/invoke/MethodHandle" ∧ yX10_findSets.cls ≠ "java/lang/invoke/VarHandle" ∧ (parseMethodDescriptor yX10_findSets.desc).map (fun d => d.parameters.length) = some 0 := by decide +kernel
set_option maxHeartbeats 4000000 in
set_option maxRecDepth 100000 in
theorem c_X10_findSets (l : Launch) (D : va_G) (cy : Nat → ClassId) (A : Nat → Prop) (X : va_W) (a_la a_la_kind a_la_mood a_no a_no_at a_od a_tr a_tr_turns a_tr_setsWith : Nat) (la_lanes : Int32) (la_deep : Int32) (la_lanesTold : Int32) (la_who : Value) (la_firstStrong : Value) (la_beasts : Int32) (la_firstLane : Value) (la_price : Value) (la_cities : Int32) (la_passes : Int32) (la_passBetween : Value) (la_turned : Int32) (la_kind : Nat → Int32) (la_mood : Nat → Int32) (no_strong : Value) (no_wounds : Value) (no_dead : Int32) (no_wet : Int32) (no_drawn : Int32) (no_at : Nat → Int32) (tr_sets : Int32) (tr_inSome : Int32) (tr_inAll : Int32) (tr_turns : Nat → Int32) (tr_setsWith : Nat → Int32) (tr_sets' : Int32) (tr_inSome' : Int32) (tr_inAll' : Int32) (tr_turns' : Nat → Int32) (tr_setsWith' : Nat → Int32) (h : f_X10_findSets la_beasts la_turned la_kind la_mood no_dead no_wet no_at tr_sets tr_inSome tr_inAll tr_turns tr_setsWith = some (tr_sets', tr_inSome', tr_inAll', tr_turns', tr_setsWith')) : Met l yX10_findSets wo_X10_findSets ({ frames := 4, cells := 0, slots := 0, locals := 81 }) (wrPc D cy A [.ref a_tr] ([(a_la, .inr (2, [.int la_lanes, .int la_deep, .int la_lanesTold, la_who, la_firstStrong, .int la_beasts, .ref a_la_kind, la_firstLane, .ref a_la_mood, la_price, .int la_cities, .int la_passes, la_passBetween, .int la_turned])), (a_la_kind, .inl (cy 1, 5, .inl la_kind)), (a_la_mood, .inl (cy 1, 5, .inl la_mood)), (a_no, .inr (8, [no_strong, .ref a_no_at, no_wounds, .int no_dead, .int no_wet, .int no_drawn])), (a_no_at, .inl (cy 1, 5, .inl no_at)), (a_od, .inr (4, [.ref a_la, .ref a_no])), (a_tr, .inr (10, [.ref a_la, .ref a_no, .ref a_od, .ref a_tr_turns, .ref a_tr_setsWith, .int tr_sets, .int tr_inSome, .int tr_inAll])), (a_tr_turns, .inl (cy 1, 5, .inl tr_turns)), (a_tr_setsWith, .inl (cy 1, 5, .inl tr_setsWith))] ++ X)) (va_Qv (fun (_ : Unit) => True) (wB D A ([(a_la, .inr (2, [.int la_lanes, .int la_deep, .int la_lanesTold, la_who, la_firstStrong, .int la_beasts, .ref a_la_kind, la_firstLane, .ref a_la_mood, la_price, .int la_cities, .int la_passes, la_passBetween, .int la_turned])), (a_la_kind, .inl (cy 1, 5, .inl la_kind)), (a_la_mood, .inl (cy 1, 5, .inl la_mood)), (a_no, .inr (8, [no_strong, .ref a_no_at, no_wounds, .int no_dead, .int no_wet, .int no_drawn])), (a_no_at, .inl (cy 1, 5, .inl no_at)), (a_od, .inr (4, [.ref a_la, .ref a_no])), (a_tr, .inr (10, [.ref a_la, .ref a_no, .ref a_od, .ref a_tr_turns, .ref a_tr_setsWith, .int tr_sets', .int tr_inSome', .int tr_inAll'])), (a_tr_turns, .inl (cy 1, 5, .inl tr_turns')), (a_tr_setsWith, .inl (cy 1, 5, .inl tr_setsWith'))] ++ X)) A) 0 0 A := by
  refine Met.ofW (cc := cX10_findSets) (maxL := 2) (ret := none) (by decide) rfl ?_
  intro p e s m args below meth c s₁ B hml hv
  obtain ⟨rfl, hP, hKN, hD, hA⟩ := hv
  have hK := hKN.1
  have hx := B.exec
  have hb := B.bytes
  have hr := B.returns
  have hts := wt_X10_findSets hKN.2.2 (([.ref a_tr] : List Value).toArray)
  have hown : s.vm.findClass RX10 = some m.cls := findClass_of_methodNamed B.named
  have hlocks := B.notSynchronized
  have hS : va_S A s.heap s.heap [] := va_S.rf
  have hX10 := wc_X10 hKN.2.2 (([.ref a_tr] : List Value).toArray)
  have hX2 := wc_X2 hKN.2.2 (([.ref a_tr] : List Value).toArray)
  have hX8 := wc_X8 hKN.2.2 (([.ref a_tr] : List Value).toArray)
  have hl := lv_entry ([.ref a_tr]) (n := 2) (Nat.le_of_ble_eq_true rfl)
  rw [lg_entry_eq]
  generalize (lg_sl ([.ref a_tr]) ++ List.replicate (2 - (lg_sl ([.ref a_tr])).length) Slot.unset).toArray = ls at hl ⊢
  have hl : lv_has ls 2 [(0, .ref a_tr)] := hl
  unfold f_X10_findSets at h
  refine lv_aload_n hx hb dX10_findSets_0 rfl (lv_at hl 0 rfl) ?_
  refine lv_iconst (v := 0) hx hb dX10_findSets_1 (by decide) ?_
  refine va_put (D := D) (ci := 10) (C := RX10) (T := TX10) (N := 8) (v := .int 0) (ty := .int) hx hb hX10 (fun _ q => q) tyX10 tyX10_ok nmX10 hown hK hP hD hS 6 rfl rfl 5 (by decide) (hts (.fieldLink RX10 56 "ElephantLine$Trumpets" "sets" "I") (by decide +kernel)) (fun _ h9 => h9) rfl (tyX10_ok 5 (by decide)) rfl rfl (Nat.le_of_ble_eq_true rfl) dX10_findSets_2 (fun H locs hP hD hS => ?_)
  refine lv_aload_n hx hb dX10_findSets_5 rfl (lv_at hl 0 rfl) ?_
  refine lv_iconst (v := 0) hx hb dX10_findSets_6 (by decide) ?_
  refine va_put (D := D) (ci := 10) (C := RX10) (T := TX10) (N := 8) (v := .int 0) (ty := .int) hx hb hX10 (fun _ q => q) tyX10 tyX10_ok nmX10 hown hK hP hD hS 6 rfl rfl 6 (by decide) (hts (.fieldLink RX10 59 "ElephantLine$Trumpets" "inSome" "I") (by decide +kernel)) (fun _ h9 => h9) rfl (tyX10_ok 6 (by decide)) rfl rfl (Nat.le_of_ble_eq_true rfl) dX10_findSets_7 (fun H locs hP hD hS => ?_)
  refine lv_aload_n hx hb dX10_findSets_10 rfl (lv_at hl 0 rfl) ?_
  refine lv_iconst (v := 1) hx hb dX10_findSets_11 (by decide) ?_
  refine lv_aload_n hx hb dX10_findSets_12 rfl (lv_at hl 0 rfl) ?_
  refine va_get (D := D) (ci := 10) (C := RX10) (T := TX10) (N := 8) (v := .ref a_la) hx hb hX10 (fun _ q => q) hown hK hP 6 rfl rfl 0 (by decide) (hts (.fieldLink RX10 18 "ElephantLine$Trumpets" "land" "LElephantLine$Land;") (by decide +kernel)) (fun _ h9 => h9) rfl dX10_findSets_13 ?_
  refine va_getN (D := D) (ci := 2) (C := RX2) (T := TX2) (N := 14) (v := .int la_beasts) hx hb hX2 (fun _ q => q) hown hK hP 0 rfl rfl 5 (by decide) (va_Nw.use rfl (hKN.2.1.1 ("ElephantLine$Trumpets", 36, "ElephantLine$Land", "beasts", "I", "ElephantLine") (List.mem_of_getElem? (i := 15) rfl))) (fun _ h9 => h9) rfl dX10_findSets_16 ?_
  refine lv_ishl hx hb dX10_findSets_19 ?_
  refine lv_iconst (v := 1) hx hb dX10_findSets_20 (by decide) ?_
  refine lv_isub hx hb dX10_findSets_21 ?_
  refine va_put (D := D) (ci := 10) (C := RX10) (T := TX10) (N := 8) (v := .int (((1 : Int32) <<< (la_beasts &&& 31)) - 1)) (ty := .int) hx hb hX10 (fun _ q => q) tyX10 tyX10_ok nmX10 hown hK hP hD hS 6 rfl rfl 7 (by decide) (hts (.fieldLink RX10 62 "ElephantLine$Trumpets" "inAll" "I") (by decide +kernel)) (fun _ h9 => h9) rfl (tyX10_ok 7 (by decide)) rfl rfl (Nat.le_of_ble_eq_true rfl) dX10_findSets_22 (fun H locs hP hD hS => ?_)
  refine lv_iconst (v := 0) hx hb dX10_findSets_25 (by decide) ?_
  refine lv_istore_n (lv' := [(1, .int 0), (0, .ref a_tr)]) hx hb dX10_findSets_26 rfl hl (by decide) rfl (fun ls hl => ?_)
  have jn62 : ∀ (tr_turns_1 : Nat → Int32) (tr_setsWith_2 : Nat → Int32), f_X10_findSets_B62 la_beasts la_turned la_kind la_mood no_dead no_wet no_at 0 0 (((1 : Int32) <<< (la_beasts &&& 31)) - 1) tr_turns_1 tr_setsWith_2 = some (tr_sets', tr_inSome', tr_inAll', tr_turns', tr_setsWith') → ∀ (H : Heap) (locs : List Loc), va_P D vwCl ([(a_la, .inr (2, [.int la_lanes, .int la_deep, .int la_lanesTold, la_who, la_firstStrong, .int la_beasts, .ref a_la_kind, la_firstLane, .ref a_la_mood, la_price, .int la_cities, .int la_passes, la_passBetween, .int la_turned])), (a_la_kind, .inl (cy 1, 5, .inl la_kind)), (a_la_mood, .inl (cy 1, 5, .inl la_mood)), (a_no, .inr (8, [no_strong, .ref a_no_at, no_wounds, .int no_dead, .int no_wet, .int no_drawn])), (a_no_at, .inl (cy 1, 5, .inl no_at)), (a_od, .inr (4, [.ref a_la, .ref a_no])), (a_tr, .inr (10, [.ref a_la, .ref a_no, .ref a_od, .ref a_tr_turns, .ref a_tr_setsWith, .int 0, .int 0, .int (((1 : Int32) <<< (la_beasts &&& 31)) - 1)])), (a_tr_turns, .inl (cy 1, 5, .inl tr_turns_1)), (a_tr_setsWith, .inl (cy 1, 5, .inl tr_setsWith_2))] ++ X) H → va_D A ([(a_la, .inr (2, [.int la_lanes, .int la_deep, .int la_lanesTold, la_who, la_firstStrong, .int la_beasts, .ref a_la_kind, la_firstLane, .ref a_la_mood, la_price, .int la_cities, .int la_passes, la_passBetween, .int la_turned])), (a_la_kind, .inl (cy 1, 5, .inl la_kind)), (a_la_mood, .inl (cy 1, 5, .inl la_mood)), (a_no, .inr (8, [no_strong, .ref a_no_at, no_wounds, .int no_dead, .int no_wet, .int no_drawn])), (a_no_at, .inl (cy 1, 5, .inl no_at)), (a_od, .inr (4, [.ref a_la, .ref a_no])), (a_tr, .inr (10, [.ref a_la, .ref a_no, .ref a_od, .ref a_tr_turns, .ref a_tr_setsWith, .int 0, .int 0, .int (((1 : Int32) <<< (la_beasts &&& 31)) - 1)])), (a_tr_turns, .inl (cy 1, 5, .inl tr_turns_1)), (a_tr_setsWith, .inl (cy 1, 5, .inl tr_setsWith_2))] ++ X) → va_S A s.heap H locs → ∀ ls : Array Slot, lv_has ls 2 [(0, .ref a_tr)] → W p l e (headSpec wo_X10_findSets ({ frames := 4, cells := 0, slots := 0, locals := 81 })).room s m (([.ref a_tr] : List Value).toArray) below meth c H locs 0 0 (MQ below (va_Qv (fun (_ : Unit) => True) (wB D A ([(a_la, .inr (2, [.int la_lanes, .int la_deep, .int la_lanesTold, la_who, la_firstStrong, .int la_beasts, .ref a_la_kind, la_firstLane, .ref a_la_mood, la_price, .int la_cities, .int la_passes, la_passBetween, .int la_turned])), (a_la_kind, .inl (cy 1, 5, .inl la_kind)), (a_la_mood, .inl (cy 1, 5, .inl la_mood)), (a_no, .inr (8, [no_strong, .ref a_no_at, no_wounds, .int no_dead, .int no_wet, .int no_drawn])), (a_no_at, .inl (cy 1, 5, .inl no_at)), (a_od, .inr (4, [.ref a_la, .ref a_no])), (a_tr, .inr (10, [.ref a_la, .ref a_no, .ref a_od, .ref a_tr_turns, .ref a_tr_setsWith, .int tr_sets', .int tr_inSome', .int tr_inAll'])), (a_tr_turns, .inl (cy 1, 5, .inl tr_turns')), (a_tr_setsWith, .inl (cy 1, 5, .inl tr_setsWith'))] ++ X)) A) (([.ref a_tr] : List Value).toArray) s 0 0 A) (F0 m 62 ls []) := by
    intro tr_turns_1 tr_setsWith_2 h H locs hP hD hS ls hl
    unfold f_X10_findSets_B62 at h
    refine lv_iconst (v := 1) hx hb dX10_findSets_62 (by decide) ?_
    refine lv_istore_n (lv' := [(1, .int 1), (0, .ref a_tr)]) hx hb dX10_findSets_63 rfl hl (by decide) rfl (fun ls hl => ?_)
    have jn115 : ∀ (tr_sets_3 : Int32) (tr_inSome_4 : Int32) (tr_inAll_5 : Int32) (tr_setsWith_6 : Nat → Int32), f_X10_findSets_B115 la_beasts la_turned la_kind la_mood no_dead no_wet no_at tr_sets_3 tr_inSome_4 tr_inAll_5 tr_turns_1 tr_setsWith_6 = some (tr_sets', tr_inSome', tr_inAll', tr_turns', tr_setsWith') → ∀ (H : Heap) (locs : List Loc), va_P D vwCl ([(a_la, .inr (2, [.int la_lanes, .int la_deep, .int la_lanesTold, la_who, la_firstStrong, .int la_beasts, .ref a_la_kind, la_firstLane, .ref a_la_mood, la_price, .int la_cities, .int la_passes, la_passBetween, .int la_turned])), (a_la_kind, .inl (cy 1, 5, .inl la_kind)), (a_la_mood, .inl (cy 1, 5, .inl la_mood)), (a_no, .inr (8, [no_strong, .ref a_no_at, no_wounds, .int no_dead, .int no_wet, .int no_drawn])), (a_no_at, .inl (cy 1, 5, .inl no_at)), (a_od, .inr (4, [.ref a_la, .ref a_no])), (a_tr, .inr (10, [.ref a_la, .ref a_no, .ref a_od, .ref a_tr_turns, .ref a_tr_setsWith, .int tr_sets_3, .int tr_inSome_4, .int tr_inAll_5])), (a_tr_turns, .inl (cy 1, 5, .inl tr_turns_1)), (a_tr_setsWith, .inl (cy 1, 5, .inl tr_setsWith_6))] ++ X) H → va_D A ([(a_la, .inr (2, [.int la_lanes, .int la_deep, .int la_lanesTold, la_who, la_firstStrong, .int la_beasts, .ref a_la_kind, la_firstLane, .ref a_la_mood, la_price, .int la_cities, .int la_passes, la_passBetween, .int la_turned])), (a_la_kind, .inl (cy 1, 5, .inl la_kind)), (a_la_mood, .inl (cy 1, 5, .inl la_mood)), (a_no, .inr (8, [no_strong, .ref a_no_at, no_wounds, .int no_dead, .int no_wet, .int no_drawn])), (a_no_at, .inl (cy 1, 5, .inl no_at)), (a_od, .inr (4, [.ref a_la, .ref a_no])), (a_tr, .inr (10, [.ref a_la, .ref a_no, .ref a_od, .ref a_tr_turns, .ref a_tr_setsWith, .int tr_sets_3, .int tr_inSome_4, .int tr_inAll_5])), (a_tr_turns, .inl (cy 1, 5, .inl tr_turns_1)), (a_tr_setsWith, .inl (cy 1, 5, .inl tr_setsWith_6))] ++ X) → va_S A s.heap H locs → ∀ ls : Array Slot, lv_has ls 2 [(0, .ref a_tr)] → W p l e (headSpec wo_X10_findSets ({ frames := 4, cells := 0, slots := 0, locals := 81 })).room s m (([.ref a_tr] : List Value).toArray) below meth c H locs 0 0 (MQ below (va_Qv (fun (_ : Unit) => True) (wB D A ([(a_la, .inr (2, [.int la_lanes, .int la_deep, .int la_lanesTold, la_who, la_firstStrong, .int la_beasts, .ref a_la_kind, la_firstLane, .ref a_la_mood, la_price, .int la_cities, .int la_passes, la_passBetween, .int la_turned])), (a_la_kind, .inl (cy 1, 5, .inl la_kind)), (a_la_mood, .inl (cy 1, 5, .inl la_mood)), (a_no, .inr (8, [no_strong, .ref a_no_at, no_wounds, .int no_dead, .int no_wet, .int no_drawn])), (a_no_at, .inl (cy 1, 5, .inl no_at)), (a_od, .inr (4, [.ref a_la, .ref a_no])), (a_tr, .inr (10, [.ref a_la, .ref a_no, .ref a_od, .ref a_tr_turns, .ref a_tr_setsWith, .int tr_sets', .int tr_inSome', .int tr_inAll'])), (a_tr_turns, .inl (cy 1, 5, .inl tr_turns')), (a_tr_setsWith, .inl (cy 1, 5, .inl tr_setsWith'))] ++ X)) A) (([.ref a_tr] : List Value).toArray) s 0 0 A) (F0 m 115 ls []) := by
      intro tr_sets_3 tr_inSome_4 tr_inAll_5 tr_setsWith_6 h H locs hP hD hS ls hl
      unfold f_X10_findSets_B115 at h
      refine lv_aload_n hx hb dX10_findSets_115 rfl (lv_at hl 0 rfl) ?_
      refine lv_aload_n hx hb dX10_findSets_116 rfl (lv_at hl 0 rfl) ?_
      refine va_get (D := D) (ci := 10) (C := RX10) (T := TX10) (N := 8) (v := .int tr_sets_3) hx hb hX10 (fun _ q => q) hown hK hP 6 rfl rfl 5 (by decide) (hts (.fieldLink RX10 56 "ElephantLine$Trumpets" "sets" "I") (by decide +kernel)) (fun _ h9 => h9) rfl dX10_findSets_117 ?_
      have jn131 : ∀ (t1_7 : Int32), f_X10_findSets_B131 la_beasts la_turned la_kind la_mood no_dead no_wet no_at t1_7 tr_sets_3 tr_inSome_4 tr_inAll_5 tr_turns_1 tr_setsWith_6 = some (tr_sets', tr_inSome', tr_inAll', tr_turns', tr_setsWith') → ∀ (H : Heap) (locs : List Loc), va_P D vwCl ([(a_la, .inr (2, [.int la_lanes, .int la_deep, .int la_lanesTold, la_who, la_firstStrong, .int la_beasts, .ref a_la_kind, la_firstLane, .ref a_la_mood, la_price, .int la_cities, .int la_passes, la_passBetween, .int la_turned])), (a_la_kind, .inl (cy 1, 5, .inl la_kind)), (a_la_mood, .inl (cy 1, 5, .inl la_mood)), (a_no, .inr (8, [no_strong, .ref a_no_at, no_wounds, .int no_dead, .int no_wet, .int no_drawn])), (a_no_at, .inl (cy 1, 5, .inl no_at)), (a_od, .inr (4, [.ref a_la, .ref a_no])), (a_tr, .inr (10, [.ref a_la, .ref a_no, .ref a_od, .ref a_tr_turns, .ref a_tr_setsWith, .int tr_sets_3, .int tr_inSome_4, .int tr_inAll_5])), (a_tr_turns, .inl (cy 1, 5, .inl tr_turns_1)), (a_tr_setsWith, .inl (cy 1, 5, .inl tr_setsWith_6))] ++ X) H → va_D A ([(a_la, .inr (2, [.int la_lanes, .int la_deep, .int la_lanesTold, la_who, la_firstStrong, .int la_beasts, .ref a_la_kind, la_firstLane, .ref a_la_mood, la_price, .int la_cities, .int la_passes, la_passBetween, .int la_turned])), (a_la_kind, .inl (cy 1, 5, .inl la_kind)), (a_la_mood, .inl (cy 1, 5, .inl la_mood)), (a_no, .inr (8, [no_strong, .ref a_no_at, no_wounds, .int no_dead, .int no_wet, .int no_drawn])), (a_no_at, .inl (cy 1, 5, .inl no_at)), (a_od, .inr (4, [.ref a_la, .ref a_no])), (a_tr, .inr (10, [.ref a_la, .ref a_no, .ref a_od, .ref a_tr_turns, .ref a_tr_setsWith, .int tr_sets_3, .int tr_inSome_4, .int tr_inAll_5])), (a_tr_turns, .inl (cy 1, 5, .inl tr_turns_1)), (a_tr_setsWith, .inl (cy 1, 5, .inl tr_setsWith_6))] ++ X) → va_S A s.heap H locs → ∀ ls : Array Slot, lv_has ls 2 [] → W p l e (headSpec wo_X10_findSets ({ frames := 4, cells := 0, slots := 0, locals := 81 })).room s m (([.ref a_tr] : List Value).toArray) below meth c H locs 0 0 (MQ below (va_Qv (fun (_ : Unit) => True) (wB D A ([(a_la, .inr (2, [.int la_lanes, .int la_deep, .int la_lanesTold, la_who, la_firstStrong, .int la_beasts, .ref a_la_kind, la_firstLane, .ref a_la_mood, la_price, .int la_cities, .int la_passes, la_passBetween, .int la_turned])), (a_la_kind, .inl (cy 1, 5, .inl la_kind)), (a_la_mood, .inl (cy 1, 5, .inl la_mood)), (a_no, .inr (8, [no_strong, .ref a_no_at, no_wounds, .int no_dead, .int no_wet, .int no_drawn])), (a_no_at, .inl (cy 1, 5, .inl no_at)), (a_od, .inr (4, [.ref a_la, .ref a_no])), (a_tr, .inr (10, [.ref a_la, .ref a_no, .ref a_od, .ref a_tr_turns, .ref a_tr_setsWith, .int tr_sets', .int tr_inSome', .int tr_inAll'])), (a_tr_turns, .inl (cy 1, 5, .inl tr_turns')), (a_tr_setsWith, .inl (cy 1, 5, .inl tr_setsWith'))] ++ X)) A) (([.ref a_tr] : List Value).toArray) s 0 0 A) (F0 m 131 ls [.int t1_7, .ref a_tr]) := by
        intro t1_7 h H locs hP hD hS ls hl
        unfold f_X10_findSets_B131 at h
        refine va_put (D := D) (ci := 10) (C := RX10) (T := TX10) (N := 8) (v := .int t1_7) (ty := .int) hx hb hX10 (fun _ q => q) tyX10 tyX10_ok nmX10 hown hK hP hD hS 6 rfl rfl 7 (by decide) (hts (.fieldLink RX10 62 "ElephantLine$Trumpets" "inAll" "I") (by decide +kernel)) (fun _ h9 => h9) rfl (tyX10_ok 7 (by decide)) rfl rfl (Nat.le_of_ble_eq_true rfl) dX10_findSets_131 (fun H locs hP hD hS => ?_)
        cases h
        exact W.vret hx hb hr (fun t ht _ => ⟨⟨(), rfl, trivial, by rw [ht]; exact hP, hD⟩, hS.F ht⟩) hS.2.2 dX10_findSets_134
      refine lv_if_ne (tgt := 127) hx hb dX10_findSets_120 (by decide) (fun cd => ?_) (fun cd => ?_)
      · have h := ifF cd h
        refine lv_aload_n hx hb dX10_findSets_127 rfl (lv_at hl 0 rfl) ?_
        refine va_get (D := D) (ci := 10) (C := RX10) (T := TX10) (N := 8) (v := .int tr_inAll_5) hx hb hX10 (fun _ q => q) hown hK hP 6 rfl rfl 7 (by decide) (hts (.fieldLink RX10 62 "ElephantLine$Trumpets" "inAll" "I") (by decide +kernel)) (fun _ h9 => h9) rfl dX10_findSets_128 ?_
        exact jn131 tr_inAll_5 h _ _ hP hD hS _ (lv_sub hl [] rfl)
      · have h := ifT cd h
        refine lv_iconst (v := 0) hx hb dX10_findSets_123 (by decide) ?_
        refine lv_goto (tgt := 131) hx hb dX10_findSets_124 (by decide) ?_
        exact jn131 (0 : Int32) h _ _ hP hD hS _ (lv_sub hl [] rfl)
    have lp64 : ∀ (n64 : Nat) (x1_8 : Int32) (tr_sets_9 : Int32) (tr_inSome_10 : Int32) (tr_inAll_11 : Int32) (tr_setsWith_12 : Nat → Int32), f_X10_findSets_L64 la_beasts la_turned la_kind la_mood no_dead no_wet no_at tr_turns_1 n64 x1_8 tr_sets_9 tr_inSome_10 tr_inAll_11 tr_setsWith_12 = some (tr_sets', tr_inSome', tr_inAll', tr_turns', tr_setsWith') → ∀ (H : Heap) (locs : List Loc), va_P D vwCl ([(a_la, .inr (2, [.int la_lanes, .int la_deep, .int la_lanesTold, la_who, la_firstStrong, .int la_beasts, .ref a_la_kind, la_firstLane, .ref a_la_mood, la_price, .int la_cities, .int la_passes, la_passBetween, .int la_turned])), (a_la_kind, .inl (cy 1, 5, .inl la_kind)), (a_la_mood, .inl (cy 1, 5, .inl la_mood)), (a_no, .inr (8, [no_strong, .ref a_no_at, no_wounds, .int no_dead, .int no_wet, .int no_drawn])), (a_no_at, .inl (cy 1, 5, .inl no_at)), (a_od, .inr (4, [.ref a_la, .ref a_no])), (a_tr, .inr (10, [.ref a_la, .ref a_no, .ref a_od, .ref a_tr_turns, .ref a_tr_setsWith, .int tr_sets_9, .int tr_inSome_10, .int tr_inAll_11])), (a_tr_turns, .inl (cy 1, 5, .inl tr_turns_1)), (a_tr_setsWith, .inl (cy 1, 5, .inl tr_setsWith_12))] ++ X) H → va_D A ([(a_la, .inr (2, [.int la_lanes, .int la_deep, .int la_lanesTold, la_who, la_firstStrong, .int la_beasts, .ref a_la_kind, la_firstLane, .ref a_la_mood, la_price, .int la_cities, .int la_passes, la_passBetween, .int la_turned])), (a_la_kind, .inl (cy 1, 5, .inl la_kind)), (a_la_mood, .inl (cy 1, 5, .inl la_mood)), (a_no, .inr (8, [no_strong, .ref a_no_at, no_wounds, .int no_dead, .int no_wet, .int no_drawn])), (a_no_at, .inl (cy 1, 5, .inl no_at)), (a_od, .inr (4, [.ref a_la, .ref a_no])), (a_tr, .inr (10, [.ref a_la, .ref a_no, .ref a_od, .ref a_tr_turns, .ref a_tr_setsWith, .int tr_sets_9, .int tr_inSome_10, .int tr_inAll_11])), (a_tr_turns, .inl (cy 1, 5, .inl tr_turns_1)), (a_tr_setsWith, .inl (cy 1, 5, .inl tr_setsWith_12))] ++ X) → va_S A s.heap H locs → ∀ ls : Array Slot, lv_has ls 2 [(0, .ref a_tr), (1, .int x1_8)] → W p l e (headSpec wo_X10_findSets ({ frames := 4, cells := 0, slots := 0, locals := 81 })).room s m (([.ref a_tr] : List Value).toArray) below meth c H locs 0 0 (MQ below (va_Qv (fun (_ : Unit) => True) (wB D A ([(a_la, .inr (2, [.int la_lanes, .int la_deep, .int la_lanesTold, la_who, la_firstStrong, .int la_beasts, .ref a_la_kind, la_firstLane, .ref a_la_mood, la_price, .int la_cities, .int la_passes, la_passBetween, .int la_turned])), (a_la_kind, .inl (cy 1, 5, .inl la_kind)), (a_la_mood, .inl (cy 1, 5, .inl la_mood)), (a_no, .inr (8, [no_strong, .ref a_no_at, no_wounds, .int no_dead, .int no_wet, .int no_drawn])), (a_no_at, .inl (cy 1, 5, .inl no_at)), (a_od, .inr (4, [.ref a_la, .ref a_no])), (a_tr, .inr (10, [.ref a_la, .ref a_no, .ref a_od, .ref a_tr_turns, .ref a_tr_setsWith, .int tr_sets', .int tr_inSome', .int tr_inAll'])), (a_tr_turns, .inl (cy 1, 5, .inl tr_turns')), (a_tr_setsWith, .inl (cy 1, 5, .inl tr_setsWith'))] ++ X)) A) (([.ref a_tr] : List Value).toArray) s 0 0 A) (F0 m 64 ls []) := by
      intro n64
      induction n64 with
      | zero => intro x1_8 tr_sets_9 tr_inSome_10 tr_inAll_11 tr_setsWith_12 h; exact absurd (show (none : Option (Int32 × Int32 × Int32 × (Nat → Int32) × (Nat → Int32))) = some _ from h) (by intro q; cases q)
      | succ n64 ih64 =>
        intro x1_8 tr_sets_9 tr_inSome_10 tr_inAll_11 tr_setsWith_12 h H locs hP hD hS ls hl
        have h : f_X10_findSets_b64 la_beasts la_turned la_kind la_mood no_dead no_wet no_at tr_turns_1 (f_X10_findSets_L64 la_beasts la_turned la_kind la_mood no_dead no_wet no_at tr_turns_1 n64) x1_8 tr_sets_9 tr_inSome_10 tr_inAll_11 tr_setsWith_12 = some (tr_sets', tr_inSome', tr_inAll', tr_turns', tr_setsWith') := h
        unfold f_X10_findSets_b64 at h
        refine lv_iload_n hx hb dX10_findSets_64 rfl (lv_at hl 1 rfl) ?_
        refine lv_iconst (v := 1) hx hb dX10_findSets_65 (by decide) ?_
        refine lv_aload_n hx hb dX10_findSets_66 rfl (lv_at hl 0 rfl) ?_
        refine va_get (D := D) (ci := 10) (C := RX10) (T := TX10) (N := 8) (v := .ref a_la) hx hb hX10 (fun _ q => q) hown hK hP 6 rfl rfl 0 (by decide) (hts (.fieldLink RX10 18 "ElephantLine$Trumpets" "land" "LElephantLine$Land;") (by decide +kernel)) (fun _ h9 => h9) rfl dX10_findSets_67 ?_
        refine va_getN (D := D) (ci := 2) (C := RX2) (T := TX2) (N := 14) (v := .int la_beasts) hx hb hX2 (fun _ q => q) hown hK hP 0 rfl rfl 5 (by decide) (va_Nw.use rfl (hKN.2.1.1 ("ElephantLine$Trumpets", 36, "ElephantLine$Land", "beasts", "I", "ElephantLine") (List.mem_of_getElem? (i := 15) rfl))) (fun _ h9 => h9) rfl dX10_findSets_70 ?_
        refine lv_ishl hx hb dX10_findSets_73 ?_
        refine lv_icmp_ge (tgt := 115) hx hb dX10_findSets_74 (by decide) (fun cd => ?_) (fun cd => ?_)
        · have h := ifT cd h
          exact jn115 tr_sets_9 tr_inSome_10 tr_inAll_11 tr_setsWith_12 h _ _ hP hD hS _ (lv_sub hl [0] rfl)
        · have h := ifF cd h
          refine lv_iload_n hx hb dX10_findSets_77 rfl (lv_at hl 1 rfl) ?_
          refine lv_aload_n hx hb dX10_findSets_78 rfl (lv_at hl 0 rfl) ?_
          refine va_get (D := D) (ci := 10) (C := RX10) (T := TX10) (N := 8) (v := .ref a_no) hx hb hX10 (fun _ q => q) hown hK hP 6 rfl rfl 1 (by decide) (hts (.fieldLink RX10 22 "ElephantLine$Trumpets" "now" "LElephantLine$Stand;") (by decide +kernel)) (fun _ h9 => h9) rfl dX10_findSets_79 ?_
          refine va_getN (D := D) (ci := 8) (C := RX8) (T := TX8) (N := 6) (v := .int no_dead) hx hb hX8 (fun _ q => q) hown hK hP 3 rfl rfl 3 (by decide) (va_Nw.use rfl (hKN.2.1.1 ("ElephantLine$Trumpets", 68, "ElephantLine$Stand", "dead", "I", "ElephantLine") (List.mem_of_getElem? (i := 51) rfl))) (fun _ h9 => h9) rfl dX10_findSets_82 ?_
          refine lv_iand hx hb dX10_findSets_85 ?_
          have jn109 : ∀ (tr_sets_13 : Int32) (tr_inSome_14 : Int32) (tr_inAll_15 : Int32) (tr_setsWith_16 : Nat → Int32), f_X10_findSets_B109 (f_X10_findSets_L64 la_beasts la_turned la_kind la_mood no_dead no_wet no_at tr_turns_1 n64) la_beasts la_turned la_kind la_mood no_dead no_wet no_at x1_8 tr_sets_13 tr_inSome_14 tr_inAll_15 tr_turns_1 tr_setsWith_16 = some (tr_sets', tr_inSome', tr_inAll', tr_turns', tr_setsWith') → ∀ (H : Heap) (locs : List Loc), va_P D vwCl ([(a_la, .inr (2, [.int la_lanes, .int la_deep, .int la_lanesTold, la_who, la_firstStrong, .int la_beasts, .ref a_la_kind, la_firstLane, .ref a_la_mood, la_price, .int la_cities, .int la_passes, la_passBetween, .int la_turned])), (a_la_kind, .inl (cy 1, 5, .inl la_kind)), (a_la_mood, .inl (cy 1, 5, .inl la_mood)), (a_no, .inr (8, [no_strong, .ref a_no_at, no_wounds, .int no_dead, .int no_wet, .int no_drawn])), (a_no_at, .inl (cy 1, 5, .inl no_at)), (a_od, .inr (4, [.ref a_la, .ref a_no])), (a_tr, .inr (10, [.ref a_la, .ref a_no, .ref a_od, .ref a_tr_turns, .ref a_tr_setsWith, .int tr_sets_13, .int tr_inSome_14, .int tr_inAll_15])), (a_tr_turns, .inl (cy 1, 5, .inl tr_turns_1)), (a_tr_setsWith, .inl (cy 1, 5, .inl tr_setsWith_16))] ++ X) H → va_D A ([(a_la, .inr (2, [.int la_lanes, .int la_deep, .int la_lanesTold, la_who, la_firstStrong, .int la_beasts, .ref a_la_kind, la_firstLane, .ref a_la_mood, la_price, .int la_cities, .int la_passes, la_passBetween, .int la_turned])), (a_la_kind, .inl (cy 1, 5, .inl la_kind)), (a_la_mood, .inl (cy 1, 5, .inl la_mood)), (a_no, .inr (8, [no_strong, .ref a_no_at, no_wounds, .int no_dead, .int no_wet, .int no_drawn])), (a_no_at, .inl (cy 1, 5, .inl no_at)), (a_od, .inr (4, [.ref a_la, .ref a_no])), (a_tr, .inr (10, [.ref a_la, .ref a_no, .ref a_od, .ref a_tr_turns, .ref a_tr_setsWith, .int tr_sets_13, .int tr_inSome_14, .int tr_inAll_15])), (a_tr_turns, .inl (cy 1, 5, .inl tr_turns_1)), (a_tr_setsWith, .inl (cy 1, 5, .inl tr_setsWith_16))] ++ X) → va_S A s.heap H locs → ∀ ls : Array Slot, lv_has ls 2 [(0, .ref a_tr), (1, .int x1_8)] → W p l e (headSpec wo_X10_findSets ({ frames := 4, cells := 0, slots := 0, locals := 81 })).room s m (([.ref a_tr] : List Value).toArray) below meth c H locs 0 0 (MQ below (va_Qv (fun (_ : Unit) => True) (wB D A ([(a_la, .inr (2, [.int la_lanes, .int la_deep, .int la_lanesTold, la_who, la_firstStrong, .int la_beasts, .ref a_la_kind, la_firstLane, .ref a_la_mood, la_price, .int la_cities, .int la_passes, la_passBetween, .int la_turned])), (a_la_kind, .inl (cy 1, 5, .inl la_kind)), (a_la_mood, .inl (cy 1, 5, .inl la_mood)), (a_no, .inr (8, [no_strong, .ref a_no_at, no_wounds, .int no_dead, .int no_wet, .int no_drawn])), (a_no_at, .inl (cy 1, 5, .inl no_at)), (a_od, .inr (4, [.ref a_la, .ref a_no])), (a_tr, .inr (10, [.ref a_la, .ref a_no, .ref a_od, .ref a_tr_turns, .ref a_tr_setsWith, .int tr_sets', .int tr_inSome', .int tr_inAll'])), (a_tr_turns, .inl (cy 1, 5, .inl tr_turns')), (a_tr_setsWith, .inl (cy 1, 5, .inl tr_setsWith'))] ++ X)) A) (([.ref a_tr] : List Value).toArray) s 0 0 A) (F0 m 109 ls []) := by
            intro tr_sets_13 tr_inSome_14 tr_inAll_15 tr_setsWith_16 h H locs hP hD hS ls hl
            unfold f_X10_findSets_B109 at h
            refine lv_iinc (v := x1_8 + 1) (lv' := [(1, .int (x1_8 + 1)), (0, .ref a_tr)]) hx hb dX10_findSets_109 hl (k := 1) rfl (by first | rfl | decide) (by decide) rfl (fun ls hl => ?_)
            refine lv_goto (tgt := 64) hx hb dX10_findSets_112 (by decide) ?_
            exact ih64 (x1_8 + 1) tr_sets_13 tr_inSome_14 tr_inAll_15 tr_setsWith_16 h _ _ hP hD hS _ (lv_sub hl [1, 0] rfl)
          refine lv_if_ne (tgt := 109) hx hb dX10_findSets_86 (by decide) (fun cd => ?_) (fun cd => ?_)
          · have h := ifF cd h
            exact jn109 tr_sets_9 tr_inSome_10 tr_inAll_11 tr_setsWith_12 h _ _ hP hD hS _ (lv_sub hl [0, 1] rfl)
          · have h := ifT cd h
            refine lv_aload_n hx hb dX10_findSets_89 rfl (lv_at hl 0 rfl) ?_
            refine lv_iload_n hx hb dX10_findSets_90 rfl (lv_at hl 1 rfl) ?_
            obtain ⟨r_17, hc_18, h⟩ := bd1_some h
            refine kVi [.int x1_8] [] ⟨hx, hb, hml, hown, hts⟩ (c_X10_turnBySet l D cy a_la a_tr a_tr_turns la_lanes la_deep la_lanesTold (la_who) (la_firstStrong) la_beasts (.ref a_la_kind) (la_firstLane) (.ref a_la_mood) (la_price) la_cities la_passes (la_passBetween) la_turned (.ref a_no) (.ref a_od) (.ref a_tr_setsWith) tr_sets_9 tr_inSome_10 tr_inAll_11 tr_turns_1 x1_8 r_17 hc_18) gX10_findSets_X10_turnBySet rfl hd_X10_turnBySet ⟨Nat.le_of_ble_eq_true rfl, Nat.le_of_ble_eq_true rfl⟩ rfl rfl hKN (pXc hP [0, 6, 7] rfl) 10 1 rfl rfl rfl hl.1 rfl (Nat.le_of_ble_eq_true rfl) dX10_findSets_91 ⟨Nat.le_of_ble_eq_true rfl, Nat.le_of_ble_eq_true rfl⟩ ?_
            refine lv_aload_n hx hb dX10_findSets_94 rfl (lv_at hl 0 rfl) ?_
            refine va_get (D := D) (ci := 10) (C := RX10) (T := TX10) (N := 8) (v := .ref a_la) hx hb hX10 (fun _ q => q) hown hK hP 6 rfl rfl 0 (by decide) (hts (.fieldLink RX10 18 "ElephantLine$Trumpets" "land" "LElephantLine$Land;") (by decide +kernel)) (fun _ h9 => h9) rfl dX10_findSets_95 ?_
            refine va_getN (D := D) (ci := 2) (C := RX2) (T := TX2) (N := 14) (v := .int la_turned) hx hb hX2 (fun _ q => q) hown hK hP 0 rfl rfl 13 (by decide) (va_Nw.use rfl (hKN.2.1.1 ("ElephantLine$Trumpets", 74, "ElephantLine$Land", "turned", "I", "ElephantLine") (List.mem_of_getElem? (i := 33) rfl))) (fun _ h9 => h9) rfl dX10_findSets_98 ?_
            refine lv_icmp_ne (tgt := 109) hx hb dX10_findSets_101 (by decide) (fun cd => ?_) (fun cd => ?_)
            · have h := ifF cd h
              exact jn109 tr_sets_9 tr_inSome_10 tr_inAll_11 tr_setsWith_12 h _ _ hP hD hS _ (lv_sub hl [0, 1] rfl)
            · have h := ifT cd h
              refine lv_aload_n hx hb dX10_findSets_104 rfl (lv_at hl 0 rfl) ?_
              refine lv_iload_n hx hb dX10_findSets_105 rfl (lv_at hl 1 rfl) ?_
              obtain ⟨tr_sets_19, tr_inSome_20, tr_inAll_21, tr_setsWith_22, hc_23, h⟩ := bd4_some h
              refine wVv [.int x1_8] [] ⟨hx, hb, hml, hown, hts⟩ (c_X10_count l D cy A ([(a_la_kind, .inl (cy 1, 5, .inl la_kind)), (a_la_mood, .inl (cy 1, 5, .inl la_mood)), (a_no, .inr (8, [no_strong, .ref a_no_at, no_wounds, .int no_dead, .int no_wet, .int no_drawn])), (a_no_at, .inl (cy 1, 5, .inl no_at)), (a_od, .inr (4, [.ref a_la, .ref a_no])), (a_tr_turns, .inl (cy 1, 5, .inl tr_turns_1))] ++ X) a_la a_tr a_tr_setsWith la_lanes la_deep la_lanesTold (la_who) (la_firstStrong) la_beasts (.ref a_la_kind) (la_firstLane) (.ref a_la_mood) (la_price) la_cities la_passes (la_passBetween) la_turned (.ref a_no) (.ref a_od) (.ref a_tr_turns) tr_sets_9 tr_inSome_10 tr_inAll_11 tr_setsWith_12 x1_8 tr_sets_19 tr_inSome_20 tr_inAll_21 tr_setsWith_22 hc_23) gX10_findSets_X10_count rfl hd_X10_count ⟨Nat.le_of_ble_eq_true rfl, Nat.le_of_ble_eq_true rfl⟩ rfl rfl hKN (pX3 hP [0, 6, 8, 1, 2, 3, 4, 5, 7] rfl) (dX3 hD [0, 6, 8, 1, 2, 3, 4, 5, 7] rfl rfl) hS hA 10 1 rfl rfl rfl hl.1 rfl (Nat.le_of_ble_eq_true rfl) dX10_findSets_106 ⟨Nat.le_of_ble_eq_true rfl, Nat.le_of_ble_eq_true rfl⟩ (fun H locs hP hD hS => ?_)
              have hP := pX4 (L1 := [(a_la, .inr (2, [.int la_lanes, .int la_deep, .int la_lanesTold, la_who, la_firstStrong, .int la_beasts, .ref a_la_kind, la_firstLane, .ref a_la_mood, la_price, .int la_cities, .int la_passes, la_passBetween, .int la_turned])), (a_la_kind, .inl (cy 1, 5, .inl la_kind)), (a_la_mood, .inl (cy 1, 5, .inl la_mood)), (a_no, .inr (8, [no_strong, .ref a_no_at, no_wounds, .int no_dead, .int no_wet, .int no_drawn])), (a_no_at, .inl (cy 1, 5, .inl no_at)), (a_od, .inr (4, [.ref a_la, .ref a_no])), (a_tr, .inr (10, [.ref a_la, .ref a_no, .ref a_od, .ref a_tr_turns, .ref a_tr_setsWith, .int tr_sets_19, .int tr_inSome_20, .int tr_inAll_21])), (a_tr_turns, .inl (cy 1, 5, .inl tr_turns_1)), (a_tr_setsWith, .inl (cy 1, 5, .inl tr_setsWith_22))]) hP [0, 3, 4, 5, 6, 7, 1, 8, 2] rfl
              have hD := dX4 (L1 := [(a_la, .inr (2, [.int la_lanes, .int la_deep, .int la_lanesTold, la_who, la_firstStrong, .int la_beasts, .ref a_la_kind, la_firstLane, .ref a_la_mood, la_price, .int la_cities, .int la_passes, la_passBetween, .int la_turned])), (a_la_kind, .inl (cy 1, 5, .inl la_kind)), (a_la_mood, .inl (cy 1, 5, .inl la_mood)), (a_no, .inr (8, [no_strong, .ref a_no_at, no_wounds, .int no_dead, .int no_wet, .int no_drawn])), (a_no_at, .inl (cy 1, 5, .inl no_at)), (a_od, .inr (4, [.ref a_la, .ref a_no])), (a_tr, .inr (10, [.ref a_la, .ref a_no, .ref a_od, .ref a_tr_turns, .ref a_tr_setsWith, .int tr_sets_19, .int tr_inSome_20, .int tr_inAll_21])), (a_tr_turns, .inl (cy 1, 5, .inl tr_turns_1)), (a_tr_setsWith, .inl (cy 1, 5, .inl tr_setsWith_22))]) hD [0, 3, 4, 5, 6, 7, 1, 8, 2] rfl rfl
              exact jn109 tr_sets_19 tr_inSome_20 tr_inAll_21 tr_setsWith_22 h _ _ hP hD hS _ (lv_sub hl [0, 1] rfl)
    exact lp64 fuelN (1 : Int32) (0 : Int32) (0 : Int32) (((1 : Int32) <<< (la_beasts &&& 31)) - 1) tr_setsWith_2 h _ _ hP hD hS _ (lv_sub hl [1, 0] rfl)
  have lp27 : ∀ (n27 : Nat) (x1_24 : Int32) (tr_turns_25 : Nat → Int32) (tr_setsWith_26 : Nat → Int32), f_X10_findSets_L27 la_beasts la_turned la_kind la_mood no_dead no_wet no_at 0 0 (((1 : Int32) <<< (la_beasts &&& 31)) - 1) n27 x1_24 tr_turns_25 tr_setsWith_26 = some (tr_sets', tr_inSome', tr_inAll', tr_turns', tr_setsWith') → ∀ (H : Heap) (locs : List Loc), va_P D vwCl ([(a_la, .inr (2, [.int la_lanes, .int la_deep, .int la_lanesTold, la_who, la_firstStrong, .int la_beasts, .ref a_la_kind, la_firstLane, .ref a_la_mood, la_price, .int la_cities, .int la_passes, la_passBetween, .int la_turned])), (a_la_kind, .inl (cy 1, 5, .inl la_kind)), (a_la_mood, .inl (cy 1, 5, .inl la_mood)), (a_no, .inr (8, [no_strong, .ref a_no_at, no_wounds, .int no_dead, .int no_wet, .int no_drawn])), (a_no_at, .inl (cy 1, 5, .inl no_at)), (a_od, .inr (4, [.ref a_la, .ref a_no])), (a_tr, .inr (10, [.ref a_la, .ref a_no, .ref a_od, .ref a_tr_turns, .ref a_tr_setsWith, .int 0, .int 0, .int (((1 : Int32) <<< (la_beasts &&& 31)) - 1)])), (a_tr_turns, .inl (cy 1, 5, .inl tr_turns_25)), (a_tr_setsWith, .inl (cy 1, 5, .inl tr_setsWith_26))] ++ X) H → va_D A ([(a_la, .inr (2, [.int la_lanes, .int la_deep, .int la_lanesTold, la_who, la_firstStrong, .int la_beasts, .ref a_la_kind, la_firstLane, .ref a_la_mood, la_price, .int la_cities, .int la_passes, la_passBetween, .int la_turned])), (a_la_kind, .inl (cy 1, 5, .inl la_kind)), (a_la_mood, .inl (cy 1, 5, .inl la_mood)), (a_no, .inr (8, [no_strong, .ref a_no_at, no_wounds, .int no_dead, .int no_wet, .int no_drawn])), (a_no_at, .inl (cy 1, 5, .inl no_at)), (a_od, .inr (4, [.ref a_la, .ref a_no])), (a_tr, .inr (10, [.ref a_la, .ref a_no, .ref a_od, .ref a_tr_turns, .ref a_tr_setsWith, .int 0, .int 0, .int (((1 : Int32) <<< (la_beasts &&& 31)) - 1)])), (a_tr_turns, .inl (cy 1, 5, .inl tr_turns_25)), (a_tr_setsWith, .inl (cy 1, 5, .inl tr_setsWith_26))] ++ X) → va_S A s.heap H locs → ∀ ls : Array Slot, lv_has ls 2 [(0, .ref a_tr), (1, .int x1_24)] → W p l e (headSpec wo_X10_findSets ({ frames := 4, cells := 0, slots := 0, locals := 81 })).room s m (([.ref a_tr] : List Value).toArray) below meth c H locs 0 0 (MQ below (va_Qv (fun (_ : Unit) => True) (wB D A ([(a_la, .inr (2, [.int la_lanes, .int la_deep, .int la_lanesTold, la_who, la_firstStrong, .int la_beasts, .ref a_la_kind, la_firstLane, .ref a_la_mood, la_price, .int la_cities, .int la_passes, la_passBetween, .int la_turned])), (a_la_kind, .inl (cy 1, 5, .inl la_kind)), (a_la_mood, .inl (cy 1, 5, .inl la_mood)), (a_no, .inr (8, [no_strong, .ref a_no_at, no_wounds, .int no_dead, .int no_wet, .int no_drawn])), (a_no_at, .inl (cy 1, 5, .inl no_at)), (a_od, .inr (4, [.ref a_la, .ref a_no])), (a_tr, .inr (10, [.ref a_la, .ref a_no, .ref a_od, .ref a_tr_turns, .ref a_tr_setsWith, .int tr_sets', .int tr_inSome', .int tr_inAll'])), (a_tr_turns, .inl (cy 1, 5, .inl tr_turns')), (a_tr_setsWith, .inl (cy 1, 5, .inl tr_setsWith'))] ++ X)) A) (([.ref a_tr] : List Value).toArray) s 0 0 A) (F0 m 27 ls []) := by
    intro n27
    induction n27 with
    | zero => intro x1_24 tr_turns_25 tr_setsWith_26 h; exact absurd (show (none : Option (Int32 × Int32 × Int32 × (Nat → Int32) × (Nat → Int32))) = some _ from h) (by intro q; cases q)
    | succ n27 ih27 =>
      intro x1_24 tr_turns_25 tr_setsWith_26 h H locs hP hD hS ls hl
      have h : f_X10_findSets_b27 la_beasts la_turned la_kind la_mood no_dead no_wet no_at 0 0 (((1 : Int32) <<< (la_beasts &&& 31)) - 1) (f_X10_findSets_L27 la_beasts la_turned la_kind la_mood no_dead no_wet no_at 0 0 (((1 : Int32) <<< (la_beasts &&& 31)) - 1) n27) x1_24 tr_turns_25 tr_setsWith_26 = some (tr_sets', tr_inSome', tr_inAll', tr_turns', tr_setsWith') := h
      unfold f_X10_findSets_b27 at h
      refine lv_iload_n hx hb dX10_findSets_27 rfl (lv_at hl 1 rfl) ?_
      refine lv_aload_n hx hb dX10_findSets_28 rfl (lv_at hl 0 rfl) ?_
      refine va_get (D := D) (ci := 10) (C := RX10) (T := TX10) (N := 8) (v := .ref a_la) hx hb hX10 (fun _ q => q) hown hK hP 6 rfl rfl 0 (by decide) (hts (.fieldLink RX10 18 "ElephantLine$Trumpets" "land" "LElephantLine$Land;") (by decide +kernel)) (fun _ h9 => h9) rfl dX10_findSets_29 ?_
      refine va_getN (D := D) (ci := 2) (C := RX2) (T := TX2) (N := 14) (v := .int la_beasts) hx hb hX2 (fun _ q => q) hown hK hP 0 rfl rfl 5 (by decide) (va_Nw.use rfl (hKN.2.1.1 ("ElephantLine$Trumpets", 36, "ElephantLine$Land", "beasts", "I", "ElephantLine") (List.mem_of_getElem? (i := 15) rfl))) (fun _ h9 => h9) rfl dX10_findSets_32 ?_
      refine lv_icmp_ge (tgt := 62) hx hb dX10_findSets_35 (by decide) (fun cd => ?_) (fun cd => ?_)
      · have h := ifT cd h
        exact jn62 tr_turns_25 tr_setsWith_26 h _ _ hP hD hS _ (lv_sub hl [0] rfl)
      · have h := ifF cd h
        refine lv_aload_n hx hb dX10_findSets_38 rfl (lv_at hl 0 rfl) ?_
        refine va_get (D := D) (ci := 10) (C := RX10) (T := TX10) (N := 8) (v := .ref a_tr_turns) hx hb hX10 (fun _ q => q) hown hK hP 6 rfl rfl 3 (by decide) (hts (.fieldLink RX10 9 "ElephantLine$Trumpets" "turns" "[I") (by decide +kernel)) (fun _ h9 => h9) rfl dX10_findSets_39 ?_
        refine lv_iload_n hx hb dX10_findSets_42 rfl (lv_at hl 1 rfl) ?_
        refine lv_aload_n hx hb dX10_findSets_43 rfl (lv_at hl 0 rfl) ?_
        refine lv_iload_n hx hb dX10_findSets_44 rfl (lv_at hl 1 rfl) ?_
        obtain ⟨r_27, hc_28, h⟩ := bd1_some h
        refine kVi [.int x1_24] [.int x1_24, .ref a_tr_turns] ⟨hx, hb, hml, hown, hts⟩ (c_X10_turnBy l D cy a_la a_la_kind a_la_mood a_no a_no_at a_od a_tr la_lanes la_deep la_lanesTold (la_who) (la_firstStrong) la_beasts (la_firstLane) (la_price) la_cities la_passes (la_passBetween) la_turned la_kind la_mood (no_strong) (no_wounds) no_dead no_wet no_drawn no_at (.ref a_tr_turns) (.ref a_tr_setsWith) 0 0 (((1 : Int32) <<< (la_beasts &&& 31)) - 1) x1_24 r_27 hc_28) gX10_findSets_X10_turnBy rfl hd_X10_turnBy ⟨Nat.le_of_ble_eq_true rfl, Nat.le_of_ble_eq_true rfl⟩ rfl rfl hKN (pXc hP [0, 1, 2, 3, 4, 5, 6] rfl) 10 6 rfl rfl rfl hl.1 rfl (Nat.le_of_ble_eq_true rfl) dX10_findSets_45 ⟨Nat.le_of_ble_eq_true rfl, Nat.le_of_ble_eq_true rfl⟩ ?_
        obtain ⟨i_29, h⟩ := gIn_some h
        refine va_iast hx hb hK hP hD hS 7 1 rfl rfl i_29 dX10_findSets_48 (fun H locs hP hD hS => ?_)
        refine lv_aload_n hx hb dX10_findSets_49 rfl (lv_at hl 0 rfl) ?_
        refine va_get (D := D) (ci := 10) (C := RX10) (T := TX10) (N := 8) (v := .ref a_tr_setsWith) hx hb hX10 (fun _ q => q) hown hK hP 6 rfl rfl 4 (by decide) (hts (.fieldLink RX10 15 "ElephantLine$Trumpets" "setsWith" "[I") (by decide +kernel)) (fun _ h9 => h9) rfl dX10_findSets_50 ?_
        refine lv_iload_n hx hb dX10_findSets_53 rfl (lv_at hl 1 rfl) ?_
        refine lv_iconst (v := 0) hx hb dX10_findSets_54 (by decide) ?_
        obtain ⟨i_30, h⟩ := gIn_some h
        refine va_iast hx hb hK hP hD hS 8 1 rfl rfl i_30 dX10_findSets_55 (fun H locs hP hD hS => ?_)
        refine lv_iinc (v := x1_24 + 1) (lv' := [(1, .int (x1_24 + 1)), (0, .ref a_tr)]) hx hb dX10_findSets_56 hl (k := 1) rfl (by first | rfl | decide) (by decide) rfl (fun ls hl => ?_)
        refine lv_goto (tgt := 27) hx hb dX10_findSets_59 (by decide) ?_
        exact ih27 (x1_24 + 1) (upd tr_turns_25 x1_24.toNatClampNeg r_27) (upd tr_setsWith_26 x1_24.toNatClampNeg 0) h _ _ hP hD hS _ (lv_sub hl [1, 0] rfl)
  exact lp27 fuelN (0 : Int32) tr_turns tr_setsWith h _ _ hP hD hS _ (lv_sub hl [1, 0] rfl)
