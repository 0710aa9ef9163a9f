theorem hd_X1_gainByOpening : yX1_gainByOpening.cls = RX1 ∧ yX1_gainByOpening.cls ≠ "java/lang/invoke/MethodHandle" ∧ yX1_gainByOpening.cls ≠ "java/lang/invoke/VarHandle" ∧ (parseMethodDescriptor yX1_gainByOpening.desc).map (fun d => d.parameters.length) = some 1 := by decide +kernel
set_option maxHeartbeats 4000000 in
set_option maxRecDepth 100000 in
theorem c_X1_gainByOpening (l : Launch) (D : va_G) (cy : Nat → ClassId) (a_la a_la_who a_la_kind a_la_mood a_no a_no_strong a_no_at a_no_wounds a_od a_ga : Nat) (la_lanes : Int32) (la_deep : Int32) (la_lanesTold : Int32) (la_firstStrong : Value) (la_beasts : Int32) (la_firstLane : Value) (la_price : Value) (la_cities : Int32) (la_passes : Int32) (la_passBetween : Value) (la_turned : Int32) (la_who : Nat → Int32) (la_kind : Nat → Int32) (la_mood : Nat → Int32) (no_dead : Int32) (no_wet : Int32) (no_drawn : Int32) (no_strong : Nat → Int32) (no_at : Nat → Int32) (no_wounds : Nat → Int32) (ga_worths : Value) (ga_worthInOpen : Int64) (p1 : Int32) (res : Int64) (h : f_X1_gainByOpening la_deep la_beasts la_who la_kind la_mood no_dead no_wet no_strong no_at no_wounds p1 = some (res)) : Met l yX1_gainByOpening wo_X1_gainByOpening ({ frames := 4, cells := 0, slots := 0, locals := 95 }) (roPc D cy [.ref a_ga, .int p1] [(a_la, .inr (2, [.int la_lanes, .int la_deep, .int la_lanesTold, .ref a_la_who, la_firstStrong, .int la_beasts, .ref a_la_kind, la_firstLane, .ref a_la_mood, la_price, .int la_cities, .int la_passes, la_passBetween, .int la_turned])), (a_la_who, .inl (cy 1, 6, .inl la_who)), (a_la_kind, .inl (cy 1, 5, .inl la_kind)), (a_la_mood, .inl (cy 1, 5, .inl la_mood)), (a_no, .inr (8, [.ref a_no_strong, .ref a_no_at, .ref a_no_wounds, .int no_dead, .int no_wet, .int no_drawn])), (a_no_strong, .inl (cy 1, 6, .inl no_strong)), (a_no_at, .inl (cy 1, 5, .inl no_at)), (a_no_wounds, .inl (cy 1, 5, .inl no_wounds)), (a_od, .inr (4, [.ref a_la, .ref a_no])), (a_ga, .inr (1, [.ref a_la, .ref a_no, .ref a_od, ga_worths, .long ga_worthInOpen]))]) (vp_Sl (fun r => r = res)) 0 0 (fun _ => False) := by
  refine Met.ofW (cc := cX1_gainByOpening) (maxL := 5) (ret := (some .long)) (by decide) rfl ?_
  intro p e s m args below meth c s₁ B hml hv
  obtain ⟨rfl, hP, hKN⟩ := hv
  have hK := hKN.1
  have hx := B.exec
  have hb := B.bytes
  have hr := B.returns
  have hts := wt_X1_gainByOpening hKN.2.2 (([.ref a_ga, .int p1] : List Value).toArray)
  have hown : s.vm.findClass RX1 = some m.cls := findClass_of_methodNamed B.named
  have hlocks := B.notSynchronized
  have hX1 := wc_X1 hKN.2.2 (([.ref a_ga, .int p1] : List Value).toArray)
  have hX2 := wc_X2 hKN.2.2 (([.ref a_ga, .int p1] : List Value).toArray)
  have hX8 := wc_X8 hKN.2.2 (([.ref a_ga, .int p1] : List Value).toArray)
  have hl := lv_entry ([.ref a_ga, .int p1]) (n := 5) (Nat.le_of_ble_eq_true rfl)
  rw [lg_entry_eq]
  generalize (lg_sl ([.ref a_ga, .int p1]) ++ List.replicate (5 - (lg_sl ([.ref a_ga, .int p1])).length) Slot.unset).toArray = ls at hl ⊢
  have hl : lv_has ls 5 [(0, .ref a_ga), (1, .int p1)] := hl
  unfold f_X1_gainByOpening at h
  refine lv_lconst (v := 0) hx hb dX1_gainByOpening_0 (by decide) ?_
  refine lv_lstore_n (lv' := [(2, .long 0), (0, .ref a_ga), (1, .int p1)]) hx hb dX1_gainByOpening_1 rfl hl (by decide) rfl (fun ls hl => ?_)
  refine lv_iconst (v := 0) hx hb dX1_gainByOpening_2 (by decide) ?_
  refine lv_istore (lv' := [(4, .int 0), (2, .long 0), (0, .ref a_ga), (1, .int p1)]) hx hb dX1_gainByOpening_3 hl (by decide) rfl (fun ls hl => ?_)
  have lp5 : ∀ (n5 : Nat) (x2_1 : Int64) (x4_2 : Int32), f_X1_gainByOpening_L5 la_deep la_beasts la_who la_kind la_mood no_dead no_wet no_strong no_at no_wounds p1 n5 x2_1 x4_2 = some (res) → ∀ ls : Array Slot, lv_has ls 5 [(0, .ref a_ga), (1, .int p1), (2, .long x2_1), (4, .int x4_2)] → W p l e (headSpec wo_X1_gainByOpening ({ frames := 4, cells := 0, slots := 0, locals := 95 })).room s m (([.ref a_ga, .int p1] : List Value).toArray) below meth c s.heap [] 0 0 (MQ below (vp_Sl (fun r => r = res)) (([.ref a_ga, .int p1] : List Value).toArray) s 0 0 (fun _ => False)) (F0 m 5 ls []) := by
    intro n5
    induction n5 with
    | zero => intro x2_1 x4_2 h; exact absurd (show (none : Option (Int64)) = some _ from h) (by intro q; cases q)
    | succ n5 ih5 =>
      intro x2_1 x4_2 h ls hl
      have h : f_X1_gainByOpening_b5 la_deep la_beasts la_who la_kind la_mood no_dead no_wet no_strong no_at no_wounds p1 (f_X1_gainByOpening_L5 la_deep la_beasts la_who la_kind la_mood no_dead no_wet no_strong no_at no_wounds p1 n5) x2_1 x4_2 = some (res) := h
      unfold f_X1_gainByOpening_b5 at h
      refine lv_iload hx hb dX1_gainByOpening_5 (lv_at hl 3 rfl) ?_
      refine lv_aload_n hx hb dX1_gainByOpening_7 rfl (lv_at hl 0 rfl) ?_
      refine va_get (D := D) (ci := 1) (C := RX1) (T := TX1) (N := 5) (v := .ref a_la) hx hb hX1 (fun _ q => q) hown hK hP 9 rfl rfl 0 (by decide) (hts (.fieldLink RX1 15 "ElephantLine$Game" "land" "LElephantLine$Land;") (by decide +kernel)) (fun _ h9 => h9) rfl dX1_gainByOpening_8 ?_
      refine va_getN (D := D) (ci := 2) (C := RX2) (T := TX2) (N := 14) (v := .int la_beasts) hx hb hX2 (fun _ q => q) hown hK hP 0 rfl rfl 5 (by decide) (va_Nw.use rfl (hKN.2.1.1 ("ElephantLine$Game", 27, "ElephantLine$Land", "beasts", "I", "ElephantLine") (List.mem_of_getElem? (i := 14) rfl))) (fun _ h9 => h9) rfl dX1_gainByOpening_11 ?_
      refine lv_icmp_ge (tgt := 60) hx hb dX1_gainByOpening_14 (by decide) (fun cd => ?_) (fun cd => ?_)
      · have h := ifT cd h
        refine lv_lload_n hx hb dX1_gainByOpening_60 rfl (lv_at hl 2 rfl) ?_
        exact W.lret (v := x2_1) hx hb hr (fun t ht _ => ⟨_, rfl, Option.some.inj h, ht⟩) (fun _ q => by cases q) dX1_gainByOpening_61
      · have h := ifF cd h
        refine lv_aload_n hx hb dX1_gainByOpening_17 rfl (lv_at hl 0 rfl) ?_
        refine va_get (D := D) (ci := 1) (C := RX1) (T := TX1) (N := 5) (v := .ref a_no) hx hb hX1 (fun _ q => q) hown hK hP 9 rfl rfl 1 (by decide) (hts (.fieldLink RX1 19 "ElephantLine$Game" "now" "LElephantLine$Stand;") (by decide +kernel)) (fun _ h9 => h9) rfl dX1_gainByOpening_18 ?_
        refine va_getN (D := D) (ci := 8) (C := RX8) (T := TX8) (N := 6) (v := .ref a_no_at) hx hb hX8 (fun _ q => q) hown hK hP 4 rfl rfl 1 (by decide) (va_Nw.use rfl (hKN.2.1.1 ("ElephantLine$Game", 33, "ElephantLine$Stand", "at", "[I", "ElephantLine") (List.mem_of_getElem? (i := 44) rfl))) (fun _ h9 => h9) rfl dX1_gainByOpening_21 ?_
        refine lv_iload hx hb dX1_gainByOpening_24 (lv_at hl 3 rfl) ?_
        obtain ⟨i_3, h⟩ := gIn_some h
        refine va_iald hx hb hK hP 6 1 rfl rfl i_3 dX1_gainByOpening_26 ?_
        refine lv_iload_n hx hb dX1_gainByOpening_27 rfl (lv_at hl 1 rfl) ?_
        have jn54 : ∀ (x2_4 : Int64), f_X1_gainByOpening_B54 (f_X1_gainByOpening_L5 la_deep la_beasts la_who la_kind la_mood no_dead no_wet no_strong no_at no_wounds p1 n5) la_deep la_beasts la_who la_kind la_mood no_dead no_wet no_strong no_at no_wounds p1 x2_4 x4_2 = some (res) → ∀ ls : Array Slot, lv_has ls 5 [(0, .ref a_ga), (1, .int p1), (2, .long x2_4), (4, .int x4_2)] → W p l e (headSpec wo_X1_gainByOpening ({ frames := 4, cells := 0, slots := 0, locals := 95 })).room s m (([.ref a_ga, .int p1] : List Value).toArray) below meth c s.heap [] 0 0 (MQ below (vp_Sl (fun r => r = res)) (([.ref a_ga, .int p1] : List Value).toArray) s 0 0 (fun _ => False)) (F0 m 54 ls []) := by
          intro x2_4 h ls hl
          unfold f_X1_gainByOpening_B54 at h
          refine lv_iinc (v := x4_2 + 1) (lv' := [(4, .int (x4_2 + 1)), (0, .ref a_ga), (1, .int p1), (2, .long x2_4)]) hx hb dX1_gainByOpening_54 hl (k := 3) rfl (by first | rfl | decide) (by decide) rfl (fun ls hl => ?_)
          refine lv_goto (tgt := 5) hx hb dX1_gainByOpening_57 (by decide) ?_
          exact ih5 x2_4 (x4_2 + 1) h _ (lv_sub hl [1, 2, 3, 0] rfl)
        refine lv_icmp_ne (tgt := 54) hx hb dX1_gainByOpening_28 (by decide) (fun cd => ?_) (fun cd => ?_)
        · have h := ifF cd h
          exact jn54 x2_1 h _ (lv_sub hl [0, 1, 2, 3] rfl)
        · have h := ifT cd h
          refine lv_lload_n hx hb dX1_gainByOpening_31 rfl (lv_at hl 2 rfl) ?_
          refine lv_aload_n hx hb dX1_gainByOpening_32 rfl (lv_at hl 0 rfl) ?_
          refine va_get (D := D) (ci := 1) (C := RX1) (T := TX1) (N := 5) (v := .ref a_od) hx hb hX1 (fun _ q => q) hown hK hP 9 rfl rfl 2 (by decide) (hts (.fieldLink RX1 23 "ElephantLine$Game" "odds" "LElephantLine$Odds;") (by decide +kernel)) (fun _ h9 => h9) rfl dX1_gainByOpening_33 ?_
          refine lv_iload hx hb dX1_gainByOpening_36 (lv_at hl 3 rfl) ?_
          obtain ⟨r_5, hc_6, h⟩ := bd1_some h
          refine kVl [.int x4_2] [.long x2_1] ⟨hx, hb, hml, hown, hts⟩ (c_X4_worthInOpen l D cy a_la a_la_kind a_la_mood a_no a_no_wounds a_od la_lanes la_deep la_lanesTold (.ref a_la_who) (la_firstStrong) la_beasts (la_firstLane) (la_price) la_cities la_passes (la_passBetween) la_turned la_kind la_mood (.ref a_no_strong) (.ref a_no_at) no_dead no_wet no_drawn no_wounds x4_2 r_5 hc_6) gX1_gainByOpening_X4_worthInOpen rfl hd_X4_worthInOpen ⟨Nat.le_of_ble_eq_true rfl, Nat.le_of_ble_eq_true rfl⟩ rfl rfl hKN (hP.sub [0, 2, 3, 4, 7, 8] rfl) 4 5 rfl rfl rfl hl.1 rfl (Nat.le_of_ble_eq_true rfl) dX1_gainByOpening_38 ⟨Nat.le_of_ble_eq_true rfl, Nat.le_of_ble_eq_true rfl⟩ ?_
          refine lv_aload_n hx hb dX1_gainByOpening_41 rfl (lv_at hl 0 rfl) ?_
          refine va_get (D := D) (ci := 1) (C := RX1) (T := TX1) (N := 5) (v := .ref a_od) hx hb hX1 (fun _ q => q) hown hK hP 9 rfl rfl 2 (by decide) (hts (.fieldLink RX1 23 "ElephantLine$Game" "odds" "LElephantLine$Odds;") (by decide +kernel)) (fun _ h9 => h9) rfl dX1_gainByOpening_42 ?_
          refine lv_iload hx hb dX1_gainByOpening_45 (lv_at hl 3 rfl) ?_
          refine lv_iload_n hx hb dX1_gainByOpening_47 rfl (lv_at hl 1 rfl) ?_
          obtain ⟨r_7, hc_8, h⟩ := bd1_some h
          refine kVl [.int x4_2, .int p1] [.long r_5, .long x2_1] ⟨hx, hb, hml, hown, hts⟩ (c_X4_worthIn l D cy a_la a_la_who a_la_kind a_la_mood a_no a_no_strong a_no_wounds a_od la_lanes la_deep la_lanesTold (la_firstStrong) la_beasts (la_firstLane) (la_price) la_cities la_passes (la_passBetween) la_turned la_who la_kind la_mood (.ref a_no_at) no_dead no_wet no_drawn no_strong no_wounds x4_2 p1 r_7 hc_8) gX1_gainByOpening_X4_worthIn rfl hd_X4_worthIn ⟨Nat.le_of_ble_eq_true rfl, Nat.le_of_ble_eq_true rfl⟩ rfl rfl hKN (hP.sub [0, 1, 2, 3, 4, 5, 7, 8] rfl) 4 7 rfl rfl rfl hl.1 rfl (Nat.le_of_ble_eq_true rfl) dX1_gainByOpening_48 ⟨Nat.le_of_ble_eq_true rfl, Nat.le_of_ble_eq_true rfl⟩ ?_
          refine lv_lsub hx hb dX1_gainByOpening_51 ?_
          refine lv_ladd hx hb dX1_gainByOpening_52 ?_
          refine lv_lstore_n (lv' := [(2, .long (x2_1 + (r_5 - r_7))), (0, .ref a_ga), (1, .int p1), (4, .int x4_2)]) hx hb dX1_gainByOpening_53 rfl hl (by decide) rfl (fun ls hl => ?_)
          exact jn54 (x2_1 + (r_5 - r_7)) h _ (lv_sub hl [1, 2, 0, 3] rfl)
  exact lp5 fuelN (0 : Int64) (0 : Int32) h _ (lv_sub hl [2, 3, 1, 0] rfl)
theorem hd_X1_laneBestOpened : yX1_laneBestOpened.cls = RX1 ∧ yX1_laneBestOpened.cls ≠ "java/lang/invoke/MethodHandle" ∧ yX1_laneBestOpened.cls ≠ "java/lang/invoke/VarHandle" ∧ (parseMethodDescriptor yX1_laneBestOpened.desc).map (fun d => d.parameters.length) = some 0 := by decide +kernel
set_option maxHeartbeats 4000000 in
set_option maxRecDepth 100000 in
theorem c_X1_laneBestOpened (l : Launch) (D : va_G) (cy : Nat → ClassId) (a_la a_la_who a_la_kind a_la_mood a_no a_no_strong a_no_at a_no_wounds a_od a_ga : Nat) (la_lanes : Int32) (la_deep : Int32) (la_lanesTold : Int32) (la_firstStrong : Value) (la_beasts : Int32) (la_firstLane : Value) (la_price : Value) (la_cities : Int32) (la_passes : Int32) (la_passBetween : Value) (la_turned : Int32) (la_who : Nat → Int32) (la_kind : Nat → Int32) (la_mood : Nat → Int32) (no_dead : Int32) (no_wet : Int32) (no_drawn : Int32) (no_strong : Nat → Int32) (no_at : Nat → Int32) (no_wounds : Nat → Int32) (ga_worths : Value) (ga_worthInOpen : Int64) (res : Int32) (h : f_X1_laneBestOpened la_lanes la_deep la_beasts la_who la_kind la_mood no_dead no_wet no_strong no_at no_wounds = some (res)) : Met l yX1_laneBestOpened wo_X1_laneBestOpened ({ frames := 5, cells := 0, slots := 0, locals := 119 }) (roPc D cy [.ref a_ga] [(a_la, .inr (2, [.int la_lanes, .int la_deep, .int la_lanesTold, .ref a_la_who, la_firstStrong, .int la_beasts, .ref a_la_kind, la_firstLane, .ref a_la_mood, la_price, .int la_cities, .int la_passes, la_passBetween, .int la_turned])), (a_la_who, .inl (cy 1, 6, .inl la_who)), (a_la_kind, .inl (cy 1, 5, .inl la_kind)), (a_la_mood, .inl (cy 1, 5, .inl la_mood)), (a_no, .inr (8, [.ref a_no_strong, .ref a_no_at, .ref a_no_wounds, .int no_dead, .int no_wet, .int no_drawn])), (a_no_strong, .inl (cy 1, 6, .inl no_strong)), (a_no_at, .inl (cy 1, 5, .inl no_at)), (a_no_wounds, .inl (cy 1, 5, .inl no_wounds)), (a_od, .inr (4, [.ref a_la, .ref a_no])), (a_ga, .inr (1, [.ref a_la, .ref a_no, .ref a_od, ga_worths, .long ga_worthInOpen]))]) (vp_Si (fun r => r = res)) 0 0 (fun _ => False) := by
  refine Met.ofW (cc := cX1_laneBestOpened) (maxL := 7) (ret := (some .int)) (by decide) rfl ?_
  intro p e s m args below meth c s₁ B hml hv
  obtain ⟨rfl, hP, hKN⟩ := hv
  have hK := hKN.1
  have hx := B.exec
  have hb := B.bytes
  have hr := B.returns
  have hts := wt_X1_laneBestOpened hKN.2.2 (([.ref a_ga] : List Value).toArray)
  have hown : s.vm.findClass RX1 = some m.cls := findClass_of_methodNamed B.named
  have hlocks := B.notSynchronized
  have hX1 := wc_X1 hKN.2.2 (([.ref a_ga] : List Value).toArray)
  have hX2 := wc_X2 hKN.2.2 (([.ref a_ga] : List Value).toArray)
  have hl := lv_entry ([.ref a_ga]) (n := 7) (Nat.le_of_ble_eq_true rfl)
  rw [lg_entry_eq]
  generalize (lg_sl ([.ref a_ga]) ++ List.replicate (7 - (lg_sl ([.ref a_ga])).length) Slot.unset).toArray = ls at hl ⊢
  have hl : lv_has ls 7 [(0, .ref a_ga)] := hl
  unfold f_X1_laneBestOpened at h
  refine lv_bipush (v := (-2)) hx hb dX1_laneBestOpened_0 (by decide) ?_
  refine lv_istore_n (lv' := [(1, .int (-2)), (0, .ref a_ga)]) hx hb dX1_laneBestOpened_2 rfl hl (by decide) rfl (fun ls hl => ?_)
  refine lv_lconst (v := 0) hx hb dX1_laneBestOpened_3 (by decide) ?_
  refine lv_lstore_n (lv' := [(2, .long 0), (1, .int (-2)), (0, .ref a_ga)]) hx hb dX1_laneBestOpened_4 rfl hl (by decide) rfl (fun ls hl => ?_)
  refine lv_iconst (v := 0) hx hb dX1_laneBestOpened_5 (by decide) ?_
  refine lv_istore (lv' := [(4, .int 0), (2, .long 0), (1, .int (-2)), (0, .ref a_ga)]) hx hb dX1_laneBestOpened_6 hl (by decide) rfl (fun ls hl => ?_)
  have lp8 : ∀ (n8 : Nat) (x1_1 : Int32) (x2_2 : Int64) (x4_3 : Int32), f_X1_laneBestOpened_L8 la_lanes la_deep la_beasts la_who la_kind la_mood no_dead no_wet no_strong no_at no_wounds n8 x1_1 x2_2 x4_3 = some (res) → ∀ ls : Array Slot, lv_has ls 7 [(0, .ref a_ga), (1, .int x1_1), (2, .long x2_2), (4, .int x4_3)] → W p l e (headSpec wo_X1_laneBestOpened ({ frames := 5, cells := 0, slots := 0, locals := 119 })).room s m (([.ref a_ga] : List Value).toArray) below meth c s.heap [] 0 0 (MQ below (vp_Si (fun r => r = res)) (([.ref a_ga] : List Value).toArray) s 0 0 (fun _ => False)) (F0 m 8 ls []) := by
    intro n8
    induction n8 with
    | zero => intro x1_1 x2_2 x4_3 h; exact absurd (show (none : Option (Int32)) = some _ from h) (by intro q; cases q)
    | succ n8 ih8 =>
      intro x1_1 x2_2 x4_3 h ls hl
      have h : f_X1_laneBestOpened_b8 la_lanes la_deep la_beasts la_who la_kind la_mood no_dead no_wet no_strong no_at no_wounds (f_X1_laneBestOpened_L8 la_lanes la_deep la_beasts la_who la_kind la_mood no_dead no_wet no_strong no_at no_wounds n8) x1_1 x2_2 x4_3 = some (res) := h
      unfold f_X1_laneBestOpened_b8 at h
      refine lv_iload hx hb dX1_laneBestOpened_8 (lv_at hl 3 rfl) ?_
      refine lv_aload_n hx hb dX1_laneBestOpened_10 rfl (lv_at hl 0 rfl) ?_
      refine va_get (D := D) (ci := 1) (C := RX1) (T := TX1) (N := 5) (v := .ref a_la) hx hb hX1 (fun _ q => q) hown hK hP 9 rfl rfl 0 (by decide) (hts (.fieldLink RX1 15 "ElephantLine$Game" "land" "LElephantLine$Land;") (by decide +kernel)) (fun _ h9 => h9) rfl dX1_laneBestOpened_11 ?_
      refine va_getN (D := D) (ci := 2) (C := RX2) (T := TX2) (N := 14) (v := .int la_lanes) hx hb hX2 (fun _ q => q) hown hK hP 0 rfl rfl 0 (by decide) (va_Nw.use rfl (hKN.2.1.1 ("ElephantLine$Game", 49, "ElephantLine$Land", "lanes", "I", "ElephantLine") (List.mem_of_getElem? (i := 1) rfl))) (fun _ h9 => h9) rfl dX1_laneBestOpened_14 ?_
      refine lv_icmp_ge (tgt := 47) hx hb dX1_laneBestOpened_17 (by decide) (fun cd => ?_) (fun cd => ?_)
      · have h := ifT cd h
        refine lv_iload_n hx hb dX1_laneBestOpened_47 rfl (lv_at hl 1 rfl) ?_
        exact W.iret (v := x1_1) hx hb hr (fun t ht _ => ⟨_, rfl, Option.some.inj h, ht⟩) (fun _ q => by cases q) dX1_laneBestOpened_48
      · have h := ifF cd h
        refine lv_aload_n hx hb dX1_laneBestOpened_20 rfl (lv_at hl 0 rfl) ?_
        refine lv_iload hx hb dX1_laneBestOpened_21 (lv_at hl 3 rfl) ?_
        obtain ⟨r_4, hc_5, h⟩ := bd1_some h
        refine kVl [.int x4_3] [] ⟨hx, hb, hml, hown, hts⟩ (c_X1_gainByOpening l D cy a_la a_la_who a_la_kind a_la_mood a_no a_no_strong a_no_at a_no_wounds a_od a_ga la_lanes la_deep la_lanesTold (la_firstStrong) la_beasts (la_firstLane) (la_price) la_cities la_passes (la_passBetween) la_turned la_who la_kind la_mood no_dead no_wet no_drawn no_strong no_at no_wounds (ga_worths) ga_worthInOpen x4_3 r_4 hc_5) gX1_laneBestOpened_X1_gainByOpening rfl hd_X1_gainByOpening ⟨Nat.le_of_ble_eq_true rfl, Nat.le_of_ble_eq_true rfl⟩ rfl rfl hKN (hP.sub [0, 1, 2, 3, 4, 5, 6, 7, 8, 9] rfl) 1 9 rfl rfl rfl hl.1 rfl (Nat.le_of_ble_eq_true rfl) dX1_laneBestOpened_23 ⟨Nat.le_of_ble_eq_true rfl, Nat.le_of_ble_eq_true rfl⟩ ?_
        refine lv_lstore (lv' := [(5, .long r_4), (0, .ref a_ga), (1, .int x1_1), (2, .long x2_2), (4, .int x4_3)]) hx hb dX1_laneBestOpened_26 hl (by decide) rfl (fun ls hl => ?_)
        refine lv_lload hx hb dX1_laneBestOpened_28 (lv_at hl 0 rfl) ?_
        refine lv_lload_n hx hb dX1_laneBestOpened_30 rfl (lv_at hl 3 rfl) ?_
        refine W.lcmp hx hb dX1_laneBestOpened_31 ?_
        have jn41 : ∀ (x1_6 : Int32) (x2_7 : Int64), f_X1_laneBestOpened_B41 (f_X1_laneBestOpened_L8 la_lanes la_deep la_beasts la_who la_kind la_mood no_dead no_wet no_strong no_at no_wounds n8) la_lanes la_deep la_beasts la_who la_kind la_mood no_dead no_wet no_strong no_at no_wounds x1_6 x2_7 x4_3 = some (res) → ∀ ls : Array Slot, lv_has ls 7 [(0, .ref a_ga), (1, .int x1_6), (2, .long x2_7), (4, .int x4_3)] → W p l e (headSpec wo_X1_laneBestOpened ({ frames := 5, cells := 0, slots := 0, locals := 119 })).room s m (([.ref a_ga] : List Value).toArray) below meth c s.heap [] 0 0 (MQ below (vp_Si (fun r => r = res)) (([.ref a_ga] : List Value).toArray) s 0 0 (fun _ => False)) (F0 m 41 ls []) := by
          intro x1_6 x2_7 h ls hl
          unfold f_X1_laneBestOpened_B41 at h
          refine lv_iinc (v := x4_3 + 1) (lv' := [(4, .int (x4_3 + 1)), (0, .ref a_ga), (1, .int x1_6), (2, .long x2_7)]) hx hb dX1_laneBestOpened_41 hl (k := 3) rfl (by first | rfl | decide) (by decide) rfl (fun ls hl => ?_)
          refine lv_goto (tgt := 8) hx hb dX1_laneBestOpened_44 (by decide) ?_
          exact ih8 x1_6 x2_7 (x4_3 + 1) h _ (lv_sub hl [1, 2, 3, 0] rfl)
        refine lv_if_ge (tgt := 41) hx hb dX1_laneBestOpened_32 (by decide) (fun cd => ?_) (fun cd => ?_)
        · have cd := (lgc_ge _ _).mp cd
          have h := ifT cd h
          exact jn41 x1_1 x2_2 h _ (lv_sub hl [1, 2, 3, 4] rfl)
        · have cd := fun q => cd ((lgc_ge _ _).mpr q)
          have h := ifF cd h
          refine lv_iload hx hb dX1_laneBestOpened_35 (lv_at hl 4 rfl) ?_
          refine lv_istore_n (lv' := [(1, .int x4_3), (5, .long r_4), (0, .ref a_ga), (2, .long x2_2), (4, .int x4_3)]) hx hb dX1_laneBestOpened_37 rfl hl (by decide) rfl (fun ls hl => ?_)
          refine lv_lload hx hb dX1_laneBestOpened_38 (lv_at hl 1 rfl) ?_
          refine lv_lstore_n (lv' := [(2, .long r_4), (1, .int x4_3), (5, .long r_4), (0, .ref a_ga), (4, .int x4_3)]) hx hb dX1_laneBestOpened_40 rfl hl (by decide) rfl (fun ls hl => ?_)
          exact jn41 x4_3 r_4 h _ (lv_sub hl [3, 1, 0, 4] rfl)
  exact lp8 fuelN ((-2) : Int32) (0 : Int64) (0 : Int32) h _ (lv_sub hl [3, 2, 1, 0] rfl)
theorem hd_X1_weigh : yX1_weigh.cls = RX1 ∧ yX1_weigh.cls ≠ "java/lang/invoke/MethodHandle" ∧ yX1_weigh.cls ≠ "java/lang/invoke/VarHandle" ∧ (parseMethodDescriptor yX1_weigh.desc).map (fun d => d.parameters.length) = some 1 := by decide +kernel
set_option maxHeartbeats 4000000 in
set_option maxRecDepth 100000 in
theorem c_X1_weigh (l : Launch) (D : va_G) (cy : Nat → ClassId) (A : Nat → Prop) (X : va_W) (a_la a_la_who a_la_kind a_la_mood a_no a_no_strong a_no_wounds a_od a_ga a_ga_worths : Nat) (la_lanes : Int32) (la_deep : Int32) (la_lanesTold : Int32) (la_firstStrong : Value) (la_beasts : Int32) (la_firstLane : Value) (la_price : Value) (la_cities : Int32) (la_passes : Int32) (la_passBetween : Value) (la_turned : Int32) (la_who : Nat → Int32) (la_kind : Nat → Int32) (la_mood : Nat → Int32) (no_at : Value) (no_dead : Int32) (no_wet : Int32) (no_drawn : Int32) (no_strong : Nat → Int32) (no_wounds : Nat → Int32) (ga_now : Value) (ga_worthInOpen : Int64) (ga_worths : Nat → Int64) (p1 : Int32) (ga_worthInOpen' : Int64) (ga_worths' : Nat → Int64) (h : f_X1_weigh la_lanes la_deep la_who la_kind la_mood no_dead no_wet no_strong no_wounds ga_worthInOpen ga_worths p1 = some (ga_worthInOpen', ga_worths')) : Met l yX1_weigh wo_X1_weigh ({ frames := 4, cells := 0, slots := 0, locals := 95 }) (wrPc D cy A [.ref a_ga, .int p1] ([(a_la, .inr (2, [.int la_lanes, .int la_deep, .int la_lanesTold, .ref a_la_who, la_firstStrong, .int la_beasts, .ref a_la_kind, la_firstLane, .ref a_la_mood, la_price, .int la_cities, .int la_passes, la_passBetween, .int la_turned])), (a_la_who, .inl (cy 1, 6, .inl la_who)), (a_la_kind, .inl (cy 1, 5, .inl la_kind)), (a_la_mood, .inl (cy 1, 5, .inl la_mood)), (a_no, .inr (8, [.ref a_no_strong, no_at, .ref a_no_wounds, .int no_dead, .int no_wet, .int no_drawn])), (a_no_strong, .inl (cy 1, 6, .inl no_strong)), (a_no_wounds, .inl (cy 1, 5, .inl no_wounds)), (a_od, .inr (4, [.ref a_la, .ref a_no])), (a_ga, .inr (1, [.ref a_la, ga_now, .ref a_od, .ref a_ga_worths, .long ga_worthInOpen])), (a_ga_worths, .inl (cy 2, 6, .inr (.inl ga_worths)))] ++ X)) (va_Qv (fun (_ : Unit) => True) (wB D A ([(a_la, .inr (2, [.int la_lanes, .int la_deep, .int la_lanesTold, .ref a_la_who, la_firstStrong, .int la_beasts, .ref a_la_kind, la_firstLane, .ref a_la_mood, la_price, .int la_cities, .int la_passes, la_passBetween, .int la_turned])), (a_la_who, .inl (cy 1, 6, .inl la_who)), (a_la_kind, .inl (cy 1, 5, .inl la_kind)), (a_la_mood, .inl (cy 1, 5, .inl la_mood)), (a_no, .inr (8, [.ref a_no_strong, no_at, .ref a_no_wounds, .int no_dead, .int no_wet, .int no_drawn])), (a_no_strong, .inl (cy 1, 6, .inl no_strong)), (a_no_wounds, .inl (cy 1, 5, .inl no_wounds)), (a_od, .inr (4, [.ref a_la, .ref a_no])), (a_ga, .inr (1, [.ref a_la, ga_now, .ref a_od, .ref a_ga_worths, .long ga_worthInOpen'])), (a_ga_worths, .inl (cy 2, 6, .inr (.inl ga_worths')))] ++ X)) A) 0 0 A := by
  refine Met.ofW (cc := cX1_weigh) (maxL := 3) (ret := none) (by decide) rfl ?_
  intro p e s m args below meth c s₁ B hml hv
  obtain ⟨rfl, hP, hKN, hD, hA⟩ := hv
  have hK := hKN.1
  have hx := B.exec
  have hb := B.bytes
  have hr := B.returns
  have hts := wt_X1_weigh hKN.2.2 (([.ref a_ga, .int p1] : List Value).toArray)
  have hown : s.vm.findClass RX1 = some m.cls := findClass_of_methodNamed B.named
  have hlocks := B.notSynchronized
  have hS : va_S A s.heap s.heap [] := va_S.rf
  have hX1 := wc_X1 hKN.2.2 (([.ref a_ga, .int p1] : List Value).toArray)
  have hX2 := wc_X2 hKN.2.2 (([.ref a_ga, .int p1] : List Value).toArray)
  have hl := lv_entry ([.ref a_ga, .int p1]) (n := 3) (Nat.le_of_ble_eq_true rfl)
  rw [lg_entry_eq]
  generalize (lg_sl ([.ref a_ga, .int p1]) ++ List.replicate (3 - (lg_sl ([.ref a_ga, .int p1])).length) Slot.unset).toArray = ls at hl ⊢
  have hl : lv_has ls 3 [(0, .ref a_ga), (1, .int p1)] := hl
  unfold f_X1_weigh at h
  refine lv_aload_n hx hb dX1_weigh_0 rfl (lv_at hl 0 rfl) ?_
  refine lv_aload_n hx hb dX1_weigh_1 rfl (lv_at hl 0 rfl) ?_
  refine va_get (D := D) (ci := 1) (C := RX1) (T := TX1) (N := 5) (v := .ref a_od) hx hb hX1 (fun _ q => q) hown hK hP 8 rfl rfl 2 (by decide) (hts (.fieldLink RX1 23 "ElephantLine$Game" "odds" "LElephantLine$Odds;") (by decide +kernel)) (fun _ h9 => h9) rfl dX1_weigh_2 ?_
  refine lv_iload_n hx hb dX1_weigh_5 rfl (lv_at hl 1 rfl) ?_
  obtain ⟨r_1, hc_2, h⟩ := bd1_some h
  refine kVl [.int p1] [.ref a_ga] ⟨hx, hb, hml, hown, hts⟩ (c_X4_worthInOpen l D cy a_la a_la_kind a_la_mood a_no a_no_wounds a_od la_lanes la_deep la_lanesTold (.ref a_la_who) (la_firstStrong) la_beasts (la_firstLane) (la_price) la_cities la_passes (la_passBetween) la_turned la_kind la_mood (.ref a_no_strong) (no_at) no_dead no_wet no_drawn no_wounds p1 r_1 hc_2) gX1_weigh_X4_worthInOpen rfl hd_X4_worthInOpen ⟨Nat.le_of_ble_eq_true rfl, Nat.le_of_ble_eq_true rfl⟩ rfl rfl hKN (pXc hP [0, 2, 3, 4, 6, 7] rfl) 4 5 rfl rfl rfl hl.1 rfl (Nat.le_of_ble_eq_true rfl) dX1_weigh_6 ⟨Nat.le_of_ble_eq_true rfl, Nat.le_of_ble_eq_true rfl⟩ ?_
  refine va_put (D := D) (ci := 1) (C := RX1) (T := TX1) (N := 5) (v := .long r_1) (ty := .long) hx hb hX1 (fun _ q => q) tyX1 tyX1_ok nmX1 hown hK hP hD hS 8 rfl rfl 4 (by decide) (hts (.fieldLink RX1 55 "ElephantLine$Game" "worthInOpen" "J") (by decide +kernel)) (fun _ h9 => h9) rfl (tyX1_ok 4 (by decide)) rfl rfl (Nat.le_of_ble_eq_true rfl) dX1_weigh_9 (fun H locs hP hD hS => ?_)
  refine lv_iconst (v := 0) hx hb dX1_weigh_12 (by decide) ?_
  refine lv_istore_n (lv' := [(2, .int 0), (0, .ref a_ga), (1, .int p1)]) hx hb dX1_weigh_13 rfl hl (by decide) rfl (fun ls hl => ?_)
  have lp14 : ∀ (n14 : Nat) (x2_3 : Int32) (ga_worths_4 : Nat → Int64), f_X1_weigh_L14 la_lanes la_deep la_who la_kind la_mood no_dead no_wet no_strong no_wounds p1 r_1 n14 x2_3 ga_worths_4 = some (ga_worthInOpen', ga_worths') → ∀ (H : Heap) (locs : List Loc), va_P D vwCl ([(a_la, .inr (2, [.int la_lanes, .int la_deep, .int la_lanesTold, .ref a_la_who, la_firstStrong, .int la_beasts, .ref a_la_kind, la_firstLane, .ref a_la_mood, la_price, .int la_cities, .int la_passes, la_passBetween, .int la_turned])), (a_la_who, .inl (cy 1, 6, .inl la_who)), (a_la_kind, .inl (cy 1, 5, .inl la_kind)), (a_la_mood, .inl (cy 1, 5, .inl la_mood)), (a_no, .inr (8, [.ref a_no_strong, no_at, .ref a_no_wounds, .int no_dead, .int no_wet, .int no_drawn])), (a_no_strong, .inl (cy 1, 6, .inl no_strong)), (a_no_wounds, .inl (cy 1, 5, .inl no_wounds)), (a_od, .inr (4, [.ref a_la, .ref a_no])), (a_ga, .inr (1, [.ref a_la, ga_now, .ref a_od, .ref a_ga_worths, .long r_1])), (a_ga_worths, .inl (cy 2, 6, .inr (.inl ga_worths_4)))] ++ X) H → va_D A ([(a_la, .inr (2, [.int la_lanes, .int la_deep, .int la_lanesTold, .ref a_la_who, la_firstStrong, .int la_beasts, .ref a_la_kind, la_firstLane, .ref a_la_mood, la_price, .int la_cities, .int la_passes, la_passBetween, .int la_turned])), (a_la_who, .inl (cy 1, 6, .inl la_who)), (a_la_kind, .inl (cy 1, 5, .inl la_kind)), (a_la_mood, .inl (cy 1, 5, .inl la_mood)), (a_no, .inr (8, [.ref a_no_strong, no_at, .ref a_no_wounds, .int no_dead, .int no_wet, .int no_drawn])), (a_no_strong, .inl (cy 1, 6, .inl no_strong)), (a_no_wounds, .inl (cy 1, 5, .inl no_wounds)), (a_od, .inr (4, [.ref a_la, .ref a_no])), (a_ga, .inr (1, [.ref a_la, ga_now, .ref a_od, .ref a_ga_worths, .long r_1])), (a_ga_worths, .inl (cy 2, 6, .inr (.inl ga_worths_4)))] ++ X) → va_S A s.heap H locs → ∀ ls : Array Slot, lv_has ls 3 [(0, .ref a_ga), (1, .int p1), (2, .int x2_3)] → W p l e (headSpec wo_X1_weigh ({ frames := 4, cells := 0, slots := 0, locals := 95 })).room s m (([.ref a_ga, .int p1] : List Value).toArray) below meth c H locs 0 0 (MQ below (va_Qv (fun (_ : Unit) => True) (wB D A ([(a_la, .inr (2, [.int la_lanes, .int la_deep, .int la_lanesTold, .ref a_la_who, la_firstStrong, .int la_beasts, .ref a_la_kind, la_firstLane, .ref a_la_mood, la_price, .int la_cities, .int la_passes, la_passBetween, .int la_turned])), (a_la_who, .inl (cy 1, 6, .inl la_who)), (a_la_kind, .inl (cy 1, 5, .inl la_kind)), (a_la_mood, .inl (cy 1, 5, .inl la_mood)), (a_no, .inr (8, [.ref a_no_strong, no_at, .ref a_no_wounds, .int no_dead, .int no_wet, .int no_drawn])), (a_no_strong, .inl (cy 1, 6, .inl no_strong)), (a_no_wounds, .inl (cy 1, 5, .inl no_wounds)), (a_od, .inr (4, [.ref a_la, .ref a_no])), (a_ga, .inr (1, [.ref a_la, ga_now, .ref a_od, .ref a_ga_worths, .long ga_worthInOpen'])), (a_ga_worths, .inl (cy 2, 6, .inr (.inl ga_worths')))] ++ X)) A) (([.ref a_ga, .int p1] : List Value).toArray) s 0 0 A) (F0 m 14 ls []) := by
    intro n14
    induction n14 with
    | zero => intro x2_3 ga_worths_4 h; exact absurd (show (none : Option (Int64 × (Nat → Int64))) = some _ from h) (by intro q; cases q)
    | succ n14 ih14 =>
      intro x2_3 ga_worths_4 h H locs hP hD hS ls hl
      have h : f_X1_weigh_b14 la_lanes la_deep la_who la_kind la_mood no_dead no_wet no_strong no_wounds p1 r_1 (f_X1_weigh_L14 la_lanes la_deep la_who la_kind la_mood no_dead no_wet no_strong no_wounds p1 r_1 n14) x2_3 ga_worths_4 = some (ga_worthInOpen', ga_worths') := h
      unfold f_X1_weigh_b14 at h
      refine lv_iload_n hx hb dX1_weigh_14 rfl (lv_at hl 2 rfl) ?_
      refine lv_aload_n hx hb dX1_weigh_15 rfl (lv_at hl 0 rfl) ?_
      refine va_get (D := D) (ci := 1) (C := RX1) (T := TX1) (N := 5) (v := .ref a_la) hx hb hX1 (fun _ q => q) hown hK hP 8 rfl rfl 0 (by decide) (hts (.fieldLink RX1 15 "ElephantLine$Game" "land" "LElephantLine$Land;") (by decide +kernel)) (fun _ h9 => h9) rfl dX1_weigh_16 ?_
      refine va_getN (D := D) (ci := 2) (C := RX2) (T := TX2) (N := 14) (v := .int la_lanes) hx hb hX2 (fun _ q => q) hown hK hP 0 rfl rfl 0 (by decide) (va_Nw.use rfl (hKN.2.1.1 ("ElephantLine$Game", 49, "ElephantLine$Land", "lanes", "I", "ElephantLine") (List.mem_of_getElem? (i := 1) rfl))) (fun _ h9 => h9) rfl dX1_weigh_19 ?_
      refine lv_icmp_ge (tgt := 46) hx hb dX1_weigh_22 (by decide) (fun cd => ?_) (fun cd => ?_)
      · have h := ifT cd h
        cases h
        exact W.vret hx hb hr (fun t ht _ => ⟨⟨(), rfl, trivial, by rw [ht]; exact hP, hD⟩, hS.F ht⟩) hS.2.2 dX1_weigh_46
      · have h := ifF cd h
        refine lv_aload_n hx hb dX1_weigh_25 rfl (lv_at hl 0 rfl) ?_
        refine va_get (D := D) (ci := 1) (C := RX1) (T := TX1) (N := 5) (v := .ref a_ga_worths) hx hb hX1 (fun _ q => q) hown hK hP 8 rfl rfl 3 (by decide) (hts (.fieldLink RX1 9 "ElephantLine$Game" "worths" "[J") (by decide +kernel)) (fun _ h9 => h9) rfl dX1_weigh_26 ?_
        refine lv_iload_n hx hb dX1_weigh_29 rfl (lv_at hl 2 rfl) ?_
        refine lv_aload_n hx hb dX1_weigh_30 rfl (lv_at hl 0 rfl) ?_
        refine va_get (D := D) (ci := 1) (C := RX1) (T := TX1) (N := 5) (v := .ref a_od) hx hb hX1 (fun _ q => q) hown hK hP 8 rfl rfl 2 (by decide) (hts (.fieldLink RX1 23 "ElephantLine$Game" "odds" "LElephantLine$Odds;") (by decide +kernel)) (fun _ h9 => h9) rfl dX1_weigh_31 ?_
        refine lv_iload_n hx hb dX1_weigh_34 rfl (lv_at hl 1 rfl) ?_
        refine lv_iload_n hx hb dX1_weigh_35 rfl (lv_at hl 2 rfl) ?_
        obtain ⟨r_5, hc_6, h⟩ := bd1_some h
        refine kVl [.int p1, .int x2_3] [.int x2_3, .ref a_ga_worths] ⟨hx, hb, hml, hown, hts⟩ (c_X4_worthIn l D cy a_la a_la_who a_la_kind a_la_mood a_no a_no_strong a_no_wounds a_od la_lanes la_deep la_lanesTold (la_firstStrong) la_beasts (la_firstLane) (la_price) la_cities la_passes (la_passBetween) la_turned la_who la_kind la_mood (no_at) no_dead no_wet no_drawn no_strong no_wounds p1 x2_3 r_5 hc_6) gX1_weigh_X4_worthIn rfl hd_X4_worthIn ⟨Nat.le_of_ble_eq_true rfl, Nat.le_of_ble_eq_true rfl⟩ rfl rfl hKN (pXc hP [0, 1, 2, 3, 4, 5, 6, 7] rfl) 4 7 rfl rfl rfl hl.1 rfl (Nat.le_of_ble_eq_true rfl) dX1_weigh_36 ⟨Nat.le_of_ble_eq_true rfl, Nat.le_of_ble_eq_true rfl⟩ ?_
        obtain ⟨i_7, h⟩ := gIn_some h
        refine va_last hx hb hK hP hD hS 9 2 rfl rfl i_7 dX1_weigh_39 (fun H locs hP hD hS => ?_)
        refine lv_iinc (v := x2_3 + 1) (lv' := [(2, .int (x2_3 + 1)), (0, .ref a_ga), (1, .int p1)]) hx hb dX1_weigh_40 hl (k := 2) rfl (by first | rfl | decide) (by decide) rfl (fun ls hl => ?_)
        refine lv_goto (tgt := 14) hx hb dX1_weigh_43 (by decide) ?_
        exact ih14 (x2_3 + 1) (vp_updL ga_worths_4 x2_3.toNatClampNeg r_5) h _ _ hP hD hS _ (lv_sub hl [1, 2, 0] rfl)
  exact lp14 fuelN (0 : Int32) ga_worths h _ _ hP hD hS _ (lv_sub hl [1, 2, 0] rfl)
theorem hd_X1_worthIfOpened : yX1_worthIfOpened.cls = RX1 ∧ yX1_worthIfOpened.cls ≠ "java/lang/invoke/MethodHandle" ∧ yX1_worthIfOpened.cls ≠ "java/lang/invoke/VarHandle" ∧ (parseMethodDescriptor yX1_worthIfOpened.desc).map (fun d => d.parameters.length) = some 2 := by decide +kernel
set_option maxHeartbeats 4000000 in
set_option maxRecDepth 100000 in
theorem c_X1_worthIfOpened (l : Launch) (D : va_G) (cy : Nat → ClassId) (a_ga a_ga_worths : Nat) (ga_land : Value) (ga_now : Value) (ga_odds : Value) (ga_worthInOpen : Int64) (ga_worths : Nat → Int64) (p1 : Int32) (p2 : Int32) (res : Int64) (h : f_X1_worthIfOpened ga_worthInOpen ga_worths p1 p2 = some (res)) : Met l yX1_worthIfOpened wo_X1_worthIfOpened ({ frames := 0, cells := 0, slots := 0, locals := 0 }) (roPc D cy [.ref a_ga, .int p1, .int p2] [(a_ga, .inr (1, [ga_land, ga_now, ga_odds, .ref a_ga_worths, .long ga_worthInOpen])), (a_ga_worths, .inl (cy 2, 6, .inr (.inl ga_worths)))]) (vp_Sl (fun r => r = res)) 0 0 (fun _ => False) := by
  refine Met.ofW (cc := cX1_worthIfOpened) (maxL := 3) (ret := (some .long)) (by decide) rfl ?_
  intro p e s m args below meth c s₁ B hml hv
  obtain ⟨rfl, hP, hKN⟩ := hv
  have hK := hKN.1
  have hx := B.exec
  have hb := B.bytes
  have hr := B.returns
  have hts := wt_X1_worthIfOpened hKN.2.2 (([.ref a_ga, .int p1, .int p2] : List Value).toArray)
  have hown : s.vm.findClass RX1 = some m.cls := findClass_of_methodNamed B.named
  have hlocks := B.notSynchronized
  have hX1 := wc_X1 hKN.2.2 (([.ref a_ga, .int p1, .int p2] : List Value).toArray)
  have hl := lv_entry ([.ref a_ga, .int p1, .int p2]) (n := 3) (Nat.le_of_ble_eq_true rfl)
  rw [lg_entry_eq]
  generalize (lg_sl ([.ref a_ga, .int p1, .int p2]) ++ List.replicate (3 - (lg_sl ([.ref a_ga, .int p1, .int p2])).length) Slot.unset).toArray = ls at hl ⊢
  have hl : lv_has ls 3 [(0, .ref a_ga), (1, .int p1), (2, .int p2)] := hl
  unfold f_X1_worthIfOpened at h
  refine lv_iload_n hx hb dX1_worthIfOpened_0 rfl (lv_at hl 1 rfl) ?_
  refine lv_iload_n hx hb dX1_worthIfOpened_1 rfl (lv_at hl 2 rfl) ?_
  refine lv_icmp_ne (tgt := 12) hx hb dX1_worthIfOpened_2 (by decide) (fun cd => ?_) (fun cd => ?_)
  · have h := ifF cd h
    refine lv_aload_n hx hb dX1_worthIfOpened_12 rfl (lv_at hl 0 rfl) ?_
    refine va_get (D := D) (ci := 1) (C := RX1) (T := TX1) (N := 5) (v := .ref a_ga_worths) hx hb hX1 (fun _ q => q) hown hK hP 0 rfl rfl 3 (by decide) (hts (.fieldLink RX1 9 "ElephantLine$Game" "worths" "[J") (by decide +kernel)) (fun _ h9 => h9) rfl dX1_worthIfOpened_13 ?_
    refine lv_iload_n hx hb dX1_worthIfOpened_16 rfl (lv_at hl 1 rfl) ?_
    obtain ⟨i_1, h⟩ := gIn_some h
    refine va_lald hx hb hK hP 1 2 rfl rfl i_1 dX1_worthIfOpened_17 ?_
    exact W.lret (v := ga_worths p1.toNatClampNeg) hx hb hr (fun t ht _ => ⟨_, rfl, Option.some.inj h, ht⟩) (fun _ q => by cases q) dX1_worthIfOpened_18
  · have h := ifT cd h
    refine lv_aload_n hx hb dX1_worthIfOpened_5 rfl (lv_at hl 0 rfl) ?_
    refine va_get (D := D) (ci := 1) (C := RX1) (T := TX1) (N := 5) (v := .long ga_worthInOpen) hx hb hX1 (fun _ q => q) hown hK hP 0 rfl rfl 4 (by decide) (hts (.fieldLink RX1 55 "ElephantLine$Game" "worthInOpen" "J") (by decide +kernel)) (fun _ h9 => h9) rfl dX1_worthIfOpened_6 ?_
    refine lv_goto (tgt := 18) hx hb dX1_worthIfOpened_9 (by decide) ?_
    exact W.lret (v := ga_worthInOpen) hx hb hr (fun t ht _ => ⟨_, rfl, Option.some.inj h, ht⟩) (fun _ q => by cases q) dX1_worthIfOpened_18
theorem hd_X1_isRest : yX1_isRest.cls = RX1 ∧ yX1_isRest.cls ≠ "java/lang/invoke/MethodHandle" ∧ yX1_isRest.cls ≠ "java/lang/invoke/VarHandle" ∧ (parseMethodDescriptor yX1_isRest.desc).map (fun d => d.parameters.length) = some 2 := by decide +kernel
set_option maxHeartbeats 4000000 in
set_option maxRecDepth 100000 in
theorem c_X1_isRest (l : Launch) (D : va_G) (cy : Nat → ClassId) (a_la a_ga a_ga_worths : Nat) (la_lanes : Int32) (la_deep : Int32) (la_lanesTold : Int32) (la_who : Value) (la_firstStrong : Value) (la_beasts : Int32) (la_kind : Value) (la_firstLane : Value) (la_mood : Value) (la_price : Value) (la_cities : Int32) (la_passes : Int32) (la_passBetween : Value) (la_turned : Int32) (ga_now : Value) (ga_odds : Value) (ga_worthInOpen : Int64) (ga_worths : Nat → Int64) (p1 : Int32) (p2 : Int32) (res : Int32) (h : f_X1_isRest la_lanes ga_worthInOpen ga_worths p1 p2 = some (res)) : Met l yX1_isRest wo_X1_isRest ({ frames := 1, cells := 0, slots := 0, locals := 22 }) (roPc D cy [.ref a_ga, .int p1, .int p2] [(a_la, .inr (2, [.int la_lanes, .int la_deep, .int la_lanesTold, la_who, la_firstStrong, .int la_beasts, la_kind, la_firstLane, la_mood, la_price, .int la_cities, .int la_passes, la_passBetween, .int la_turned])), (a_ga, .inr (1, [.ref a_la, ga_now, ga_odds, .ref a_ga_worths, .long ga_worthInOpen])), (a_ga_worths, .inl (cy 2, 6, .inr (.inl ga_worths)))]) (vp_Si (fun r => r = res ∧ nbv r)) 0 0 (fun _ => False) := by
  refine Met.ofW (cc := cX1_isRest) (maxL := 6) (ret := (some .boolean)) (by decide) rfl ?_
  intro p e s m args below meth c s₁ B hml hv
  obtain ⟨rfl, hP, hKN⟩ := hv
  have hK := hKN.1
  have hx := B.exec
  have hb := B.bytes
  have hr := B.returns
  have hts := wt_X1_isRest hKN.2.2 (([.ref a_ga, .int p1, .int p2] : List Value).toArray)
  have hown : s.vm.findClass RX1 = some m.cls := findClass_of_methodNamed B.named
  have hlocks := B.notSynchronized
  have hX1 := wc_X1 hKN.2.2 (([.ref a_ga, .int p1, .int p2] : List Value).toArray)
  have hX2 := wc_X2 hKN.2.2 (([.ref a_ga, .int p1, .int p2] : List Value).toArray)
  have hl := lv_entry ([.ref a_ga, .int p1, .int p2]) (n := 6) (Nat.le_of_ble_eq_true rfl)
  rw [lg_entry_eq]
  generalize (lg_sl ([.ref a_ga, .int p1, .int p2]) ++ List.replicate (6 - (lg_sl ([.ref a_ga, .int p1, .int p2])).length) Slot.unset).toArray = ls at hl ⊢
  have hl : lv_has ls 6 [(0, .ref a_ga), (1, .int p1), (2, .int p2)] := hl
  unfold f_X1_isRest at h
  refine lv_aload_n hx hb dX1_isRest_0 rfl (lv_at hl 0 rfl) ?_
  refine lv_iload_n hx hb dX1_isRest_1 rfl (lv_at hl 1 rfl) ?_
  refine lv_iload_n hx hb dX1_isRest_2 rfl (lv_at hl 2 rfl) ?_
  obtain ⟨r_1, hc_2, h⟩ := bd1_some h
  refine kVl [.int p1, .int p2] [] ⟨hx, hb, hml, hown, hts⟩ (c_X1_worthIfOpened l D cy a_ga a_ga_worths (.ref a_la) (ga_now) (ga_odds) ga_worthInOpen ga_worths p1 p2 r_1 hc_2) gX1_isRest_X1_worthIfOpened rfl hd_X1_worthIfOpened ⟨Nat.le_of_ble_eq_true rfl, Nat.le_of_ble_eq_true rfl⟩ rfl rfl hKN (hP.sub [1, 2] rfl) 1 0 rfl rfl rfl hl.1 rfl (Nat.le_of_ble_eq_true rfl) dX1_isRest_3 ⟨Nat.le_of_ble_eq_true rfl, Nat.le_of_ble_eq_true rfl⟩ ?_
  refine lv_lstore_n (lv' := [(3, .long r_1), (0, .ref a_ga), (1, .int p1), (2, .int p2)]) hx hb dX1_isRest_6 rfl hl (by decide) rfl (fun ls hl => ?_)
  refine lv_iconst (v := 0) hx hb dX1_isRest_7 (by decide) ?_
  refine lv_istore (lv' := [(5, .int 0), (3, .long r_1), (0, .ref a_ga), (1, .int p1), (2, .int p2)]) hx hb dX1_isRest_8 hl (by decide) rfl (fun ls hl => ?_)
  have lp10 : ∀ (n10 : Nat) (x5_3 : Int32), f_X1_isRest_L10 la_lanes ga_worthInOpen ga_worths p1 p2 r_1 n10 x5_3 = some (res) → ∀ ls : Array Slot, lv_has ls 6 [(0, .ref a_ga), (1, .int p1), (2, .int p2), (3, .long r_1), (5, .int x5_3)] → W p l e (headSpec wo_X1_isRest ({ frames := 1, cells := 0, slots := 0, locals := 22 })).room s m (([.ref a_ga, .int p1, .int p2] : List Value).toArray) below meth c s.heap [] 0 0 (MQ below (vp_Si (fun r => r = res ∧ nbv r)) (([.ref a_ga, .int p1, .int p2] : List Value).toArray) s 0 0 (fun _ => False)) (F0 m 10 ls []) := by
    intro n10
    induction n10 with
    | zero => intro x5_3 h; exact absurd (show (none : Option (Int32)) = some _ from h) (by intro q; cases q)
    | succ n10 ih10 =>
      intro x5_3 h ls hl
      have h : f_X1_isRest_b10 la_lanes ga_worthInOpen ga_worths p1 p2 r_1 (f_X1_isRest_L10 la_lanes ga_worthInOpen ga_worths p1 p2 r_1 n10) x5_3 = some (res) := h
      unfold f_X1_isRest_b10 at h
      refine lv_iload hx hb dX1_isRest_10 (lv_at hl 4 rfl) ?_
      refine lv_aload_n hx hb dX1_isRest_12 rfl (lv_at hl 0 rfl) ?_
      refine va_get (D := D) (ci := 1) (C := RX1) (T := TX1) (N := 5) (v := .ref a_la) hx hb hX1 (fun _ q => q) hown hK hP 1 rfl rfl 0 (by decide) (hts (.fieldLink RX1 15 "ElephantLine$Game" "land" "LElephantLine$Land;") (by decide +kernel)) (fun _ h9 => h9) rfl dX1_isRest_13 ?_
      refine va_getN (D := D) (ci := 2) (C := RX2) (T := TX2) (N := 14) (v := .int la_lanes) hx hb hX2 (fun _ q => q) hown hK hP 0 rfl rfl 0 (by decide) (va_Nw.use rfl (hKN.2.1.1 ("ElephantLine$Game", 49, "ElephantLine$Land", "lanes", "I", "ElephantLine") (List.mem_of_getElem? (i := 1) rfl))) (fun _ h9 => h9) rfl dX1_isRest_16 ?_
      refine lv_icmp_ge (tgt := 54) hx hb dX1_isRest_19 (by decide) (fun cd => ?_) (fun cd => ?_)
      · have h := ifT cd h
        refine lv_iconst (v := 1) hx hb dX1_isRest_54 (by decide) ?_
        exact W.zret (ty := .boolean) (v := 1) hx hb hr (nbv.n nbv_1) (fun t ht _ => ⟨_, rfl, ⟨Option.some.inj h, nbv_1⟩, ht⟩) (fun _ q => by cases q) dX1_isRest_55
      · have h := ifF cd h
        refine lv_aload_n hx hb dX1_isRest_22 rfl (lv_at hl 0 rfl) ?_
        refine lv_iload hx hb dX1_isRest_23 (lv_at hl 4 rfl) ?_
        refine lv_iload_n hx hb dX1_isRest_25 rfl (lv_at hl 2 rfl) ?_
        obtain ⟨r_4, hc_5, h⟩ := bd1_some h
        refine kVl [.int x5_3, .int p2] [] ⟨hx, hb, hml, hown, hts⟩ (c_X1_worthIfOpened l D cy a_ga a_ga_worths (.ref a_la) (ga_now) (ga_odds) ga_worthInOpen ga_worths x5_3 p2 r_4 hc_5) gX1_isRest_X1_worthIfOpened rfl hd_X1_worthIfOpened ⟨Nat.le_of_ble_eq_true rfl, Nat.le_of_ble_eq_true rfl⟩ rfl rfl hKN (hP.sub [1, 2] rfl) 1 0 rfl rfl rfl hl.1 rfl (Nat.le_of_ble_eq_true rfl) dX1_isRest_26 ⟨Nat.le_of_ble_eq_true rfl, Nat.le_of_ble_eq_true rfl⟩ ?_
        refine lv_lload_n hx hb dX1_isRest_29 rfl (lv_at hl 3 rfl) ?_
        refine W.lcmp hx hb dX1_isRest_30 ?_
        refine lv_if_gt (tgt := 46) hx hb dX1_isRest_31 (by decide) (fun cd => ?_) (fun cd => ?_)
        · have cd := (lgc_gt _ _).mp cd
          have h := ifT cd h
          refine lv_iconst (v := 0) hx hb dX1_isRest_46 (by decide) ?_
          exact W.zret (ty := .boolean) (v := 0) hx hb hr (nbv.n nbv_0) (fun t ht _ => ⟨_, rfl, ⟨Option.some.inj h, nbv_0⟩, ht⟩) (fun _ q => by cases q) dX1_isRest_47
        · have cd := fun q => cd ((lgc_gt _ _).mpr q)
          have h := ifF cd h
          refine lv_aload_n hx hb dX1_isRest_34 rfl (lv_at hl 0 rfl) ?_
          refine lv_iload_n hx hb dX1_isRest_35 rfl (lv_at hl 1 rfl) ?_
          refine lv_iload hx hb dX1_isRest_36 (lv_at hl 4 rfl) ?_
          obtain ⟨r_6, hc_7, h⟩ := bd1_some h
          refine kVl [.int p1, .int x5_3] [] ⟨hx, hb, hml, hown, hts⟩ (c_X1_worthIfOpened l D cy a_ga a_ga_worths (.ref a_la) (ga_now) (ga_odds) ga_worthInOpen ga_worths p1 x5_3 r_6 hc_7) gX1_isRest_X1_worthIfOpened rfl hd_X1_worthIfOpened ⟨Nat.le_of_ble_eq_true rfl, Nat.le_of_ble_eq_true rfl⟩ rfl rfl hKN (hP.sub [1, 2] rfl) 1 0 rfl rfl rfl hl.1 rfl (Nat.le_of_ble_eq_true rfl) dX1_isRest_38 ⟨Nat.le_of_ble_eq_true rfl, Nat.le_of_ble_eq_true rfl⟩ ?_
          refine lv_lload_n hx hb dX1_isRest_41 rfl (lv_at hl 3 rfl) ?_
          refine W.lcmp hx hb dX1_isRest_42 ?_
          refine lv_if_ge (tgt := 48) hx hb dX1_isRest_43 (by decide) (fun cd => ?_) (fun cd => ?_)
          · have cd := (lgc_ge _ _).mp cd
            have h := ifT cd h
            refine lv_iinc (v := x5_3 + 1) (lv' := [(5, .int (x5_3 + 1)), (0, .ref a_ga), (1, .int p1), (2, .int p2), (3, .long r_1)]) hx hb dX1_isRest_48 hl (k := 4) rfl (by first | rfl | decide) (by decide) rfl (fun ls hl => ?_)
            refine lv_goto (tgt := 10) hx hb dX1_isRest_51 (by decide) ?_
            exact ih10 (x5_3 + 1) h _ (lv_sub hl [1, 2, 3, 4, 0] rfl)
          · have cd := fun q => cd ((lgc_ge _ _).mpr q)
            have h := ifF cd h
            refine lv_iconst (v := 0) hx hb dX1_isRest_46 (by decide) ?_
            exact W.zret (ty := .boolean) (v := 0) hx hb hr (nbv.n nbv_0) (fun t ht _ => ⟨_, rfl, ⟨Option.some.inj h, nbv_0⟩, ht⟩) (fun _ q => by cases q) dX1_isRest_47
  exact lp10 fuelN (0 : Int32) h _ (lv_sub hl [2, 3, 4, 1, 0] rfl)
theorem hd_X1_countRests : yX1_countRests.cls = RX1 ∧ yX1_countRests.cls ≠ "java/lang/invoke/MethodHandle" ∧ yX1_countRests.cls ≠ "java/lang/invoke/VarHandle" ∧ (parseMethodDescriptor yX1_countRests.desc).map (fun d => d.parameters.length) = some 0 := by decide +kernel
set_option maxHeartbeats 4000000 in
set_option maxRecDepth 100000 in
theorem c_X1_countRests (l : Launch) (D : va_G) (cy : Nat → ClassId) (a_la a_ga a_ga_worths : Nat) (la_lanes : Int32) (la_deep : Int32) (la_lanesTold : Int32) (la_who : Value) (la_firstStrong : Value) (la_beasts : Int32) (la_kind : Value) (la_firstLane : Value) (la_mood : Value) (la_price : Value) (la_cities : Int32) (la_passes : Int32) (la_passBetween : Value) (la_turned : Int32) (ga_now : Value) (ga_odds : Value) (ga_worthInOpen : Int64) (ga_worths : Nat → Int64) (res : Int32) (h : f_X1_countRests la_lanes ga_worthInOpen ga_worths = some (res)) : Met l yX1_countRests wo_X1_countRests ({ frames := 2, cells := 0, slots := 0, locals := 47 }) (roPc D cy [.ref a_ga] [(a_la, .inr (2, [.int la_lanes, .int la_deep, .int la_lanesTold, la_who, la_firstStrong, .int la_beasts, la_kind, la_firstLane, la_mood, la_price, .int la_cities, .int la_passes, la_passBetween, .int la_turned])), (a_ga, .inr (1, [.ref a_la, ga_now, ga_odds, .ref a_ga_worths, .long ga_worthInOpen])), (a_ga_worths, .inl (cy 2, 6, .inr (.inl ga_worths)))]) (vp_Si (fun r => r = res)) 0 0 (fun _ => False) := by
  refine Met.ofW (cc := cX1_countRests) (maxL := 4) (ret := (some .int)) (by decide) rfl ?_
  intro p e s m args below meth c s₁ B hml hv
  obtain ⟨rfl, hP, hKN⟩ := hv
  have hK := hKN.1
  have hx := B.exec
  have hb := B.bytes
  have hr := B.returns
  have hts := wt_X1_countRests hKN.2.2 (([.ref a_ga] : List Value).toArray)
  have hown : s.vm.findClass RX1 = some m.cls := findClass_of_methodNamed B.named
  have hlocks := B.notSynchronized
  have hX1 := wc_X1 hKN.2.2 (([.ref a_ga] : List Value).toArray)
  have hX2 := wc_X2 hKN.2.2 (([.ref a_ga] : List Value).toArray)
  have hl := lv_entry ([.ref a_ga]) (n := 4) (Nat.le_of_ble_eq_true rfl)
  rw [lg_entry_eq]
  generalize (lg_sl ([.ref a_ga]) ++ List.replicate (4 - (lg_sl ([.ref a_ga])).length) Slot.unset).toArray = ls at hl ⊢
  have hl : lv_has ls 4 [(0, .ref a_ga)] := hl
  unfold f_X1_countRests at h
  refine lv_iconst (v := 0) hx hb dX1_countRests_0 (by decide) ?_
  refine lv_istore_n (lv' := [(1, .int 0), (0, .ref a_ga)]) hx hb dX1_countRests_1 rfl hl (by decide) rfl (fun ls hl => ?_)
  refine lv_iconst (v := 0) hx hb dX1_countRests_2 (by decide) ?_
  refine lv_istore_n (lv' := [(2, .int 0), (1, .int 0), (0, .ref a_ga)]) hx hb dX1_countRests_3 rfl hl (by decide) rfl (fun ls hl => ?_)
  have lp4 : ∀ (n4 : Nat) (x1_1 : Int32) (x2_2 : Int32), f_X1_countRests_L4 la_lanes ga_worthInOpen ga_worths n4 x1_1 x2_2 = some (res) → ∀ ls : Array Slot, lv_has ls 4 [(0, .ref a_ga), (1, .int x1_1), (2, .int x2_2)] → W p l e (headSpec wo_X1_countRests ({ frames := 2, cells := 0, slots := 0, locals := 47 })).room s m (([.ref a_ga] : List Value).toArray) below meth c s.heap [] 0 0 (MQ below (vp_Si (fun r => r = res)) (([.ref a_ga] : List Value).toArray) s 0 0 (fun _ => False)) (F0 m 4 ls []) := by
    intro n4
    induction n4 with
    | zero => intro x1_1 x2_2 h; exact absurd (show (none : Option (Int32)) = some _ from h) (by intro q; cases q)
    | succ n4 ih4 =>
      intro x1_1 x2_2 h ls hl
      have h : f_X1_countRests_b4 la_lanes ga_worthInOpen ga_worths (f_X1_countRests_L4 la_lanes ga_worthInOpen ga_worths n4) x1_1 x2_2 = some (res) := h
      unfold f_X1_countRests_b4 at h
      refine lv_iload_n hx hb dX1_countRests_4 rfl (lv_at hl 2 rfl) ?_
      refine lv_aload_n hx hb dX1_countRests_5 rfl (lv_at hl 0 rfl) ?_
      refine va_get (D := D) (ci := 1) (C := RX1) (T := TX1) (N := 5) (v := .ref a_la) hx hb hX1 (fun _ q => q) hown hK hP 1 rfl rfl 0 (by decide) (hts (.fieldLink RX1 15 "ElephantLine$Game" "land" "LElephantLine$Land;") (by decide +kernel)) (fun _ h9 => h9) rfl dX1_countRests_6 ?_
      refine va_getN (D := D) (ci := 2) (C := RX2) (T := TX2) (N := 14) (v := .int la_lanes) hx hb hX2 (fun _ q => q) hown hK hP 0 rfl rfl 0 (by decide) (va_Nw.use rfl (hKN.2.1.1 ("ElephantLine$Game", 49, "ElephantLine$Land", "lanes", "I", "ElephantLine") (List.mem_of_getElem? (i := 1) rfl))) (fun _ h9 => h9) rfl dX1_countRests_9 ?_
      refine lv_icmp_ge (tgt := 57) hx hb dX1_countRests_12 (by decide) (fun cd => ?_) (fun cd => ?_)
      · have h := ifT cd h
        refine lv_iload_n hx hb dX1_countRests_57 rfl (lv_at hl 1 rfl) ?_
        exact W.iret (v := x1_1) hx hb hr (fun t ht _ => ⟨_, rfl, Option.some.inj h, ht⟩) (fun _ q => by cases q) dX1_countRests_58
      · have h := ifF cd h
        refine lv_iconst (v := 0) hx hb dX1_countRests_15 (by decide) ?_
        refine lv_istore_n (lv' := [(3, .int 0), (0, .ref a_ga), (1, .int x1_1), (2, .int x2_2)]) hx hb dX1_countRests_16 rfl hl (by decide) rfl (fun ls hl => ?_)
        have jn51 : ∀ (x1_3 : Int32), f_X1_countRests_B51 (f_X1_countRests_L4 la_lanes ga_worthInOpen ga_worths n4) la_lanes ga_worthInOpen ga_worths x1_3 x2_2 = some (res) → ∀ ls : Array Slot, lv_has ls 4 [(0, .ref a_ga), (1, .int x1_3), (2, .int x2_2)] → W p l e (headSpec wo_X1_countRests ({ frames := 2, cells := 0, slots := 0, locals := 47 })).room s m (([.ref a_ga] : List Value).toArray) below meth c s.heap [] 0 0 (MQ below (vp_Si (fun r => r = res)) (([.ref a_ga] : List Value).toArray) s 0 0 (fun _ => False)) (F0 m 51 ls []) := by
          intro x1_3 h ls hl
          unfold f_X1_countRests_B51 at h
          refine lv_iinc (v := x2_2 + 1) (lv' := [(2, .int (x2_2 + 1)), (0, .ref a_ga), (1, .int x1_3)]) hx hb dX1_countRests_51 hl (k := 2) rfl (by first | rfl | decide) (by decide) rfl (fun ls hl => ?_)
          refine lv_goto (tgt := 4) hx hb dX1_countRests_54 (by decide) ?_
          exact ih4 x1_3 (x2_2 + 1) h _ (lv_sub hl [1, 2, 0] rfl)
        have lp17 : ∀ (n17 : Nat) (x1_4 : Int32) (x3_5 : Int32), f_X1_countRests_L17 (f_X1_countRests_L4 la_lanes ga_worthInOpen ga_worths n4) la_lanes ga_worthInOpen ga_worths x2_2 n17 x1_4 x3_5 = some (res) → ∀ ls : Array Slot, lv_has ls 4 [(0, .ref a_ga), (1, .int x1_4), (2, .int x2_2), (3, .int x3_5)] → W p l e (headSpec wo_X1_countRests ({ frames := 2, cells := 0, slots := 0, locals := 47 })).room s m (([.ref a_ga] : List Value).toArray) below meth c s.heap [] 0 0 (MQ below (vp_Si (fun r => r = res)) (([.ref a_ga] : List Value).toArray) s 0 0 (fun _ => False)) (F0 m 17 ls []) := by
          intro n17
          induction n17 with
          | zero => intro x1_4 x3_5 h; exact absurd (show (none : Option (Int32)) = some _ from h) (by intro q; cases q)
          | succ n17 ih17 =>
            intro x1_4 x3_5 h ls hl
            have h : f_X1_countRests_b17 (f_X1_countRests_L4 la_lanes ga_worthInOpen ga_worths n4) la_lanes ga_worthInOpen ga_worths x2_2 (f_X1_countRests_L17 (f_X1_countRests_L4 la_lanes ga_worthInOpen ga_worths n4) la_lanes ga_worthInOpen ga_worths x2_2 n17) x1_4 x3_5 = some (res) := h
            unfold f_X1_countRests_b17 at h
            refine lv_iload_n hx hb dX1_countRests_17 rfl (lv_at hl 3 rfl) ?_
            refine lv_aload_n hx hb dX1_countRests_18 rfl (lv_at hl 0 rfl) ?_
            refine va_get (D := D) (ci := 1) (C := RX1) (T := TX1) (N := 5) (v := .ref a_la) hx hb hX1 (fun _ q => q) hown hK hP 1 rfl rfl 0 (by decide) (hts (.fieldLink RX1 15 "ElephantLine$Game" "land" "LElephantLine$Land;") (by decide +kernel)) (fun _ h9 => h9) rfl dX1_countRests_19 ?_
            refine va_getN (D := D) (ci := 2) (C := RX2) (T := TX2) (N := 14) (v := .int la_lanes) hx hb hX2 (fun _ q => q) hown hK hP 0 rfl rfl 0 (by decide) (va_Nw.use rfl (hKN.2.1.1 ("ElephantLine$Game", 49, "ElephantLine$Land", "lanes", "I", "ElephantLine") (List.mem_of_getElem? (i := 1) rfl))) (fun _ h9 => h9) rfl dX1_countRests_22 ?_
            refine lv_icmp_ge (tgt := 51) hx hb dX1_countRests_25 (by decide) (fun cd => ?_) (fun cd => ?_)
            · have h := ifT cd h
              exact jn51 x1_4 h _ (lv_sub hl [0, 1, 2] rfl)
            · have h := ifF cd h
              refine lv_iload_n hx hb dX1_countRests_28 rfl (lv_at hl 1 rfl) ?_
              refine lv_aload_n hx hb dX1_countRests_29 rfl (lv_at hl 0 rfl) ?_
              refine lv_iload_n hx hb dX1_countRests_30 rfl (lv_at hl 2 rfl) ?_
              refine lv_iload_n hx hb dX1_countRests_31 rfl (lv_at hl 3 rfl) ?_
              obtain ⟨r_6, hc_7, h⟩ := bd1_some h
              refine kVb [.int x2_2, .int x3_5] [.int x1_4] ⟨hx, hb, hml, hown, hts⟩ (c_X1_isRest l D cy a_la a_ga a_ga_worths la_lanes la_deep la_lanesTold (la_who) (la_firstStrong) la_beasts (la_kind) (la_firstLane) (la_mood) (la_price) la_cities la_passes (la_passBetween) la_turned (ga_now) (ga_odds) ga_worthInOpen ga_worths x2_2 x3_5 r_6 hc_7) gX1_countRests_X1_isRest rfl hd_X1_isRest ⟨Nat.le_of_ble_eq_true rfl, Nat.le_of_ble_eq_true rfl⟩ rfl rfl hKN (hP.sub [0, 1, 2] rfl) 1 1 rfl rfl rfl hl.1 rfl (Nat.le_of_ble_eq_true rfl) dX1_countRests_32 ⟨Nat.le_of_ble_eq_true rfl, Nat.le_of_ble_eq_true rfl⟩ (fun nb_8 => ?_)
              have jn43 : ∀ (t1_9 : Int32), nbv t1_9 → f_X1_countRests_B43 (f_X1_countRests_L4 la_lanes ga_worthInOpen ga_worths n4) (f_X1_countRests_L17 (f_X1_countRests_L4 la_lanes ga_worthInOpen ga_worths n4) la_lanes ga_worthInOpen ga_worths x2_2 n17) la_lanes ga_worthInOpen ga_worths x2_2 x3_5 x1_4 t1_9 = some (res) → ∀ ls : Array Slot, lv_has ls 4 [(0, .ref a_ga), (2, .int x2_2), (3, .int x3_5)] → W p l e (headSpec wo_X1_countRests ({ frames := 2, cells := 0, slots := 0, locals := 47 })).room s m (([.ref a_ga] : List Value).toArray) below meth c s.heap [] 0 0 (MQ below (vp_Si (fun r => r = res)) (([.ref a_ga] : List Value).toArray) s 0 0 (fun _ => False)) (F0 m 43 ls [.int t1_9, .int x1_4]) := by
                intro t1_9 hnb_t1_9 h ls hl
                unfold f_X1_countRests_B43 at h
                refine lv_iadd hx hb dX1_countRests_43 ?_
                refine lv_istore_n (lv' := [(1, .int (x1_4 + t1_9)), (0, .ref a_ga), (2, .int x2_2), (3, .int x3_5)]) hx hb dX1_countRests_44 rfl hl (by decide) rfl (fun ls hl => ?_)
                refine lv_iinc (v := x3_5 + 1) (lv' := [(3, .int (x3_5 + 1)), (1, .int (x1_4 + t1_9)), (0, .ref a_ga), (2, .int x2_2)]) hx hb dX1_countRests_45 hl (k := 3) rfl (by first | rfl | decide) (by decide) rfl (fun ls hl => ?_)
                refine lv_goto (tgt := 17) hx hb dX1_countRests_48 (by decide) ?_
                exact ih17 (x1_4 + t1_9) (x3_5 + 1) h _ (lv_sub hl [2, 1, 3, 0] rfl)
              refine lv_if_eq (tgt := 42) hx hb dX1_countRests_35 (by decide) (fun cd => ?_) (fun cd => ?_)
              · have h := ifT cd h
                refine lv_iconst (v := 0) hx hb dX1_countRests_42 (by decide) ?_
                exact jn43 (0 : Int32) nbv_0 h _ (lv_sub hl [0, 2, 3] rfl)
              · have h := ifF cd h
                refine lv_iconst (v := 1) hx hb dX1_countRests_38 (by decide) ?_
                refine lv_goto (tgt := 43) hx hb dX1_countRests_39 (by decide) ?_
                exact jn43 (1 : Int32) nbv_1 h _ (lv_sub hl [0, 2, 3] rfl)
        exact lp17 fuelN x1_1 (0 : Int32) h _ (lv_sub hl [1, 2, 3, 0] rfl)
  exact lp4 fuelN (0 : Int32) (0 : Int32) h _ (lv_sub hl [2, 1, 0] rfl)
theorem hd_X1_firstRest : yX1_firstRest.cls = RX1 ∧ yX1_firstRest.cls ≠ "java/lang/invoke/MethodHandle" ∧ yX1_firstRest.cls ≠ "java/lang/invoke/VarHandle" ∧ (parseMethodDescriptor yX1_firstRest.desc).map (fun d => d.parameters.length) = some 0 := by decide +kernel
set_option maxHeartbeats 4000000 in
set_option maxRecDepth 100000 in
theorem c_X1_firstRest (l : Launch) (D : va_G) (cy : Nat → ClassId) (a_la a_ga a_ga_worths : Nat) (la_lanes : Int32) (la_deep : Int32) (la_lanesTold : Int32) (la_who : Value) (la_firstStrong : Value) (la_beasts : Int32) (la_kind : Value) (la_firstLane : Value) (la_mood : Value) (la_price : Value) (la_cities : Int32) (la_passes : Int32) (la_passBetween : Value) (la_turned : Int32) (ga_now : Value) (ga_odds : Value) (ga_worthInOpen : Int64) (ga_worths : Nat → Int64) (res : Int32) (h : f_X1_firstRest la_lanes ga_worthInOpen ga_worths = some (res)) : Met l yX1_firstRest wo_X1_firstRest ({ frames := 2, cells := 0, slots := 0, locals := 47 }) (roPc D cy [.ref a_ga] [(a_la, .inr (2, [.int la_lanes, .int la_deep, .int la_lanesTold, la_who, la_firstStrong, .int la_beasts, la_kind, la_firstLane, la_mood, la_price, .int la_cities, .int la_passes, la_passBetween, .int la_turned])), (a_ga, .inr (1, [.ref a_la, ga_now, ga_odds, .ref a_ga_worths, .long ga_worthInOpen])), (a_ga_worths, .inl (cy 2, 6, .inr (.inl ga_worths)))]) (vp_Si (fun r => r = res)) 0 0 (fun _ => False) := by
  refine Met.ofW (cc := cX1_firstRest) (maxL := 3) (ret := (some .int)) (by decide) rfl ?_
  intro p e s m args below meth c s₁ B hml hv
  obtain ⟨rfl, hP, hKN⟩ := hv
  have hK := hKN.1
  have hx := B.exec
  have hb := B.bytes
  have hr := B.returns
  have hts := wt_X1_firstRest hKN.2.2 (([.ref a_ga] : List Value).toArray)
  have hown : s.vm.findClass RX1 = some m.cls := findClass_of_methodNamed B.named
  have hlocks := B.notSynchronized
  have hX1 := wc_X1 hKN.2.2 (([.ref a_ga] : List Value).toArray)
  have hX2 := wc_X2 hKN.2.2 (([.ref a_ga] : List Value).toArray)
  have hl := lv_entry ([.ref a_ga]) (n := 3) (Nat.le_of_ble_eq_true rfl)
  rw [lg_entry_eq]
  generalize (lg_sl ([.ref a_ga]) ++ List.replicate (3 - (lg_sl ([.ref a_ga])).length) Slot.unset).toArray = ls at hl ⊢
  have hl : lv_has ls 3 [(0, .ref a_ga)] := hl
  unfold f_X1_firstRest at h
  refine lv_iconst (v := 0) hx hb dX1_firstRest_0 (by decide) ?_
  refine lv_istore_n (lv' := [(1, .int 0), (0, .ref a_ga)]) hx hb dX1_firstRest_1 rfl hl (by decide) rfl (fun ls hl => ?_)
  have lp2 : ∀ (n2 : Nat) (x1_1 : Int32), f_X1_firstRest_L2 la_lanes ga_worthInOpen ga_worths n2 x1_1 = some (res) → ∀ ls : Array Slot, lv_has ls 3 [(0, .ref a_ga), (1, .int x1_1)] → W p l e (headSpec wo_X1_firstRest ({ frames := 2, cells := 0, slots := 0, locals := 47 })).room s m (([.ref a_ga] : List Value).toArray) below meth c s.heap [] 0 0 (MQ below (vp_Si (fun r => r = res)) (([.ref a_ga] : List Value).toArray) s 0 0 (fun _ => False)) (F0 m 2 ls []) := by
    intro n2
    induction n2 with
    | zero => intro x1_1 h; exact absurd (show (none : Option (Int32)) = some _ from h) (by intro q; cases q)
    | succ n2 ih2 =>
      intro x1_1 h ls hl
      have h : f_X1_firstRest_b2 la_lanes ga_worthInOpen ga_worths (f_X1_firstRest_L2 la_lanes ga_worthInOpen ga_worths n2) x1_1 = some (res) := h
      unfold f_X1_firstRest_b2 at h
      refine lv_iload_n hx hb dX1_firstRest_2 rfl (lv_at hl 1 rfl) ?_
      refine lv_aload_n hx hb dX1_firstRest_3 rfl (lv_at hl 0 rfl) ?_
      refine va_get (D := D) (ci := 1) (C := RX1) (T := TX1) (N := 5) (v := .ref a_la) hx hb hX1 (fun _ q => q) hown hK hP 1 rfl rfl 0 (by decide) (hts (.fieldLink RX1 15 "ElephantLine$Game" "land" "LElephantLine$Land;") (by decide +kernel)) (fun _ h9 => h9) rfl dX1_firstRest_4 ?_
      refine va_getN (D := D) (ci := 2) (C := RX2) (T := TX2) (N := 14) (v := .int la_lanes) hx hb hX2 (fun _ q => q) hown hK hP 0 rfl rfl 0 (by decide) (va_Nw.use rfl (hKN.2.1.1 ("ElephantLine$Game", 49, "ElephantLine$Land", "lanes", "I", "ElephantLine") (List.mem_of_getElem? (i := 1) rfl))) (fun _ h9 => h9) rfl dX1_firstRest_7 ?_
      refine lv_icmp_ge (tgt := 54) hx hb dX1_firstRest_10 (by decide) (fun cd => ?_) (fun cd => ?_)
      · have h := ifT cd h
        refine lv_bipush (v := (-2)) hx hb dX1_firstRest_54 (by decide) ?_
        exact W.iret (v := (-2)) hx hb hr (fun t ht _ => ⟨_, rfl, Option.some.inj h, ht⟩) (fun _ q => by cases q) dX1_firstRest_56
      · have h := ifF cd h
        refine lv_iconst (v := 0) hx hb dX1_firstRest_13 (by decide) ?_
        refine lv_istore_n (lv' := [(2, .int 0), (0, .ref a_ga), (1, .int x1_1)]) hx hb dX1_firstRest_14 rfl hl (by decide) rfl (fun ls hl => ?_)
        have jn48 : f_X1_firstRest_B48 (f_X1_firstRest_L2 la_lanes ga_worthInOpen ga_worths n2) la_lanes ga_worthInOpen ga_worths x1_1 = some (res) → ∀ ls : Array Slot, lv_has ls 3 [(0, .ref a_ga), (1, .int x1_1)] → W p l e (headSpec wo_X1_firstRest ({ frames := 2, cells := 0, slots := 0, locals := 47 })).room s m (([.ref a_ga] : List Value).toArray) below meth c s.heap [] 0 0 (MQ below (vp_Si (fun r => r = res)) (([.ref a_ga] : List Value).toArray) s 0 0 (fun _ => False)) (F0 m 48 ls []) := by
          intro h ls hl
          unfold f_X1_firstRest_B48 at h
          refine lv_iinc (v := x1_1 + 1) (lv' := [(1, .int (x1_1 + 1)), (0, .ref a_ga)]) hx hb dX1_firstRest_48 hl (k := 1) rfl (by first | rfl | decide) (by decide) rfl (fun ls hl => ?_)
          refine lv_goto (tgt := 2) hx hb dX1_firstRest_51 (by decide) ?_
          exact ih2 (x1_1 + 1) h _ (lv_sub hl [1, 0] rfl)
        have lp15 : ∀ (n15 : Nat) (x2_2 : Int32), f_X1_firstRest_L15 (f_X1_firstRest_L2 la_lanes ga_worthInOpen ga_worths n2) la_lanes ga_worthInOpen ga_worths x1_1 n15 x2_2 = some (res) → ∀ ls : Array Slot, lv_has ls 3 [(0, .ref a_ga), (1, .int x1_1), (2, .int x2_2)] → W p l e (headSpec wo_X1_firstRest ({ frames := 2, cells := 0, slots := 0, locals := 47 })).room s m (([.ref a_ga] : List Value).toArray) below meth c s.heap [] 0 0 (MQ below (vp_Si (fun r => r = res)) (([.ref a_ga] : List Value).toArray) s 0 0 (fun _ => False)) (F0 m 15 ls []) := by
          intro n15
          induction n15 with
          | zero => intro x2_2 h; exact absurd (show (none : Option (Int32)) = some _ from h) (by intro q; cases q)
          | succ n15 ih15 =>
            intro x2_2 h ls hl
            have h : f_X1_firstRest_b15 (f_X1_firstRest_L2 la_lanes ga_worthInOpen ga_worths n2) la_lanes ga_worthInOpen ga_worths x1_1 (f_X1_firstRest_L15 (f_X1_firstRest_L2 la_lanes ga_worthInOpen ga_worths n2) la_lanes ga_worthInOpen ga_worths x1_1 n15) x2_2 = some (res) := h
            unfold f_X1_firstRest_b15 at h
            refine lv_iload_n hx hb dX1_firstRest_15 rfl (lv_at hl 2 rfl) ?_
            refine lv_aload_n hx hb dX1_firstRest_16 rfl (lv_at hl 0 rfl) ?_
            refine va_get (D := D) (ci := 1) (C := RX1) (T := TX1) (N := 5) (v := .ref a_la) hx hb hX1 (fun _ q => q) hown hK hP 1 rfl rfl 0 (by decide) (hts (.fieldLink RX1 15 "ElephantLine$Game" "land" "LElephantLine$Land;") (by decide +kernel)) (fun _ h9 => h9) rfl dX1_firstRest_17 ?_
            refine va_getN (D := D) (ci := 2) (C := RX2) (T := TX2) (N := 14) (v := .int la_lanes) hx hb hX2 (fun _ q => q) hown hK hP 0 rfl rfl 0 (by decide) (va_Nw.use rfl (hKN.2.1.1 ("ElephantLine$Game", 49, "ElephantLine$Land", "lanes", "I", "ElephantLine") (List.mem_of_getElem? (i := 1) rfl))) (fun _ h9 => h9) rfl dX1_firstRest_20 ?_
            refine lv_icmp_ge (tgt := 48) hx hb dX1_firstRest_23 (by decide) (fun cd => ?_) (fun cd => ?_)
            · have h := ifT cd h
              exact jn48 h _ (lv_sub hl [0, 1] rfl)
            · have h := ifF cd h
              refine lv_aload_n hx hb dX1_firstRest_26 rfl (lv_at hl 0 rfl) ?_
              refine lv_iload_n hx hb dX1_firstRest_27 rfl (lv_at hl 1 rfl) ?_
              refine lv_iload_n hx hb dX1_firstRest_28 rfl (lv_at hl 2 rfl) ?_
              obtain ⟨r_3, hc_4, h⟩ := bd1_some h
              refine kVb [.int x1_1, .int x2_2] [] ⟨hx, hb, hml, hown, hts⟩ (c_X1_isRest l D cy a_la a_ga a_ga_worths la_lanes la_deep la_lanesTold (la_who) (la_firstStrong) la_beasts (la_kind) (la_firstLane) (la_mood) (la_price) la_cities la_passes (la_passBetween) la_turned (ga_now) (ga_odds) ga_worthInOpen ga_worths x1_1 x2_2 r_3 hc_4) gX1_firstRest_X1_isRest rfl hd_X1_isRest ⟨Nat.le_of_ble_eq_true rfl, Nat.le_of_ble_eq_true rfl⟩ rfl rfl hKN (hP.sub [0, 1, 2] rfl) 1 1 rfl rfl rfl hl.1 rfl (Nat.le_of_ble_eq_true rfl) dX1_firstRest_29 ⟨Nat.le_of_ble_eq_true rfl, Nat.le_of_ble_eq_true rfl⟩ (fun nb_5 => ?_)
              refine lv_if_eq (tgt := 42) hx hb dX1_firstRest_32 (by decide) (fun cd => ?_) (fun cd => ?_)
              · have h := ifT cd h
                refine lv_iinc (v := x2_2 + 1) (lv' := [(2, .int (x2_2 + 1)), (0, .ref a_ga), (1, .int x1_1)]) hx hb dX1_firstRest_42 hl (k := 2) rfl (by first | rfl | decide) (by decide) rfl (fun ls hl => ?_)
                refine lv_goto (tgt := 15) hx hb dX1_firstRest_45 (by decide) ?_
                exact ih15 (x2_2 + 1) h _ (lv_sub hl [1, 2, 0] rfl)
              · have h := ifF cd h
                refine lv_bipush (v := 10) hx hb dX1_firstRest_35 (by decide) ?_
                refine lv_iload_n hx hb dX1_firstRest_37 rfl (lv_at hl 1 rfl) ?_
                refine lv_imul hx hb dX1_firstRest_38 ?_
                refine lv_iload_n hx hb dX1_firstRest_39 rfl (lv_at hl 2 rfl) ?_
                refine lv_iadd hx hb dX1_firstRest_40 ?_
                exact W.iret (v := (10 * x1_1) + x2_2) hx hb hr (fun t ht _ => ⟨_, rfl, Option.some.inj h, ht⟩) (fun _ q => by cases q) dX1_firstRest_41
        exact lp15 fuelN (0 : Int32) h _ (lv_sub hl [1, 2, 0] rfl)
  exact lp2 fuelN (0 : Int32) h _ (lv_sub hl [1, 0] rfl)
