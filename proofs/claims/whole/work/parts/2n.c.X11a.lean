theorem hd_X11_fault : yX11_fault.cls = RX11 ∧ yX11_fault.cls ≠ "java/lang/invoke/MethodHandle" ∧ yX11_fault.cls ≠ "java/lang/invoke/VarHandle" ∧ (parseMethodDescriptor yX11_fault.desc).map (fun d => d.parameters.length) = some 0 := by decide +kernel
set_option maxHeartbeats 4000000 in
set_option maxRecDepth 100000 in
theorem c_X11_fault (l : Launch) (D : va_G) (cy : Nat → ClassId) (a_el : Nat) (el_tape : Value) (el_bytes : Int32) (el_reader : Value) (el_land : Value) (el_now : Value) (el_past : Value) (el_odds : Value) (el_game : Value) (el_placing : Value) (el_marching : Value) (el_trumpets : Value) (el_fight : Value) (el_refusal : Int32) (el_faultTold : Int32) (el_faultPlace : Int32) (res : Int32) (h : f_X11_fault el_faultTold = some (res)) : Met l yX11_fault wo_X11_fault ({ frames := 0, cells := 0, slots := 0, locals := 0 }) (roPc D cy [.ref a_el] [(a_el, .inr (11, [el_tape, .int el_bytes, el_reader, el_land, el_now, el_past, el_odds, el_game, el_placing, el_marching, el_trumpets, el_fight, .int el_refusal, .int el_faultTold, .int el_faultPlace]))]) (vp_Si (fun r => r = res)) 0 0 (fun _ => False) := by
  refine Met.ofW (cc := cX11_fault) (maxL := 1) (ret := (some .int)) (by decide) rfl ?_
  intro p e s m args below meth c s₁ B hml hv
  obtain ⟨rfl, hP, hKN⟩ := hv
  have hK := hKN.1
  have hx := B.exec
  have hb := B.bytes
  have hr := B.returns
  have hts := wt_X11_fault hKN.2.2 (([.ref a_el] : List Value).toArray)
  have hown : s.vm.findClass RX11 = some m.cls := findClass_of_methodNamed B.named
  have hlocks := B.notSynchronized
  have hX11 := wc_X11 hKN.2.2 (([.ref a_el] : List Value).toArray)
  have hl := lv_entry ([.ref a_el]) (n := 1) (Nat.le_of_ble_eq_true rfl)
  rw [lg_entry_eq]
  generalize (lg_sl ([.ref a_el]) ++ List.replicate (1 - (lg_sl ([.ref a_el])).length) Slot.unset).toArray = ls at hl ⊢
  have hl : lv_has ls 1 [(0, .ref a_el)] := hl
  unfold f_X11_fault at h
  refine lv_aload_n hx hb dX11_fault_0 rfl (lv_at hl 0 rfl) ?_
  refine va_get (D := D) (ci := 11) (C := RX11) (T := TX11) (N := 15) (v := .int el_faultTold) hx hb hX11 (fun _ q => q) hown hK hP 0 rfl rfl 13 (by decide) (hts (.fieldLink RX11 111 "ElephantLine" "faultTold" "I") (by decide +kernel)) (fun _ h9 => h9) rfl dX11_fault_1 ?_
  exact W.iret (v := el_faultTold) hx hb hr (fun t ht _ => ⟨_, rfl, Option.some.inj h, ht⟩) (fun _ q => by cases q) dX11_fault_4
theorem hd_X11_where : yX11_where.cls = RX11 ∧ yX11_where.cls ≠ "java/lang/invoke/MethodHandle" ∧ yX11_where.cls ≠ "java/lang/invoke/VarHandle" ∧ (parseMethodDescriptor yX11_where.desc).map (fun d => d.parameters.length) = some 0 := by decide +kernel
set_option maxHeartbeats 4000000 in
set_option maxRecDepth 100000 in
theorem c_X11_where (l : Launch) (D : va_G) (cy : Nat → ClassId) (a_el : Nat) (el_tape : Value) (el_bytes : Int32) (el_reader : Value) (el_land : Value) (el_now : Value) (el_past : Value) (el_odds : Value) (el_game : Value) (el_placing : Value) (el_marching : Value) (el_trumpets : Value) (el_fight : Value) (el_refusal : Int32) (el_faultTold : Int32) (el_faultPlace : Int32) (res : Int32) (h : f_X11_where el_refusal el_faultPlace = some (res)) : Met l yX11_where wo_X11_where ({ frames := 0, cells := 0, slots := 0, locals := 0 }) (roPc D cy [.ref a_el] [(a_el, .inr (11, [el_tape, .int el_bytes, el_reader, el_land, el_now, el_past, el_odds, el_game, el_placing, el_marching, el_trumpets, el_fight, .int el_refusal, .int el_faultTold, .int el_faultPlace]))]) (vp_Si (fun r => r = res)) 0 0 (fun _ => False) := by
  refine Met.ofW (cc := cX11_where) (maxL := 1) (ret := (some .int)) (by decide) rfl ?_
  intro p e s m args below meth c s₁ B hml hv
  obtain ⟨rfl, hP, hKN⟩ := hv
  have hK := hKN.1
  have hx := B.exec
  have hb := B.bytes
  have hr := B.returns
  have hts := wt_X11_where hKN.2.2 (([.ref a_el] : List Value).toArray)
  have hown : s.vm.findClass RX11 = some m.cls := findClass_of_methodNamed B.named
  have hlocks := B.notSynchronized
  have hX11 := wc_X11 hKN.2.2 (([.ref a_el] : List Value).toArray)
  have hl := lv_entry ([.ref a_el]) (n := 1) (Nat.le_of_ble_eq_true rfl)
  rw [lg_entry_eq]
  generalize (lg_sl ([.ref a_el]) ++ List.replicate (1 - (lg_sl ([.ref a_el])).length) Slot.unset).toArray = ls at hl ⊢
  have hl : lv_has ls 1 [(0, .ref a_el)] := hl
  unfold f_X11_where at h
  refine lv_aload_n hx hb dX11_where_0 rfl (lv_at hl 0 rfl) ?_
  refine va_get (D := D) (ci := 11) (C := RX11) (T := TX11) (N := 15) (v := .int el_refusal) hx hb hX11 (fun _ q => q) hown hK hP 0 rfl rfl 12 (by decide) (hts (.fieldLink RX11 135 "ElephantLine" "refusal" "I") (by decide +kernel)) (fun _ h9 => h9) rfl dX11_where_1 ?_
  refine lv_iconst (v := 4) hx hb dX11_where_4 (by decide) ?_
  refine lv_icmp_ne (tgt := 15) hx hb dX11_where_5 (by decide) (fun cd => ?_) (fun cd => ?_)
  · have h := ifF cd h
    refine lv_iconst (v := (-1)) hx hb dX11_where_15 (by decide) ?_
    exact W.iret (v := (-1)) hx hb hr (fun t ht _ => ⟨_, rfl, Option.some.inj h, ht⟩) (fun _ q => by cases q) dX11_where_16
  · have h := ifT cd h
    refine lv_aload_n hx hb dX11_where_8 rfl (lv_at hl 0 rfl) ?_
    refine va_get (D := D) (ci := 11) (C := RX11) (T := TX11) (N := 15) (v := .int el_faultPlace) hx hb hX11 (fun _ q => q) hown hK hP 0 rfl rfl 14 (by decide) (hts (.fieldLink RX11 117 "ElephantLine" "faultPlace" "I") (by decide +kernel)) (fun _ h9 => h9) rfl dX11_where_9 ?_
    refine lv_goto (tgt := 16) hx hb dX11_where_12 (by decide) ?_
    exact W.iret (v := el_faultPlace) hx hb hr (fun t ht _ => ⟨_, rfl, Option.some.inj h, ht⟩) (fun _ q => by cases q) dX11_where_16
theorem hd_X11_size : yX11_size.cls = RX11 ∧ yX11_size.cls ≠ "java/lang/invoke/MethodHandle" ∧ yX11_size.cls ≠ "java/lang/invoke/VarHandle" ∧ (parseMethodDescriptor yX11_size.desc).map (fun d => d.parameters.length) = some 1 := by decide +kernel
set_option maxHeartbeats 4000000 in
set_option maxRecDepth 100000 in
theorem c_X11_size (l : Launch) (D : va_G) (cy : Nat → ClassId) (a_el a_la a_no a_pa : Nat) (el_tape : Value) (el_bytes : Int32) (el_reader : Value) (el_odds : Value) (el_game : Value) (el_placing : Value) (el_marching : Value) (el_trumpets : Value) (el_fight : Value) (el_refusal : Int32) (el_faultTold : Int32) (el_faultPlace : Int32) (la_lanes : Int32) (la_deep : Int32) (la_lanesTold : Int32) (la_who : Value) (la_firstStrong : Value) (la_beasts : Int32) (la_kind : Value) (la_firstLane : Value) (la_mood : Value) (la_price : Value) (la_cities : Int32) (la_passes : Int32) (la_passBetween : Value) (la_turned : Int32) (no_strong : Value) (no_at : Value) (no_wounds : Value) (no_dead : Int32) (no_wet : Int32) (no_drawn : Int32) (pa_kept : Value) (pa_marked : Value) (pa_latest : Int32) (pa_acts : Int32) (pa_marks : Int32) (p1 : Int32) (res : Int32) (h : f_X11_size el_bytes la_lanes la_deep la_lanesTold la_beasts la_cities la_passes la_turned no_wet no_drawn pa_acts pa_marks p1 = some (res)) : Met l yX11_size wo_X11_size ({ frames := 1, cells := 0, slots := 0, locals := 20 }) (roPc D cy [.ref a_el, .int p1] [(a_el, .inr (11, [el_tape, .int el_bytes, el_reader, .ref a_la, .ref a_no, .ref a_pa, el_odds, el_game, el_placing, el_marching, el_trumpets, el_fight, .int el_refusal, .int el_faultTold, .int el_faultPlace])), (a_la, .inr (2, [.int la_lanes, .int la_deep, .int la_lanesTold, la_who, la_firstStrong, .int la_beasts, la_kind, la_firstLane, la_mood, la_price, .int la_cities, .int la_passes, la_passBetween, .int la_turned])), (a_no, .inr (8, [no_strong, no_at, no_wounds, .int no_dead, .int no_wet, .int no_drawn])), (a_pa, .inr (5, [pa_kept, pa_marked, .int pa_latest, .int pa_acts, .int pa_marks]))]) (vp_Si (fun r => r = res)) 0 0 (fun _ => False) := by
  refine Met.ofW (cc := cX11_size) (maxL := 2) (ret := (some .int)) (by decide) rfl ?_
  intro p e s m args below meth c s₁ B hml hv
  obtain ⟨rfl, hP, hKN⟩ := hv
  have hK := hKN.1
  have hx := B.exec
  have hb := B.bytes
  have hr := B.returns
  have hts := wt_X11_size hKN.2.2 (([.ref a_el, .int p1] : List Value).toArray)
  have hown : s.vm.findClass RX11 = some m.cls := findClass_of_methodNamed B.named
  have hlocks := B.notSynchronized
  have hX11 := wc_X11 hKN.2.2 (([.ref a_el, .int p1] : List Value).toArray)
  have hX2 := wc_X2 hKN.2.2 (([.ref a_el, .int p1] : List Value).toArray)
  have hX5 := wc_X5 hKN.2.2 (([.ref a_el, .int p1] : List Value).toArray)
  have hX8 := wc_X8 hKN.2.2 (([.ref a_el, .int p1] : List Value).toArray)
  have hl := lv_entry ([.ref a_el, .int p1]) (n := 2) (Nat.le_of_ble_eq_true rfl)
  rw [lg_entry_eq]
  generalize (lg_sl ([.ref a_el, .int p1]) ++ List.replicate (2 - (lg_sl ([.ref a_el, .int p1])).length) Slot.unset).toArray = ls at hl ⊢
  have hl : lv_has ls 2 [(0, .ref a_el), (1, .int p1)] := hl
  unfold f_X11_size at h
  refine lv_iload_n hx hb dX11_size_0 rfl (lv_at hl 1 rfl) ?_
  by_cases sw_1 : p1 = 0
  · have h := ifT sw_1 h
    refine lv_tableIn (tgt := 64) hx hb dX11_size_1 (by rw [sw_1]; decide) (by rw [sw_1]; decide) (by rw [sw_1]; rfl) (by decide) ?_
    refine lv_aload_n hx hb dX11_size_64 rfl (lv_at hl 0 rfl) ?_
    refine va_get (D := D) (ci := 11) (C := RX11) (T := TX11) (N := 15) (v := .ref a_la) hx hb hX11 (fun _ q => q) hown hK hP 0 rfl rfl 3 (by decide) (hts (.fieldLink RX11 25 "ElephantLine" "land" "LElephantLine$Land;") (by decide +kernel)) (fun _ h9 => h9) rfl dX11_size_65 ?_
    refine va_getN (D := D) (ci := 2) (C := RX2) (T := TX2) (N := 14) (v := .int la_lanes) hx hb hX2 (fun _ q => q) hown hK hP 1 rfl rfl 0 (by decide) (va_Nw.use rfl (hKN.2.1.1 ("ElephantLine", 402, "ElephantLine$Land", "lanes", "I", "ElephantLine") (List.mem_of_getElem? (i := 4) rfl))) (fun _ h9 => h9) rfl dX11_size_68 ?_
    exact W.iret (v := la_lanes) hx hb hr (fun t ht _ => ⟨_, rfl, Option.some.inj h, ht⟩) (fun _ q => by cases q) dX11_size_71
  · have h := ifF sw_1 h
    by_cases sw_2 : p1 = 1
    · have h := ifT sw_2 h
      refine lv_tableIn (tgt := 72) hx hb dX11_size_1 (by rw [sw_2]; decide) (by rw [sw_2]; decide) (by rw [sw_2]; rfl) (by decide) ?_
      refine lv_aload_n hx hb dX11_size_72 rfl (lv_at hl 0 rfl) ?_
      refine va_get (D := D) (ci := 11) (C := RX11) (T := TX11) (N := 15) (v := .ref a_la) hx hb hX11 (fun _ q => q) hown hK hP 0 rfl rfl 3 (by decide) (hts (.fieldLink RX11 25 "ElephantLine" "land" "LElephantLine$Land;") (by decide +kernel)) (fun _ h9 => h9) rfl dX11_size_73 ?_
      refine va_getN (D := D) (ci := 2) (C := RX2) (T := TX2) (N := 14) (v := .int la_deep) hx hb hX2 (fun _ q => q) hown hK hP 1 rfl rfl 1 (by decide) (va_Nw.use rfl (hKN.2.1.1 ("ElephantLine", 405, "ElephantLine$Land", "deep", "I", "ElephantLine") (List.mem_of_getElem? (i := 8) rfl))) (fun _ h9 => h9) rfl dX11_size_76 ?_
      exact W.iret (v := la_deep) hx hb hr (fun t ht _ => ⟨_, rfl, Option.some.inj h, ht⟩) (fun _ q => by cases q) dX11_size_79
    · have h := ifF sw_2 h
      by_cases sw_3 : p1 = 2
      · have h := ifT sw_3 h
        refine lv_tableIn (tgt := 80) hx hb dX11_size_1 (by rw [sw_3]; decide) (by rw [sw_3]; decide) (by rw [sw_3]; rfl) (by decide) ?_
        refine lv_aload_n hx hb dX11_size_80 rfl (lv_at hl 0 rfl) ?_
        refine va_get (D := D) (ci := 11) (C := RX11) (T := TX11) (N := 15) (v := .ref a_la) hx hb hX11 (fun _ q => q) hown hK hP 0 rfl rfl 3 (by decide) (hts (.fieldLink RX11 25 "ElephantLine" "land" "LElephantLine$Land;") (by decide +kernel)) (fun _ h9 => h9) rfl dX11_size_81 ?_
        refine va_getN (D := D) (ci := 2) (C := RX2) (T := TX2) (N := 14) (v := .int la_lanesTold) hx hb hX2 (fun _ q => q) hown hK hP 1 rfl rfl 2 (by decide) (va_Nw.use rfl (hKN.2.1.1 ("ElephantLine", 408, "ElephantLine$Land", "lanesTold", "I", "ElephantLine") (List.mem_of_getElem? (i := 9) rfl))) (fun _ h9 => h9) rfl dX11_size_84 ?_
        obtain ⟨r_4, hc_5, h⟩ := bd1_some h
        refine kSi [.int la_lanesTold] [] ⟨hx, hb, hml, hown, hts⟩ (c_J6_bitCount_0f7a4 l D cy la_lanesTold r_4 hc_5) gX11_size_J6_bitCount_0f7a4 rfl hd_J6_bitCount_0f7a4 ⟨Nat.le_of_ble_eq_true rfl, Nat.le_of_ble_eq_true rfl⟩ rfl rfl hKN va_nil rfl hl.1 rfl (Nat.le_of_ble_eq_true rfl) dX11_size_87 ⟨Nat.le_of_ble_eq_true rfl, Nat.le_of_ble_eq_true rfl⟩ ?_
        exact W.iret (v := r_4) hx hb hr (fun t ht _ => ⟨_, rfl, Option.some.inj h, ht⟩) (fun _ q => by cases q) dX11_size_90
      · have h := ifF sw_3 h
        by_cases sw_6 : p1 = 3
        · have h := ifT sw_6 h
          refine lv_tableIn (tgt := 91) hx hb dX11_size_1 (by rw [sw_6]; decide) (by rw [sw_6]; decide) (by rw [sw_6]; rfl) (by decide) ?_
          refine lv_aload_n hx hb dX11_size_91 rfl (lv_at hl 0 rfl) ?_
          refine va_get (D := D) (ci := 11) (C := RX11) (T := TX11) (N := 15) (v := .ref a_la) hx hb hX11 (fun _ q => q) hown hK hP 0 rfl rfl 3 (by decide) (hts (.fieldLink RX11 25 "ElephantLine" "land" "LElephantLine$Land;") (by decide +kernel)) (fun _ h9 => h9) rfl dX11_size_92 ?_
          refine va_getN (D := D) (ci := 2) (C := RX2) (T := TX2) (N := 14) (v := .int la_beasts) hx hb hX2 (fun _ q => q) hown hK hP 1 rfl rfl 5 (by decide) (va_Nw.use rfl (hKN.2.1.1 ("ElephantLine", 132, "ElephantLine$Land", "beasts", "I", "ElephantLine") (List.mem_of_getElem? (i := 19) rfl))) (fun _ h9 => h9) rfl dX11_size_95 ?_
          exact W.iret (v := la_beasts) hx hb hr (fun t ht _ => ⟨_, rfl, Option.some.inj h, ht⟩) (fun _ q => by cases q) dX11_size_98
        · have h := ifF sw_6 h
          by_cases sw_7 : p1 = 4
          · have h := ifT sw_7 h
            refine lv_tableIn (tgt := 99) hx hb dX11_size_1 (by rw [sw_7]; decide) (by rw [sw_7]; decide) (by rw [sw_7]; rfl) (by decide) ?_
            refine lv_aload_n hx hb dX11_size_99 rfl (lv_at hl 0 rfl) ?_
            refine va_get (D := D) (ci := 11) (C := RX11) (T := TX11) (N := 15) (v := .ref a_la) hx hb hX11 (fun _ q => q) hown hK hP 0 rfl rfl 3 (by decide) (hts (.fieldLink RX11 25 "ElephantLine" "land" "LElephantLine$Land;") (by decide +kernel)) (fun _ h9 => h9) rfl dX11_size_100 ?_
            refine va_getN (D := D) (ci := 2) (C := RX2) (T := TX2) (N := 14) (v := .int la_cities) hx hb hX2 (fun _ q => q) hown hK hP 1 rfl rfl 10 (by decide) (va_Nw.use rfl (hKN.2.1.1 ("ElephantLine", 416, "ElephantLine$Land", "cities", "I", "ElephantLine") (List.mem_of_getElem? (i := 30) rfl))) (fun _ h9 => h9) rfl dX11_size_103 ?_
            exact W.iret (v := la_cities) hx hb hr (fun t ht _ => ⟨_, rfl, Option.some.inj h, ht⟩) (fun _ q => by cases q) dX11_size_106
          · have h := ifF sw_7 h
            by_cases sw_8 : p1 = 5
            · have h := ifT sw_8 h
              refine lv_tableIn (tgt := 107) hx hb dX11_size_1 (by rw [sw_8]; decide) (by rw [sw_8]; decide) (by rw [sw_8]; rfl) (by decide) ?_
              refine lv_aload_n hx hb dX11_size_107 rfl (lv_at hl 0 rfl) ?_
              refine va_get (D := D) (ci := 11) (C := RX11) (T := TX11) (N := 15) (v := .ref a_la) hx hb hX11 (fun _ q => q) hown hK hP 0 rfl rfl 3 (by decide) (hts (.fieldLink RX11 25 "ElephantLine" "land" "LElephantLine$Land;") (by decide +kernel)) (fun _ h9 => h9) rfl dX11_size_108 ?_
              refine va_getN (D := D) (ci := 2) (C := RX2) (T := TX2) (N := 14) (v := .int la_passes) hx hb hX2 (fun _ q => q) hown hK hP 1 rfl rfl 11 (by decide) (va_Nw.use rfl (hKN.2.1.1 ("ElephantLine", 419, "ElephantLine$Land", "passes", "I", "ElephantLine") (List.mem_of_getElem? (i := 32) rfl))) (fun _ h9 => h9) rfl dX11_size_111 ?_
              exact W.iret (v := la_passes) hx hb hr (fun t ht _ => ⟨_, rfl, Option.some.inj h, ht⟩) (fun _ q => by cases q) dX11_size_114
            · have h := ifF sw_8 h
              by_cases sw_9 : p1 = 6
              · have h := ifT sw_9 h
                refine lv_tableIn (tgt := 115) hx hb dX11_size_1 (by rw [sw_9]; decide) (by rw [sw_9]; decide) (by rw [sw_9]; rfl) (by decide) ?_
                refine lv_aload_n hx hb dX11_size_115 rfl (lv_at hl 0 rfl) ?_
                refine va_get (D := D) (ci := 11) (C := RX11) (T := TX11) (N := 15) (v := .ref a_la) hx hb hX11 (fun _ q => q) hown hK hP 0 rfl rfl 3 (by decide) (hts (.fieldLink RX11 25 "ElephantLine" "land" "LElephantLine$Land;") (by decide +kernel)) (fun _ h9 => h9) rfl dX11_size_116 ?_
                refine va_getN (D := D) (ci := 2) (C := RX2) (T := TX2) (N := 14) (v := .int la_turned) hx hb hX2 (fun _ q => q) hown hK hP 1 rfl rfl 13 (by decide) (va_Nw.use rfl (hKN.2.1.1 ("ElephantLine", 422, "ElephantLine$Land", "turned", "I", "ElephantLine") (List.mem_of_getElem? (i := 35) rfl))) (fun _ h9 => h9) rfl dX11_size_119 ?_
                obtain ⟨r_10, hc_11, h⟩ := bd1_some h
                refine kSi [.int la_turned] [] ⟨hx, hb, hml, hown, hts⟩ (c_J6_bitCount_0f7a4 l D cy la_turned r_10 hc_11) gX11_size_J6_bitCount_0f7a4 rfl hd_J6_bitCount_0f7a4 ⟨Nat.le_of_ble_eq_true rfl, Nat.le_of_ble_eq_true rfl⟩ rfl rfl hKN va_nil rfl hl.1 rfl (Nat.le_of_ble_eq_true rfl) dX11_size_122 ⟨Nat.le_of_ble_eq_true rfl, Nat.le_of_ble_eq_true rfl⟩ ?_
                exact W.iret (v := r_10) hx hb hr (fun t ht _ => ⟨_, rfl, Option.some.inj h, ht⟩) (fun _ q => by cases q) dX11_size_125
              · have h := ifF sw_9 h
                by_cases sw_12 : p1 = 7
                · have h := ifT sw_12 h
                  refine lv_tableIn (tgt := 126) hx hb dX11_size_1 (by rw [sw_12]; decide) (by rw [sw_12]; decide) (by rw [sw_12]; rfl) (by decide) ?_
                  refine lv_aload_n hx hb dX11_size_126 rfl (lv_at hl 0 rfl) ?_
                  refine va_get (D := D) (ci := 11) (C := RX11) (T := TX11) (N := 15) (v := .ref a_no) hx hb hX11 (fun _ q => q) hown hK hP 0 rfl rfl 4 (by decide) (hts (.fieldLink RX11 32 "ElephantLine" "now" "LElephantLine$Stand;") (by decide +kernel)) (fun _ h9 => h9) rfl dX11_size_127 ?_
                  refine va_getN (D := D) (ci := 8) (C := RX8) (T := TX8) (N := 6) (v := .int no_wet) hx hb hX8 (fun _ q => q) hown hK hP 2 rfl rfl 4 (by decide) (va_Nw.use rfl (hKN.2.1.1 ("ElephantLine", 363, "ElephantLine$Stand", "wet", "Z", "ElephantLine") (List.mem_of_getElem? (i := 54) rfl))) (fun _ h9 => h9) rfl dX11_size_130 ?_
                  refine lv_if_eq (tgt := 140) hx hb dX11_size_133 (by decide) (fun cd => ?_) (fun cd => ?_)
                  · have h := ifT cd h
                    refine lv_iconst (v := 0) hx hb dX11_size_140 (by decide) ?_
                    exact W.iret (v := 0) hx hb hr (fun t ht _ => ⟨_, rfl, Option.some.inj h, ht⟩) (fun _ q => by cases q) dX11_size_141
                  · have h := ifF cd h
                    refine lv_iconst (v := 1) hx hb dX11_size_136 (by decide) ?_
                    refine lv_goto (tgt := 141) hx hb dX11_size_137 (by decide) ?_
                    exact W.iret (v := 1) hx hb hr (fun t ht _ => ⟨_, rfl, Option.some.inj h, ht⟩) (fun _ q => by cases q) dX11_size_141
                · have h := ifF sw_12 h
                  by_cases sw_13 : p1 = 8
                  · have h := ifT sw_13 h
                    refine lv_tableIn (tgt := 142) hx hb dX11_size_1 (by rw [sw_13]; decide) (by rw [sw_13]; decide) (by rw [sw_13]; rfl) (by decide) ?_
                    refine lv_aload_n hx hb dX11_size_142 rfl (lv_at hl 0 rfl) ?_
                    refine va_get (D := D) (ci := 11) (C := RX11) (T := TX11) (N := 15) (v := .ref a_no) hx hb hX11 (fun _ q => q) hown hK hP 0 rfl rfl 4 (by decide) (hts (.fieldLink RX11 32 "ElephantLine" "now" "LElephantLine$Stand;") (by decide +kernel)) (fun _ h9 => h9) rfl dX11_size_143 ?_
                    refine va_getN (D := D) (ci := 8) (C := RX8) (T := TX8) (N := 6) (v := .int no_drawn) hx hb hX8 (fun _ q => q) hown hK hP 2 rfl rfl 5 (by decide) (va_Nw.use rfl (hKN.2.1.1 ("ElephantLine", 367, "ElephantLine$Stand", "drawn", "I", "ElephantLine") (List.mem_of_getElem? (i := 56) rfl))) (fun _ h9 => h9) rfl dX11_size_146 ?_
                    exact W.iret (v := no_drawn) hx hb hr (fun t ht _ => ⟨_, rfl, Option.some.inj h, ht⟩) (fun _ q => by cases q) dX11_size_149
                  · have h := ifF sw_13 h
                    by_cases sw_14 : p1 = 9
                    · have h := ifT sw_14 h
                      refine lv_tableIn (tgt := 150) hx hb dX11_size_1 (by rw [sw_14]; decide) (by rw [sw_14]; decide) (by rw [sw_14]; rfl) (by decide) ?_
                      refine lv_aload_n hx hb dX11_size_150 rfl (lv_at hl 0 rfl) ?_
                      refine va_get (D := D) (ci := 11) (C := RX11) (T := TX11) (N := 15) (v := .ref a_pa) hx hb hX11 (fun _ q => q) hown hK hP 0 rfl rfl 5 (by decide) (hts (.fieldLink RX11 39 "ElephantLine" "past" "LElephantLine$Past;") (by decide +kernel)) (fun _ h9 => h9) rfl dX11_size_151 ?_
                      refine va_getN (D := D) (ci := 5) (C := RX5) (T := TX5) (N := 5) (v := .int pa_acts) hx hb hX5 (fun _ q => q) hown hK hP 3 rfl rfl 3 (by decide) (va_Nw.use rfl (hKN.2.1.1 ("ElephantLine", 425, "ElephantLine$Past", "acts", "I", "ElephantLine") (List.mem_of_getElem? (i := 57) rfl))) (fun _ h9 => h9) rfl dX11_size_154 ?_
                      exact W.iret (v := pa_acts) hx hb hr (fun t ht _ => ⟨_, rfl, Option.some.inj h, ht⟩) (fun _ q => by cases q) dX11_size_157
                    · have h := ifF sw_14 h
                      by_cases sw_15 : p1 = 10
                      · have h := ifT sw_15 h
                        refine lv_tableIn (tgt := 158) hx hb dX11_size_1 (by rw [sw_15]; decide) (by rw [sw_15]; decide) (by rw [sw_15]; rfl) (by decide) ?_
                        refine lv_aload_n hx hb dX11_size_158 rfl (lv_at hl 0 rfl) ?_
                        refine va_get (D := D) (ci := 11) (C := RX11) (T := TX11) (N := 15) (v := .ref a_pa) hx hb hX11 (fun _ q => q) hown hK hP 0 rfl rfl 5 (by decide) (hts (.fieldLink RX11 39 "ElephantLine" "past" "LElephantLine$Past;") (by decide +kernel)) (fun _ h9 => h9) rfl dX11_size_159 ?_
                        refine va_getN (D := D) (ci := 5) (C := RX5) (T := TX5) (N := 5) (v := .int pa_marks) hx hb hX5 (fun _ q => q) hown hK hP 3 rfl rfl 4 (by decide) (va_Nw.use rfl (hKN.2.1.1 ("ElephantLine", 384, "ElephantLine$Past", "marks", "I", "ElephantLine") (List.mem_of_getElem? (i := 58) rfl))) (fun _ h9 => h9) rfl dX11_size_162 ?_
                        exact W.iret (v := pa_marks) hx hb hr (fun t ht _ => ⟨_, rfl, Option.some.inj h, ht⟩) (fun _ q => by cases q) dX11_size_165
                      · have h := ifF sw_15 h
                        by_cases sw_16 : p1 = 11
                        · have h := ifT sw_16 h
                          refine lv_tableIn (tgt := 166) hx hb dX11_size_1 (by rw [sw_16]; decide) (by rw [sw_16]; decide) (by rw [sw_16]; rfl) (by decide) ?_
                          refine lv_aload_n hx hb dX11_size_166 rfl (lv_at hl 0 rfl) ?_
                          refine va_get (D := D) (ci := 11) (C := RX11) (T := TX11) (N := 15) (v := .int el_bytes) hx hb hX11 (fun _ q => q) hown hK hP 0 rfl rfl 1 (by decide) (hts (.fieldLink RX11 91 "ElephantLine" "bytes" "I") (by decide +kernel)) (fun _ h9 => h9) rfl dX11_size_167 ?_
                          exact W.iret (v := el_bytes) hx hb hr (fun t ht _ => ⟨_, rfl, Option.some.inj h, ht⟩) (fun _ q => by cases q) dX11_size_170
                        · have h := ifF sw_16 h
                          refine lv_tableOut (tgt := 171) hx hb dX11_size_1 (by have q0 := sw_ne sw_1; have q1 := sw_ne sw_2; have q2 := sw_ne sw_3; have q3 := sw_ne sw_6; have q4 := sw_ne sw_7; have q5 := sw_ne sw_8; have q6 := sw_ne sw_9; have q7 := sw_ne sw_12; have q8 := sw_ne sw_13; have q9 := sw_ne sw_14; have q10 := sw_ne sw_15; have q11 := sw_ne sw_16; rw [show (0 : Int32).toInt = 0 from rfl] at q0; rw [show (1 : Int32).toInt = 1 from rfl] at q1; rw [show (2 : Int32).toInt = 2 from rfl] at q2; rw [show (3 : Int32).toInt = 3 from rfl] at q3; rw [show (4 : Int32).toInt = 4 from rfl] at q4; rw [show (5 : Int32).toInt = 5 from rfl] at q5; rw [show (6 : Int32).toInt = 6 from rfl] at q6; rw [show (7 : Int32).toInt = 7 from rfl] at q7; rw [show (8 : Int32).toInt = 8 from rfl] at q8; rw [show (9 : Int32).toInt = 9 from rfl] at q9; rw [show (10 : Int32).toInt = 10 from rfl] at q10; rw [show (11 : Int32).toInt = 11 from rfl] at q11; omega) (by decide) ?_
                          refine lv_iconst (v := (-1)) hx hb dX11_size_171 (by decide) ?_
                          exact W.iret (v := (-1)) hx hb hr (fun t ht _ => ⟨_, rfl, Option.some.inj h, ht⟩) (fun _ q => by cases q) dX11_size_172
theorem hd_X11_trouble : yX11_trouble.cls = RX11 ∧ yX11_trouble.cls ≠ "java/lang/invoke/MethodHandle" ∧ yX11_trouble.cls ≠ "java/lang/invoke/VarHandle" ∧ (parseMethodDescriptor yX11_trouble.desc).map (fun d => d.parameters.length) = some 0 := by decide +kernel
set_option maxHeartbeats 4000000 in
set_option maxRecDepth 100000 in
theorem c_X11_trouble (l : Launch) (D : va_G) (cy : Nat → ClassId) (a_el : Nat) (el_tape : Value) (el_bytes : Int32) (el_reader : Value) (el_land : Value) (el_now : Value) (el_past : Value) (el_odds : Value) (el_game : Value) (el_placing : Value) (el_marching : Value) (el_trumpets : Value) (el_fight : Value) (el_refusal : Int32) (el_faultTold : Int32) (el_faultPlace : Int32) (res : Int32) (h : f_X11_trouble el_refusal = some (res)) : Met l yX11_trouble wo_X11_trouble ({ frames := 0, cells := 0, slots := 0, locals := 0 }) (roPc D cy [.ref a_el] [(a_el, .inr (11, [el_tape, .int el_bytes, el_reader, el_land, el_now, el_past, el_odds, el_game, el_placing, el_marching, el_trumpets, el_fight, .int el_refusal, .int el_faultTold, .int el_faultPlace]))]) (vp_Si (fun r => r = res)) 0 0 (fun _ => False) := by
  refine Met.ofW (cc := cX11_trouble) (maxL := 1) (ret := (some .int)) (by decide) rfl ?_
  intro p e s m args below meth c s₁ B hml hv
  obtain ⟨rfl, hP, hKN⟩ := hv
  have hK := hKN.1
  have hx := B.exec
  have hb := B.bytes
  have hr := B.returns
  have hts := wt_X11_trouble hKN.2.2 (([.ref a_el] : List Value).toArray)
  have hown : s.vm.findClass RX11 = some m.cls := findClass_of_methodNamed B.named
  have hlocks := B.notSynchronized
  have hX11 := wc_X11 hKN.2.2 (([.ref a_el] : List Value).toArray)
  have hl := lv_entry ([.ref a_el]) (n := 1) (Nat.le_of_ble_eq_true rfl)
  rw [lg_entry_eq]
  generalize (lg_sl ([.ref a_el]) ++ List.replicate (1 - (lg_sl ([.ref a_el])).length) Slot.unset).toArray = ls at hl ⊢
  have hl : lv_has ls 1 [(0, .ref a_el)] := hl
  unfold f_X11_trouble at h
  refine lv_aload_n hx hb dX11_trouble_0 rfl (lv_at hl 0 rfl) ?_
  refine va_get (D := D) (ci := 11) (C := RX11) (T := TX11) (N := 15) (v := .int el_refusal) hx hb hX11 (fun _ q => q) hown hK hP 0 rfl rfl 12 (by decide) (hts (.fieldLink RX11 135 "ElephantLine" "refusal" "I") (by decide +kernel)) (fun _ h9 => h9) rfl dX11_trouble_1 ?_
  exact W.iret (v := el_refusal) hx hb hr (fun t ht _ => ⟨_, rfl, Option.some.inj h, ht⟩) (fun _ q => by cases q) dX11_trouble_4
theorem hd_X11_append : yX11_append.cls = RX11 ∧ yX11_append.cls ≠ "java/lang/invoke/MethodHandle" ∧ yX11_append.cls ≠ "java/lang/invoke/VarHandle" ∧ (parseMethodDescriptor yX11_append.desc).map (fun d => d.parameters.length) = some 1 := by decide +kernel
set_option maxHeartbeats 4000000 in
set_option maxRecDepth 100000 in
theorem c_X11_append (l : Launch) (D : va_G) (cy : Nat → ClassId) (A : Nat → Prop) (X : va_W) (a_el a_tape : Nat) (el_bytes : Int32) (el_reader : Value) (el_land : Value) (el_now : Value) (el_past : Value) (el_odds : Value) (el_game : Value) (el_placing : Value) (el_marching : Value) (el_trumpets : Value) (el_fight : Value) (el_refusal : Int32) (el_faultTold : Int32) (el_faultPlace : Int32) (tape : Nat → Int32) (p1 : Int32) (el_bytes' : Int32) (tape' : Nat → Int32) (h : f_X11_append el_bytes tape p1 = some (el_bytes', tape')) : Met l yX11_append wo_X11_append ({ frames := 0, cells := 0, slots := 0, locals := 0 }) (wrPc D cy A [.ref a_el, .int p1] ([(a_el, .inr (11, [.ref a_tape, .int el_bytes, el_reader, el_land, el_now, el_past, el_odds, el_game, el_placing, el_marching, el_trumpets, el_fight, .int el_refusal, .int el_faultTold, .int el_faultPlace])), (a_tape, .inl (cy 0, 900, .inl tape))] ++ X)) (va_Qv (fun (_ : Unit) => True) (wB D A ([(a_el, .inr (11, [.ref a_tape, .int el_bytes', el_reader, el_land, el_now, el_past, el_odds, el_game, el_placing, el_marching, el_trumpets, el_fight, .int el_refusal, .int el_faultTold, .int el_faultPlace])), (a_tape, .inl (cy 0, 900, .inl tape'))] ++ X)) A) 0 0 A := by
  refine Met.ofW (cc := cX11_append) (maxL := 3) (ret := none) (by decide) rfl ?_
  intro p e s m args below meth c s₁ B hml hv
  obtain ⟨rfl, hP, hKN, hD, hA⟩ := hv
  have hK := hKN.1
  have hx := B.exec
  have hb := B.bytes
  have hr := B.returns
  have hts := wt_X11_append hKN.2.2 (([.ref a_el, .int p1] : List Value).toArray)
  have hown : s.vm.findClass RX11 = some m.cls := findClass_of_methodNamed B.named
  have hlocks := B.notSynchronized
  have hS : va_S A s.heap s.heap [] := va_S.rf
  have hX11 := wc_X11 hKN.2.2 (([.ref a_el, .int p1] : List Value).toArray)
  have hl := lv_entry ([.ref a_el, .int p1]) (n := 3) (Nat.le_of_ble_eq_true rfl)
  rw [lg_entry_eq]
  generalize (lg_sl ([.ref a_el, .int p1]) ++ List.replicate (3 - (lg_sl ([.ref a_el, .int p1])).length) Slot.unset).toArray = ls at hl ⊢
  have hl : lv_has ls 3 [(0, .ref a_el), (1, .int p1)] := hl
  unfold f_X11_append at h
  refine lv_bipush (v := 24) hx hb dX11_append_0 (by decide) ?_
  refine lv_istore_n (lv' := [(2, .int 24), (0, .ref a_el), (1, .int p1)]) hx hb dX11_append_2 rfl hl (by decide) rfl (fun ls hl => ?_)
  have lp3 : ∀ (n3 : Nat) (x2_1 : Int32) (el_bytes_2 : Int32) (tape_3 : Nat → Int32), f_X11_append_L3 p1 n3 x2_1 el_bytes_2 tape_3 = some (el_bytes', tape') → ∀ (H : Heap) (locs : List Loc), va_P D vwCl ([(a_el, .inr (11, [.ref a_tape, .int el_bytes_2, el_reader, el_land, el_now, el_past, el_odds, el_game, el_placing, el_marching, el_trumpets, el_fight, .int el_refusal, .int el_faultTold, .int el_faultPlace])), (a_tape, .inl (cy 0, 900, .inl tape_3))] ++ X) H → va_D A ([(a_el, .inr (11, [.ref a_tape, .int el_bytes_2, el_reader, el_land, el_now, el_past, el_odds, el_game, el_placing, el_marching, el_trumpets, el_fight, .int el_refusal, .int el_faultTold, .int el_faultPlace])), (a_tape, .inl (cy 0, 900, .inl tape_3))] ++ X) → va_S A s.heap H locs → ∀ ls : Array Slot, lv_has ls 3 [(0, .ref a_el), (1, .int p1), (2, .int x2_1)] → W p l e (headSpec wo_X11_append ({ frames := 0, cells := 0, slots := 0, locals := 0 })).room s m (([.ref a_el, .int p1] : List Value).toArray) below meth c H locs 0 0 (MQ below (va_Qv (fun (_ : Unit) => True) (wB D A ([(a_el, .inr (11, [.ref a_tape, .int el_bytes', el_reader, el_land, el_now, el_past, el_odds, el_game, el_placing, el_marching, el_trumpets, el_fight, .int el_refusal, .int el_faultTold, .int el_faultPlace])), (a_tape, .inl (cy 0, 900, .inl tape'))] ++ X)) A) (([.ref a_el, .int p1] : List Value).toArray) s 0 0 A) (F0 m 3 ls []) := by
    intro n3
    induction n3 with
    | zero => intro x2_1 el_bytes_2 tape_3 h; exact absurd (show (none : Option (Int32 × (Nat → Int32))) = some _ from h) (by intro q; cases q)
    | succ n3 ih3 =>
      intro x2_1 el_bytes_2 tape_3 h H locs hP hD hS ls hl
      have h : f_X11_append_b3 p1 (f_X11_append_L3 p1 n3) x2_1 el_bytes_2 tape_3 = some (el_bytes', tape') := h
      unfold f_X11_append_b3 at h
      refine lv_iload_n hx hb dX11_append_3 rfl (lv_at hl 2 rfl) ?_
      refine lv_if_lt (tgt := 48) hx hb dX11_append_4 (by decide) (fun cd => ?_) (fun cd => ?_)
      · have h := ifT cd h
        cases h
        exact W.vret hx hb hr (fun t ht _ => ⟨⟨(), rfl, trivial, by rw [ht]; exact hP, hD⟩, hS.F ht⟩) hS.2.2 dX11_append_48
      · have h := ifF cd h
        refine lv_aload_n hx hb dX11_append_7 rfl (lv_at hl 0 rfl) ?_
        refine va_get (D := D) (ci := 11) (C := RX11) (T := TX11) (N := 15) (v := .int el_bytes_2) hx hb hX11 (fun _ q => q) hown hK hP 0 rfl rfl 1 (by decide) (hts (.fieldLink RX11 91 "ElephantLine" "bytes" "I") (by decide +kernel)) (fun _ h9 => h9) rfl dX11_append_8 ?_
        refine lv_aload_n hx hb dX11_append_11 rfl (lv_at hl 0 rfl) ?_
        refine va_get (D := D) (ci := 11) (C := RX11) (T := TX11) (N := 15) (v := .ref a_tape) hx hb hX11 (fun _ q => q) hown hK hP 0 rfl rfl 0 (by decide) (hts (.fieldLink RX11 9 "ElephantLine" "tape" "[B") (by decide +kernel)) (fun _ h9 => h9) rfl dX11_append_12 ?_
        refine va_alen (v := 900) hx hb hK hP 1 0 rfl rfl rfl dX11_append_15 ?_
        have jn42 : ∀ (el_bytes_4 : Int32) (tape_5 : Nat → Int32), f_X11_append_B42 (f_X11_append_L3 p1 n3) p1 x2_1 el_bytes_4 tape_5 = some (el_bytes', tape') → ∀ (H : Heap) (locs : List Loc), va_P D vwCl ([(a_el, .inr (11, [.ref a_tape, .int el_bytes_4, el_reader, el_land, el_now, el_past, el_odds, el_game, el_placing, el_marching, el_trumpets, el_fight, .int el_refusal, .int el_faultTold, .int el_faultPlace])), (a_tape, .inl (cy 0, 900, .inl tape_5))] ++ X) H → va_D A ([(a_el, .inr (11, [.ref a_tape, .int el_bytes_4, el_reader, el_land, el_now, el_past, el_odds, el_game, el_placing, el_marching, el_trumpets, el_fight, .int el_refusal, .int el_faultTold, .int el_faultPlace])), (a_tape, .inl (cy 0, 900, .inl tape_5))] ++ X) → va_S A s.heap H locs → ∀ ls : Array Slot, lv_has ls 3 [(0, .ref a_el), (1, .int p1), (2, .int x2_1)] → W p l e (headSpec wo_X11_append ({ frames := 0, cells := 0, slots := 0, locals := 0 })).room s m (([.ref a_el, .int p1] : List Value).toArray) below meth c H locs 0 0 (MQ below (va_Qv (fun (_ : Unit) => True) (wB D A ([(a_el, .inr (11, [.ref a_tape, .int el_bytes', el_reader, el_land, el_now, el_past, el_odds, el_game, el_placing, el_marching, el_trumpets, el_fight, .int el_refusal, .int el_faultTold, .int el_faultPlace])), (a_tape, .inl (cy 0, 900, .inl tape'))] ++ X)) A) (([.ref a_el, .int p1] : List Value).toArray) s 0 0 A) (F0 m 42 ls []) := by
          intro el_bytes_4 tape_5 h H locs hP hD hS ls hl
          unfold f_X11_append_B42 at h
          refine lv_iinc (v := x2_1 + (-8)) (lv' := [(2, .int (x2_1 + (-8))), (0, .ref a_el), (1, .int p1)]) hx hb dX11_append_42 hl (k := 2) rfl (by first | rfl | decide) (by decide) rfl (fun ls hl => ?_)
          refine lv_goto (tgt := 3) hx hb dX11_append_45 (by decide) ?_
          exact ih3 (x2_1 + (-8)) el_bytes_4 tape_5 h _ _ hP hD hS _ (lv_sub hl [1, 2, 0] rfl)
        refine lv_icmp_ge (tgt := 42) hx hb dX11_append_16 (by decide) (fun cd => ?_) (fun cd => ?_)
        · have h := ifT cd h
          exact jn42 el_bytes_2 tape_3 h _ _ hP hD hS _ (lv_sub hl [0, 1, 2] rfl)
        · have h := ifF cd h
          refine lv_aload_n hx hb dX11_append_19 rfl (lv_at hl 0 rfl) ?_
          refine va_get (D := D) (ci := 11) (C := RX11) (T := TX11) (N := 15) (v := .ref a_tape) hx hb hX11 (fun _ q => q) hown hK hP 0 rfl rfl 0 (by decide) (hts (.fieldLink RX11 9 "ElephantLine" "tape" "[B") (by decide +kernel)) (fun _ h9 => h9) rfl dX11_append_20 ?_
          refine lv_aload_n hx hb dX11_append_23 rfl (lv_at hl 0 rfl) ?_
          refine va_get (D := D) (ci := 11) (C := RX11) (T := TX11) (N := 15) (v := .int el_bytes_2) hx hb hX11 (fun _ q => q) hown hK hP 0 rfl rfl 1 (by decide) (hts (.fieldLink RX11 91 "ElephantLine" "bytes" "I") (by decide +kernel)) (fun _ h9 => h9) rfl dX11_append_24 ?_
          refine lv_iload_n hx hb dX11_append_27 rfl (lv_at hl 1 rfl) ?_
          refine lv_iload_n hx hb dX11_append_28 rfl (lv_at hl 2 rfl) ?_
          refine lv_ishr hx hb dX11_append_29 ?_
          refine lv_i2b hx hb dX11_append_30 rfl ?_
          obtain ⟨i_6, h⟩ := gIn_some h
          refine va_bast hx hb hK hP hD hS 1 0 rfl rfl i_6 dX11_append_31 (fun H locs hP hD hS => ?_)
          refine lv_aload_n hx hb dX11_append_32 rfl (lv_at hl 0 rfl) ?_
          refine lv_dup hx hb dX11_append_33 rfl ?_
          refine va_get (D := D) (ci := 11) (C := RX11) (T := TX11) (N := 15) (v := .int el_bytes_2) hx hb hX11 (fun _ q => q) hown hK hP 0 rfl rfl 1 (by decide) (hts (.fieldLink RX11 91 "ElephantLine" "bytes" "I") (by decide +kernel)) (fun _ h9 => h9) rfl dX11_append_34 ?_
          refine lv_iconst (v := 1) hx hb dX11_append_37 (by decide) ?_
          refine lv_iadd hx hb dX11_append_38 ?_
          refine va_put (D := D) (ci := 11) (C := RX11) (T := TX11) (N := 15) (v := .int (el_bytes_2 + 1)) (ty := .int) hx hb hX11 (fun _ q => q) tyX11 tyX11_ok nmX11 hown hK hP hD hS 0 rfl rfl 1 (by decide) (hts (.fieldLink RX11 91 "ElephantLine" "bytes" "I") (by decide +kernel)) (fun _ h9 => h9) rfl (tyX11_ok 1 (by decide)) rfl rfl (Nat.le_of_ble_eq_true rfl) dX11_append_39 (fun H locs hP hD hS => ?_)
          exact jn42 (el_bytes_2 + 1) (upd tape_3 el_bytes_2.toNatClampNeg (vp_nar .byte ((p1 >>> (x2_1 &&& 31)).toInt8.toInt32))) h _ _ hP hD hS _ (lv_sub hl [0, 1, 2] rfl)
  exact lp3 fuelN (24 : Int32) el_bytes tape h _ _ hP hD hS _ (lv_sub hl [1, 2, 0] rfl)
theorem hd_X11_isRefused : yX11_isRefused.cls = RX11 ∧ yX11_isRefused.cls ≠ "java/lang/invoke/MethodHandle" ∧ yX11_isRefused.cls ≠ "java/lang/invoke/VarHandle" ∧ (parseMethodDescriptor yX11_isRefused.desc).map (fun d => d.parameters.length) = some 1 := by decide +kernel
set_option maxHeartbeats 4000000 in
set_option maxRecDepth 100000 in
theorem c_X11_isRefused (l : Launch) (D : va_G) (cy : Nat → ClassId) (A : Nat → Prop) (X : va_W) (a_el : Nat) (el_tape : Value) (el_bytes : Int32) (el_reader : Value) (el_land : Value) (el_now : Value) (el_past : Value) (el_odds : Value) (el_game : Value) (el_placing : Value) (el_marching : Value) (el_trumpets : Value) (el_fight : Value) (el_refusal : Int32) (el_faultTold : Int32) (el_faultPlace : Int32) (p1 : Int32) (res : Int32) (el_refusal' : Int32) (h : f_X11_isRefused el_refusal p1 = some (res, el_refusal')) : Met l yX11_isRefused wo_X11_isRefused ({ frames := 0, cells := 0, slots := 0, locals := 0 }) (wrPc D cy A [.ref a_el, .int p1] ([(a_el, .inr (11, [el_tape, .int el_bytes, el_reader, el_land, el_now, el_past, el_odds, el_game, el_placing, el_marching, el_trumpets, el_fight, .int el_refusal, .int el_faultTold, .int el_faultPlace]))] ++ X)) (va_Qi (fun (r : Int32) (_ : Unit) => r = res ∧ nbv r) (wB D A ([(a_el, .inr (11, [el_tape, .int el_bytes, el_reader, el_land, el_now, el_past, el_odds, el_game, el_placing, el_marching, el_trumpets, el_fight, .int el_refusal', .int el_faultTold, .int el_faultPlace]))] ++ X)) A) 0 0 A := by
  refine Met.ofW (cc := cX11_isRefused) (maxL := 2) (ret := (some .boolean)) (by decide) rfl ?_
  intro p e s m args below meth c s₁ B hml hv
  obtain ⟨rfl, hP, hKN, hD, hA⟩ := hv
  have hK := hKN.1
  have hx := B.exec
  have hb := B.bytes
  have hr := B.returns
  have hts := wt_X11_isRefused hKN.2.2 (([.ref a_el, .int p1] : List Value).toArray)
  have hown : s.vm.findClass RX11 = some m.cls := findClass_of_methodNamed B.named
  have hlocks := B.notSynchronized
  have hS : va_S A s.heap s.heap [] := va_S.rf
  have hX11 := wc_X11 hKN.2.2 (([.ref a_el, .int p1] : List Value).toArray)
  have hl := lv_entry ([.ref a_el, .int p1]) (n := 2) (Nat.le_of_ble_eq_true rfl)
  rw [lg_entry_eq]
  generalize (lg_sl ([.ref a_el, .int p1]) ++ List.replicate (2 - (lg_sl ([.ref a_el, .int p1])).length) Slot.unset).toArray = ls at hl ⊢
  have hl : lv_has ls 2 [(0, .ref a_el), (1, .int p1)] := hl
  unfold f_X11_isRefused at h
  refine lv_aload_n hx hb dX11_isRefused_0 rfl (lv_at hl 0 rfl) ?_
  refine lv_iload_n hx hb dX11_isRefused_1 rfl (lv_at hl 1 rfl) ?_
  refine va_put (D := D) (ci := 11) (C := RX11) (T := TX11) (N := 15) (v := .int p1) (ty := .int) hx hb hX11 (fun _ q => q) tyX11 tyX11_ok nmX11 hown hK hP hD hS 0 rfl rfl 12 (by decide) (hts (.fieldLink RX11 135 "ElephantLine" "refusal" "I") (by decide +kernel)) (fun _ h9 => h9) rfl (tyX11_ok 12 (by decide)) rfl rfl (Nat.le_of_ble_eq_true rfl) dX11_isRefused_2 (fun H locs hP hD hS => ?_)
  refine lv_iload_n hx hb dX11_isRefused_5 rfl (lv_at hl 1 rfl) ?_
  refine lv_if_eq (tgt := 13) hx hb dX11_isRefused_6 (by decide) (fun cd => ?_) (fun cd => ?_)
  · have h := ifT cd h
    refine lv_iconst (v := 0) hx hb dX11_isRefused_13 (by decide) ?_
    cases h
    exact W.zret (ty := .boolean) hx hb hr (nbv.n nbv_0) (fun t ht _ => ⟨⟨_, (), rfl, ⟨rfl, nbv_0⟩, by rw [ht]; exact hP, hD⟩, hS.F ht⟩) hS.2.2 dX11_isRefused_14
  · have h := ifF cd h
    refine lv_iconst (v := 1) hx hb dX11_isRefused_9 (by decide) ?_
    refine lv_goto (tgt := 14) hx hb dX11_isRefused_10 (by decide) ?_
    cases h
    exact W.zret (ty := .boolean) hx hb hr (nbv.n nbv_1) (fun t ht _ => ⟨⟨_, (), rfl, ⟨rfl, nbv_1⟩, by rw [ht]; exact hP, hD⟩, hS.F ht⟩) hS.2.2 dX11_isRefused_14
theorem hd_X11_warTrouble : yX11_warTrouble.cls = RX11 ∧ yX11_warTrouble.cls ≠ "java/lang/invoke/MethodHandle" ∧ yX11_warTrouble.cls ≠ "java/lang/invoke/VarHandle" ∧ (parseMethodDescriptor yX11_warTrouble.desc).map (fun d => d.parameters.length) = some 0 := by decide +kernel
set_option maxHeartbeats 4000000 in
set_option maxRecDepth 100000 in
theorem c_X11_warTrouble (l : Launch) (D : va_G) (cy : Nat → ClassId) (a_el a_la : Nat) (el_tape : Value) (el_bytes : Int32) (el_reader : Value) (el_now : Value) (el_past : Value) (el_odds : Value) (el_game : Value) (el_placing : Value) (el_marching : Value) (el_trumpets : Value) (el_fight : Value) (el_refusal : Int32) (el_faultTold : Int32) (el_faultPlace : Int32) (la_lanes : Int32) (la_deep : Int32) (la_lanesTold : Int32) (la_who : Value) (la_firstStrong : Value) (la_beasts : Int32) (la_kind : Value) (la_firstLane : Value) (la_mood : Value) (la_price : Value) (la_cities : Int32) (la_passes : Int32) (la_passBetween : Value) (la_turned : Int32) (res : Int32) (h : f_X11_warTrouble la_lanes = some (res)) : Met l yX11_warTrouble wo_X11_warTrouble ({ frames := 1, cells := 0, slots := 0, locals := 20 }) (roPc D cy [.ref a_el] [(a_el, .inr (11, [el_tape, .int el_bytes, el_reader, .ref a_la, el_now, el_past, el_odds, el_game, el_placing, el_marching, el_trumpets, el_fight, .int el_refusal, .int el_faultTold, .int el_faultPlace])), (a_la, .inr (2, [.int la_lanes, .int la_deep, .int la_lanesTold, la_who, la_firstStrong, .int la_beasts, la_kind, la_firstLane, la_mood, la_price, .int la_cities, .int la_passes, la_passBetween, .int la_turned]))]) (vp_Si (fun r => r = res)) 0 0 (fun _ => False) := by
  refine Met.ofW (cc := cX11_warTrouble) (maxL := 1) (ret := (some .int)) (by decide) rfl ?_
  intro p e s m args below meth c s₁ B hml hv
  obtain ⟨rfl, hP, hKN⟩ := hv
  have hK := hKN.1
  have hx := B.exec
  have hb := B.bytes
  have hr := B.returns
  have hts := wt_X11_warTrouble hKN.2.2 (([.ref a_el] : List Value).toArray)
  have hown : s.vm.findClass RX11 = some m.cls := findClass_of_methodNamed B.named
  have hlocks := B.notSynchronized
  have hX11 := wc_X11 hKN.2.2 (([.ref a_el] : List Value).toArray)
  have hl := lv_entry ([.ref a_el]) (n := 1) (Nat.le_of_ble_eq_true rfl)
  rw [lg_entry_eq]
  generalize (lg_sl ([.ref a_el]) ++ List.replicate (1 - (lg_sl ([.ref a_el])).length) Slot.unset).toArray = ls at hl ⊢
  have hl : lv_has ls 1 [(0, .ref a_el)] := hl
  unfold f_X11_warTrouble at h
  refine lv_aload_n hx hb dX11_warTrouble_0 rfl (lv_at hl 0 rfl) ?_
  refine va_get (D := D) (ci := 11) (C := RX11) (T := TX11) (N := 15) (v := .ref a_la) hx hb hX11 (fun _ q => q) hown hK hP 0 rfl rfl 3 (by decide) (hts (.fieldLink RX11 25 "ElephantLine" "land" "LElephantLine$Land;") (by decide +kernel)) (fun _ h9 => h9) rfl dX11_warTrouble_1 ?_
  obtain ⟨r_1, hc_2, h⟩ := bd1_some h
  refine kVb [] [] ⟨hx, hb, hml, hown, hts⟩ (c_X2_isTold l D cy a_la la_lanes la_deep la_lanesTold (la_who) (la_firstStrong) la_beasts (la_kind) (la_firstLane) (la_mood) (la_price) la_cities la_passes (la_passBetween) la_turned r_1 hc_2) gX11_warTrouble_X2_isTold rfl hd_X2_isTold ⟨Nat.le_of_ble_eq_true rfl, Nat.le_of_ble_eq_true rfl⟩ rfl rfl hKN (hP.sub [1] rfl) 2 0 rfl rfl rfl hl.1 rfl (Nat.le_of_ble_eq_true rfl) dX11_warTrouble_4 ⟨Nat.le_of_ble_eq_true rfl, Nat.le_of_ble_eq_true rfl⟩ (fun nb_3 => ?_)
  refine lv_if_eq (tgt := 14) hx hb dX11_warTrouble_7 (by decide) (fun cd => ?_) (fun cd => ?_)
  · have h := ifT cd h
    refine lv_iconst (v := 1) hx hb dX11_warTrouble_14 (by decide) ?_
    exact W.iret (v := 1) hx hb hr (fun t ht _ => ⟨_, rfl, Option.some.inj h, ht⟩) (fun _ q => by cases q) dX11_warTrouble_15
  · have h := ifF cd h
    refine lv_iconst (v := 0) hx hb dX11_warTrouble_10 (by decide) ?_
    refine lv_goto (tgt := 15) hx hb dX11_warTrouble_11 (by decide) ?_
    exact W.iret (v := 0) hx hb hr (fun t ht _ => ⟨_, rfl, Option.some.inj h, ht⟩) (fun _ q => by cases q) dX11_warTrouble_15
theorem hd_X11_beastTrouble : yX11_beastTrouble.cls = RX11 ∧ yX11_beastTrouble.cls ≠ "java/lang/invoke/MethodHandle" ∧ yX11_beastTrouble.cls ≠ "java/lang/invoke/VarHandle" ∧ (parseMethodDescriptor yX11_beastTrouble.desc).map (fun d => d.parameters.length) = some 1 := by decide +kernel
set_option maxHeartbeats 4000000 in
set_option maxRecDepth 100000 in
theorem c_X11_beastTrouble (l : Launch) (D : va_G) (cy : Nat → ClassId) (a_el a_la : Nat) (el_tape : Value) (el_bytes : Int32) (el_reader : Value) (el_now : Value) (el_past : Value) (el_odds : Value) (el_game : Value) (el_placing : Value) (el_marching : Value) (el_trumpets : Value) (el_fight : Value) (el_refusal : Int32) (el_faultTold : Int32) (el_faultPlace : Int32) (la_lanes : Int32) (la_deep : Int32) (la_lanesTold : Int32) (la_who : Value) (la_firstStrong : Value) (la_beasts : Int32) (la_kind : Value) (la_firstLane : Value) (la_mood : Value) (la_price : Value) (la_cities : Int32) (la_passes : Int32) (la_passBetween : Value) (la_turned : Int32) (p1 : Int32) (res : Int32) (h : f_X11_beastTrouble la_beasts p1 = some (res)) : Met l yX11_beastTrouble wo_X11_beastTrouble ({ frames := 1, cells := 0, slots := 0, locals := 21 }) (roPc D cy [.ref a_el, .int p1] [(a_el, .inr (11, [el_tape, .int el_bytes, el_reader, .ref a_la, el_now, el_past, el_odds, el_game, el_placing, el_marching, el_trumpets, el_fight, .int el_refusal, .int el_faultTold, .int el_faultPlace])), (a_la, .inr (2, [.int la_lanes, .int la_deep, .int la_lanesTold, la_who, la_firstStrong, .int la_beasts, la_kind, la_firstLane, la_mood, la_price, .int la_cities, .int la_passes, la_passBetween, .int la_turned]))]) (vp_Si (fun r => r = res)) 0 0 (fun _ => False) := by
  refine Met.ofW (cc := cX11_beastTrouble) (maxL := 2) (ret := (some .int)) (by decide) rfl ?_
  intro p e s m args below meth c s₁ B hml hv
  obtain ⟨rfl, hP, hKN⟩ := hv
  have hK := hKN.1
  have hx := B.exec
  have hb := B.bytes
  have hr := B.returns
  have hts := wt_X11_beastTrouble hKN.2.2 (([.ref a_el, .int p1] : List Value).toArray)
  have hown : s.vm.findClass RX11 = some m.cls := findClass_of_methodNamed B.named
  have hlocks := B.notSynchronized
  have hX11 := wc_X11 hKN.2.2 (([.ref a_el, .int p1] : List Value).toArray)
  have hl := lv_entry ([.ref a_el, .int p1]) (n := 2) (Nat.le_of_ble_eq_true rfl)
  rw [lg_entry_eq]
  generalize (lg_sl ([.ref a_el, .int p1]) ++ List.replicate (2 - (lg_sl ([.ref a_el, .int p1])).length) Slot.unset).toArray = ls at hl ⊢
  have hl : lv_has ls 2 [(0, .ref a_el), (1, .int p1)] := hl
  unfold f_X11_beastTrouble at h
  refine lv_aload_n hx hb dX11_beastTrouble_0 rfl (lv_at hl 0 rfl) ?_
  refine va_get (D := D) (ci := 11) (C := RX11) (T := TX11) (N := 15) (v := .ref a_la) hx hb hX11 (fun _ q => q) hown hK hP 0 rfl rfl 3 (by decide) (hts (.fieldLink RX11 25 "ElephantLine" "land" "LElephantLine$Land;") (by decide +kernel)) (fun _ h9 => h9) rfl dX11_beastTrouble_1 ?_
  refine lv_iload_n hx hb dX11_beastTrouble_4 rfl (lv_at hl 1 rfl) ?_
  obtain ⟨r_1, hc_2, h⟩ := bd1_some h
  refine kVb [.int p1] [] ⟨hx, hb, hml, hown, hts⟩ (c_X2_hasBeast l D cy a_la la_lanes la_deep la_lanesTold (la_who) (la_firstStrong) la_beasts (la_kind) (la_firstLane) (la_mood) (la_price) la_cities la_passes (la_passBetween) la_turned p1 r_1 hc_2) gX11_beastTrouble_X2_hasBeast rfl hd_X2_hasBeast ⟨Nat.le_of_ble_eq_true rfl, Nat.le_of_ble_eq_true rfl⟩ rfl rfl hKN (hP.sub [1] rfl) 2 0 rfl rfl rfl hl.1 rfl (Nat.le_of_ble_eq_true rfl) dX11_beastTrouble_5 ⟨Nat.le_of_ble_eq_true rfl, Nat.le_of_ble_eq_true rfl⟩ (fun nb_3 => ?_)
  refine lv_if_eq (tgt := 15) hx hb dX11_beastTrouble_8 (by decide) (fun cd => ?_) (fun cd => ?_)
  · have h := ifT cd h
    refine lv_iconst (v := 1) hx hb dX11_beastTrouble_15 (by decide) ?_
    exact W.iret (v := 1) hx hb hr (fun t ht _ => ⟨_, rfl, Option.some.inj h, ht⟩) (fun _ q => by cases q) dX11_beastTrouble_16
  · have h := ifF cd h
    refine lv_iconst (v := 0) hx hb dX11_beastTrouble_11 (by decide) ?_
    refine lv_goto (tgt := 16) hx hb dX11_beastTrouble_12 (by decide) ?_
    exact W.iret (v := 0) hx hb hr (fun t ht _ => ⟨_, rfl, Option.some.inj h, ht⟩) (fun _ q => by cases q) dX11_beastTrouble_16
theorem hd_X11_meetingTrouble : yX11_meetingTrouble.cls = RX11 ∧ yX11_meetingTrouble.cls ≠ "java/lang/invoke/MethodHandle" ∧ yX11_meetingTrouble.cls ≠ "java/lang/invoke/VarHandle" ∧ (parseMethodDescriptor yX11_meetingTrouble.desc).map (fun d => d.parameters.length) = some 2 := by decide +kernel
set_option maxHeartbeats 4000000 in
set_option maxRecDepth 100000 in
theorem c_X11_meetingTrouble (l : Launch) (D : va_G) (cy : Nat → ClassId) (a_el a_la : Nat) (el_tape : Value) (el_bytes : Int32) (el_reader : Value) (el_now : Value) (el_past : Value) (el_odds : Value) (el_game : Value) (el_placing : Value) (el_marching : Value) (el_trumpets : Value) (el_fight : Value) (el_refusal : Int32) (el_faultTold : Int32) (el_faultPlace : Int32) (la_lanes : Int32) (la_deep : Int32) (la_lanesTold : Int32) (la_who : Value) (la_firstStrong : Value) (la_beasts : Int32) (la_kind : Value) (la_firstLane : Value) (la_mood : Value) (la_price : Value) (la_cities : Int32) (la_passes : Int32) (la_passBetween : Value) (la_turned : Int32) (p1 : Int32) (p2 : Int32) (res : Int32) (h : f_X11_meetingTrouble la_lanes la_beasts p1 p2 = some (res)) : Met l yX11_meetingTrouble wo_X11_meetingTrouble ({ frames := 1, cells := 0, slots := 0, locals := 21 }) (roPc D cy [.ref a_el, .int p1, .int p2] [(a_el, .inr (11, [el_tape, .int el_bytes, el_reader, .ref a_la, el_now, el_past, el_odds, el_game, el_placing, el_marching, el_trumpets, el_fight, .int el_refusal, .int el_faultTold, .int el_faultPlace])), (a_la, .inr (2, [.int la_lanes, .int la_deep, .int la_lanesTold, la_who, la_firstStrong, .int la_beasts, la_kind, la_firstLane, la_mood, la_price, .int la_cities, .int la_passes, la_passBetween, .int la_turned]))]) (vp_Si (fun r => r = res)) 0 0 (fun _ => False) := by
  refine Met.ofW (cc := cX11_meetingTrouble) (maxL := 3) (ret := (some .int)) (by decide) rfl ?_
  intro p e s m args below meth c s₁ B hml hv
  obtain ⟨rfl, hP, hKN⟩ := hv
  have hK := hKN.1
  have hx := B.exec
  have hb := B.bytes
  have hr := B.returns
  have hts := wt_X11_meetingTrouble hKN.2.2 (([.ref a_el, .int p1, .int p2] : List Value).toArray)
  have hown : s.vm.findClass RX11 = some m.cls := findClass_of_methodNamed B.named
  have hlocks := B.notSynchronized
  have hX11 := wc_X11 hKN.2.2 (([.ref a_el, .int p1, .int p2] : List Value).toArray)
  have hl := lv_entry ([.ref a_el, .int p1, .int p2]) (n := 3) (Nat.le_of_ble_eq_true rfl)
  rw [lg_entry_eq]
  generalize (lg_sl ([.ref a_el, .int p1, .int p2]) ++ List.replicate (3 - (lg_sl ([.ref a_el, .int p1, .int p2])).length) Slot.unset).toArray = ls at hl ⊢
  have hl : lv_has ls 3 [(0, .ref a_el), (1, .int p1), (2, .int p2)] := hl
  unfold f_X11_meetingTrouble at h
  refine lv_aload_n hx hb dX11_meetingTrouble_0 rfl (lv_at hl 0 rfl) ?_
  refine va_get (D := D) (ci := 11) (C := RX11) (T := TX11) (N := 15) (v := .ref a_la) hx hb hX11 (fun _ q => q) hown hK hP 0 rfl rfl 3 (by decide) (hts (.fieldLink RX11 25 "ElephantLine" "land" "LElephantLine$Land;") (by decide +kernel)) (fun _ h9 => h9) rfl dX11_meetingTrouble_1 ?_
  refine lv_iload_n hx hb dX11_meetingTrouble_4 rfl (lv_at hl 1 rfl) ?_
  obtain ⟨r_1, hc_2, h⟩ := bd1_some h
  refine kVb [.int p1] [] ⟨hx, hb, hml, hown, hts⟩ (c_X2_hasBeast l D cy a_la la_lanes la_deep la_lanesTold (la_who) (la_firstStrong) la_beasts (la_kind) (la_firstLane) (la_mood) (la_price) la_cities la_passes (la_passBetween) la_turned p1 r_1 hc_2) gX11_meetingTrouble_X2_hasBeast rfl hd_X2_hasBeast ⟨Nat.le_of_ble_eq_true rfl, Nat.le_of_ble_eq_true rfl⟩ rfl rfl hKN (hP.sub [1] rfl) 2 0 rfl rfl rfl hl.1 rfl (Nat.le_of_ble_eq_true rfl) dX11_meetingTrouble_5 ⟨Nat.le_of_ble_eq_true rfl, Nat.le_of_ble_eq_true rfl⟩ (fun nb_3 => ?_)
  refine lv_if_eq (tgt := 26) hx hb dX11_meetingTrouble_8 (by decide) (fun cd => ?_) (fun cd => ?_)
  · have h := ifT cd h
    refine lv_iconst (v := 1) hx hb dX11_meetingTrouble_26 (by decide) ?_
    exact W.iret (v := 1) hx hb hr (fun t ht _ => ⟨_, rfl, Option.some.inj h, ht⟩) (fun _ q => by cases q) dX11_meetingTrouble_27
  · have h := ifF cd h
    refine lv_aload_n hx hb dX11_meetingTrouble_11 rfl (lv_at hl 0 rfl) ?_
    refine va_get (D := D) (ci := 11) (C := RX11) (T := TX11) (N := 15) (v := .ref a_la) hx hb hX11 (fun _ q => q) hown hK hP 0 rfl rfl 3 (by decide) (hts (.fieldLink RX11 25 "ElephantLine" "land" "LElephantLine$Land;") (by decide +kernel)) (fun _ h9 => h9) rfl dX11_meetingTrouble_12 ?_
    refine lv_iload_n hx hb dX11_meetingTrouble_15 rfl (lv_at hl 2 rfl) ?_
    obtain ⟨r_4, hc_5, h⟩ := bd1_some h
    refine kVb [.int p2] [] ⟨hx, hb, hml, hown, hts⟩ (c_X2_hasLane l D cy a_la la_lanes la_deep la_lanesTold (la_who) (la_firstStrong) la_beasts (la_kind) (la_firstLane) (la_mood) (la_price) la_cities la_passes (la_passBetween) la_turned p2 r_4 hc_5) gX11_meetingTrouble_X2_hasLane rfl hd_X2_hasLane ⟨Nat.le_of_ble_eq_true rfl, Nat.le_of_ble_eq_true rfl⟩ rfl rfl hKN (hP.sub [1] rfl) 2 0 rfl rfl rfl hl.1 rfl (Nat.le_of_ble_eq_true rfl) dX11_meetingTrouble_16 ⟨Nat.le_of_ble_eq_true rfl, Nat.le_of_ble_eq_true rfl⟩ (fun nb_6 => ?_)
    refine lv_if_eq (tgt := 26) hx hb dX11_meetingTrouble_19 (by decide) (fun cd => ?_) (fun cd => ?_)
    · have h := ifT cd h
      refine lv_iconst (v := 1) hx hb dX11_meetingTrouble_26 (by decide) ?_
      exact W.iret (v := 1) hx hb hr (fun t ht _ => ⟨_, rfl, Option.some.inj h, ht⟩) (fun _ q => by cases q) dX11_meetingTrouble_27
    · have h := ifF cd h
      refine lv_iconst (v := 0) hx hb dX11_meetingTrouble_22 (by decide) ?_
      refine lv_goto (tgt := 27) hx hb dX11_meetingTrouble_23 (by decide) ?_
      exact W.iret (v := 0) hx hb hr (fun t ht _ => ⟨_, rfl, Option.some.inj h, ht⟩) (fun _ q => by cases q) dX11_meetingTrouble_27
theorem hd_X11_cityTrouble : yX11_cityTrouble.cls = RX11 ∧ yX11_cityTrouble.cls ≠ "java/lang/invoke/MethodHandle" ∧ yX11_cityTrouble.cls ≠ "java/lang/invoke/VarHandle" ∧ (parseMethodDescriptor yX11_cityTrouble.desc).map (fun d => d.parameters.length) = some 1 := by decide +kernel
set_option maxHeartbeats 4000000 in
set_option maxRecDepth 100000 in
theorem c_X11_cityTrouble (l : Launch) (D : va_G) (cy : Nat → ClassId) (a_el a_la : Nat) (el_tape : Value) (el_bytes : Int32) (el_reader : Value) (el_now : Value) (el_past : Value) (el_odds : Value) (el_game : Value) (el_placing : Value) (el_marching : Value) (el_trumpets : Value) (el_fight : Value) (el_refusal : Int32) (el_faultTold : Int32) (el_faultPlace : Int32) (la_lanes : Int32) (la_deep : Int32) (la_lanesTold : Int32) (la_who : Value) (la_firstStrong : Value) (la_beasts : Int32) (la_kind : Value) (la_firstLane : Value) (la_mood : Value) (la_price : Value) (la_cities : Int32) (la_passes : Int32) (la_passBetween : Value) (la_turned : Int32) (p1 : Int32) (res : Int32) (h : f_X11_cityTrouble la_cities p1 = some (res)) : Met l yX11_cityTrouble wo_X11_cityTrouble ({ frames := 1, cells := 0, slots := 0, locals := 21 }) (roPc D cy [.ref a_el, .int p1] [(a_el, .inr (11, [el_tape, .int el_bytes, el_reader, .ref a_la, el_now, el_past, el_odds, el_game, el_placing, el_marching, el_trumpets, el_fight, .int el_refusal, .int el_faultTold, .int el_faultPlace])), (a_la, .inr (2, [.int la_lanes, .int la_deep, .int la_lanesTold, la_who, la_firstStrong, .int la_beasts, la_kind, la_firstLane, la_mood, la_price, .int la_cities, .int la_passes, la_passBetween, .int la_turned]))]) (vp_Si (fun r => r = res)) 0 0 (fun _ => False) := by
  refine Met.ofW (cc := cX11_cityTrouble) (maxL := 2) (ret := (some .int)) (by decide) rfl ?_
  intro p e s m args below meth c s₁ B hml hv
  obtain ⟨rfl, hP, hKN⟩ := hv
  have hK := hKN.1
  have hx := B.exec
  have hb := B.bytes
  have hr := B.returns
  have hts := wt_X11_cityTrouble hKN.2.2 (([.ref a_el, .int p1] : List Value).toArray)
  have hown : s.vm.findClass RX11 = some m.cls := findClass_of_methodNamed B.named
  have hlocks := B.notSynchronized
  have hX11 := wc_X11 hKN.2.2 (([.ref a_el, .int p1] : List Value).toArray)
  have hl := lv_entry ([.ref a_el, .int p1]) (n := 2) (Nat.le_of_ble_eq_true rfl)
  rw [lg_entry_eq]
  generalize (lg_sl ([.ref a_el, .int p1]) ++ List.replicate (2 - (lg_sl ([.ref a_el, .int p1])).length) Slot.unset).toArray = ls at hl ⊢
  have hl : lv_has ls 2 [(0, .ref a_el), (1, .int p1)] := hl
  unfold f_X11_cityTrouble at h
  refine lv_aload_n hx hb dX11_cityTrouble_0 rfl (lv_at hl 0 rfl) ?_
  refine va_get (D := D) (ci := 11) (C := RX11) (T := TX11) (N := 15) (v := .ref a_la) hx hb hX11 (fun _ q => q) hown hK hP 0 rfl rfl 3 (by decide) (hts (.fieldLink RX11 25 "ElephantLine" "land" "LElephantLine$Land;") (by decide +kernel)) (fun _ h9 => h9) rfl dX11_cityTrouble_1 ?_
  refine lv_iload_n hx hb dX11_cityTrouble_4 rfl (lv_at hl 1 rfl) ?_
  obtain ⟨r_1, hc_2, h⟩ := bd1_some h
  refine kVb [.int p1] [] ⟨hx, hb, hml, hown, hts⟩ (c_X2_hasCity l D cy a_la la_lanes la_deep la_lanesTold (la_who) (la_firstStrong) la_beasts (la_kind) (la_firstLane) (la_mood) (la_price) la_cities la_passes (la_passBetween) la_turned p1 r_1 hc_2) gX11_cityTrouble_X2_hasCity rfl hd_X2_hasCity ⟨Nat.le_of_ble_eq_true rfl, Nat.le_of_ble_eq_true rfl⟩ rfl rfl hKN (hP.sub [1] rfl) 2 0 rfl rfl rfl hl.1 rfl (Nat.le_of_ble_eq_true rfl) dX11_cityTrouble_5 ⟨Nat.le_of_ble_eq_true rfl, Nat.le_of_ble_eq_true rfl⟩ (fun nb_3 => ?_)
  refine lv_if_eq (tgt := 15) hx hb dX11_cityTrouble_8 (by decide) (fun cd => ?_) (fun cd => ?_)
  · have h := ifT cd h
    refine lv_iconst (v := 1) hx hb dX11_cityTrouble_15 (by decide) ?_
    exact W.iret (v := 1) hx hb hr (fun t ht _ => ⟨_, rfl, Option.some.inj h, ht⟩) (fun _ q => by cases q) dX11_cityTrouble_16
  · have h := ifF cd h
    refine lv_iconst (v := 0) hx hb dX11_cityTrouble_11 (by decide) ?_
    refine lv_goto (tgt := 16) hx hb dX11_cityTrouble_12 (by decide) ?_
    exact W.iret (v := 0) hx hb hr (fun t ht _ => ⟨_, rfl, Option.some.inj h, ht⟩) (fun _ q => by cases q) dX11_cityTrouble_16
theorem hd_X11_moveTrouble : yX11_moveTrouble.cls = RX11 ∧ yX11_moveTrouble.cls ≠ "java/lang/invoke/MethodHandle" ∧ yX11_moveTrouble.cls ≠ "java/lang/invoke/VarHandle" ∧ (parseMethodDescriptor yX11_moveTrouble.desc).map (fun d => d.parameters.length) = some 2 := by decide +kernel
set_option maxHeartbeats 4000000 in
set_option maxRecDepth 100000 in
theorem c_X11_moveTrouble (l : Launch) (D : va_G) (cy : Nat → ClassId) (a_el a_la a_no a_no_at : Nat) (el_tape : Value) (el_bytes : Int32) (el_reader : Value) (el_past : Value) (el_odds : Value) (el_game : Value) (el_placing : Value) (el_marching : Value) (el_trumpets : Value) (el_fight : Value) (el_refusal : Int32) (el_faultTold : Int32) (el_faultPlace : Int32) (la_lanes : Int32) (la_deep : Int32) (la_lanesTold : Int32) (la_who : Value) (la_firstStrong : Value) (la_beasts : Int32) (la_kind : Value) (la_firstLane : Value) (la_mood : Value) (la_price : Value) (la_cities : Int32) (la_passes : Int32) (la_passBetween : Value) (la_turned : Int32) (no_strong : Value) (no_wounds : Value) (no_dead : Int32) (no_wet : Int32) (no_drawn : Int32) (no_at : Nat → Int32) (p1 : Int32) (p2 : Int32) (res : Int32) (h : f_X11_moveTrouble la_lanes la_beasts no_dead no_at p1 p2 = some (res)) : Met l yX11_moveTrouble wo_X11_moveTrouble ({ frames := 1, cells := 0, slots := 0, locals := 21 }) (roPc D cy [.ref a_el, .int p1, .int p2] [(a_el, .inr (11, [el_tape, .int el_bytes, el_reader, .ref a_la, .ref a_no, el_past, el_odds, el_game, el_placing, el_marching, el_trumpets, el_fight, .int el_refusal, .int el_faultTold, .int el_faultPlace])), (a_la, .inr (2, [.int la_lanes, .int la_deep, .int la_lanesTold, la_who, la_firstStrong, .int la_beasts, la_kind, la_firstLane, la_mood, la_price, .int la_cities, .int la_passes, la_passBetween, .int la_turned])), (a_no, .inr (8, [no_strong, .ref a_no_at, no_wounds, .int no_dead, .int no_wet, .int no_drawn])), (a_no_at, .inl (cy 1, 5, .inl no_at))]) (vp_Si (fun r => r = res)) 0 0 (fun _ => False) := by
  refine Met.ofW (cc := cX11_moveTrouble) (maxL := 3) (ret := (some .int)) (by decide) rfl ?_
  intro p e s m args below meth c s₁ B hml hv
  obtain ⟨rfl, hP, hKN⟩ := hv
  have hK := hKN.1
  have hx := B.exec
  have hb := B.bytes
  have hr := B.returns
  have hts := wt_X11_moveTrouble hKN.2.2 (([.ref a_el, .int p1, .int p2] : List Value).toArray)
  have hown : s.vm.findClass RX11 = some m.cls := findClass_of_methodNamed B.named
  have hlocks := B.notSynchronized
  have hX11 := wc_X11 hKN.2.2 (([.ref a_el, .int p1, .int p2] : List Value).toArray)
  have hX8 := wc_X8 hKN.2.2 (([.ref a_el, .int p1, .int p2] : List Value).toArray)
  have hl := lv_entry ([.ref a_el, .int p1, .int p2]) (n := 3) (Nat.le_of_ble_eq_true rfl)
  rw [lg_entry_eq]
  generalize (lg_sl ([.ref a_el, .int p1, .int p2]) ++ List.replicate (3 - (lg_sl ([.ref a_el, .int p1, .int p2])).length) Slot.unset).toArray = ls at hl ⊢
  have hl : lv_has ls 3 [(0, .ref a_el), (1, .int p1), (2, .int p2)] := hl
  unfold f_X11_moveTrouble at h
  refine lv_aload_n hx hb dX11_moveTrouble_0 rfl (lv_at hl 0 rfl) ?_
  refine va_get (D := D) (ci := 11) (C := RX11) (T := TX11) (N := 15) (v := .ref a_la) hx hb hX11 (fun _ q => q) hown hK hP 0 rfl rfl 3 (by decide) (hts (.fieldLink RX11 25 "ElephantLine" "land" "LElephantLine$Land;") (by decide +kernel)) (fun _ h9 => h9) rfl dX11_moveTrouble_1 ?_
  refine lv_iload_n hx hb dX11_moveTrouble_4 rfl (lv_at hl 1 rfl) ?_
  obtain ⟨r_1, hc_2, h⟩ := bd1_some h
  refine kVb [.int p1] [] ⟨hx, hb, hml, hown, hts⟩ (c_X2_hasBeast l D cy a_la la_lanes la_deep la_lanesTold (la_who) (la_firstStrong) la_beasts (la_kind) (la_firstLane) (la_mood) (la_price) la_cities la_passes (la_passBetween) la_turned p1 r_1 hc_2) gX11_moveTrouble_X2_hasBeast rfl hd_X2_hasBeast ⟨Nat.le_of_ble_eq_true rfl, Nat.le_of_ble_eq_true rfl⟩ rfl rfl hKN (hP.sub [1] rfl) 2 0 rfl rfl rfl hl.1 rfl (Nat.le_of_ble_eq_true rfl) dX11_moveTrouble_5 ⟨Nat.le_of_ble_eq_true rfl, Nat.le_of_ble_eq_true rfl⟩ (fun nb_3 => ?_)
  refine lv_if_eq (tgt := 22) hx hb dX11_moveTrouble_8 (by decide) (fun cd => ?_) (fun cd => ?_)
  · have h := ifT cd h
    refine lv_iconst (v := 1) hx hb dX11_moveTrouble_22 (by decide) ?_
    exact W.iret (v := 1) hx hb hr (fun t ht _ => ⟨_, rfl, Option.some.inj h, ht⟩) (fun _ q => by cases q) dX11_moveTrouble_23
  · have h := ifF cd h
    refine lv_aload_n hx hb dX11_moveTrouble_11 rfl (lv_at hl 0 rfl) ?_
    refine va_get (D := D) (ci := 11) (C := RX11) (T := TX11) (N := 15) (v := .ref a_la) hx hb hX11 (fun _ q => q) hown hK hP 0 rfl rfl 3 (by decide) (hts (.fieldLink RX11 25 "ElephantLine" "land" "LElephantLine$Land;") (by decide +kernel)) (fun _ h9 => h9) rfl dX11_moveTrouble_12 ?_
    refine lv_iload_n hx hb dX11_moveTrouble_15 rfl (lv_at hl 2 rfl) ?_
    obtain ⟨r_4, hc_5, h⟩ := bd1_some h
    refine kVb [.int p2] [] ⟨hx, hb, hml, hown, hts⟩ (c_X2_hasLane l D cy a_la la_lanes la_deep la_lanesTold (la_who) (la_firstStrong) la_beasts (la_kind) (la_firstLane) (la_mood) (la_price) la_cities la_passes (la_passBetween) la_turned p2 r_4 hc_5) gX11_moveTrouble_X2_hasLane rfl hd_X2_hasLane ⟨Nat.le_of_ble_eq_true rfl, Nat.le_of_ble_eq_true rfl⟩ rfl rfl hKN (hP.sub [1] rfl) 2 0 rfl rfl rfl hl.1 rfl (Nat.le_of_ble_eq_true rfl) dX11_moveTrouble_16 ⟨Nat.le_of_ble_eq_true rfl, Nat.le_of_ble_eq_true rfl⟩ (fun nb_6 => ?_)
    refine lv_if_ne (tgt := 24) hx hb dX11_moveTrouble_19 (by decide) (fun cd => ?_) (fun cd => ?_)
    · have h := ifF cd h
      refine lv_aload_n hx hb dX11_moveTrouble_24 rfl (lv_at hl 0 rfl) ?_
      refine va_get (D := D) (ci := 11) (C := RX11) (T := TX11) (N := 15) (v := .ref a_no) hx hb hX11 (fun _ q => q) hown hK hP 0 rfl rfl 4 (by decide) (hts (.fieldLink RX11 32 "ElephantLine" "now" "LElephantLine$Stand;") (by decide +kernel)) (fun _ h9 => h9) rfl dX11_moveTrouble_25 ?_
      refine lv_iload_n hx hb dX11_moveTrouble_28 rfl (lv_at hl 1 rfl) ?_
      obtain ⟨r_7, hc_8, h⟩ := bd1_some h
      refine kVb [.int p1] [] ⟨hx, hb, hml, hown, hts⟩ (c_X8_isDead l D cy a_no (no_strong) (.ref a_no_at) (no_wounds) no_dead no_wet no_drawn p1 r_7 hc_8) gX11_moveTrouble_X8_isDead rfl hd_X8_isDead ⟨Nat.le_of_ble_eq_true rfl, Nat.le_of_ble_eq_true rfl⟩ rfl rfl hKN (hP.sub [2] rfl) 8 0 rfl rfl rfl hl.1 rfl (Nat.le_of_ble_eq_true rfl) dX11_moveTrouble_29 ⟨Nat.le_of_ble_eq_true rfl, Nat.le_of_ble_eq_true rfl⟩ (fun nb_9 => ?_)
      have jn48 : f_X11_moveTrouble_B48 la_lanes la_beasts no_dead no_at = some (res) → ∀ ls : Array Slot, lv_has ls 3 [] → W p l e (headSpec wo_X11_moveTrouble ({ frames := 1, cells := 0, slots := 0, locals := 21 })).room s m (([.ref a_el, .int p1, .int p2] : List Value).toArray) below meth c s.heap [] 0 0 (MQ below (vp_Si (fun r => r = res)) (([.ref a_el, .int p1, .int p2] : List Value).toArray) s 0 0 (fun _ => False)) (F0 m 48 ls []) := by
        intro h ls hl
        unfold f_X11_moveTrouble_B48 at h
        refine lv_iconst (v := 5) hx hb dX11_moveTrouble_48 (by decide) ?_
        refine lv_goto (tgt := 53) hx hb dX11_moveTrouble_49 (by decide) ?_
        exact W.iret (v := 5) hx hb hr (fun t ht _ => ⟨_, rfl, Option.some.inj h, ht⟩) (fun _ q => by cases q) dX11_moveTrouble_53
      refine lv_if_ne (tgt := 48) hx hb dX11_moveTrouble_32 (by decide) (fun cd => ?_) (fun cd => ?_)
      · have h := ifF cd h
        exact jn48 h _ (lv_sub hl [] rfl)
      · have h := ifT cd h
        refine lv_aload_n hx hb dX11_moveTrouble_35 rfl (lv_at hl 0 rfl) ?_
        refine va_get (D := D) (ci := 11) (C := RX11) (T := TX11) (N := 15) (v := .ref a_no) hx hb hX11 (fun _ q => q) hown hK hP 0 rfl rfl 4 (by decide) (hts (.fieldLink RX11 32 "ElephantLine" "now" "LElephantLine$Stand;") (by decide +kernel)) (fun _ h9 => h9) rfl dX11_moveTrouble_36 ?_
        refine va_getN (D := D) (ci := 8) (C := RX8) (T := TX8) (N := 6) (v := .ref a_no_at) hx hb hX8 (fun _ q => q) hown hK hP 2 rfl rfl 1 (by decide) (va_Nw.use rfl (hKN.2.1.1 ("ElephantLine", 158, "ElephantLine$Stand", "at", "[I", "ElephantLine") (List.mem_of_getElem? (i := 47) rfl))) (fun _ h9 => h9) rfl dX11_moveTrouble_39 ?_
        refine lv_iload_n hx hb dX11_moveTrouble_42 rfl (lv_at hl 1 rfl) ?_
        obtain ⟨i_10, h⟩ := gIn_some h
        refine va_iald hx hb hK hP 3 1 rfl rfl i_10 dX11_moveTrouble_43 ?_
        refine lv_iload_n hx hb dX11_moveTrouble_44 rfl (lv_at hl 2 rfl) ?_
        refine lv_icmp_ne (tgt := 52) hx hb dX11_moveTrouble_45 (by decide) (fun cd => ?_) (fun cd => ?_)
        · have h := ifF cd h
          refine lv_iconst (v := 0) hx hb dX11_moveTrouble_52 (by decide) ?_
          exact W.iret (v := 0) hx hb hr (fun t ht _ => ⟨_, rfl, Option.some.inj h, ht⟩) (fun _ q => by cases q) dX11_moveTrouble_53
        · have h := ifT cd h
          exact jn48 h _ (lv_sub hl [] rfl)
    · have h := ifT cd h
      refine lv_iconst (v := 1) hx hb dX11_moveTrouble_22 (by decide) ?_
      exact W.iret (v := 1) hx hb hr (fun t ht _ => ⟨_, rfl, Option.some.inj h, ht⟩) (fun _ q => by cases q) dX11_moveTrouble_23
theorem hd_X11_livingTrouble : yX11_livingTrouble.cls = RX11 ∧ yX11_livingTrouble.cls ≠ "java/lang/invoke/MethodHandle" ∧ yX11_livingTrouble.cls ≠ "java/lang/invoke/VarHandle" ∧ (parseMethodDescriptor yX11_livingTrouble.desc).map (fun d => d.parameters.length) = some 2 := by decide +kernel
set_option maxHeartbeats 4000000 in
set_option maxRecDepth 100000 in
theorem c_X11_livingTrouble (l : Launch) (D : va_G) (cy : Nat → ClassId) (a_el a_la a_no : Nat) (el_tape : Value) (el_bytes : Int32) (el_reader : Value) (el_past : Value) (el_odds : Value) (el_game : Value) (el_placing : Value) (el_marching : Value) (el_trumpets : Value) (el_fight : Value) (el_refusal : Int32) (el_faultTold : Int32) (el_faultPlace : Int32) (la_lanes : Int32) (la_deep : Int32) (la_lanesTold : Int32) (la_who : Value) (la_firstStrong : Value) (la_beasts : Int32) (la_kind : Value) (la_firstLane : Value) (la_mood : Value) (la_price : Value) (la_cities : Int32) (la_passes : Int32) (la_passBetween : Value) (la_turned : Int32) (no_strong : Value) (no_at : Value) (no_wounds : Value) (no_dead : Int32) (no_wet : Int32) (no_drawn : Int32) (p1 : Int32) (p2 : Int32) (res : Int32) (h : f_X11_livingTrouble la_beasts no_dead p1 p2 = some (res)) : Met l yX11_livingTrouble wo_X11_livingTrouble ({ frames := 1, cells := 0, slots := 0, locals := 21 }) (roPc D cy [.ref a_el, .int p1, .int p2] [(a_el, .inr (11, [el_tape, .int el_bytes, el_reader, .ref a_la, .ref a_no, el_past, el_odds, el_game, el_placing, el_marching, el_trumpets, el_fight, .int el_refusal, .int el_faultTold, .int el_faultPlace])), (a_la, .inr (2, [.int la_lanes, .int la_deep, .int la_lanesTold, la_who, la_firstStrong, .int la_beasts, la_kind, la_firstLane, la_mood, la_price, .int la_cities, .int la_passes, la_passBetween, .int la_turned])), (a_no, .inr (8, [no_strong, no_at, no_wounds, .int no_dead, .int no_wet, .int no_drawn]))]) (vp_Si (fun r => r = res)) 0 0 (fun _ => False) := by
  refine Met.ofW (cc := cX11_livingTrouble) (maxL := 3) (ret := (some .int)) (by decide) rfl ?_
  intro p e s m args below meth c s₁ B hml hv
  obtain ⟨rfl, hP, hKN⟩ := hv
  have hK := hKN.1
  have hx := B.exec
  have hb := B.bytes
  have hr := B.returns
  have hts := wt_X11_livingTrouble hKN.2.2 (([.ref a_el, .int p1, .int p2] : List Value).toArray)
  have hown : s.vm.findClass RX11 = some m.cls := findClass_of_methodNamed B.named
  have hlocks := B.notSynchronized
  have hX11 := wc_X11 hKN.2.2 (([.ref a_el, .int p1, .int p2] : List Value).toArray)
  have hl := lv_entry ([.ref a_el, .int p1, .int p2]) (n := 3) (Nat.le_of_ble_eq_true rfl)
  rw [lg_entry_eq]
  generalize (lg_sl ([.ref a_el, .int p1, .int p2]) ++ List.replicate (3 - (lg_sl ([.ref a_el, .int p1, .int p2])).length) Slot.unset).toArray = ls at hl ⊢
  have hl : lv_has ls 3 [(0, .ref a_el), (1, .int p1), (2, .int p2)] := hl
  unfold f_X11_livingTrouble at h
  refine lv_aload_n hx hb dX11_livingTrouble_0 rfl (lv_at hl 0 rfl) ?_
  refine va_get (D := D) (ci := 11) (C := RX11) (T := TX11) (N := 15) (v := .ref a_la) hx hb hX11 (fun _ q => q) hown hK hP 0 rfl rfl 3 (by decide) (hts (.fieldLink RX11 25 "ElephantLine" "land" "LElephantLine$Land;") (by decide +kernel)) (fun _ h9 => h9) rfl dX11_livingTrouble_1 ?_
  refine lv_iload_n hx hb dX11_livingTrouble_4 rfl (lv_at hl 1 rfl) ?_
  obtain ⟨r_1, hc_2, h⟩ := bd1_some h
  refine kVb [.int p1] [] ⟨hx, hb, hml, hown, hts⟩ (c_X2_hasBeast l D cy a_la la_lanes la_deep la_lanesTold (la_who) (la_firstStrong) la_beasts (la_kind) (la_firstLane) (la_mood) (la_price) la_cities la_passes (la_passBetween) la_turned p1 r_1 hc_2) gX11_livingTrouble_X2_hasBeast rfl hd_X2_hasBeast ⟨Nat.le_of_ble_eq_true rfl, Nat.le_of_ble_eq_true rfl⟩ rfl rfl hKN (hP.sub [1] rfl) 2 0 rfl rfl rfl hl.1 rfl (Nat.le_of_ble_eq_true rfl) dX11_livingTrouble_5 ⟨Nat.le_of_ble_eq_true rfl, Nat.le_of_ble_eq_true rfl⟩ (fun nb_3 => ?_)
  refine lv_if_ne (tgt := 13) hx hb dX11_livingTrouble_8 (by decide) (fun cd => ?_) (fun cd => ?_)
  · have h := ifF cd h
    refine lv_iload_n hx hb dX11_livingTrouble_13 rfl (lv_at hl 2 rfl) ?_
    refine lv_if_eq (tgt := 19) hx hb dX11_livingTrouble_14 (by decide) (fun cd => ?_) (fun cd => ?_)
    · have h := ifT cd h
      refine lv_aload_n hx hb dX11_livingTrouble_19 rfl (lv_at hl 0 rfl) ?_
      refine va_get (D := D) (ci := 11) (C := RX11) (T := TX11) (N := 15) (v := .ref a_no) hx hb hX11 (fun _ q => q) hown hK hP 0 rfl rfl 4 (by decide) (hts (.fieldLink RX11 32 "ElephantLine" "now" "LElephantLine$Stand;") (by decide +kernel)) (fun _ h9 => h9) rfl dX11_livingTrouble_20 ?_
      refine lv_iload_n hx hb dX11_livingTrouble_23 rfl (lv_at hl 1 rfl) ?_
      obtain ⟨r_4, hc_5, h⟩ := bd1_some h
      refine kVb [.int p1] [] ⟨hx, hb, hml, hown, hts⟩ (c_X8_isDead l D cy a_no (no_strong) (no_at) (no_wounds) no_dead no_wet no_drawn p1 r_4 hc_5) gX11_livingTrouble_X8_isDead rfl hd_X8_isDead ⟨Nat.le_of_ble_eq_true rfl, Nat.le_of_ble_eq_true rfl⟩ rfl rfl hKN (hP.sub [2] rfl) 8 0 rfl rfl rfl hl.1 rfl (Nat.le_of_ble_eq_true rfl) dX11_livingTrouble_24 ⟨Nat.le_of_ble_eq_true rfl, Nat.le_of_ble_eq_true rfl⟩ (fun nb_6 => ?_)
      refine lv_if_eq (tgt := 34) hx hb dX11_livingTrouble_27 (by decide) (fun cd => ?_) (fun cd => ?_)
      · have h := ifT cd h
        refine lv_iconst (v := 0) hx hb dX11_livingTrouble_34 (by decide) ?_
        exact W.iret (v := 0) hx hb hr (fun t ht _ => ⟨_, rfl, Option.some.inj h, ht⟩) (fun _ q => by cases q) dX11_livingTrouble_35
      · have h := ifF cd h
        refine lv_iconst (v := 5) hx hb dX11_livingTrouble_30 (by decide) ?_
        refine lv_goto (tgt := 35) hx hb dX11_livingTrouble_31 (by decide) ?_
        exact W.iret (v := 5) hx hb hr (fun t ht _ => ⟨_, rfl, Option.some.inj h, ht⟩) (fun _ q => by cases q) dX11_livingTrouble_35
    · have h := ifF cd h
      refine lv_iload_n hx hb dX11_livingTrouble_17 rfl (lv_at hl 2 rfl) ?_
      exact W.iret (v := p2) hx hb hr (fun t ht _ => ⟨_, rfl, Option.some.inj h, ht⟩) (fun _ q => by cases q) dX11_livingTrouble_18
  · have h := ifT cd h
    refine lv_iconst (v := 1) hx hb dX11_livingTrouble_11 (by decide) ?_
    exact W.iret (v := 1) hx hb hr (fun t ht _ => ⟨_, rfl, Option.some.inj h, ht⟩) (fun _ q => by cases q) dX11_livingTrouble_12
theorem hd_X11_horseTrouble : yX11_horseTrouble.cls = RX11 ∧ yX11_horseTrouble.cls ≠ "java/lang/invoke/MethodHandle" ∧ yX11_horseTrouble.cls ≠ "java/lang/invoke/VarHandle" ∧ (parseMethodDescriptor yX11_horseTrouble.desc).map (fun d => d.parameters.length) = some 2 := by decide +kernel
set_option maxHeartbeats 4000000 in
set_option maxRecDepth 100000 in
theorem c_X11_horseTrouble (l : Launch) (D : va_G) (cy : Nat → ClassId) (a_el a_la a_la_who : Nat) (el_tape : Value) (el_bytes : Int32) (el_reader : Value) (el_now : Value) (el_past : Value) (el_odds : Value) (el_game : Value) (el_placing : Value) (el_marching : Value) (el_trumpets : Value) (el_fight : Value) (el_refusal : Int32) (el_faultTold : Int32) (el_faultPlace : Int32) (la_lanes : Int32) (la_deep : Int32) (la_lanesTold : Int32) (la_firstStrong : Value) (la_beasts : Int32) (la_kind : Value) (la_firstLane : Value) (la_mood : Value) (la_price : Value) (la_cities : Int32) (la_passes : Int32) (la_passBetween : Value) (la_turned : Int32) (la_who : Nat → Int32) (p1 : Int32) (p2 : Int32) (res : Int32) (h : f_X11_horseTrouble la_lanes la_who p1 p2 = some (res)) : Met l yX11_horseTrouble wo_X11_horseTrouble ({ frames := 1, cells := 0, slots := 0, locals := 21 }) (roPc D cy [.ref a_el, .int p1, .int p2] [(a_el, .inr (11, [el_tape, .int el_bytes, el_reader, .ref a_la, el_now, el_past, el_odds, el_game, el_placing, el_marching, el_trumpets, el_fight, .int el_refusal, .int el_faultTold, .int el_faultPlace])), (a_la, .inr (2, [.int la_lanes, .int la_deep, .int la_lanesTold, .ref a_la_who, la_firstStrong, .int la_beasts, la_kind, la_firstLane, la_mood, la_price, .int la_cities, .int la_passes, la_passBetween, .int la_turned])), (a_la_who, .inl (cy 1, 6, .inl la_who))]) (vp_Si (fun r => r = res)) 0 0 (fun _ => False) := by
  refine Met.ofW (cc := cX11_horseTrouble) (maxL := 3) (ret := (some .int)) (by decide) rfl ?_
  intro p e s m args below meth c s₁ B hml hv
  obtain ⟨rfl, hP, hKN⟩ := hv
  have hK := hKN.1
  have hx := B.exec
  have hb := B.bytes
  have hr := B.returns
  have hts := wt_X11_horseTrouble hKN.2.2 (([.ref a_el, .int p1, .int p2] : List Value).toArray)
  have hown : s.vm.findClass RX11 = some m.cls := findClass_of_methodNamed B.named
  have hlocks := B.notSynchronized
  have hX11 := wc_X11 hKN.2.2 (([.ref a_el, .int p1, .int p2] : List Value).toArray)
  have hX2 := wc_X2 hKN.2.2 (([.ref a_el, .int p1, .int p2] : List Value).toArray)
  have hl := lv_entry ([.ref a_el, .int p1, .int p2]) (n := 3) (Nat.le_of_ble_eq_true rfl)
  rw [lg_entry_eq]
  generalize (lg_sl ([.ref a_el, .int p1, .int p2]) ++ List.replicate (3 - (lg_sl ([.ref a_el, .int p1, .int p2])).length) Slot.unset).toArray = ls at hl ⊢
  have hl : lv_has ls 3 [(0, .ref a_el), (1, .int p1), (2, .int p2)] := hl
  unfold f_X11_horseTrouble at h
  refine lv_aload_n hx hb dX11_horseTrouble_0 rfl (lv_at hl 0 rfl) ?_
  refine va_get (D := D) (ci := 11) (C := RX11) (T := TX11) (N := 15) (v := .ref a_la) hx hb hX11 (fun _ q => q) hown hK hP 0 rfl rfl 3 (by decide) (hts (.fieldLink RX11 25 "ElephantLine" "land" "LElephantLine$Land;") (by decide +kernel)) (fun _ h9 => h9) rfl dX11_horseTrouble_1 ?_
  refine lv_iload_n hx hb dX11_horseTrouble_4 rfl (lv_at hl 1 rfl) ?_
  obtain ⟨r_1, hc_2, h⟩ := bd1_some h
  refine kVb [.int p1] [] ⟨hx, hb, hml, hown, hts⟩ (c_X2_hasLane l D cy a_la la_lanes la_deep la_lanesTold (.ref a_la_who) (la_firstStrong) la_beasts (la_kind) (la_firstLane) (la_mood) (la_price) la_cities la_passes (la_passBetween) la_turned p1 r_1 hc_2) gX11_horseTrouble_X2_hasLane rfl hd_X2_hasLane ⟨Nat.le_of_ble_eq_true rfl, Nat.le_of_ble_eq_true rfl⟩ rfl rfl hKN (hP.sub [1] rfl) 2 0 rfl rfl rfl hl.1 rfl (Nat.le_of_ble_eq_true rfl) dX11_horseTrouble_5 ⟨Nat.le_of_ble_eq_true rfl, Nat.le_of_ble_eq_true rfl⟩ (fun nb_3 => ?_)
  refine lv_if_ne (tgt := 13) hx hb dX11_horseTrouble_8 (by decide) (fun cd => ?_) (fun cd => ?_)
  · have h := ifF cd h
    refine lv_iload_n hx hb dX11_horseTrouble_13 rfl (lv_at hl 2 rfl) ?_
    refine lv_if_eq (tgt := 19) hx hb dX11_horseTrouble_14 (by decide) (fun cd => ?_) (fun cd => ?_)
    · have h := ifT cd h
      refine lv_aload_n hx hb dX11_horseTrouble_19 rfl (lv_at hl 0 rfl) ?_
      refine va_get (D := D) (ci := 11) (C := RX11) (T := TX11) (N := 15) (v := .ref a_la) hx hb hX11 (fun _ q => q) hown hK hP 0 rfl rfl 3 (by decide) (hts (.fieldLink RX11 25 "ElephantLine" "land" "LElephantLine$Land;") (by decide +kernel)) (fun _ h9 => h9) rfl dX11_horseTrouble_20 ?_
      refine va_getN (D := D) (ci := 2) (C := RX2) (T := TX2) (N := 14) (v := .ref a_la_who) hx hb hX2 (fun _ q => q) hown hK hP 1 rfl rfl 3 (by decide) (va_Nw.use rfl (hKN.2.1.1 ("ElephantLine", 141, "ElephantLine$Land", "who", "[I", "ElephantLine") (List.mem_of_getElem? (i := 11) rfl))) (fun _ h9 => h9) rfl dX11_horseTrouble_23 ?_
      refine lv_iload_n hx hb dX11_horseTrouble_26 rfl (lv_at hl 1 rfl) ?_
      obtain ⟨i_4, h⟩ := gIn_some h
      refine va_iald hx hb hK hP 2 1 rfl rfl i_4 dX11_horseTrouble_27 ?_
      refine lv_iconst (v := 3) hx hb dX11_horseTrouble_28 (by decide) ?_
      refine lv_icmp_ne (tgt := 36) hx hb dX11_horseTrouble_29 (by decide) (fun cd => ?_) (fun cd => ?_)
      · have h := ifF cd h
        refine lv_iconst (v := 5) hx hb dX11_horseTrouble_36 (by decide) ?_
        exact W.iret (v := 5) hx hb hr (fun t ht _ => ⟨_, rfl, Option.some.inj h, ht⟩) (fun _ q => by cases q) dX11_horseTrouble_37
      · have h := ifT cd h
        refine lv_iconst (v := 0) hx hb dX11_horseTrouble_32 (by decide) ?_
        refine lv_goto (tgt := 37) hx hb dX11_horseTrouble_33 (by decide) ?_
        exact W.iret (v := 0) hx hb hr (fun t ht _ => ⟨_, rfl, Option.some.inj h, ht⟩) (fun _ q => by cases q) dX11_horseTrouble_37
    · have h := ifF cd h
      refine lv_iload_n hx hb dX11_horseTrouble_17 rfl (lv_at hl 2 rfl) ?_
      exact W.iret (v := p2) hx hb hr (fun t ht _ => ⟨_, rfl, Option.some.inj h, ht⟩) (fun _ q => by cases q) dX11_horseTrouble_18
  · have h := ifT cd h
    refine lv_iconst (v := 1) hx hb dX11_horseTrouble_11 (by decide) ?_
    exact W.iret (v := 1) hx hb hr (fun t ht _ => ⟨_, rfl, Option.some.inj h, ht⟩) (fun _ q => by cases q) dX11_horseTrouble_12
theorem hd_X11_saleTrouble : yX11_saleTrouble.cls = RX11 ∧ yX11_saleTrouble.cls ≠ "java/lang/invoke/MethodHandle" ∧ yX11_saleTrouble.cls ≠ "java/lang/invoke/VarHandle" ∧ (parseMethodDescriptor yX11_saleTrouble.desc).map (fun d => d.parameters.length) = some 1 := by decide +kernel
set_option maxHeartbeats 4000000 in
set_option maxRecDepth 100000 in
theorem c_X11_saleTrouble (l : Launch) (D : va_G) (cy : Nat → ClassId) (a_el a_la : Nat) (el_tape : Value) (el_bytes : Int32) (el_reader : Value) (el_now : Value) (el_past : Value) (el_odds : Value) (el_game : Value) (el_placing : Value) (el_marching : Value) (el_trumpets : Value) (el_fight : Value) (el_refusal : Int32) (el_faultTold : Int32) (el_faultPlace : Int32) (la_lanes : Int32) (la_deep : Int32) (la_lanesTold : Int32) (la_who : Value) (la_firstStrong : Value) (la_beasts : Int32) (la_kind : Value) (la_firstLane : Value) (la_mood : Value) (la_price : Value) (la_cities : Int32) (la_passes : Int32) (la_passBetween : Value) (la_turned : Int32) (p1 : Int32) (res : Int32) (h : f_X11_saleTrouble la_lanes p1 = some (res)) : Met l yX11_saleTrouble wo_X11_saleTrouble ({ frames := 1, cells := 0, slots := 0, locals := 22 }) (roPc D cy [.ref a_el, .int p1] [(a_el, .inr (11, [el_tape, .int el_bytes, el_reader, .ref a_la, el_now, el_past, el_odds, el_game, el_placing, el_marching, el_trumpets, el_fight, .int el_refusal, .int el_faultTold, .int el_faultPlace])), (a_la, .inr (2, [.int la_lanes, .int la_deep, .int la_lanesTold, la_who, la_firstStrong, .int la_beasts, la_kind, la_firstLane, la_mood, la_price, .int la_cities, .int la_passes, la_passBetween, .int la_turned]))]) (vp_Si (fun r => r = res)) 0 0 (fun _ => False) := by
  refine Met.ofW (cc := cX11_saleTrouble) (maxL := 2) (ret := (some .int)) (by decide) rfl ?_
  intro p e s m args below meth c s₁ B hml hv
  obtain ⟨rfl, hP, hKN⟩ := hv
  have hK := hKN.1
  have hx := B.exec
  have hb := B.bytes
  have hr := B.returns
  have hts := wt_X11_saleTrouble hKN.2.2 (([.ref a_el, .int p1] : List Value).toArray)
  have hown : s.vm.findClass RX11 = some m.cls := findClass_of_methodNamed B.named
  have hlocks := B.notSynchronized
  have hX11 := wc_X11 hKN.2.2 (([.ref a_el, .int p1] : List Value).toArray)
  have hl := lv_entry ([.ref a_el, .int p1]) (n := 2) (Nat.le_of_ble_eq_true rfl)
  rw [lg_entry_eq]
  generalize (lg_sl ([.ref a_el, .int p1]) ++ List.replicate (2 - (lg_sl ([.ref a_el, .int p1])).length) Slot.unset).toArray = ls at hl ⊢
  have hl : lv_has ls 2 [(0, .ref a_el), (1, .int p1)] := hl
  unfold f_X11_saleTrouble at h
  refine lv_aload_n hx hb dX11_saleTrouble_0 rfl (lv_at hl 0 rfl) ?_
  refine va_get (D := D) (ci := 11) (C := RX11) (T := TX11) (N := 15) (v := .ref a_la) hx hb hX11 (fun _ q => q) hown hK hP 0 rfl rfl 3 (by decide) (hts (.fieldLink RX11 25 "ElephantLine" "land" "LElephantLine$Land;") (by decide +kernel)) (fun _ h9 => h9) rfl dX11_saleTrouble_1 ?_
  obtain ⟨r_1, hc_2, h⟩ := bd1_some h
  refine kVb [] [] ⟨hx, hb, hml, hown, hts⟩ (c_X2_isTold l D cy a_la la_lanes la_deep la_lanesTold (la_who) (la_firstStrong) la_beasts (la_kind) (la_firstLane) (la_mood) (la_price) la_cities la_passes (la_passBetween) la_turned r_1 hc_2) gX11_saleTrouble_X2_isTold rfl hd_X2_isTold ⟨Nat.le_of_ble_eq_true rfl, Nat.le_of_ble_eq_true rfl⟩ rfl rfl hKN (hP.sub [1] rfl) 2 0 rfl rfl rfl hl.1 rfl (Nat.le_of_ble_eq_true rfl) dX11_saleTrouble_4 ⟨Nat.le_of_ble_eq_true rfl, Nat.le_of_ble_eq_true rfl⟩ (fun nb_3 => ?_)
  refine lv_if_ne (tgt := 12) hx hb dX11_saleTrouble_7 (by decide) (fun cd => ?_) (fun cd => ?_)
  · have h := ifF cd h
    refine lv_iload_n hx hb dX11_saleTrouble_12 rfl (lv_at hl 1 rfl) ?_
    refine lv_iconst (v := 0) hx hb dX11_saleTrouble_13 (by decide) ?_
    refine lv_sipush (v := 500) hx hb dX11_saleTrouble_14 (by decide) ?_
    obtain ⟨r_4, hc_5, h⟩ := bd1_some h
    refine kSb [.int p1, .int 0, .int 500] [] ⟨hx, hb, hml, hown, hts⟩ (c_X11_outside l D cy p1 (0 : Int32) (500 : Int32) r_4 hc_5) gX11_saleTrouble_X11_outside rfl hd_X11_outside ⟨Nat.le_of_ble_eq_true rfl, Nat.le_of_ble_eq_true rfl⟩ rfl rfl hKN va_nil rfl hl.1 rfl (Nat.le_of_ble_eq_true rfl) dX11_saleTrouble_17 ⟨Nat.le_of_ble_eq_true rfl, Nat.le_of_ble_eq_true rfl⟩ (fun nb_6 => ?_)
    refine lv_if_eq (tgt := 27) hx hb dX11_saleTrouble_20 (by decide) (fun cd => ?_) (fun cd => ?_)
    · have h := ifT cd h
      refine lv_iconst (v := 0) hx hb dX11_saleTrouble_27 (by decide) ?_
      exact W.iret (v := 0) hx hb hr (fun t ht _ => ⟨_, rfl, Option.some.inj h, ht⟩) (fun _ q => by cases q) dX11_saleTrouble_28
    · have h := ifF cd h
      refine lv_iconst (v := 2) hx hb dX11_saleTrouble_23 (by decide) ?_
      refine lv_goto (tgt := 28) hx hb dX11_saleTrouble_24 (by decide) ?_
      exact W.iret (v := 2) hx hb hr (fun t ht _ => ⟨_, rfl, Option.some.inj h, ht⟩) (fun _ q => by cases q) dX11_saleTrouble_28
  · have h := ifT cd h
    refine lv_iconst (v := 1) hx hb dX11_saleTrouble_10 (by decide) ?_
    exact W.iret (v := 1) hx hb hr (fun t ht _ => ⟨_, rfl, Option.some.inj h, ht⟩) (fun _ q => by cases q) dX11_saleTrouble_11
theorem hd_X11_marchTrouble : yX11_marchTrouble.cls = RX11 ∧ yX11_marchTrouble.cls ≠ "java/lang/invoke/MethodHandle" ∧ yX11_marchTrouble.cls ≠ "java/lang/invoke/VarHandle" ∧ (parseMethodDescriptor yX11_marchTrouble.desc).map (fun d => d.parameters.length) = some 3 := by decide +kernel
set_option maxHeartbeats 4000000 in
set_option maxRecDepth 100000 in
theorem c_X11_marchTrouble (l : Launch) (D : va_G) (cy : Nat → ClassId) (a_el a_la : Nat) (el_tape : Value) (el_bytes : Int32) (el_reader : Value) (el_now : Value) (el_past : Value) (el_odds : Value) (el_game : Value) (el_placing : Value) (el_marching : Value) (el_trumpets : Value) (el_fight : Value) (el_refusal : Int32) (el_faultTold : Int32) (el_faultPlace : Int32) (la_lanes : Int32) (la_deep : Int32) (la_lanesTold : Int32) (la_who : Value) (la_firstStrong : Value) (la_beasts : Int32) (la_kind : Value) (la_firstLane : Value) (la_mood : Value) (la_price : Value) (la_cities : Int32) (la_passes : Int32) (la_passBetween : Value) (la_turned : Int32) (p1 : Int32) (p2 : Int32) (p3 : Int32) (res : Int32) (h : f_X11_marchTrouble la_cities p1 p2 p3 = some (res)) : Met l yX11_marchTrouble wo_X11_marchTrouble ({ frames := 1, cells := 0, slots := 0, locals := 22 }) (roPc D cy [.ref a_el, .int p1, .int p2, .int p3] [(a_el, .inr (11, [el_tape, .int el_bytes, el_reader, .ref a_la, el_now, el_past, el_odds, el_game, el_placing, el_marching, el_trumpets, el_fight, .int el_refusal, .int el_faultTold, .int el_faultPlace])), (a_la, .inr (2, [.int la_lanes, .int la_deep, .int la_lanesTold, la_who, la_firstStrong, .int la_beasts, la_kind, la_firstLane, la_mood, la_price, .int la_cities, .int la_passes, la_passBetween, .int la_turned]))]) (vp_Si (fun r => r = res)) 0 0 (fun _ => False) := by
  refine Met.ofW (cc := cX11_marchTrouble) (maxL := 4) (ret := (some .int)) (by decide) rfl ?_
  intro p e s m args below meth c s₁ B hml hv
  obtain ⟨rfl, hP, hKN⟩ := hv
  have hK := hKN.1
  have hx := B.exec
  have hb := B.bytes
  have hr := B.returns
  have hts := wt_X11_marchTrouble hKN.2.2 (([.ref a_el, .int p1, .int p2, .int p3] : List Value).toArray)
  have hown : s.vm.findClass RX11 = some m.cls := findClass_of_methodNamed B.named
  have hlocks := B.notSynchronized
  have hX11 := wc_X11 hKN.2.2 (([.ref a_el, .int p1, .int p2, .int p3] : List Value).toArray)
  have hl := lv_entry ([.ref a_el, .int p1, .int p2, .int p3]) (n := 4) (Nat.le_of_ble_eq_true rfl)
  rw [lg_entry_eq]
  generalize (lg_sl ([.ref a_el, .int p1, .int p2, .int p3]) ++ List.replicate (4 - (lg_sl ([.ref a_el, .int p1, .int p2, .int p3])).length) Slot.unset).toArray = ls at hl ⊢
  have hl : lv_has ls 4 [(0, .ref a_el), (1, .int p1), (2, .int p2), (3, .int p3)] := hl
  unfold f_X11_marchTrouble at h
  refine lv_aload_n hx hb dX11_marchTrouble_0 rfl (lv_at hl 0 rfl) ?_
  refine va_get (D := D) (ci := 11) (C := RX11) (T := TX11) (N := 15) (v := .ref a_la) hx hb hX11 (fun _ q => q) hown hK hP 0 rfl rfl 3 (by decide) (hts (.fieldLink RX11 25 "ElephantLine" "land" "LElephantLine$Land;") (by decide +kernel)) (fun _ h9 => h9) rfl dX11_marchTrouble_1 ?_
  refine lv_iload_n hx hb dX11_marchTrouble_4 rfl (lv_at hl 1 rfl) ?_
  obtain ⟨r_1, hc_2, h⟩ := bd1_some h
  refine kVb [.int p1] [] ⟨hx, hb, hml, hown, hts⟩ (c_X2_hasCity l D cy a_la la_lanes la_deep la_lanesTold (la_who) (la_firstStrong) la_beasts (la_kind) (la_firstLane) (la_mood) (la_price) la_cities la_passes (la_passBetween) la_turned p1 r_1 hc_2) gX11_marchTrouble_X2_hasCity rfl hd_X2_hasCity ⟨Nat.le_of_ble_eq_true rfl, Nat.le_of_ble_eq_true rfl⟩ rfl rfl hKN (hP.sub [1] rfl) 2 0 rfl rfl rfl hl.1 rfl (Nat.le_of_ble_eq_true rfl) dX11_marchTrouble_5 ⟨Nat.le_of_ble_eq_true rfl, Nat.le_of_ble_eq_true rfl⟩ (fun nb_3 => ?_)
  refine lv_if_eq (tgt := 22) hx hb dX11_marchTrouble_8 (by decide) (fun cd => ?_) (fun cd => ?_)
  · have h := ifT cd h
    refine lv_iconst (v := 1) hx hb dX11_marchTrouble_22 (by decide) ?_
    exact W.iret (v := 1) hx hb hr (fun t ht _ => ⟨_, rfl, Option.some.inj h, ht⟩) (fun _ q => by cases q) dX11_marchTrouble_23
  · have h := ifF cd h
    refine lv_aload_n hx hb dX11_marchTrouble_11 rfl (lv_at hl 0 rfl) ?_
    refine va_get (D := D) (ci := 11) (C := RX11) (T := TX11) (N := 15) (v := .ref a_la) hx hb hX11 (fun _ q => q) hown hK hP 0 rfl rfl 3 (by decide) (hts (.fieldLink RX11 25 "ElephantLine" "land" "LElephantLine$Land;") (by decide +kernel)) (fun _ h9 => h9) rfl dX11_marchTrouble_12 ?_
    refine lv_iload_n hx hb dX11_marchTrouble_15 rfl (lv_at hl 2 rfl) ?_
    obtain ⟨r_4, hc_5, h⟩ := bd1_some h
    refine kVb [.int p2] [] ⟨hx, hb, hml, hown, hts⟩ (c_X2_hasCity l D cy a_la la_lanes la_deep la_lanesTold (la_who) (la_firstStrong) la_beasts (la_kind) (la_firstLane) (la_mood) (la_price) la_cities la_passes (la_passBetween) la_turned p2 r_4 hc_5) gX11_marchTrouble_X2_hasCity rfl hd_X2_hasCity ⟨Nat.le_of_ble_eq_true rfl, Nat.le_of_ble_eq_true rfl⟩ rfl rfl hKN (hP.sub [1] rfl) 2 0 rfl rfl rfl hl.1 rfl (Nat.le_of_ble_eq_true rfl) dX11_marchTrouble_16 ⟨Nat.le_of_ble_eq_true rfl, Nat.le_of_ble_eq_true rfl⟩ (fun nb_6 => ?_)
    refine lv_if_ne (tgt := 24) hx hb dX11_marchTrouble_19 (by decide) (fun cd => ?_) (fun cd => ?_)
    · have h := ifF cd h
      refine lv_iload_n hx hb dX11_marchTrouble_24 rfl (lv_at hl 3 rfl) ?_
      refine lv_iconst (v := 0) hx hb dX11_marchTrouble_25 (by decide) ?_
      refine lv_sipush (v := 999) hx hb dX11_marchTrouble_26 (by decide) ?_
      obtain ⟨r_7, hc_8, h⟩ := bd1_some h
      refine kSb [.int p3, .int 0, .int 999] [] ⟨hx, hb, hml, hown, hts⟩ (c_X11_outside l D cy p3 (0 : Int32) (999 : Int32) r_7 hc_8) gX11_marchTrouble_X11_outside rfl hd_X11_outside ⟨Nat.le_of_ble_eq_true rfl, Nat.le_of_ble_eq_true rfl⟩ rfl rfl hKN va_nil rfl hl.1 rfl (Nat.le_of_ble_eq_true rfl) dX11_marchTrouble_29 ⟨Nat.le_of_ble_eq_true rfl, Nat.le_of_ble_eq_true rfl⟩ (fun nb_9 => ?_)
      refine lv_if_eq (tgt := 39) hx hb dX11_marchTrouble_32 (by decide) (fun cd => ?_) (fun cd => ?_)
      · have h := ifT cd h
        refine lv_iconst (v := 0) hx hb dX11_marchTrouble_39 (by decide) ?_
        exact W.iret (v := 0) hx hb hr (fun t ht _ => ⟨_, rfl, Option.some.inj h, ht⟩) (fun _ q => by cases q) dX11_marchTrouble_40
      · have h := ifF cd h
        refine lv_iconst (v := 2) hx hb dX11_marchTrouble_35 (by decide) ?_
        refine lv_goto (tgt := 40) hx hb dX11_marchTrouble_36 (by decide) ?_
        exact W.iret (v := 2) hx hb hr (fun t ht _ => ⟨_, rfl, Option.some.inj h, ht⟩) (fun _ q => by cases q) dX11_marchTrouble_40
    · have h := ifT cd h
      refine lv_iconst (v := 1) hx hb dX11_marchTrouble_22 (by decide) ?_
      exact W.iret (v := 1) hx hb hr (fun t ht _ => ⟨_, rfl, Option.some.inj h, ht⟩) (fun _ q => by cases q) dX11_marchTrouble_23
theorem hd_X11_battlesTrouble : yX11_battlesTrouble.cls ≠ "java/lang/invoke/MethodHandle" ∧ yX11_battlesTrouble.cls ≠ "java/lang/invoke/VarHandle" ∧ (parseMethodDescriptor yX11_battlesTrouble.desc).map (fun d => d.parameters.length) = some 3 := by decide +kernel
set_option maxHeartbeats 4000000 in
set_option maxRecDepth 100000 in
theorem c_X11_battlesTrouble (l : Launch) (D : va_G) (cy : Nat → ClassId) (p0 : Int32) (p1 : Int32) (p2 : Int32) (res : Int32) (h : f_X11_battlesTrouble  p0 p1 p2 = some (res)) : Met l yX11_battlesTrouble wo_X11_battlesTrouble ({ frames := 1, cells := 0, slots := 0, locals := 22 }) (roPc D cy [.int p0, .int p1, .int p2] []) (vp_Si (fun r => r = res)) 0 0 (fun _ => False) := by
  refine Met.ofW (cc := cX11_battlesTrouble) (maxL := 3) (ret := (some .int)) (by decide) rfl ?_
  intro p e s m args below meth c s₁ B hml hv
  obtain ⟨rfl, hP, hKN⟩ := hv
  have hK := hKN.1
  have hx := B.exec
  have hb := B.bytes
  have hr := B.returns
  have hts := wt_X11_battlesTrouble hKN.2.2 (([.int p0, .int p1, .int p2] : List Value).toArray)
  have hown : s.vm.findClass RX11 = some m.cls := findClass_of_methodNamed B.named
  have hlocks := B.notSynchronized
  have hl := lv_entry ([.int p0, .int p1, .int p2]) (n := 3) (Nat.le_of_ble_eq_true rfl)
  rw [lg_entry_eq]
  generalize (lg_sl ([.int p0, .int p1, .int p2]) ++ List.replicate (3 - (lg_sl ([.int p0, .int p1, .int p2])).length) Slot.unset).toArray = ls at hl ⊢
  have hl : lv_has ls 3 [(0, .int p0), (1, .int p1), (2, .int p2)] := hl
  unfold f_X11_battlesTrouble at h
  refine lv_iload_n hx hb dX11_battlesTrouble_0 rfl (lv_at hl 0 rfl) ?_
  refine lv_if_ne (tgt := 6) hx hb dX11_battlesTrouble_1 (by decide) (fun cd => ?_) (fun cd => ?_)
  · have h := ifF cd h
    refine lv_iload_n hx hb dX11_battlesTrouble_6 rfl (lv_at hl 1 rfl) ?_
    refine lv_iconst (v := 0) hx hb dX11_battlesTrouble_7 (by decide) ?_
    refine lv_ldcw (v := 65536) hx hb hown (hts (.constant RX11 379 (65536)) (by decide +kernel)) dX11_battlesTrouble_8 ?_
    obtain ⟨r_1, hc_2, h⟩ := bd1_some h
    refine kSb [.int p1, .int 0, .int 65536] [] ⟨hx, hb, hml, hown, hts⟩ (c_X11_outside l D cy p1 (0 : Int32) (65536 : Int32) r_1 hc_2) gX11_battlesTrouble_X11_outside rfl hd_X11_outside ⟨Nat.le_of_ble_eq_true rfl, Nat.le_of_ble_eq_true rfl⟩ rfl rfl hKN va_nil rfl hl.1 rfl (Nat.le_of_ble_eq_true rfl) dX11_battlesTrouble_11 ⟨Nat.le_of_ble_eq_true rfl, Nat.le_of_ble_eq_true rfl⟩ (fun nb_3 => ?_)
    have jn27 : f_X11_battlesTrouble_B27 = some (res) → ∀ ls : Array Slot, lv_has ls 3 [] → W p l e (headSpec wo_X11_battlesTrouble ({ frames := 1, cells := 0, slots := 0, locals := 22 })).room s m (([.int p0, .int p1, .int p2] : List Value).toArray) below meth c s.heap [] 0 0 (MQ below (vp_Si (fun r => r = res)) (([.int p0, .int p1, .int p2] : List Value).toArray) s 0 0 (fun _ => False)) (F0 m 27 ls []) := by
      intro h ls hl
      unfold f_X11_battlesTrouble_B27 at h
      refine lv_iconst (v := 2) hx hb dX11_battlesTrouble_27 (by decide) ?_
      refine lv_goto (tgt := 32) hx hb dX11_battlesTrouble_28 (by decide) ?_
      exact W.iret (v := 2) hx hb hr (fun t ht _ => ⟨_, rfl, Option.some.inj h, ht⟩) (fun _ q => by cases q) dX11_battlesTrouble_32
    refine lv_if_ne (tgt := 27) hx hb dX11_battlesTrouble_14 (by decide) (fun cd => ?_) (fun cd => ?_)
    · have h := ifF cd h
      exact jn27 h _ (lv_sub hl [] rfl)
    · have h := ifT cd h
      refine lv_iload_n hx hb dX11_battlesTrouble_17 rfl (lv_at hl 2 rfl) ?_
      refine lv_iconst (v := 1) hx hb dX11_battlesTrouble_18 (by decide) ?_
      refine lv_bipush (v := 90) hx hb dX11_battlesTrouble_19 (by decide) ?_
      obtain ⟨r_4, hc_5, h⟩ := bd1_some h
      refine kSb [.int p2, .int 1, .int 90] [] ⟨hx, hb, hml, hown, hts⟩ (c_X11_outside l D cy p2 (1 : Int32) (90 : Int32) r_4 hc_5) gX11_battlesTrouble_X11_outside rfl hd_X11_outside ⟨Nat.le_of_ble_eq_true rfl, Nat.le_of_ble_eq_true rfl⟩ rfl rfl hKN va_nil rfl hl.1 rfl (Nat.le_of_ble_eq_true rfl) dX11_battlesTrouble_21 ⟨Nat.le_of_ble_eq_true rfl, Nat.le_of_ble_eq_true rfl⟩ (fun nb_6 => ?_)
      refine lv_if_eq (tgt := 31) hx hb dX11_battlesTrouble_24 (by decide) (fun cd => ?_) (fun cd => ?_)
      · have h := ifT cd h
        refine lv_iconst (v := 0) hx hb dX11_battlesTrouble_31 (by decide) ?_
        exact W.iret (v := 0) hx hb hr (fun t ht _ => ⟨_, rfl, Option.some.inj h, ht⟩) (fun _ q => by cases q) dX11_battlesTrouble_32
      · have h := ifF cd h
        exact jn27 h _ (lv_sub hl [] rfl)
  · have h := ifT cd h
    refine lv_iconst (v := 1) hx hb dX11_battlesTrouble_4 (by decide) ?_
    exact W.iret (v := 1) hx hb hr (fun t ht _ => ⟨_, rfl, Option.some.inj h, ht⟩) (fun _ q => by cases q) dX11_battlesTrouble_5
theorem hd_X11_priceOf : yX11_priceOf.cls = RX11 ∧ yX11_priceOf.cls ≠ "java/lang/invoke/MethodHandle" ∧ yX11_priceOf.cls ≠ "java/lang/invoke/VarHandle" ∧ (parseMethodDescriptor yX11_priceOf.desc).map (fun d => d.parameters.length) = some 1 := by decide +kernel
set_option maxHeartbeats 4000000 in
set_option maxRecDepth 100000 in
theorem c_X11_priceOf (l : Launch) (D : va_G) (cy : Nat → ClassId) (a_el a_la a_la_price : Nat) (el_tape : Value) (el_bytes : Int32) (el_reader : Value) (el_now : Value) (el_past : Value) (el_odds : Value) (el_game : Value) (el_placing : Value) (el_marching : Value) (el_trumpets : Value) (el_fight : Value) (el_refusal : Int32) (el_faultTold : Int32) (el_faultPlace : Int32) (la_lanes : Int32) (la_deep : Int32) (la_lanesTold : Int32) (la_who : Value) (la_firstStrong : Value) (la_beasts : Int32) (la_kind : Value) (la_firstLane : Value) (la_mood : Value) (la_cities : Int32) (la_passes : Int32) (la_passBetween : Value) (la_turned : Int32) (la_price : Nat → Int32) (p1 : Int32) (res : Int32) (h : f_X11_priceOf la_beasts la_price p1 = some (res)) : Met l yX11_priceOf wo_X11_priceOf ({ frames := 0, cells := 0, slots := 0, locals := 0 }) (roPc D cy [.ref a_el, .int p1] [(a_el, .inr (11, [el_tape, .int el_bytes, el_reader, .ref a_la, el_now, el_past, el_odds, el_game, el_placing, el_marching, el_trumpets, el_fight, .int el_refusal, .int el_faultTold, .int el_faultPlace])), (a_la, .inr (2, [.int la_lanes, .int la_deep, .int la_lanesTold, la_who, la_firstStrong, .int la_beasts, la_kind, la_firstLane, la_mood, .ref a_la_price, .int la_cities, .int la_passes, la_passBetween, .int la_turned])), (a_la_price, .inl (cy 1, 5, .inl la_price))]) (vp_Si (fun r => r = res)) 0 0 (fun _ => False) := by
  refine Met.ofW (cc := cX11_priceOf) (maxL := 4) (ret := (some .int)) (by decide) rfl ?_
  intro p e s m args below meth c s₁ B hml hv
  obtain ⟨rfl, hP, hKN⟩ := hv
  have hK := hKN.1
  have hx := B.exec
  have hb := B.bytes
  have hr := B.returns
  have hts := wt_X11_priceOf hKN.2.2 (([.ref a_el, .int p1] : List Value).toArray)
  have hown : s.vm.findClass RX11 = some m.cls := findClass_of_methodNamed B.named
  have hlocks := B.notSynchronized
  have hX11 := wc_X11 hKN.2.2 (([.ref a_el, .int p1] : List Value).toArray)
  have hX2 := wc_X2 hKN.2.2 (([.ref a_el, .int p1] : List Value).toArray)
  have hl := lv_entry ([.ref a_el, .int p1]) (n := 4) (Nat.le_of_ble_eq_true rfl)
  rw [lg_entry_eq]
  generalize (lg_sl ([.ref a_el, .int p1]) ++ List.replicate (4 - (lg_sl ([.ref a_el, .int p1])).length) Slot.unset).toArray = ls at hl ⊢
  have hl : lv_has ls 4 [(0, .ref a_el), (1, .int p1)] := hl
  unfold f_X11_priceOf at h
  refine lv_iconst (v := 0) hx hb dX11_priceOf_0 (by decide) ?_
  refine lv_istore_n (lv' := [(2, .int 0), (0, .ref a_el), (1, .int p1)]) hx hb dX11_priceOf_1 rfl hl (by decide) rfl (fun ls hl => ?_)
  refine lv_iconst (v := 0) hx hb dX11_priceOf_2 (by decide) ?_
  refine lv_istore_n (lv' := [(3, .int 0), (2, .int 0), (0, .ref a_el), (1, .int p1)]) hx hb dX11_priceOf_3 rfl hl (by decide) rfl (fun ls hl => ?_)
  have lp4 : ∀ (n4 : Nat) (x2_1 : Int32) (x3_2 : Int32), f_X11_priceOf_L4 la_beasts la_price p1 n4 x2_1 x3_2 = some (res) → ∀ ls : Array Slot, lv_has ls 4 [(0, .ref a_el), (1, .int p1), (2, .int x2_1), (3, .int x3_2)] → W p l e (headSpec wo_X11_priceOf ({ frames := 0, cells := 0, slots := 0, locals := 0 })).room s m (([.ref a_el, .int p1] : List Value).toArray) below meth c s.heap [] 0 0 (MQ below (vp_Si (fun r => r = res)) (([.ref a_el, .int p1] : List Value).toArray) s 0 0 (fun _ => False)) (F0 m 4 ls []) := by
    intro n4
    induction n4 with
    | zero => intro x2_1 x3_2 h; exact absurd (show (none : Option (Int32)) = some _ from h) (by intro q; cases q)
    | succ n4 ih4 =>
      intro x2_1 x3_2 h ls hl
      have h : f_X11_priceOf_b4 la_beasts la_price p1 (f_X11_priceOf_L4 la_beasts la_price p1 n4) x2_1 x3_2 = some (res) := h
      unfold f_X11_priceOf_b4 at h
      refine lv_iload_n hx hb dX11_priceOf_4 rfl (lv_at hl 3 rfl) ?_
      refine lv_aload_n hx hb dX11_priceOf_5 rfl (lv_at hl 0 rfl) ?_
      refine va_get (D := D) (ci := 11) (C := RX11) (T := TX11) (N := 15) (v := .ref a_la) hx hb hX11 (fun _ q => q) hown hK hP 0 rfl rfl 3 (by decide) (hts (.fieldLink RX11 25 "ElephantLine" "land" "LElephantLine$Land;") (by decide +kernel)) (fun _ h9 => h9) rfl dX11_priceOf_6 ?_
      refine va_getN (D := D) (ci := 2) (C := RX2) (T := TX2) (N := 14) (v := .int la_beasts) hx hb hX2 (fun _ q => q) hown hK hP 1 rfl rfl 5 (by decide) (va_Nw.use rfl (hKN.2.1.1 ("ElephantLine", 132, "ElephantLine$Land", "beasts", "I", "ElephantLine") (List.mem_of_getElem? (i := 19) rfl))) (fun _ h9 => h9) rfl dX11_priceOf_9 ?_
      refine lv_icmp_ge (tgt := 46) hx hb dX11_priceOf_12 (by decide) (fun cd => ?_) (fun cd => ?_)
      · have h := ifT cd h
        refine lv_iload_n hx hb dX11_priceOf_46 rfl (lv_at hl 2 rfl) ?_
        exact W.iret (v := x2_1) hx hb hr (fun t ht _ => ⟨_, rfl, Option.some.inj h, ht⟩) (fun _ q => by cases q) dX11_priceOf_47
      · have h := ifF cd h
        refine lv_iload_n hx hb dX11_priceOf_15 rfl (lv_at hl 2 rfl) ?_
        refine lv_iload_n hx hb dX11_priceOf_16 rfl (lv_at hl 1 rfl) ?_
        refine lv_iload_n hx hb dX11_priceOf_17 rfl (lv_at hl 3 rfl) ?_
        refine lv_ishr hx hb dX11_priceOf_18 ?_
        refine lv_iconst (v := 1) hx hb dX11_priceOf_19 (by decide) ?_
        refine lv_iand hx hb dX11_priceOf_20 ?_
        refine lv_iconst (v := 1) hx hb dX11_priceOf_21 (by decide) ?_
        have jn38 : ∀ (t1_3 : Int32), f_X11_priceOf_B38 (f_X11_priceOf_L4 la_beasts la_price p1 n4) la_beasts la_price p1 x3_2 x2_1 t1_3 = some (res) → ∀ ls : Array Slot, lv_has ls 4 [(0, .ref a_el), (1, .int p1), (3, .int x3_2)] → W p l e (headSpec wo_X11_priceOf ({ frames := 0, cells := 0, slots := 0, locals := 0 })).room s m (([.ref a_el, .int p1] : List Value).toArray) below meth c s.heap [] 0 0 (MQ below (vp_Si (fun r => r = res)) (([.ref a_el, .int p1] : List Value).toArray) s 0 0 (fun _ => False)) (F0 m 38 ls [.int t1_3, .int x2_1]) := by
          intro t1_3 h ls hl
          unfold f_X11_priceOf_B38 at h
          refine lv_iadd hx hb dX11_priceOf_38 ?_
          refine lv_istore_n (lv' := [(2, .int (x2_1 + t1_3)), (0, .ref a_el), (1, .int p1), (3, .int x3_2)]) hx hb dX11_priceOf_39 rfl hl (by decide) rfl (fun ls hl => ?_)
          refine lv_iinc (v := x3_2 + 1) (lv' := [(3, .int (x3_2 + 1)), (2, .int (x2_1 + t1_3)), (0, .ref a_el), (1, .int p1)]) hx hb dX11_priceOf_40 hl (k := 3) rfl (by first | rfl | decide) (by decide) rfl (fun ls hl => ?_)
          refine lv_goto (tgt := 4) hx hb dX11_priceOf_43 (by decide) ?_
          exact ih4 (x2_1 + t1_3) (x3_2 + 1) h _ (lv_sub hl [2, 3, 1, 0] rfl)
        refine lv_icmp_ne (tgt := 37) hx hb dX11_priceOf_22 (by decide) (fun cd => ?_) (fun cd => ?_)
        · have h := ifF cd h
          refine lv_iconst (v := 0) hx hb dX11_priceOf_37 (by decide) ?_
          exact jn38 (0 : Int32) h _ (lv_sub hl [0, 1, 3] rfl)
        · have h := ifT cd h
          refine lv_aload_n hx hb dX11_priceOf_25 rfl (lv_at hl 0 rfl) ?_
          refine va_get (D := D) (ci := 11) (C := RX11) (T := TX11) (N := 15) (v := .ref a_la) hx hb hX11 (fun _ q => q) hown hK hP 0 rfl rfl 3 (by decide) (hts (.fieldLink RX11 25 "ElephantLine" "land" "LElephantLine$Land;") (by decide +kernel)) (fun _ h9 => h9) rfl dX11_priceOf_26 ?_
          refine va_getN (D := D) (ci := 2) (C := RX2) (T := TX2) (N := 14) (v := .ref a_la_price) hx hb hX2 (fun _ q => q) hown hK hP 1 rfl rfl 9 (by decide) (va_Nw.use rfl (hKN.2.1.1 ("ElephantLine", 164, "ElephantLine$Land", "price", "[I", "ElephantLine") (List.mem_of_getElem? (i := 27) rfl))) (fun _ h9 => h9) rfl dX11_priceOf_29 ?_
          refine lv_iload_n hx hb dX11_priceOf_32 rfl (lv_at hl 3 rfl) ?_
          obtain ⟨i_4, h⟩ := gIn_some h
          refine va_iald hx hb hK hP 2 1 rfl rfl i_4 dX11_priceOf_33 ?_
          refine lv_goto (tgt := 38) hx hb dX11_priceOf_34 (by decide) ?_
          exact jn38 (la_price x3_2.toNatClampNeg) h _ (lv_sub hl [0, 1, 3] rfl)
  exact lp4 fuelN (0 : Int32) (0 : Int32) h _ (lv_sub hl [2, 3, 1, 0] rfl)
theorem hd_X11_fewestToSell : yX11_fewestToSell.cls = RX11 ∧ yX11_fewestToSell.cls ≠ "java/lang/invoke/MethodHandle" ∧ yX11_fewestToSell.cls ≠ "java/lang/invoke/VarHandle" ∧ (parseMethodDescriptor yX11_fewestToSell.desc).map (fun d => d.parameters.length) = some 1 := by decide +kernel
set_option maxHeartbeats 4000000 in
set_option maxRecDepth 100000 in
theorem c_X11_fewestToSell (l : Launch) (D : va_G) (cy : Nat → ClassId) (a_el a_la a_la_price a_no : Nat) (el_tape : Value) (el_bytes : Int32) (el_reader : Value) (el_past : Value) (el_odds : Value) (el_game : Value) (el_placing : Value) (el_marching : Value) (el_trumpets : Value) (el_fight : Value) (el_refusal : Int32) (el_faultTold : Int32) (el_faultPlace : Int32) (la_lanes : Int32) (la_deep : Int32) (la_lanesTold : Int32) (la_who : Value) (la_firstStrong : Value) (la_beasts : Int32) (la_kind : Value) (la_firstLane : Value) (la_mood : Value) (la_cities : Int32) (la_passes : Int32) (la_passBetween : Value) (la_turned : Int32) (la_price : Nat → Int32) (no_strong : Value) (no_at : Value) (no_wounds : Value) (no_dead : Int32) (no_wet : Int32) (no_drawn : Int32) (p1 : Int32) (res : Int32) (h : f_X11_fewestToSell la_beasts la_price no_dead p1 = some (res)) : Met l yX11_fewestToSell wo_X11_fewestToSell ({ frames := 1, cells := 0, slots := 0, locals := 23 }) (roPc D cy [.ref a_el, .int p1] [(a_el, .inr (11, [el_tape, .int el_bytes, el_reader, .ref a_la, .ref a_no, el_past, el_odds, el_game, el_placing, el_marching, el_trumpets, el_fight, .int el_refusal, .int el_faultTold, .int el_faultPlace])), (a_la, .inr (2, [.int la_lanes, .int la_deep, .int la_lanesTold, la_who, la_firstStrong, .int la_beasts, la_kind, la_firstLane, la_mood, .ref a_la_price, .int la_cities, .int la_passes, la_passBetween, .int la_turned])), (a_la_price, .inl (cy 1, 5, .inl la_price)), (a_no, .inr (8, [no_strong, no_at, no_wounds, .int no_dead, .int no_wet, .int no_drawn]))]) (vp_Si (fun r => r = res)) 0 0 (fun _ => False) := by
  refine Met.ofW (cc := cX11_fewestToSell) (maxL := 6) (ret := (some .int)) (by decide) rfl ?_
  intro p e s m args below meth c s₁ B hml hv
  obtain ⟨rfl, hP, hKN⟩ := hv
  have hK := hKN.1
  have hx := B.exec
  have hb := B.bytes
  have hr := B.returns
  have hts := wt_X11_fewestToSell hKN.2.2 (([.ref a_el, .int p1] : List Value).toArray)
  have hown : s.vm.findClass RX11 = some m.cls := findClass_of_methodNamed B.named
  have hlocks := B.notSynchronized
  have hX11 := wc_X11 hKN.2.2 (([.ref a_el, .int p1] : List Value).toArray)
  have hX2 := wc_X2 hKN.2.2 (([.ref a_el, .int p1] : List Value).toArray)
  have hX8 := wc_X8 hKN.2.2 (([.ref a_el, .int p1] : List Value).toArray)
  have hl := lv_entry ([.ref a_el, .int p1]) (n := 6) (Nat.le_of_ble_eq_true rfl)
  rw [lg_entry_eq]
  generalize (lg_sl ([.ref a_el, .int p1]) ++ List.replicate (6 - (lg_sl ([.ref a_el, .int p1])).length) Slot.unset).toArray = ls at hl ⊢
  have hl : lv_has ls 6 [(0, .ref a_el), (1, .int p1)] := hl
  unfold f_X11_fewestToSell at h
  refine lv_bipush (v := (-2)) hx hb dX11_fewestToSell_0 (by decide) ?_
  refine lv_istore_n (lv' := [(2, .int (-2)), (0, .ref a_el), (1, .int p1)]) hx hb dX11_fewestToSell_2 rfl hl (by decide) rfl (fun ls hl => ?_)
  refine lv_bipush (v := 6) hx hb dX11_fewestToSell_3 (by decide) ?_
  refine lv_istore_n (lv' := [(3, .int 6), (2, .int (-2)), (0, .ref a_el), (1, .int p1)]) hx hb dX11_fewestToSell_5 rfl hl (by decide) rfl (fun ls hl => ?_)
  refine lv_iconst (v := 0) hx hb dX11_fewestToSell_6 (by decide) ?_
  refine lv_istore (lv' := [(4, .int 0), (3, .int 6), (2, .int (-2)), (0, .ref a_el), (1, .int p1)]) hx hb dX11_fewestToSell_7 hl (by decide) rfl (fun ls hl => ?_)
  have lp9 : ∀ (n9 : Nat) (x2_1 : Int32) (x3_2 : Int32) (x4_3 : Int32), f_X11_fewestToSell_L9 la_beasts la_price no_dead p1 n9 x2_1 x3_2 x4_3 = some (res) → ∀ ls : Array Slot, lv_has ls 6 [(0, .ref a_el), (1, .int p1), (2, .int x2_1), (3, .int x3_2), (4, .int x4_3)] → W p l e (headSpec wo_X11_fewestToSell ({ frames := 1, cells := 0, slots := 0, locals := 23 })).room s m (([.ref a_el, .int p1] : List Value).toArray) below meth c s.heap [] 0 0 (MQ below (vp_Si (fun r => r = res)) (([.ref a_el, .int p1] : List Value).toArray) s 0 0 (fun _ => False)) (F0 m 9 ls []) := by
    intro n9
    induction n9 with
    | zero => intro x2_1 x3_2 x4_3 h; exact absurd (show (none : Option (Int32)) = some _ from h) (by intro q; cases q)
    | succ n9 ih9 =>
      intro x2_1 x3_2 x4_3 h ls hl
      have h : f_X11_fewestToSell_b9 la_beasts la_price no_dead p1 (f_X11_fewestToSell_L9 la_beasts la_price no_dead p1 n9) x2_1 x3_2 x4_3 = some (res) := h
      unfold f_X11_fewestToSell_b9 at h
      refine lv_iload hx hb dX11_fewestToSell_9 (lv_at hl 4 rfl) ?_
      refine lv_iconst (v := 1) hx hb dX11_fewestToSell_11 (by decide) ?_
      refine lv_aload_n hx hb dX11_fewestToSell_12 rfl (lv_at hl 0 rfl) ?_
      refine va_get (D := D) (ci := 11) (C := RX11) (T := TX11) (N := 15) (v := .ref a_la) hx hb hX11 (fun _ q => q) hown hK hP 0 rfl rfl 3 (by decide) (hts (.fieldLink RX11 25 "ElephantLine" "land" "LElephantLine$Land;") (by decide +kernel)) (fun _ h9 => h9) rfl dX11_fewestToSell_13 ?_
      refine va_getN (D := D) (ci := 2) (C := RX2) (T := TX2) (N := 14) (v := .int la_beasts) hx hb hX2 (fun _ q => q) hown hK hP 1 rfl rfl 5 (by decide) (va_Nw.use rfl (hKN.2.1.1 ("ElephantLine", 132, "ElephantLine$Land", "beasts", "I", "ElephantLine") (List.mem_of_getElem? (i := 19) rfl))) (fun _ h9 => h9) rfl dX11_fewestToSell_16 ?_
      refine lv_ishl hx hb dX11_fewestToSell_19 ?_
      refine lv_icmp_ge (tgt := 71) hx hb dX11_fewestToSell_20 (by decide) (fun cd => ?_) (fun cd => ?_)
      · have h := ifT cd h
        refine lv_iload_n hx hb dX11_fewestToSell_71 rfl (lv_at hl 2 rfl) ?_
        exact W.iret (v := x2_1) hx hb hr (fun t ht _ => ⟨_, rfl, Option.some.inj h, ht⟩) (fun _ q => by cases q) dX11_fewestToSell_72
      · have h := ifF cd h
        refine lv_iload hx hb dX11_fewestToSell_23 (lv_at hl 4 rfl) ?_
        obtain ⟨r_4, hc_5, h⟩ := bd1_some h
        refine kSi [.int x4_3] [] ⟨hx, hb, hml, hown, hts⟩ (c_J6_bitCount_0f7a4 l D cy x4_3 r_4 hc_5) gX11_fewestToSell_J6_bitCount_0f7a4 rfl hd_J6_bitCount_0f7a4 ⟨Nat.le_of_ble_eq_true rfl, Nat.le_of_ble_eq_true rfl⟩ rfl rfl hKN va_nil rfl hl.1 rfl (Nat.le_of_ble_eq_true rfl) dX11_fewestToSell_25 ⟨Nat.le_of_ble_eq_true rfl, Nat.le_of_ble_eq_true rfl⟩ ?_
        refine lv_istore (lv' := [(5, .int r_4), (0, .ref a_el), (1, .int p1), (2, .int x2_1), (3, .int x3_2), (4, .int x4_3)]) hx hb dX11_fewestToSell_28 hl (by decide) rfl (fun ls hl => ?_)
        refine lv_iload hx hb dX11_fewestToSell_30 (lv_at hl 0 rfl) ?_
        refine lv_iload_n hx hb dX11_fewestToSell_32 rfl (lv_at hl 4 rfl) ?_
        have jn65 : ∀ (x2_6 : Int32) (x3_7 : Int32), f_X11_fewestToSell_B65 (f_X11_fewestToSell_L9 la_beasts la_price no_dead p1 n9) la_beasts la_price no_dead p1 x2_6 x3_7 x4_3 = some (res) → ∀ ls : Array Slot, lv_has ls 6 [(0, .ref a_el), (1, .int p1), (2, .int x2_6), (3, .int x3_7), (4, .int x4_3)] → W p l e (headSpec wo_X11_fewestToSell ({ frames := 1, cells := 0, slots := 0, locals := 23 })).room s m (([.ref a_el, .int p1] : List Value).toArray) below meth c s.heap [] 0 0 (MQ below (vp_Si (fun r => r = res)) (([.ref a_el, .int p1] : List Value).toArray) s 0 0 (fun _ => False)) (F0 m 65 ls []) := by
          intro x2_6 x3_7 h ls hl
          unfold f_X11_fewestToSell_B65 at h
          refine lv_iinc (v := x4_3 + 1) (lv' := [(4, .int (x4_3 + 1)), (0, .ref a_el), (1, .int p1), (2, .int x2_6), (3, .int x3_7)]) hx hb dX11_fewestToSell_65 hl (k := 4) rfl (by first | rfl | decide) (by decide) rfl (fun ls hl => ?_)
          refine lv_goto (tgt := 9) hx hb dX11_fewestToSell_68 (by decide) ?_
          exact ih9 x2_6 x3_7 (x4_3 + 1) h _ (lv_sub hl [1, 2, 3, 4, 0] rfl)
        refine lv_icmp_ge (tgt := 65) hx hb dX11_fewestToSell_33 (by decide) (fun cd => ?_) (fun cd => ?_)
        · have h := ifT cd h
          exact jn65 x2_1 x3_2 h _ (lv_sub hl [1, 2, 3, 4, 5] rfl)
        · have h := ifF cd h
          refine lv_iload hx hb dX11_fewestToSell_36 (lv_at hl 5 rfl) ?_
          refine lv_aload_n hx hb dX11_fewestToSell_38 rfl (lv_at hl 1 rfl) ?_
          refine va_get (D := D) (ci := 11) (C := RX11) (T := TX11) (N := 15) (v := .ref a_no) hx hb hX11 (fun _ q => q) hown hK hP 0 rfl rfl 4 (by decide) (hts (.fieldLink RX11 32 "ElephantLine" "now" "LElephantLine$Stand;") (by decide +kernel)) (fun _ h9 => h9) rfl dX11_fewestToSell_39 ?_
          refine va_getN (D := D) (ci := 8) (C := RX8) (T := TX8) (N := 6) (v := .int no_dead) hx hb hX8 (fun _ q => q) hown hK hP 3 rfl rfl 3 (by decide) (va_Nw.use rfl (hKN.2.1.1 ("ElephantLine", 355, "ElephantLine$Stand", "dead", "I", "ElephantLine") (List.mem_of_getElem? (i := 52) rfl))) (fun _ h9 => h9) rfl dX11_fewestToSell_42 ?_
          refine lv_iand hx hb dX11_fewestToSell_45 ?_
          refine lv_if_ne (tgt := 65) hx hb dX11_fewestToSell_46 (by decide) (fun cd => ?_) (fun cd => ?_)
          · have h := ifF cd h
            exact jn65 x2_1 x3_2 h _ (lv_sub hl [1, 2, 3, 4, 5] rfl)
          · have h := ifT cd h
            refine lv_aload_n hx hb dX11_fewestToSell_49 rfl (lv_at hl 1 rfl) ?_
            refine lv_iload hx hb dX11_fewestToSell_50 (lv_at hl 5 rfl) ?_
            obtain ⟨r_8, hc_9, h⟩ := bd1_some h
            refine kVi [.int x4_3] [] ⟨hx, hb, hml, hown, hts⟩ (c_X11_priceOf l D cy a_el a_la a_la_price (el_tape) el_bytes (el_reader) (.ref a_no) (el_past) (el_odds) (el_game) (el_placing) (el_marching) (el_trumpets) (el_fight) el_refusal el_faultTold el_faultPlace la_lanes la_deep la_lanesTold (la_who) (la_firstStrong) la_beasts (la_kind) (la_firstLane) (la_mood) la_cities la_passes (la_passBetween) la_turned la_price x4_3 r_8 hc_9) gX11_fewestToSell_X11_priceOf rfl hd_X11_priceOf ⟨Nat.le_of_ble_eq_true rfl, Nat.le_of_ble_eq_true rfl⟩ rfl rfl hKN (hP.sub [0, 1, 2] rfl) 11 0 rfl rfl rfl hl.1 rfl (Nat.le_of_ble_eq_true rfl) dX11_fewestToSell_52 ⟨Nat.le_of_ble_eq_true rfl, Nat.le_of_ble_eq_true rfl⟩ ?_
            refine lv_iload_n hx hb dX11_fewestToSell_55 rfl (lv_at hl 2 rfl) ?_
            refine lv_icmp_lt (tgt := 65) hx hb dX11_fewestToSell_56 (by decide) (fun cd => ?_) (fun cd => ?_)
            · have h := ifT cd h
              exact jn65 x2_1 x3_2 h _ (lv_sub hl [1, 2, 3, 4, 5] rfl)
            · have h := ifF cd h
              refine lv_iload hx hb dX11_fewestToSell_59 (lv_at hl 5 rfl) ?_
              refine lv_istore_n (lv' := [(2, .int x4_3), (5, .int r_4), (0, .ref a_el), (1, .int p1), (3, .int x3_2), (4, .int x4_3)]) hx hb dX11_fewestToSell_61 rfl hl (by decide) rfl (fun ls hl => ?_)
              refine lv_iload hx hb dX11_fewestToSell_62 (lv_at hl 1 rfl) ?_
              refine lv_istore_n (lv' := [(3, .int r_4), (2, .int x4_3), (5, .int r_4), (0, .ref a_el), (1, .int p1), (4, .int x4_3)]) hx hb dX11_fewestToSell_64 rfl hl (by decide) rfl (fun ls hl => ?_)
              exact jn65 x4_3 r_4 h _ (lv_sub hl [3, 4, 1, 0, 5] rfl)
  exact lp9 fuelN ((-2) : Int32) (6 : Int32) (0 : Int32) h _ (lv_sub hl [3, 4, 2, 1, 0] rfl)
theorem hd_X11_feed : yX11_feed.cls = RX11 ∧ yX11_feed.cls ≠ "java/lang/invoke/MethodHandle" ∧ yX11_feed.cls ≠ "java/lang/invoke/VarHandle" ∧ (parseMethodDescriptor yX11_feed.desc).map (fun d => d.parameters.length) = some 5 := by decide +kernel
set_option maxHeartbeats 4000000 in
set_option maxRecDepth 100000 in
theorem c_X11_feed (l : Launch) (D : va_G) (cy : Nat → ClassId) (A : Nat → Prop) (X : va_W) (a_el a_tape : Nat) (el_bytes : Int32) (el_reader : Value) (el_land : Value) (el_now : Value) (el_past : Value) (el_odds : Value) (el_game : Value) (el_placing : Value) (el_marching : Value) (el_trumpets : Value) (el_fight : Value) (el_refusal : Int32) (el_faultTold : Int32) (el_faultPlace : Int32) (tape : Nat → Int32) (p1 : Int32) (p2 : Int32) (p3 : Int32) (p4 : Int32) (p5 : Int32) (res : Int32) (el_bytes' : Int32) (tape' : Nat → Int32) (h : f_X11_feed el_bytes tape p1 p2 p3 p4 p5 = some (res, el_bytes', tape')) : Met l yX11_feed wo_X11_feed ({ frames := 1, cells := 0, slots := 0, locals := 22 }) (wrPc D cy A [.ref a_el, .int p1, .int p2, .int p3, .int p4, .int p5] ([(a_el, .inr (11, [.ref a_tape, .int el_bytes, el_reader, el_land, el_now, el_past, el_odds, el_game, el_placing, el_marching, el_trumpets, el_fight, .int el_refusal, .int el_faultTold, .int el_faultPlace])), (a_tape, .inl (cy 0, 900, .inl tape))] ++ X)) (va_Qi (fun (r : Int32) (_ : Unit) => r = res) (wB D A ([(a_el, .inr (11, [.ref a_tape, .int el_bytes', el_reader, el_land, el_now, el_past, el_odds, el_game, el_placing, el_marching, el_trumpets, el_fight, .int el_refusal, .int el_faultTold, .int el_faultPlace])), (a_tape, .inl (cy 0, 900, .inl tape'))] ++ X)) A) 0 0 A := by
  refine Met.ofW (cc := cX11_feed) (maxL := 6) (ret := (some .int)) (by decide) rfl ?_
  intro p e s m args below meth c s₁ B hml hv
  obtain ⟨rfl, hP, hKN, hD, hA⟩ := hv
  have hK := hKN.1
  have hx := B.exec
  have hb := B.bytes
  have hr := B.returns
  have hts := wt_X11_feed hKN.2.2 (([.ref a_el, .int p1, .int p2, .int p3, .int p4, .int p5] : List Value).toArray)
  have hown : s.vm.findClass RX11 = some m.cls := findClass_of_methodNamed B.named
  have hlocks := B.notSynchronized
  have hS : va_S A s.heap s.heap [] := va_S.rf
  have hX11 := wc_X11 hKN.2.2 (([.ref a_el, .int p1, .int p2, .int p3, .int p4, .int p5] : List Value).toArray)
  have hl := lv_entry ([.ref a_el, .int p1, .int p2, .int p3, .int p4, .int p5]) (n := 6) (Nat.le_of_ble_eq_true rfl)
  rw [lg_entry_eq]
  generalize (lg_sl ([.ref a_el, .int p1, .int p2, .int p3, .int p4, .int p5]) ++ List.replicate (6 - (lg_sl ([.ref a_el, .int p1, .int p2, .int p3, .int p4, .int p5])).length) Slot.unset).toArray = ls at hl ⊢
  have hl : lv_has ls 6 [(0, .ref a_el), (1, .int p1), (2, .int p2), (3, .int p3), (4, .int p4), (5, .int p5)] := hl
  unfold f_X11_feed at h
  refine lv_aload_n hx hb dX11_feed_0 rfl (lv_at hl 0 rfl) ?_
  refine va_get (D := D) (ci := 11) (C := RX11) (T := TX11) (N := 15) (v := .int el_bytes) hx hb hX11 (fun _ q => q) hown hK hP 0 rfl rfl 1 (by decide) (hts (.fieldLink RX11 91 "ElephantLine" "bytes" "I") (by decide +kernel)) (fun _ h9 => h9) rfl dX11_feed_1 ?_
  refine lv_bipush (v := 20) hx hb dX11_feed_4 (by decide) ?_
  refine lv_iadd hx hb dX11_feed_6 ?_
  refine lv_sipush (v := 900) hx hb dX11_feed_7 (by decide) ?_
  refine lv_icmp_le (tgt := 15) hx hb dX11_feed_10 (by decide) (fun cd => ?_) (fun cd => ?_)
  · have h := ifT cd h
    refine lv_aload_n hx hb dX11_feed_15 rfl (lv_at hl 0 rfl) ?_
    refine lv_iload_n hx hb dX11_feed_16 rfl (lv_at hl 1 rfl) ?_
    obtain ⟨el_bytes_1, tape_2, hc_3, h⟩ := bd2_some h
    refine wVv [.int p1] [] ⟨hx, hb, hml, hown, hts⟩ (c_X11_append l D cy A X a_el a_tape el_bytes (el_reader) (el_land) (el_now) (el_past) (el_odds) (el_game) (el_placing) (el_marching) (el_trumpets) (el_fight) el_refusal el_faultTold el_faultPlace tape p1 el_bytes_1 tape_2 hc_3) gX11_feed_X11_append rfl hd_X11_append ⟨Nat.le_of_ble_eq_true rfl, Nat.le_of_ble_eq_true rfl⟩ rfl rfl hKN hP hD hS hA 11 0 rfl rfl rfl hl.1 rfl (Nat.le_of_ble_eq_true rfl) dX11_feed_17 ⟨Nat.le_of_ble_eq_true rfl, Nat.le_of_ble_eq_true rfl⟩ (fun H locs hP hD hS => ?_)
    refine lv_aload_n hx hb dX11_feed_20 rfl (lv_at hl 0 rfl) ?_
    refine lv_iload_n hx hb dX11_feed_21 rfl (lv_at hl 2 rfl) ?_
    obtain ⟨el_bytes_4, tape_5, hc_6, h⟩ := bd2_some h
    refine wVv [.int p2] [] ⟨hx, hb, hml, hown, hts⟩ (c_X11_append l D cy A X a_el a_tape el_bytes_1 (el_reader) (el_land) (el_now) (el_past) (el_odds) (el_game) (el_placing) (el_marching) (el_trumpets) (el_fight) el_refusal el_faultTold el_faultPlace tape_2 p2 el_bytes_4 tape_5 hc_6) gX11_feed_X11_append rfl hd_X11_append ⟨Nat.le_of_ble_eq_true rfl, Nat.le_of_ble_eq_true rfl⟩ rfl rfl hKN hP hD hS hA 11 0 rfl rfl rfl hl.1 rfl (Nat.le_of_ble_eq_true rfl) dX11_feed_22 ⟨Nat.le_of_ble_eq_true rfl, Nat.le_of_ble_eq_true rfl⟩ (fun H locs hP hD hS => ?_)
    refine lv_aload_n hx hb dX11_feed_25 rfl (lv_at hl 0 rfl) ?_
    refine lv_iload_n hx hb dX11_feed_26 rfl (lv_at hl 3 rfl) ?_
    obtain ⟨el_bytes_7, tape_8, hc_9, h⟩ := bd2_some h
    refine wVv [.int p3] [] ⟨hx, hb, hml, hown, hts⟩ (c_X11_append l D cy A X a_el a_tape el_bytes_4 (el_reader) (el_land) (el_now) (el_past) (el_odds) (el_game) (el_placing) (el_marching) (el_trumpets) (el_fight) el_refusal el_faultTold el_faultPlace tape_5 p3 el_bytes_7 tape_8 hc_9) gX11_feed_X11_append rfl hd_X11_append ⟨Nat.le_of_ble_eq_true rfl, Nat.le_of_ble_eq_true rfl⟩ rfl rfl hKN hP hD hS hA 11 0 rfl rfl rfl hl.1 rfl (Nat.le_of_ble_eq_true rfl) dX11_feed_27 ⟨Nat.le_of_ble_eq_true rfl, Nat.le_of_ble_eq_true rfl⟩ (fun H locs hP hD hS => ?_)
    refine lv_aload_n hx hb dX11_feed_30 rfl (lv_at hl 0 rfl) ?_
    refine lv_iload hx hb dX11_feed_31 (lv_at hl 4 rfl) ?_
    obtain ⟨el_bytes_10, tape_11, hc_12, h⟩ := bd2_some h
    refine wVv [.int p4] [] ⟨hx, hb, hml, hown, hts⟩ (c_X11_append l D cy A X a_el a_tape el_bytes_7 (el_reader) (el_land) (el_now) (el_past) (el_odds) (el_game) (el_placing) (el_marching) (el_trumpets) (el_fight) el_refusal el_faultTold el_faultPlace tape_8 p4 el_bytes_10 tape_11 hc_12) gX11_feed_X11_append rfl hd_X11_append ⟨Nat.le_of_ble_eq_true rfl, Nat.le_of_ble_eq_true rfl⟩ rfl rfl hKN hP hD hS hA 11 0 rfl rfl rfl hl.1 rfl (Nat.le_of_ble_eq_true rfl) dX11_feed_33 ⟨Nat.le_of_ble_eq_true rfl, Nat.le_of_ble_eq_true rfl⟩ (fun H locs hP hD hS => ?_)
    refine lv_aload_n hx hb dX11_feed_36 rfl (lv_at hl 0 rfl) ?_
    refine lv_iload hx hb dX11_feed_37 (lv_at hl 5 rfl) ?_
    obtain ⟨el_bytes_13, tape_14, hc_15, h⟩ := bd2_some h
    refine wVv [.int p5] [] ⟨hx, hb, hml, hown, hts⟩ (c_X11_append l D cy A X a_el a_tape el_bytes_10 (el_reader) (el_land) (el_now) (el_past) (el_odds) (el_game) (el_placing) (el_marching) (el_trumpets) (el_fight) el_refusal el_faultTold el_faultPlace tape_11 p5 el_bytes_13 tape_14 hc_15) gX11_feed_X11_append rfl hd_X11_append ⟨Nat.le_of_ble_eq_true rfl, Nat.le_of_ble_eq_true rfl⟩ rfl rfl hKN hP hD hS hA 11 0 rfl rfl rfl hl.1 rfl (Nat.le_of_ble_eq_true rfl) dX11_feed_39 ⟨Nat.le_of_ble_eq_true rfl, Nat.le_of_ble_eq_true rfl⟩ (fun H locs hP hD hS => ?_)
    refine lv_aload_n hx hb dX11_feed_42 rfl (lv_at hl 0 rfl) ?_
    refine va_get (D := D) (ci := 11) (C := RX11) (T := TX11) (N := 15) (v := .int el_bytes_13) hx hb hX11 (fun _ q => q) hown hK hP 0 rfl rfl 1 (by decide) (hts (.fieldLink RX11 91 "ElephantLine" "bytes" "I") (by decide +kernel)) (fun _ h9 => h9) rfl dX11_feed_43 ?_
    cases h
    exact W.iret hx hb hr (fun t ht _ => ⟨⟨_, (), rfl, rfl, by rw [ht]; exact hP, hD⟩, hS.F ht⟩) hS.2.2 dX11_feed_46
  · have h := ifF cd h
    refine lv_iconst (v := (-1)) hx hb dX11_feed_13 (by decide) ?_
    cases h
    exact W.iret hx hb hr (fun t ht _ => ⟨⟨_, (), rfl, rfl, by rw [ht]; exact hP, hD⟩, hS.F ht⟩) hS.2.2 dX11_feed_14
theorem hd_X11_lane : yX11_lane.cls = RX11 ∧ yX11_lane.cls ≠ "java/lang/invoke/MethodHandle" ∧ yX11_lane.cls ≠ "java/lang/invoke/VarHandle" ∧ (parseMethodDescriptor yX11_lane.desc).map (fun d => d.parameters.length) = some 2 := by decide +kernel
set_option maxHeartbeats 4000000 in
set_option maxRecDepth 100000 in
theorem c_X11_lane (l : Launch) (D : va_G) (cy : Nat → ClassId) (A : Nat → Prop) (X : va_W) (a_el a_la a_la_who a_no a_no_strong a_no_at : Nat) (el_tape : Value) (el_bytes : Int32) (el_reader : Value) (el_past : Value) (el_odds : Value) (el_game : Value) (el_placing : Value) (el_marching : Value) (el_trumpets : Value) (el_fight : Value) (el_refusal : Int32) (el_faultTold : Int32) (el_faultPlace : Int32) (la_lanes : Int32) (la_deep : Int32) (la_lanesTold : Int32) (la_firstStrong : Value) (la_beasts : Int32) (la_kind : Value) (la_firstLane : Value) (la_mood : Value) (la_price : Value) (la_cities : Int32) (la_passes : Int32) (la_passBetween : Value) (la_turned : Int32) (la_who : Nat → Int32) (no_wounds : Value) (no_dead : Int32) (no_wet : Int32) (no_drawn : Int32) (no_strong : Nat → Int32) (no_at : Nat → Int32) (p1 : Int32) (p2 : Int32) (res : Int32) (el_refusal' : Int32) (h : f_X11_lane el_refusal la_lanes la_beasts la_who no_dead no_strong no_at p1 p2 = some (res, el_refusal')) : Met l yX11_lane wo_X11_lane ({ frames := 2, cells := 0, slots := 0, locals := 45 }) (wrPc D cy A [.ref a_el, .int p1, .int p2] ([(a_el, .inr (11, [el_tape, .int el_bytes, el_reader, .ref a_la, .ref a_no, el_past, el_odds, el_game, el_placing, el_marching, el_trumpets, el_fight, .int el_refusal, .int el_faultTold, .int el_faultPlace])), (a_la, .inr (2, [.int la_lanes, .int la_deep, .int la_lanesTold, .ref a_la_who, la_firstStrong, .int la_beasts, la_kind, la_firstLane, la_mood, la_price, .int la_cities, .int la_passes, la_passBetween, .int la_turned])), (a_la_who, .inl (cy 1, 6, .inl la_who)), (a_no, .inr (8, [.ref a_no_strong, .ref a_no_at, no_wounds, .int no_dead, .int no_wet, .int no_drawn])), (a_no_strong, .inl (cy 1, 6, .inl no_strong)), (a_no_at, .inl (cy 1, 5, .inl no_at))] ++ X)) (va_Qi (fun (r : Int32) (_ : Unit) => r = res) (wB D A ([(a_el, .inr (11, [el_tape, .int el_bytes, el_reader, .ref a_la, .ref a_no, el_past, el_odds, el_game, el_placing, el_marching, el_trumpets, el_fight, .int el_refusal', .int el_faultTold, .int el_faultPlace])), (a_la, .inr (2, [.int la_lanes, .int la_deep, .int la_lanesTold, .ref a_la_who, la_firstStrong, .int la_beasts, la_kind, la_firstLane, la_mood, la_price, .int la_cities, .int la_passes, la_passBetween, .int la_turned])), (a_la_who, .inl (cy 1, 6, .inl la_who)), (a_no, .inr (8, [.ref a_no_strong, .ref a_no_at, no_wounds, .int no_dead, .int no_wet, .int no_drawn])), (a_no_strong, .inl (cy 1, 6, .inl no_strong)), (a_no_at, .inl (cy 1, 5, .inl no_at))] ++ X)) A) 0 0 A := by
  refine Met.ofW (cc := cX11_lane) (maxL := 3) (ret := (some .int)) (by decide) rfl ?_
  intro p e s m args below meth c s₁ B hml hv
  obtain ⟨rfl, hP, hKN, hD, hA⟩ := hv
  have hK := hKN.1
  have hx := B.exec
  have hb := B.bytes
  have hr := B.returns
  have hts := wt_X11_lane hKN.2.2 (([.ref a_el, .int p1, .int p2] : List Value).toArray)
  have hown : s.vm.findClass RX11 = some m.cls := findClass_of_methodNamed B.named
  have hlocks := B.notSynchronized
  have hS : va_S A s.heap s.heap [] := va_S.rf
  have hX11 := wc_X11 hKN.2.2 (([.ref a_el, .int p1, .int p2] : List Value).toArray)
  have hX2 := wc_X2 hKN.2.2 (([.ref a_el, .int p1, .int p2] : List Value).toArray)
  have hX8 := wc_X8 hKN.2.2 (([.ref a_el, .int p1, .int p2] : List Value).toArray)
  have hl := lv_entry ([.ref a_el, .int p1, .int p2]) (n := 3) (Nat.le_of_ble_eq_true rfl)
  rw [lg_entry_eq]
  generalize (lg_sl ([.ref a_el, .int p1, .int p2]) ++ List.replicate (3 - (lg_sl ([.ref a_el, .int p1, .int p2])).length) Slot.unset).toArray = ls at hl ⊢
  have hl : lv_has ls 3 [(0, .ref a_el), (1, .int p1), (2, .int p2)] := hl
  unfold f_X11_lane at h
  refine lv_aload_n hx hb dX11_lane_0 rfl (lv_at hl 0 rfl) ?_
  refine lv_aload_n hx hb dX11_lane_1 rfl (lv_at hl 0 rfl) ?_
  refine va_get (D := D) (ci := 11) (C := RX11) (T := TX11) (N := 15) (v := .ref a_la) hx hb hX11 (fun _ q => q) hown hK hP 0 rfl rfl 3 (by decide) (hts (.fieldLink RX11 25 "ElephantLine" "land" "LElephantLine$Land;") (by decide +kernel)) (fun _ h9 => h9) rfl dX11_lane_2 ?_
  refine lv_iload_n hx hb dX11_lane_5 rfl (lv_at hl 1 rfl) ?_
  obtain ⟨r_1, hc_2, h⟩ := bd1_some h
  refine kVb [.int p1] [.ref a_el] ⟨hx, hb, hml, hown, hts⟩ (c_X2_hasLane l D cy a_la la_lanes la_deep la_lanesTold (.ref a_la_who) (la_firstStrong) la_beasts (la_kind) (la_firstLane) (la_mood) (la_price) la_cities la_passes (la_passBetween) la_turned p1 r_1 hc_2) gX11_lane_X2_hasLane rfl hd_X2_hasLane ⟨Nat.le_of_ble_eq_true rfl, Nat.le_of_ble_eq_true rfl⟩ rfl rfl hKN (pXc hP [1] rfl) 2 0 rfl rfl rfl hl.1 rfl (Nat.le_of_ble_eq_true rfl) dX11_lane_6 ⟨Nat.le_of_ble_eq_true rfl, Nat.le_of_ble_eq_true rfl⟩ (fun nb_3 => ?_)
  have jn26 : ∀ (t1_4 : Int32), nbv t1_4 → f_X11_lane_B26 la_lanes la_beasts la_who no_dead no_strong no_at p1 p2 t1_4 el_refusal = some (res, el_refusal') → ∀ (H : Heap) (locs : List Loc), va_P D vwCl ([(a_el, .inr (11, [el_tape, .int el_bytes, el_reader, .ref a_la, .ref a_no, el_past, el_odds, el_game, el_placing, el_marching, el_trumpets, el_fight, .int el_refusal, .int el_faultTold, .int el_faultPlace])), (a_la, .inr (2, [.int la_lanes, .int la_deep, .int la_lanesTold, .ref a_la_who, la_firstStrong, .int la_beasts, la_kind, la_firstLane, la_mood, la_price, .int la_cities, .int la_passes, la_passBetween, .int la_turned])), (a_la_who, .inl (cy 1, 6, .inl la_who)), (a_no, .inr (8, [.ref a_no_strong, .ref a_no_at, no_wounds, .int no_dead, .int no_wet, .int no_drawn])), (a_no_strong, .inl (cy 1, 6, .inl no_strong)), (a_no_at, .inl (cy 1, 5, .inl no_at))] ++ X) H → va_D A ([(a_el, .inr (11, [el_tape, .int el_bytes, el_reader, .ref a_la, .ref a_no, el_past, el_odds, el_game, el_placing, el_marching, el_trumpets, el_fight, .int el_refusal, .int el_faultTold, .int el_faultPlace])), (a_la, .inr (2, [.int la_lanes, .int la_deep, .int la_lanesTold, .ref a_la_who, la_firstStrong, .int la_beasts, la_kind, la_firstLane, la_mood, la_price, .int la_cities, .int la_passes, la_passBetween, .int la_turned])), (a_la_who, .inl (cy 1, 6, .inl la_who)), (a_no, .inr (8, [.ref a_no_strong, .ref a_no_at, no_wounds, .int no_dead, .int no_wet, .int no_drawn])), (a_no_strong, .inl (cy 1, 6, .inl no_strong)), (a_no_at, .inl (cy 1, 5, .inl no_at))] ++ X) → va_S A s.heap H locs → ∀ ls : Array Slot, lv_has ls 3 [(0, .ref a_el), (1, .int p1), (2, .int p2)] → W p l e (headSpec wo_X11_lane ({ frames := 2, cells := 0, slots := 0, locals := 45 })).room s m (([.ref a_el, .int p1, .int p2] : List Value).toArray) below meth c H locs 0 0 (MQ below (va_Qi (fun (r : Int32) (_ : Unit) => r = res) (wB D A ([(a_el, .inr (11, [el_tape, .int el_bytes, el_reader, .ref a_la, .ref a_no, el_past, el_odds, el_game, el_placing, el_marching, el_trumpets, el_fight, .int el_refusal', .int el_faultTold, .int el_faultPlace])), (a_la, .inr (2, [.int la_lanes, .int la_deep, .int la_lanesTold, .ref a_la_who, la_firstStrong, .int la_beasts, la_kind, la_firstLane, la_mood, la_price, .int la_cities, .int la_passes, la_passBetween, .int la_turned])), (a_la_who, .inl (cy 1, 6, .inl la_who)), (a_no, .inr (8, [.ref a_no_strong, .ref a_no_at, no_wounds, .int no_dead, .int no_wet, .int no_drawn])), (a_no_strong, .inl (cy 1, 6, .inl no_strong)), (a_no_at, .inl (cy 1, 5, .inl no_at))] ++ X)) A) (([.ref a_el, .int p1, .int p2] : List Value).toArray) s 0 0 A) (F0 m 26 ls [.int t1_4, .ref a_el]) := by
    intro t1_4 hnb_t1_4 h H locs hP hD hS ls hl
    unfold f_X11_lane_B26 at h
    obtain ⟨r_5, el_refusal_6, hc_7, h⟩ := bd2_some h
    refine wVb [.int t1_4] [] ⟨hx, hb, hml, hown, hts⟩ (c_X11_isRefused l D cy A ([(a_la, .inr (2, [.int la_lanes, .int la_deep, .int la_lanesTold, .ref a_la_who, la_firstStrong, .int la_beasts, la_kind, la_firstLane, la_mood, la_price, .int la_cities, .int la_passes, la_passBetween, .int la_turned])), (a_la_who, .inl (cy 1, 6, .inl la_who)), (a_no, .inr (8, [.ref a_no_strong, .ref a_no_at, no_wounds, .int no_dead, .int no_wet, .int no_drawn])), (a_no_strong, .inl (cy 1, 6, .inl no_strong)), (a_no_at, .inl (cy 1, 5, .inl no_at))] ++ X) a_el (el_tape) el_bytes (el_reader) (.ref a_la) (.ref a_no) (el_past) (el_odds) (el_game) (el_placing) (el_marching) (el_trumpets) (el_fight) el_refusal el_faultTold el_faultPlace t1_4 r_5 el_refusal_6 hc_7) gX11_lane_X11_isRefused rfl hd_X11_isRefused ⟨Nat.le_of_ble_eq_true rfl, Nat.le_of_ble_eq_true rfl⟩ rfl rfl hKN (pX3 hP [0, 1, 2, 3, 4, 5] rfl) (dX3 hD [0, 1, 2, 3, 4, 5] rfl rfl) hS hA 11 0 rfl rfl rfl hl.1 rfl (Nat.le_of_ble_eq_true rfl) dX11_lane_26 ⟨Nat.le_of_ble_eq_true rfl, Nat.le_of_ble_eq_true rfl⟩ (fun nb_8 H locs hP hD hS => ?_)
    have hP := pX4 (L1 := [(a_el, .inr (11, [el_tape, .int el_bytes, el_reader, .ref a_la, .ref a_no, el_past, el_odds, el_game, el_placing, el_marching, el_trumpets, el_fight, .int el_refusal_6, .int el_faultTold, .int el_faultPlace])), (a_la, .inr (2, [.int la_lanes, .int la_deep, .int la_lanesTold, .ref a_la_who, la_firstStrong, .int la_beasts, la_kind, la_firstLane, la_mood, la_price, .int la_cities, .int la_passes, la_passBetween, .int la_turned])), (a_la_who, .inl (cy 1, 6, .inl la_who)), (a_no, .inr (8, [.ref a_no_strong, .ref a_no_at, no_wounds, .int no_dead, .int no_wet, .int no_drawn])), (a_no_strong, .inl (cy 1, 6, .inl no_strong)), (a_no_at, .inl (cy 1, 5, .inl no_at))]) hP [0, 1, 2, 3, 4, 5] rfl
    have hD := dX4 (L1 := [(a_el, .inr (11, [el_tape, .int el_bytes, el_reader, .ref a_la, .ref a_no, el_past, el_odds, el_game, el_placing, el_marching, el_trumpets, el_fight, .int el_refusal_6, .int el_faultTold, .int el_faultPlace])), (a_la, .inr (2, [.int la_lanes, .int la_deep, .int la_lanesTold, .ref a_la_who, la_firstStrong, .int la_beasts, la_kind, la_firstLane, la_mood, la_price, .int la_cities, .int la_passes, la_passBetween, .int la_turned])), (a_la_who, .inl (cy 1, 6, .inl la_who)), (a_no, .inr (8, [.ref a_no_strong, .ref a_no_at, no_wounds, .int no_dead, .int no_wet, .int no_drawn])), (a_no_strong, .inl (cy 1, 6, .inl no_strong)), (a_no_at, .inl (cy 1, 5, .inl no_at))]) hD [0, 1, 2, 3, 4, 5] rfl rfl
    refine lv_if_eq (tgt := 34) hx hb dX11_lane_29 (by decide) (fun cd => ?_) (fun cd => ?_)
    · have h := ifT cd h
      refine lv_iload_n hx hb dX11_lane_34 rfl (lv_at hl 2 rfl) ?_
      by_cases sw_9 : p2 = 0
      · have h := ifT sw_9 h
        refine lv_lookup (off := 25) (tgt := 60) hx hb dX11_lane_35 (by decide) (by rw [sw_9]; rfl) (by decide) ?_
        refine lv_aload_n hx hb dX11_lane_60 rfl (lv_at hl 0 rfl) ?_
        refine va_get (D := D) (ci := 11) (C := RX11) (T := TX11) (N := 15) (v := .ref a_la) hx hb hX11 (fun _ q => q) hown hK hP 0 rfl rfl 3 (by decide) (hts (.fieldLink RX11 25 "ElephantLine" "land" "LElephantLine$Land;") (by decide +kernel)) (fun _ h9 => h9) rfl dX11_lane_61 ?_
        refine va_getN (D := D) (ci := 2) (C := RX2) (T := TX2) (N := 14) (v := .ref a_la_who) hx hb hX2 (fun _ q => q) hown hK hP 1 rfl rfl 3 (by decide) (va_Nw.use rfl (hKN.2.1.1 ("ElephantLine", 141, "ElephantLine$Land", "who", "[I", "ElephantLine") (List.mem_of_getElem? (i := 11) rfl))) (fun _ h9 => h9) rfl dX11_lane_64 ?_
        refine lv_iload_n hx hb dX11_lane_67 rfl (lv_at hl 1 rfl) ?_
        obtain ⟨i_10, h⟩ := gIn_some h
        refine va_iald hx hb hK hP 2 1 rfl rfl i_10 dX11_lane_68 ?_
        cases h
        exact W.iret hx hb hr (fun t ht _ => ⟨⟨_, (), rfl, rfl, by rw [ht]; exact hP, hD⟩, hS.F ht⟩) hS.2.2 dX11_lane_69
      · have h := ifF sw_9 h
        by_cases sw_11 : p2 = 1
        · have h := ifT sw_11 h
          refine lv_lookup (off := 35) (tgt := 70) hx hb dX11_lane_35 (by decide) (by rw [sw_11]; rfl) (by decide) ?_
          refine lv_aload_n hx hb dX11_lane_70 rfl (lv_at hl 0 rfl) ?_
          refine va_get (D := D) (ci := 11) (C := RX11) (T := TX11) (N := 15) (v := .ref a_no) hx hb hX11 (fun _ q => q) hown hK hP 0 rfl rfl 4 (by decide) (hts (.fieldLink RX11 32 "ElephantLine" "now" "LElephantLine$Stand;") (by decide +kernel)) (fun _ h9 => h9) rfl dX11_lane_71 ?_
          refine va_getN (D := D) (ci := 8) (C := RX8) (T := TX8) (N := 6) (v := .ref a_no_strong) hx hb hX8 (fun _ q => q) hown hK hP 3 rfl rfl 0 (by decide) (va_Nw.use rfl (hKN.2.1.1 ("ElephantLine", 145, "ElephantLine$Stand", "strong", "[I", "ElephantLine") (List.mem_of_getElem? (i := 42) rfl))) (fun _ h9 => h9) rfl dX11_lane_74 ?_
          refine lv_iload_n hx hb dX11_lane_77 rfl (lv_at hl 1 rfl) ?_
          obtain ⟨i_12, h⟩ := gIn_some h
          refine va_iald hx hb hK hP 4 1 rfl rfl i_12 dX11_lane_78 ?_
          cases h
          exact W.iret hx hb hr (fun t ht _ => ⟨⟨_, (), rfl, rfl, by rw [ht]; exact hP, hD⟩, hS.F ht⟩) hS.2.2 dX11_lane_79
        · have h := ifF sw_11 h
          refine lv_lookup (off := 45) (tgt := 80) hx hb dX11_lane_35 (by decide) (by have q0 := sw_ne sw_9; have q1 := sw_ne sw_11; rw [show (0 : Int32).toInt = 0 from rfl] at q0; rw [show (1 : Int32).toInt = 1 from rfl] at q1; exact lk_out2 q0 q1) (by decide) ?_
          refine lv_aload_n hx hb dX11_lane_80 rfl (lv_at hl 0 rfl) ?_
          refine va_get (D := D) (ci := 11) (C := RX11) (T := TX11) (N := 15) (v := .ref a_no) hx hb hX11 (fun _ q => q) hown hK hP 0 rfl rfl 4 (by decide) (hts (.fieldLink RX11 32 "ElephantLine" "now" "LElephantLine$Stand;") (by decide +kernel)) (fun _ h9 => h9) rfl dX11_lane_81 ?_
          refine lv_iload_n hx hb dX11_lane_84 rfl (lv_at hl 1 rfl) ?_
          refine lv_aload_n hx hb dX11_lane_85 rfl (lv_at hl 0 rfl) ?_
          refine va_get (D := D) (ci := 11) (C := RX11) (T := TX11) (N := 15) (v := .ref a_la) hx hb hX11 (fun _ q => q) hown hK hP 0 rfl rfl 3 (by decide) (hts (.fieldLink RX11 25 "ElephantLine" "land" "LElephantLine$Land;") (by decide +kernel)) (fun _ h9 => h9) rfl dX11_lane_86 ?_
          refine va_getN (D := D) (ci := 2) (C := RX2) (T := TX2) (N := 14) (v := .int la_beasts) hx hb hX2 (fun _ q => q) hown hK hP 1 rfl rfl 5 (by decide) (va_Nw.use rfl (hKN.2.1.1 ("ElephantLine", 132, "ElephantLine$Land", "beasts", "I", "ElephantLine") (List.mem_of_getElem? (i := 19) rfl))) (fun _ h9 => h9) rfl dX11_lane_89 ?_
          obtain ⟨r_13, hc_14, h⟩ := bd1_some h
          refine kVi [.int p1, .int la_beasts] [] ⟨hx, hb, hml, hown, hts⟩ (c_X8_livingIn l D cy a_no a_no_at (.ref a_no_strong) (no_wounds) no_dead no_wet no_drawn no_at p1 la_beasts r_13 hc_14) gX11_lane_X8_livingIn rfl hd_X8_livingIn ⟨Nat.le_of_ble_eq_true rfl, Nat.le_of_ble_eq_true rfl⟩ rfl rfl hKN (pXc hP [3, 5] rfl) 8 0 rfl rfl rfl hl.1 rfl (Nat.le_of_ble_eq_true rfl) dX11_lane_92 ⟨Nat.le_of_ble_eq_true rfl, Nat.le_of_ble_eq_true rfl⟩ ?_
          cases h
          exact W.iret hx hb hr (fun t ht _ => ⟨⟨_, (), rfl, rfl, by rw [ht]; exact hP, hD⟩, hS.F ht⟩) hS.2.2 dX11_lane_95
    · have h := ifF cd h
      refine lv_iconst (v := (-1)) hx hb dX11_lane_32 (by decide) ?_
      cases h
      exact W.iret hx hb hr (fun t ht _ => ⟨⟨_, (), rfl, rfl, by rw [ht]; exact hP, hD⟩, hS.F ht⟩) hS.2.2 dX11_lane_33
  have jn21 : f_X11_lane_B21 la_lanes la_beasts la_who no_dead no_strong no_at p1 p2 el_refusal = some (res, el_refusal') → ∀ (H : Heap) (locs : List Loc), va_P D vwCl ([(a_el, .inr (11, [el_tape, .int el_bytes, el_reader, .ref a_la, .ref a_no, el_past, el_odds, el_game, el_placing, el_marching, el_trumpets, el_fight, .int el_refusal, .int el_faultTold, .int el_faultPlace])), (a_la, .inr (2, [.int la_lanes, .int la_deep, .int la_lanesTold, .ref a_la_who, la_firstStrong, .int la_beasts, la_kind, la_firstLane, la_mood, la_price, .int la_cities, .int la_passes, la_passBetween, .int la_turned])), (a_la_who, .inl (cy 1, 6, .inl la_who)), (a_no, .inr (8, [.ref a_no_strong, .ref a_no_at, no_wounds, .int no_dead, .int no_wet, .int no_drawn])), (a_no_strong, .inl (cy 1, 6, .inl no_strong)), (a_no_at, .inl (cy 1, 5, .inl no_at))] ++ X) H → va_D A ([(a_el, .inr (11, [el_tape, .int el_bytes, el_reader, .ref a_la, .ref a_no, el_past, el_odds, el_game, el_placing, el_marching, el_trumpets, el_fight, .int el_refusal, .int el_faultTold, .int el_faultPlace])), (a_la, .inr (2, [.int la_lanes, .int la_deep, .int la_lanesTold, .ref a_la_who, la_firstStrong, .int la_beasts, la_kind, la_firstLane, la_mood, la_price, .int la_cities, .int la_passes, la_passBetween, .int la_turned])), (a_la_who, .inl (cy 1, 6, .inl la_who)), (a_no, .inr (8, [.ref a_no_strong, .ref a_no_at, no_wounds, .int no_dead, .int no_wet, .int no_drawn])), (a_no_strong, .inl (cy 1, 6, .inl no_strong)), (a_no_at, .inl (cy 1, 5, .inl no_at))] ++ X) → va_S A s.heap H locs → ∀ ls : Array Slot, lv_has ls 3 [(0, .ref a_el), (1, .int p1), (2, .int p2)] → W p l e (headSpec wo_X11_lane ({ frames := 2, cells := 0, slots := 0, locals := 45 })).room s m (([.ref a_el, .int p1, .int p2] : List Value).toArray) below meth c H locs 0 0 (MQ below (va_Qi (fun (r : Int32) (_ : Unit) => r = res) (wB D A ([(a_el, .inr (11, [el_tape, .int el_bytes, el_reader, .ref a_la, .ref a_no, el_past, el_odds, el_game, el_placing, el_marching, el_trumpets, el_fight, .int el_refusal', .int el_faultTold, .int el_faultPlace])), (a_la, .inr (2, [.int la_lanes, .int la_deep, .int la_lanesTold, .ref a_la_who, la_firstStrong, .int la_beasts, la_kind, la_firstLane, la_mood, la_price, .int la_cities, .int la_passes, la_passBetween, .int la_turned])), (a_la_who, .inl (cy 1, 6, .inl la_who)), (a_no, .inr (8, [.ref a_no_strong, .ref a_no_at, no_wounds, .int no_dead, .int no_wet, .int no_drawn])), (a_no_strong, .inl (cy 1, 6, .inl no_strong)), (a_no_at, .inl (cy 1, 5, .inl no_at))] ++ X)) A) (([.ref a_el, .int p1, .int p2] : List Value).toArray) s 0 0 A) (F0 m 21 ls [.ref a_el]) := by
    intro h H locs hP hD hS ls hl
    unfold f_X11_lane_B21 at h
    refine lv_iconst (v := 1) hx hb dX11_lane_21 (by decide) ?_
    refine lv_goto (tgt := 26) hx hb dX11_lane_22 (by decide) ?_
    exact jn26 (1 : Int32) nbv_1 h _ _ hP hD hS _ (lv_sub hl [0, 1, 2] rfl)
  refine lv_if_eq (tgt := 21) hx hb dX11_lane_9 (by decide) (fun cd => ?_) (fun cd => ?_)
  · have h := ifT cd h
    exact jn21 h _ _ hP hD hS _ (lv_sub hl [0, 1, 2] rfl)
  · have h := ifF cd h
    refine lv_iload_n hx hb dX11_lane_12 rfl (lv_at hl 2 rfl) ?_
    refine lv_iconst (v := 0) hx hb dX11_lane_13 (by decide) ?_
    refine lv_iconst (v := 2) hx hb dX11_lane_14 (by decide) ?_
    obtain ⟨r_15, hc_16, h⟩ := bd1_some h
    refine kSb [.int p2, .int 0, .int 2] [.ref a_el] ⟨hx, hb, hml, hown, hts⟩ (c_X11_outside l D cy p2 (0 : Int32) (2 : Int32) r_15 hc_16) gX11_lane_X11_outside rfl hd_X11_outside ⟨Nat.le_of_ble_eq_true rfl, Nat.le_of_ble_eq_true rfl⟩ rfl rfl hKN va_nil rfl hl.1 rfl (Nat.le_of_ble_eq_true rfl) dX11_lane_15 ⟨Nat.le_of_ble_eq_true rfl, Nat.le_of_ble_eq_true rfl⟩ (fun nb_17 => ?_)
    refine lv_if_eq (tgt := 25) hx hb dX11_lane_18 (by decide) (fun cd => ?_) (fun cd => ?_)
    · have h := ifT cd h
      refine lv_iconst (v := 0) hx hb dX11_lane_25 (by decide) ?_
      exact jn26 (0 : Int32) nbv_0 h _ _ hP hD hS _ (lv_sub hl [0, 1, 2] rfl)
    · have h := ifF cd h
      exact jn21 h _ _ hP hD hS _ (lv_sub hl [0, 1, 2] rfl)
theorem hd_X11_beast : yX11_beast.cls = RX11 ∧ yX11_beast.cls ≠ "java/lang/invoke/MethodHandle" ∧ yX11_beast.cls ≠ "java/lang/invoke/VarHandle" ∧ (parseMethodDescriptor yX11_beast.desc).map (fun d => d.parameters.length) = some 2 := by decide +kernel
set_option maxHeartbeats 4000000 in
set_option maxRecDepth 100000 in
theorem c_X11_beast (l : Launch) (D : va_G) (cy : Nat → ClassId) (A : Nat → Prop) (X : va_W) (a_el a_la a_la_kind a_la_mood a_la_price a_no a_no_at a_no_wounds a_od : Nat) (el_tape : Value) (el_bytes : Int32) (el_reader : Value) (el_past : Value) (el_game : Value) (el_placing : Value) (el_marching : Value) (el_trumpets : Value) (el_fight : Value) (el_refusal : Int32) (el_faultTold : Int32) (el_faultPlace : Int32) (la_lanes : Int32) (la_deep : Int32) (la_lanesTold : Int32) (la_who : Value) (la_firstStrong : Value) (la_beasts : Int32) (la_firstLane : Value) (la_cities : Int32) (la_passes : Int32) (la_passBetween : Value) (la_turned : Int32) (la_kind : Nat → Int32) (la_mood : Nat → Int32) (la_price : Nat → Int32) (no_strong : Value) (no_dead : Int32) (no_wet : Int32) (no_drawn : Int32) (no_at : Nat → Int32) (no_wounds : Nat → Int32) (p1 : Int32) (p2 : Int32) (res : Int32) (el_refusal' : Int32) (h : f_X11_beast el_refusal la_beasts la_kind la_mood la_price no_dead no_wet no_at no_wounds p1 p2 = some (res, el_refusal')) : Met l yX11_beast wo_X11_beast ({ frames := 3, cells := 0, slots := 0, locals := 57 }) (wrPc D cy A [.ref a_el, .int p1, .int p2] ([(a_el, .inr (11, [el_tape, .int el_bytes, el_reader, .ref a_la, .ref a_no, el_past, .ref a_od, el_game, el_placing, el_marching, el_trumpets, el_fight, .int el_refusal, .int el_faultTold, .int el_faultPlace])), (a_la, .inr (2, [.int la_lanes, .int la_deep, .int la_lanesTold, la_who, la_firstStrong, .int la_beasts, .ref a_la_kind, la_firstLane, .ref a_la_mood, .ref a_la_price, .int la_cities, .int la_passes, la_passBetween, .int la_turned])), (a_la_kind, .inl (cy 1, 5, .inl la_kind)), (a_la_mood, .inl (cy 1, 5, .inl la_mood)), (a_la_price, .inl (cy 1, 5, .inl la_price)), (a_no, .inr (8, [no_strong, .ref a_no_at, .ref a_no_wounds, .int no_dead, .int no_wet, .int no_drawn])), (a_no_at, .inl (cy 1, 5, .inl no_at)), (a_no_wounds, .inl (cy 1, 5, .inl no_wounds)), (a_od, .inr (4, [.ref a_la, .ref a_no]))] ++ X)) (va_Qi (fun (r : Int32) (_ : Unit) => r = res) (wB D A ([(a_el, .inr (11, [el_tape, .int el_bytes, el_reader, .ref a_la, .ref a_no, el_past, .ref a_od, el_game, el_placing, el_marching, el_trumpets, el_fight, .int el_refusal', .int el_faultTold, .int el_faultPlace])), (a_la, .inr (2, [.int la_lanes, .int la_deep, .int la_lanesTold, la_who, la_firstStrong, .int la_beasts, .ref a_la_kind, la_firstLane, .ref a_la_mood, .ref a_la_price, .int la_cities, .int la_passes, la_passBetween, .int la_turned])), (a_la_kind, .inl (cy 1, 5, .inl la_kind)), (a_la_mood, .inl (cy 1, 5, .inl la_mood)), (a_la_price, .inl (cy 1, 5, .inl la_price)), (a_no, .inr (8, [no_strong, .ref a_no_at, .ref a_no_wounds, .int no_dead, .int no_wet, .int no_drawn])), (a_no_at, .inl (cy 1, 5, .inl no_at)), (a_no_wounds, .inl (cy 1, 5, .inl no_wounds)), (a_od, .inr (4, [.ref a_la, .ref a_no]))] ++ X)) A) 0 0 A := by
  refine Met.ofW (cc := cX11_beast) (maxL := 3) (ret := (some .int)) (by decide) rfl ?_
  intro p e s m args below meth c s₁ B hml hv
  obtain ⟨rfl, hP, hKN, hD, hA⟩ := hv
  have hK := hKN.1
  have hx := B.exec
  have hb := B.bytes
  have hr := B.returns
  have hts := wt_X11_beast hKN.2.2 (([.ref a_el, .int p1, .int p2] : List Value).toArray)
  have hown : s.vm.findClass RX11 = some m.cls := findClass_of_methodNamed B.named
  have hlocks := B.notSynchronized
  have hS : va_S A s.heap s.heap [] := va_S.rf
  have hX11 := wc_X11 hKN.2.2 (([.ref a_el, .int p1, .int p2] : List Value).toArray)
  have hX2 := wc_X2 hKN.2.2 (([.ref a_el, .int p1, .int p2] : List Value).toArray)
  have hX8 := wc_X8 hKN.2.2 (([.ref a_el, .int p1, .int p2] : List Value).toArray)
  have hl := lv_entry ([.ref a_el, .int p1, .int p2]) (n := 3) (Nat.le_of_ble_eq_true rfl)
  rw [lg_entry_eq]
  generalize (lg_sl ([.ref a_el, .int p1, .int p2]) ++ List.replicate (3 - (lg_sl ([.ref a_el, .int p1, .int p2])).length) Slot.unset).toArray = ls at hl ⊢
  have hl : lv_has ls 3 [(0, .ref a_el), (1, .int p1), (2, .int p2)] := hl
  unfold f_X11_beast at h
  refine lv_aload_n hx hb dX11_beast_0 rfl (lv_at hl 0 rfl) ?_
  refine lv_aload_n hx hb dX11_beast_1 rfl (lv_at hl 0 rfl) ?_
  refine va_get (D := D) (ci := 11) (C := RX11) (T := TX11) (N := 15) (v := .ref a_la) hx hb hX11 (fun _ q => q) hown hK hP 0 rfl rfl 3 (by decide) (hts (.fieldLink RX11 25 "ElephantLine" "land" "LElephantLine$Land;") (by decide +kernel)) (fun _ h9 => h9) rfl dX11_beast_2 ?_
  refine lv_iload_n hx hb dX11_beast_5 rfl (lv_at hl 1 rfl) ?_
  obtain ⟨r_1, hc_2, h⟩ := bd1_some h
  refine kVb [.int p1] [.ref a_el] ⟨hx, hb, hml, hown, hts⟩ (c_X2_hasBeast l D cy a_la la_lanes la_deep la_lanesTold (la_who) (la_firstStrong) la_beasts (.ref a_la_kind) (la_firstLane) (.ref a_la_mood) (.ref a_la_price) la_cities la_passes (la_passBetween) la_turned p1 r_1 hc_2) gX11_beast_X2_hasBeast rfl hd_X2_hasBeast ⟨Nat.le_of_ble_eq_true rfl, Nat.le_of_ble_eq_true rfl⟩ rfl rfl hKN (pXc hP [1] rfl) 2 0 rfl rfl rfl hl.1 rfl (Nat.le_of_ble_eq_true rfl) dX11_beast_6 ⟨Nat.le_of_ble_eq_true rfl, Nat.le_of_ble_eq_true rfl⟩ (fun nb_3 => ?_)
  have jn27 : ∀ (t1_4 : Int32), nbv t1_4 → f_X11_beast_B27 la_beasts la_kind la_mood la_price no_dead no_wet no_at no_wounds p1 p2 t1_4 el_refusal = some (res, el_refusal') → ∀ (H : Heap) (locs : List Loc), va_P D vwCl ([(a_el, .inr (11, [el_tape, .int el_bytes, el_reader, .ref a_la, .ref a_no, el_past, .ref a_od, el_game, el_placing, el_marching, el_trumpets, el_fight, .int el_refusal, .int el_faultTold, .int el_faultPlace])), (a_la, .inr (2, [.int la_lanes, .int la_deep, .int la_lanesTold, la_who, la_firstStrong, .int la_beasts, .ref a_la_kind, la_firstLane, .ref a_la_mood, .ref a_la_price, .int la_cities, .int la_passes, la_passBetween, .int la_turned])), (a_la_kind, .inl (cy 1, 5, .inl la_kind)), (a_la_mood, .inl (cy 1, 5, .inl la_mood)), (a_la_price, .inl (cy 1, 5, .inl la_price)), (a_no, .inr (8, [no_strong, .ref a_no_at, .ref a_no_wounds, .int no_dead, .int no_wet, .int no_drawn])), (a_no_at, .inl (cy 1, 5, .inl no_at)), (a_no_wounds, .inl (cy 1, 5, .inl no_wounds)), (a_od, .inr (4, [.ref a_la, .ref a_no]))] ++ X) H → va_D A ([(a_el, .inr (11, [el_tape, .int el_bytes, el_reader, .ref a_la, .ref a_no, el_past, .ref a_od, el_game, el_placing, el_marching, el_trumpets, el_fight, .int el_refusal, .int el_faultTold, .int el_faultPlace])), (a_la, .inr (2, [.int la_lanes, .int la_deep, .int la_lanesTold, la_who, la_firstStrong, .int la_beasts, .ref a_la_kind, la_firstLane, .ref a_la_mood, .ref a_la_price, .int la_cities, .int la_passes, la_passBetween, .int la_turned])), (a_la_kind, .inl (cy 1, 5, .inl la_kind)), (a_la_mood, .inl (cy 1, 5, .inl la_mood)), (a_la_price, .inl (cy 1, 5, .inl la_price)), (a_no, .inr (8, [no_strong, .ref a_no_at, .ref a_no_wounds, .int no_dead, .int no_wet, .int no_drawn])), (a_no_at, .inl (cy 1, 5, .inl no_at)), (a_no_wounds, .inl (cy 1, 5, .inl no_wounds)), (a_od, .inr (4, [.ref a_la, .ref a_no]))] ++ X) → va_S A s.heap H locs → ∀ ls : Array Slot, lv_has ls 3 [(0, .ref a_el), (1, .int p1), (2, .int p2)] → W p l e (headSpec wo_X11_beast ({ frames := 3, cells := 0, slots := 0, locals := 57 })).room s m (([.ref a_el, .int p1, .int p2] : List Value).toArray) below meth c H locs 0 0 (MQ below (va_Qi (fun (r : Int32) (_ : Unit) => r = res) (wB D A ([(a_el, .inr (11, [el_tape, .int el_bytes, el_reader, .ref a_la, .ref a_no, el_past, .ref a_od, el_game, el_placing, el_marching, el_trumpets, el_fight, .int el_refusal', .int el_faultTold, .int el_faultPlace])), (a_la, .inr (2, [.int la_lanes, .int la_deep, .int la_lanesTold, la_who, la_firstStrong, .int la_beasts, .ref a_la_kind, la_firstLane, .ref a_la_mood, .ref a_la_price, .int la_cities, .int la_passes, la_passBetween, .int la_turned])), (a_la_kind, .inl (cy 1, 5, .inl la_kind)), (a_la_mood, .inl (cy 1, 5, .inl la_mood)), (a_la_price, .inl (cy 1, 5, .inl la_price)), (a_no, .inr (8, [no_strong, .ref a_no_at, .ref a_no_wounds, .int no_dead, .int no_wet, .int no_drawn])), (a_no_at, .inl (cy 1, 5, .inl no_at)), (a_no_wounds, .inl (cy 1, 5, .inl no_wounds)), (a_od, .inr (4, [.ref a_la, .ref a_no]))] ++ X)) A) (([.ref a_el, .int p1, .int p2] : List Value).toArray) s 0 0 A) (F0 m 27 ls [.int t1_4, .ref a_el]) := by
    intro t1_4 hnb_t1_4 h H locs hP hD hS ls hl
    unfold f_X11_beast_B27 at h
    obtain ⟨r_5, el_refusal_6, hc_7, h⟩ := bd2_some h
    refine wVb [.int t1_4] [] ⟨hx, hb, hml, hown, hts⟩ (c_X11_isRefused l D cy A ([(a_la, .inr (2, [.int la_lanes, .int la_deep, .int la_lanesTold, la_who, la_firstStrong, .int la_beasts, .ref a_la_kind, la_firstLane, .ref a_la_mood, .ref a_la_price, .int la_cities, .int la_passes, la_passBetween, .int la_turned])), (a_la_kind, .inl (cy 1, 5, .inl la_kind)), (a_la_mood, .inl (cy 1, 5, .inl la_mood)), (a_la_price, .inl (cy 1, 5, .inl la_price)), (a_no, .inr (8, [no_strong, .ref a_no_at, .ref a_no_wounds, .int no_dead, .int no_wet, .int no_drawn])), (a_no_at, .inl (cy 1, 5, .inl no_at)), (a_no_wounds, .inl (cy 1, 5, .inl no_wounds)), (a_od, .inr (4, [.ref a_la, .ref a_no]))] ++ X) a_el (el_tape) el_bytes (el_reader) (.ref a_la) (.ref a_no) (el_past) (.ref a_od) (el_game) (el_placing) (el_marching) (el_trumpets) (el_fight) el_refusal el_faultTold el_faultPlace t1_4 r_5 el_refusal_6 hc_7) gX11_beast_X11_isRefused rfl hd_X11_isRefused ⟨Nat.le_of_ble_eq_true rfl, Nat.le_of_ble_eq_true rfl⟩ rfl rfl hKN (pX3 hP [0, 1, 2, 3, 4, 5, 6, 7, 8] rfl) (dX3 hD [0, 1, 2, 3, 4, 5, 6, 7, 8] rfl rfl) hS hA 11 0 rfl rfl rfl hl.1 rfl (Nat.le_of_ble_eq_true rfl) dX11_beast_27 ⟨Nat.le_of_ble_eq_true rfl, Nat.le_of_ble_eq_true rfl⟩ (fun nb_8 H locs hP hD hS => ?_)
    have hP := pX4 (L1 := [(a_el, .inr (11, [el_tape, .int el_bytes, el_reader, .ref a_la, .ref a_no, el_past, .ref a_od, el_game, el_placing, el_marching, el_trumpets, el_fight, .int el_refusal_6, .int el_faultTold, .int el_faultPlace])), (a_la, .inr (2, [.int la_lanes, .int la_deep, .int la_lanesTold, la_who, la_firstStrong, .int la_beasts, .ref a_la_kind, la_firstLane, .ref a_la_mood, .ref a_la_price, .int la_cities, .int la_passes, la_passBetween, .int la_turned])), (a_la_kind, .inl (cy 1, 5, .inl la_kind)), (a_la_mood, .inl (cy 1, 5, .inl la_mood)), (a_la_price, .inl (cy 1, 5, .inl la_price)), (a_no, .inr (8, [no_strong, .ref a_no_at, .ref a_no_wounds, .int no_dead, .int no_wet, .int no_drawn])), (a_no_at, .inl (cy 1, 5, .inl no_at)), (a_no_wounds, .inl (cy 1, 5, .inl no_wounds)), (a_od, .inr (4, [.ref a_la, .ref a_no]))]) hP [0, 1, 2, 3, 4, 5, 6, 7, 8] rfl
    have hD := dX4 (L1 := [(a_el, .inr (11, [el_tape, .int el_bytes, el_reader, .ref a_la, .ref a_no, el_past, .ref a_od, el_game, el_placing, el_marching, el_trumpets, el_fight, .int el_refusal_6, .int el_faultTold, .int el_faultPlace])), (a_la, .inr (2, [.int la_lanes, .int la_deep, .int la_lanesTold, la_who, la_firstStrong, .int la_beasts, .ref a_la_kind, la_firstLane, .ref a_la_mood, .ref a_la_price, .int la_cities, .int la_passes, la_passBetween, .int la_turned])), (a_la_kind, .inl (cy 1, 5, .inl la_kind)), (a_la_mood, .inl (cy 1, 5, .inl la_mood)), (a_la_price, .inl (cy 1, 5, .inl la_price)), (a_no, .inr (8, [no_strong, .ref a_no_at, .ref a_no_wounds, .int no_dead, .int no_wet, .int no_drawn])), (a_no_at, .inl (cy 1, 5, .inl no_at)), (a_no_wounds, .inl (cy 1, 5, .inl no_wounds)), (a_od, .inr (4, [.ref a_la, .ref a_no]))]) hD [0, 1, 2, 3, 4, 5, 6, 7, 8] rfl rfl
    refine lv_if_eq (tgt := 35) hx hb dX11_beast_30 (by decide) (fun cd => ?_) (fun cd => ?_)
    · have h := ifT cd h
      refine lv_iload_n hx hb dX11_beast_35 rfl (lv_at hl 2 rfl) ?_
      by_cases sw_9 : p2 = 0
      · have h := ifT sw_9 h
        refine lv_tableIn (tgt := 80) hx hb dX11_beast_36 (by rw [sw_9]; decide) (by rw [sw_9]; decide) (by rw [sw_9]; rfl) (by decide) ?_
        refine lv_aload_n hx hb dX11_beast_80 rfl (lv_at hl 0 rfl) ?_
        refine va_get (D := D) (ci := 11) (C := RX11) (T := TX11) (N := 15) (v := .ref a_la) hx hb hX11 (fun _ q => q) hown hK hP 0 rfl rfl 3 (by decide) (hts (.fieldLink RX11 25 "ElephantLine" "land" "LElephantLine$Land;") (by decide +kernel)) (fun _ h9 => h9) rfl dX11_beast_81 ?_
        refine va_getN (D := D) (ci := 2) (C := RX2) (T := TX2) (N := 14) (v := .ref a_la_kind) hx hb hX2 (fun _ q => q) hown hK hP 1 rfl rfl 6 (by decide) (va_Nw.use rfl (hKN.2.1.1 ("ElephantLine", 155, "ElephantLine$Land", "kind", "[I", "ElephantLine") (List.mem_of_getElem? (i := 23) rfl))) (fun _ h9 => h9) rfl dX11_beast_84 ?_
        refine lv_iload_n hx hb dX11_beast_87 rfl (lv_at hl 1 rfl) ?_
        obtain ⟨i_10, h⟩ := gIn_some h
        refine va_iald hx hb hK hP 2 1 rfl rfl i_10 dX11_beast_88 ?_
        cases h
        exact W.iret hx hb hr (fun t ht _ => ⟨⟨_, (), rfl, rfl, by rw [ht]; exact hP, hD⟩, hS.F ht⟩) hS.2.2 dX11_beast_89
      · have h := ifF sw_9 h
        by_cases sw_11 : p2 = 1
        · have h := ifT sw_11 h
          refine lv_tableIn (tgt := 90) hx hb dX11_beast_36 (by rw [sw_11]; decide) (by rw [sw_11]; decide) (by rw [sw_11]; rfl) (by decide) ?_
          refine lv_aload_n hx hb dX11_beast_90 rfl (lv_at hl 0 rfl) ?_
          refine va_get (D := D) (ci := 11) (C := RX11) (T := TX11) (N := 15) (v := .ref a_no) hx hb hX11 (fun _ q => q) hown hK hP 0 rfl rfl 4 (by decide) (hts (.fieldLink RX11 32 "ElephantLine" "now" "LElephantLine$Stand;") (by decide +kernel)) (fun _ h9 => h9) rfl dX11_beast_91 ?_
          refine va_getN (D := D) (ci := 8) (C := RX8) (T := TX8) (N := 6) (v := .ref a_no_at) hx hb hX8 (fun _ q => q) hown hK hP 5 rfl rfl 1 (by decide) (va_Nw.use rfl (hKN.2.1.1 ("ElephantLine", 158, "ElephantLine$Stand", "at", "[I", "ElephantLine") (List.mem_of_getElem? (i := 47) rfl))) (fun _ h9 => h9) rfl dX11_beast_94 ?_
          refine lv_iload_n hx hb dX11_beast_97 rfl (lv_at hl 1 rfl) ?_
          obtain ⟨i_12, h⟩ := gIn_some h
          refine va_iald hx hb hK hP 6 1 rfl rfl i_12 dX11_beast_98 ?_
          cases h
          exact W.iret hx hb hr (fun t ht _ => ⟨⟨_, (), rfl, rfl, by rw [ht]; exact hP, hD⟩, hS.F ht⟩) hS.2.2 dX11_beast_99
        · have h := ifF sw_11 h
          by_cases sw_13 : p2 = 2
          · have h := ifT sw_13 h
            refine lv_tableIn (tgt := 100) hx hb dX11_beast_36 (by rw [sw_13]; decide) (by rw [sw_13]; decide) (by rw [sw_13]; rfl) (by decide) ?_
            refine lv_aload_n hx hb dX11_beast_100 rfl (lv_at hl 0 rfl) ?_
            refine va_get (D := D) (ci := 11) (C := RX11) (T := TX11) (N := 15) (v := .ref a_la) hx hb hX11 (fun _ q => q) hown hK hP 0 rfl rfl 3 (by decide) (hts (.fieldLink RX11 25 "ElephantLine" "land" "LElephantLine$Land;") (by decide +kernel)) (fun _ h9 => h9) rfl dX11_beast_101 ?_
            refine va_getN (D := D) (ci := 2) (C := RX2) (T := TX2) (N := 14) (v := .ref a_la_mood) hx hb hX2 (fun _ q => q) hown hK hP 1 rfl rfl 8 (by decide) (va_Nw.use rfl (hKN.2.1.1 ("ElephantLine", 161, "ElephantLine$Land", "mood", "[I", "ElephantLine") (List.mem_of_getElem? (i := 26) rfl))) (fun _ h9 => h9) rfl dX11_beast_104 ?_
            refine lv_iload_n hx hb dX11_beast_107 rfl (lv_at hl 1 rfl) ?_
            obtain ⟨i_14, h⟩ := gIn_some h
            refine va_iald hx hb hK hP 3 1 rfl rfl i_14 dX11_beast_108 ?_
            cases h
            exact W.iret hx hb hr (fun t ht _ => ⟨⟨_, (), rfl, rfl, by rw [ht]; exact hP, hD⟩, hS.F ht⟩) hS.2.2 dX11_beast_109
          · have h := ifF sw_13 h
            by_cases sw_15 : p2 = 3
            · have h := ifT sw_15 h
              refine lv_tableIn (tgt := 110) hx hb dX11_beast_36 (by rw [sw_15]; decide) (by rw [sw_15]; decide) (by rw [sw_15]; rfl) (by decide) ?_
              refine lv_aload_n hx hb dX11_beast_110 rfl (lv_at hl 0 rfl) ?_
              refine va_get (D := D) (ci := 11) (C := RX11) (T := TX11) (N := 15) (v := .ref a_la) hx hb hX11 (fun _ q => q) hown hK hP 0 rfl rfl 3 (by decide) (hts (.fieldLink RX11 25 "ElephantLine" "land" "LElephantLine$Land;") (by decide +kernel)) (fun _ h9 => h9) rfl dX11_beast_111 ?_
              refine va_getN (D := D) (ci := 2) (C := RX2) (T := TX2) (N := 14) (v := .ref a_la_price) hx hb hX2 (fun _ q => q) hown hK hP 1 rfl rfl 9 (by decide) (va_Nw.use rfl (hKN.2.1.1 ("ElephantLine", 164, "ElephantLine$Land", "price", "[I", "ElephantLine") (List.mem_of_getElem? (i := 27) rfl))) (fun _ h9 => h9) rfl dX11_beast_114 ?_
              refine lv_iload_n hx hb dX11_beast_117 rfl (lv_at hl 1 rfl) ?_
              obtain ⟨i_16, h⟩ := gIn_some h
              refine va_iald hx hb hK hP 4 1 rfl rfl i_16 dX11_beast_118 ?_
              cases h
              exact W.iret hx hb hr (fun t ht _ => ⟨⟨_, (), rfl, rfl, by rw [ht]; exact hP, hD⟩, hS.F ht⟩) hS.2.2 dX11_beast_119
            · have h := ifF sw_15 h
              by_cases sw_17 : p2 = 4
              · have h := ifT sw_17 h
                refine lv_tableIn (tgt := 120) hx hb dX11_beast_36 (by rw [sw_17]; decide) (by rw [sw_17]; decide) (by rw [sw_17]; rfl) (by decide) ?_
                refine lv_aload_n hx hb dX11_beast_120 rfl (lv_at hl 0 rfl) ?_
                refine va_get (D := D) (ci := 11) (C := RX11) (T := TX11) (N := 15) (v := .ref a_od) hx hb hX11 (fun _ q => q) hown hK hP 0 rfl rfl 6 (by decide) (hts (.fieldLink RX11 48 "ElephantLine" "odds" "LElephantLine$Odds;") (by decide +kernel)) (fun _ h9 => h9) rfl dX11_beast_121 ?_
                refine lv_iload_n hx hb dX11_beast_124 rfl (lv_at hl 1 rfl) ?_
                obtain ⟨r_18, hc_19, h⟩ := bd1_some h
                refine kVi [.int p1] [] ⟨hx, hb, hml, hown, hts⟩ (c_X4_forceOf l D cy a_la a_la_kind a_no a_no_wounds a_od la_lanes la_deep la_lanesTold (la_who) (la_firstStrong) la_beasts (la_firstLane) (.ref a_la_mood) (.ref a_la_price) la_cities la_passes (la_passBetween) la_turned la_kind (no_strong) (.ref a_no_at) no_dead no_wet no_drawn no_wounds p1 r_18 hc_19) gX11_beast_X4_forceOf rfl hd_X4_forceOf ⟨Nat.le_of_ble_eq_true rfl, Nat.le_of_ble_eq_true rfl⟩ rfl rfl hKN (pXc hP [1, 2, 5, 7, 8] rfl) 4 4 rfl rfl rfl hl.1 rfl (Nat.le_of_ble_eq_true rfl) dX11_beast_125 ⟨Nat.le_of_ble_eq_true rfl, Nat.le_of_ble_eq_true rfl⟩ ?_
                cases h
                exact W.iret hx hb hr (fun t ht _ => ⟨⟨_, (), rfl, rfl, by rw [ht]; exact hP, hD⟩, hS.F ht⟩) hS.2.2 dX11_beast_128
              · have h := ifF sw_17 h
                by_cases sw_20 : p2 = 5
                · have h := ifT sw_20 h
                  refine lv_tableIn (tgt := 129) hx hb dX11_beast_36 (by rw [sw_20]; decide) (by rw [sw_20]; decide) (by rw [sw_20]; rfl) (by decide) ?_
                  refine lv_aload_n hx hb dX11_beast_129 rfl (lv_at hl 0 rfl) ?_
                  refine va_get (D := D) (ci := 11) (C := RX11) (T := TX11) (N := 15) (v := .ref a_od) hx hb hX11 (fun _ q => q) hown hK hP 0 rfl rfl 6 (by decide) (hts (.fieldLink RX11 48 "ElephantLine" "odds" "LElephantLine$Odds;") (by decide +kernel)) (fun _ h9 => h9) rfl dX11_beast_130 ?_
                  refine lv_iload_n hx hb dX11_beast_133 rfl (lv_at hl 1 rfl) ?_
                  obtain ⟨r_21, hc_22, h⟩ := bd1_some h
                  refine kVi [.int p1] [] ⟨hx, hb, hml, hown, hts⟩ (c_X4_holdOf l D cy a_la a_la_kind a_la_mood a_no a_od la_lanes la_deep la_lanesTold (la_who) (la_firstStrong) la_beasts (la_firstLane) (.ref a_la_price) la_cities la_passes (la_passBetween) la_turned la_kind la_mood (no_strong) (.ref a_no_at) (.ref a_no_wounds) no_dead no_wet no_drawn p1 r_21 hc_22) gX11_beast_X4_holdOf rfl hd_X4_holdOf ⟨Nat.le_of_ble_eq_true rfl, Nat.le_of_ble_eq_true rfl⟩ rfl rfl hKN (pXc hP [1, 2, 3, 5, 8] rfl) 4 4 rfl rfl rfl hl.1 rfl (Nat.le_of_ble_eq_true rfl) dX11_beast_134 ⟨Nat.le_of_ble_eq_true rfl, Nat.le_of_ble_eq_true rfl⟩ ?_
                  cases h
                  exact W.iret hx hb hr (fun t ht _ => ⟨⟨_, (), rfl, rfl, by rw [ht]; exact hP, hD⟩, hS.F ht⟩) hS.2.2 dX11_beast_137
                · have h := ifF sw_20 h
                  by_cases sw_23 : p2 = 6
                  · have h := ifT sw_23 h
                    refine lv_tableIn (tgt := 138) hx hb dX11_beast_36 (by rw [sw_23]; decide) (by rw [sw_23]; decide) (by rw [sw_23]; rfl) (by decide) ?_
                    refine lv_aload_n hx hb dX11_beast_138 rfl (lv_at hl 0 rfl) ?_
                    refine va_get (D := D) (ci := 11) (C := RX11) (T := TX11) (N := 15) (v := .ref a_no) hx hb hX11 (fun _ q => q) hown hK hP 0 rfl rfl 4 (by decide) (hts (.fieldLink RX11 32 "ElephantLine" "now" "LElephantLine$Stand;") (by decide +kernel)) (fun _ h9 => h9) rfl dX11_beast_139 ?_
                    refine va_getN (D := D) (ci := 8) (C := RX8) (T := TX8) (N := 6) (v := .ref a_no_wounds) hx hb hX8 (fun _ q => q) hown hK hP 5 rfl rfl 2 (by decide) (va_Nw.use rfl (hKN.2.1.1 ("ElephantLine", 173, "ElephantLine$Stand", "wounds", "[I", "ElephantLine") (List.mem_of_getElem? (i := 50) rfl))) (fun _ h9 => h9) rfl dX11_beast_142 ?_
                    refine lv_iload_n hx hb dX11_beast_145 rfl (lv_at hl 1 rfl) ?_
                    obtain ⟨i_24, h⟩ := gIn_some h
                    refine va_iald hx hb hK hP 7 1 rfl rfl i_24 dX11_beast_146 ?_
                    cases h
                    exact W.iret hx hb hr (fun t ht _ => ⟨⟨_, (), rfl, rfl, by rw [ht]; exact hP, hD⟩, hS.F ht⟩) hS.2.2 dX11_beast_147
                  · have h := ifF sw_23 h
                    refine lv_tableOut (tgt := 148) hx hb dX11_beast_36 (by have q0 := sw_ne sw_9; have q1 := sw_ne sw_11; have q2 := sw_ne sw_13; have q3 := sw_ne sw_15; have q4 := sw_ne sw_17; have q5 := sw_ne sw_20; have q6 := sw_ne sw_23; rw [show (0 : Int32).toInt = 0 from rfl] at q0; rw [show (1 : Int32).toInt = 1 from rfl] at q1; rw [show (2 : Int32).toInt = 2 from rfl] at q2; rw [show (3 : Int32).toInt = 3 from rfl] at q3; rw [show (4 : Int32).toInt = 4 from rfl] at q4; rw [show (5 : Int32).toInt = 5 from rfl] at q5; rw [show (6 : Int32).toInt = 6 from rfl] at q6; omega) (by decide) ?_
                    refine lv_aload_n hx hb dX11_beast_148 rfl (lv_at hl 0 rfl) ?_
                    refine va_get (D := D) (ci := 11) (C := RX11) (T := TX11) (N := 15) (v := .ref a_no) hx hb hX11 (fun _ q => q) hown hK hP 0 rfl rfl 4 (by decide) (hts (.fieldLink RX11 32 "ElephantLine" "now" "LElephantLine$Stand;") (by decide +kernel)) (fun _ h9 => h9) rfl dX11_beast_149 ?_
                    refine lv_iload_n hx hb dX11_beast_152 rfl (lv_at hl 1 rfl) ?_
                    obtain ⟨r_25, hc_26, h⟩ := bd1_some h
                    refine kVb [.int p1] [] ⟨hx, hb, hml, hown, hts⟩ (c_X8_isDead l D cy a_no (no_strong) (.ref a_no_at) (.ref a_no_wounds) no_dead no_wet no_drawn p1 r_25 hc_26) gX11_beast_X8_isDead rfl hd_X8_isDead ⟨Nat.le_of_ble_eq_true rfl, Nat.le_of_ble_eq_true rfl⟩ rfl rfl hKN (pXc hP [5] rfl) 8 0 rfl rfl rfl hl.1 rfl (Nat.le_of_ble_eq_true rfl) dX11_beast_153 ⟨Nat.le_of_ble_eq_true rfl, Nat.le_of_ble_eq_true rfl⟩ (fun nb_27 => ?_)
                    refine lv_if_eq (tgt := 163) hx hb dX11_beast_156 (by decide) (fun cd => ?_) (fun cd => ?_)
                    · have h := ifT cd h
                      refine lv_iconst (v := 0) hx hb dX11_beast_163 (by decide) ?_
                      cases h
                      exact W.iret hx hb hr (fun t ht _ => ⟨⟨_, (), rfl, rfl, by rw [ht]; exact hP, hD⟩, hS.F ht⟩) hS.2.2 dX11_beast_164
                    · have h := ifF cd h
                      refine lv_iconst (v := 1) hx hb dX11_beast_159 (by decide) ?_
                      refine lv_goto (tgt := 164) hx hb dX11_beast_160 (by decide) ?_
                      cases h
                      exact W.iret hx hb hr (fun t ht _ => ⟨⟨_, (), rfl, rfl, by rw [ht]; exact hP, hD⟩, hS.F ht⟩) hS.2.2 dX11_beast_164
    · have h := ifF cd h
      refine lv_iconst (v := (-1)) hx hb dX11_beast_33 (by decide) ?_
      cases h
      exact W.iret hx hb hr (fun t ht _ => ⟨⟨_, (), rfl, rfl, by rw [ht]; exact hP, hD⟩, hS.F ht⟩) hS.2.2 dX11_beast_34
  have jn22 : f_X11_beast_B22 la_beasts la_kind la_mood la_price no_dead no_wet no_at no_wounds p1 p2 el_refusal = some (res, el_refusal') → ∀ (H : Heap) (locs : List Loc), va_P D vwCl ([(a_el, .inr (11, [el_tape, .int el_bytes, el_reader, .ref a_la, .ref a_no, el_past, .ref a_od, el_game, el_placing, el_marching, el_trumpets, el_fight, .int el_refusal, .int el_faultTold, .int el_faultPlace])), (a_la, .inr (2, [.int la_lanes, .int la_deep, .int la_lanesTold, la_who, la_firstStrong, .int la_beasts, .ref a_la_kind, la_firstLane, .ref a_la_mood, .ref a_la_price, .int la_cities, .int la_passes, la_passBetween, .int la_turned])), (a_la_kind, .inl (cy 1, 5, .inl la_kind)), (a_la_mood, .inl (cy 1, 5, .inl la_mood)), (a_la_price, .inl (cy 1, 5, .inl la_price)), (a_no, .inr (8, [no_strong, .ref a_no_at, .ref a_no_wounds, .int no_dead, .int no_wet, .int no_drawn])), (a_no_at, .inl (cy 1, 5, .inl no_at)), (a_no_wounds, .inl (cy 1, 5, .inl no_wounds)), (a_od, .inr (4, [.ref a_la, .ref a_no]))] ++ X) H → va_D A ([(a_el, .inr (11, [el_tape, .int el_bytes, el_reader, .ref a_la, .ref a_no, el_past, .ref a_od, el_game, el_placing, el_marching, el_trumpets, el_fight, .int el_refusal, .int el_faultTold, .int el_faultPlace])), (a_la, .inr (2, [.int la_lanes, .int la_deep, .int la_lanesTold, la_who, la_firstStrong, .int la_beasts, .ref a_la_kind, la_firstLane, .ref a_la_mood, .ref a_la_price, .int la_cities, .int la_passes, la_passBetween, .int la_turned])), (a_la_kind, .inl (cy 1, 5, .inl la_kind)), (a_la_mood, .inl (cy 1, 5, .inl la_mood)), (a_la_price, .inl (cy 1, 5, .inl la_price)), (a_no, .inr (8, [no_strong, .ref a_no_at, .ref a_no_wounds, .int no_dead, .int no_wet, .int no_drawn])), (a_no_at, .inl (cy 1, 5, .inl no_at)), (a_no_wounds, .inl (cy 1, 5, .inl no_wounds)), (a_od, .inr (4, [.ref a_la, .ref a_no]))] ++ X) → va_S A s.heap H locs → ∀ ls : Array Slot, lv_has ls 3 [(0, .ref a_el), (1, .int p1), (2, .int p2)] → W p l e (headSpec wo_X11_beast ({ frames := 3, cells := 0, slots := 0, locals := 57 })).room s m (([.ref a_el, .int p1, .int p2] : List Value).toArray) below meth c H locs 0 0 (MQ below (va_Qi (fun (r : Int32) (_ : Unit) => r = res) (wB D A ([(a_el, .inr (11, [el_tape, .int el_bytes, el_reader, .ref a_la, .ref a_no, el_past, .ref a_od, el_game, el_placing, el_marching, el_trumpets, el_fight, .int el_refusal', .int el_faultTold, .int el_faultPlace])), (a_la, .inr (2, [.int la_lanes, .int la_deep, .int la_lanesTold, la_who, la_firstStrong, .int la_beasts, .ref a_la_kind, la_firstLane, .ref a_la_mood, .ref a_la_price, .int la_cities, .int la_passes, la_passBetween, .int la_turned])), (a_la_kind, .inl (cy 1, 5, .inl la_kind)), (a_la_mood, .inl (cy 1, 5, .inl la_mood)), (a_la_price, .inl (cy 1, 5, .inl la_price)), (a_no, .inr (8, [no_strong, .ref a_no_at, .ref a_no_wounds, .int no_dead, .int no_wet, .int no_drawn])), (a_no_at, .inl (cy 1, 5, .inl no_at)), (a_no_wounds, .inl (cy 1, 5, .inl no_wounds)), (a_od, .inr (4, [.ref a_la, .ref a_no]))] ++ X)) A) (([.ref a_el, .int p1, .int p2] : List Value).toArray) s 0 0 A) (F0 m 22 ls [.ref a_el]) := by
    intro h H locs hP hD hS ls hl
    unfold f_X11_beast_B22 at h
    refine lv_iconst (v := 1) hx hb dX11_beast_22 (by decide) ?_
    refine lv_goto (tgt := 27) hx hb dX11_beast_23 (by decide) ?_
    exact jn27 (1 : Int32) nbv_1 h _ _ hP hD hS _ (lv_sub hl [0, 1, 2] rfl)
  refine lv_if_eq (tgt := 22) hx hb dX11_beast_9 (by decide) (fun cd => ?_) (fun cd => ?_)
  · have h := ifT cd h
    exact jn22 h _ _ hP hD hS _ (lv_sub hl [0, 1, 2] rfl)
  · have h := ifF cd h
    refine lv_iload_n hx hb dX11_beast_12 rfl (lv_at hl 2 rfl) ?_
    refine lv_iconst (v := 0) hx hb dX11_beast_13 (by decide) ?_
    refine lv_bipush (v := 7) hx hb dX11_beast_14 (by decide) ?_
    obtain ⟨r_28, hc_29, h⟩ := bd1_some h
    refine kSb [.int p2, .int 0, .int 7] [.ref a_el] ⟨hx, hb, hml, hown, hts⟩ (c_X11_outside l D cy p2 (0 : Int32) (7 : Int32) r_28 hc_29) gX11_beast_X11_outside rfl hd_X11_outside ⟨Nat.le_of_ble_eq_true rfl, Nat.le_of_ble_eq_true rfl⟩ rfl rfl hKN va_nil rfl hl.1 rfl (Nat.le_of_ble_eq_true rfl) dX11_beast_16 ⟨Nat.le_of_ble_eq_true rfl, Nat.le_of_ble_eq_true rfl⟩ (fun nb_30 => ?_)
    refine lv_if_eq (tgt := 26) hx hb dX11_beast_19 (by decide) (fun cd => ?_) (fun cd => ?_)
    · have h := ifT cd h
      refine lv_iconst (v := 0) hx hb dX11_beast_26 (by decide) ?_
      exact jn27 (0 : Int32) nbv_0 h _ _ hP hD hS _ (lv_sub hl [0, 1, 2] rfl)
    · have h := ifF cd h
      exact jn22 h _ _ hP hD hS _ (lv_sub hl [0, 1, 2] rfl)
theorem hd_X11_across : yX11_across.cls = RX11 ∧ yX11_across.cls ≠ "java/lang/invoke/MethodHandle" ∧ yX11_across.cls ≠ "java/lang/invoke/VarHandle" ∧ (parseMethodDescriptor yX11_across.desc).map (fun d => d.parameters.length) = some 2 := by decide +kernel
set_option maxHeartbeats 4000000 in
set_option maxRecDepth 100000 in
theorem c_X11_across (l : Launch) (D : va_G) (cy : Nat → ClassId) (A : Nat → Prop) (X : va_W) (a_el a_la a_la_kind a_la_mood a_no a_od : Nat) (el_tape : Value) (el_bytes : Int32) (el_reader : Value) (el_now : Value) (el_past : Value) (el_game : Value) (el_placing : Value) (el_marching : Value) (el_trumpets : Value) (el_fight : Value) (el_refusal : Int32) (el_faultTold : Int32) (el_faultPlace : Int32) (la_lanes : Int32) (la_deep : Int32) (la_lanesTold : Int32) (la_who : Value) (la_firstStrong : Value) (la_beasts : Int32) (la_firstLane : Value) (la_price : Value) (la_cities : Int32) (la_passes : Int32) (la_passBetween : Value) (la_turned : Int32) (la_kind : Nat → Int32) (la_mood : Nat → Int32) (no_strong : Value) (no_at : Value) (no_wounds : Value) (no_dead : Int32) (no_wet : Int32) (no_drawn : Int32) (p1 : Int32) (p2 : Int32) (res : Int64) (el_refusal' : Int32) (h : f_X11_across el_refusal la_deep la_beasts la_kind la_mood no_dead no_wet p1 p2 = some (res, el_refusal')) : Met l yX11_across wo_X11_across ({ frames := 4, cells := 0, slots := 0, locals := 78 }) (wrPc D cy A [.ref a_el, .int p1, .int p2] ([(a_el, .inr (11, [el_tape, .int el_bytes, el_reader, .ref a_la, el_now, el_past, .ref a_od, el_game, el_placing, el_marching, el_trumpets, el_fight, .int el_refusal, .int el_faultTold, .int el_faultPlace])), (a_la, .inr (2, [.int la_lanes, .int la_deep, .int la_lanesTold, la_who, la_firstStrong, .int la_beasts, .ref a_la_kind, la_firstLane, .ref a_la_mood, la_price, .int la_cities, .int la_passes, la_passBetween, .int la_turned])), (a_la_kind, .inl (cy 1, 5, .inl la_kind)), (a_la_mood, .inl (cy 1, 5, .inl la_mood)), (a_no, .inr (8, [no_strong, no_at, no_wounds, .int no_dead, .int no_wet, .int no_drawn])), (a_od, .inr (4, [.ref a_la, .ref a_no]))] ++ X)) (va_Ql (fun (r : Int64) (_ : Unit) => r = res) (wB D A ([(a_el, .inr (11, [el_tape, .int el_bytes, el_reader, .ref a_la, el_now, el_past, .ref a_od, el_game, el_placing, el_marching, el_trumpets, el_fight, .int el_refusal', .int el_faultTold, .int el_faultPlace])), (a_la, .inr (2, [.int la_lanes, .int la_deep, .int la_lanesTold, la_who, la_firstStrong, .int la_beasts, .ref a_la_kind, la_firstLane, .ref a_la_mood, la_price, .int la_cities, .int la_passes, la_passBetween, .int la_turned])), (a_la_kind, .inl (cy 1, 5, .inl la_kind)), (a_la_mood, .inl (cy 1, 5, .inl la_mood)), (a_no, .inr (8, [no_strong, no_at, no_wounds, .int no_dead, .int no_wet, .int no_drawn])), (a_od, .inr (4, [.ref a_la, .ref a_no]))] ++ X)) A) 0 0 A := by
  refine Met.ofW (cc := cX11_across) (maxL := 3) (ret := (some .long)) (by decide) rfl ?_
  intro p e s m args below meth c s₁ B hml hv
  obtain ⟨rfl, hP, hKN, hD, hA⟩ := hv
  have hK := hKN.1
  have hx := B.exec
  have hb := B.bytes
  have hr := B.returns
  have hts := wt_X11_across hKN.2.2 (([.ref a_el, .int p1, .int p2] : List Value).toArray)
  have hown : s.vm.findClass RX11 = some m.cls := findClass_of_methodNamed B.named
  have hlocks := B.notSynchronized
  have hS : va_S A s.heap s.heap [] := va_S.rf
  have hX11 := wc_X11 hKN.2.2 (([.ref a_el, .int p1, .int p2] : List Value).toArray)
  have hl := lv_entry ([.ref a_el, .int p1, .int p2]) (n := 3) (Nat.le_of_ble_eq_true rfl)
  rw [lg_entry_eq]
  generalize (lg_sl ([.ref a_el, .int p1, .int p2]) ++ List.replicate (3 - (lg_sl ([.ref a_el, .int p1, .int p2])).length) Slot.unset).toArray = ls at hl ⊢
  have hl : lv_has ls 3 [(0, .ref a_el), (1, .int p1), (2, .int p2)] := hl
  unfold f_X11_across at h
  refine lv_aload_n hx hb dX11_across_0 rfl (lv_at hl 0 rfl) ?_
  refine lv_aload_n hx hb dX11_across_1 rfl (lv_at hl 0 rfl) ?_
  refine lv_iload_n hx hb dX11_across_2 rfl (lv_at hl 1 rfl) ?_
  obtain ⟨r_1, hc_2, h⟩ := bd1_some h
  refine kVi [.int p1] [.ref a_el] ⟨hx, hb, hml, hown, hts⟩ (c_X11_beastTrouble l D cy a_el a_la (el_tape) el_bytes (el_reader) (el_now) (el_past) (.ref a_od) (el_game) (el_placing) (el_marching) (el_trumpets) (el_fight) el_refusal el_faultTold el_faultPlace la_lanes la_deep la_lanesTold (la_who) (la_firstStrong) la_beasts (.ref a_la_kind) (la_firstLane) (.ref a_la_mood) (la_price) la_cities la_passes (la_passBetween) la_turned p1 r_1 hc_2) gX11_across_X11_beastTrouble rfl hd_X11_beastTrouble ⟨Nat.le_of_ble_eq_true rfl, Nat.le_of_ble_eq_true rfl⟩ rfl rfl hKN (pXc hP [0, 1] rfl) 11 0 rfl rfl rfl hl.1 rfl (Nat.le_of_ble_eq_true rfl) dX11_across_3 ⟨Nat.le_of_ble_eq_true rfl, Nat.le_of_ble_eq_true rfl⟩ ?_
  obtain ⟨r_3, el_refusal_4, hc_5, h⟩ := bd2_some h
  refine wVb [.int r_1] [] ⟨hx, hb, hml, hown, hts⟩ (c_X11_isRefused l D cy A ([(a_la, .inr (2, [.int la_lanes, .int la_deep, .int la_lanesTold, la_who, la_firstStrong, .int la_beasts, .ref a_la_kind, la_firstLane, .ref a_la_mood, la_price, .int la_cities, .int la_passes, la_passBetween, .int la_turned])), (a_la_kind, .inl (cy 1, 5, .inl la_kind)), (a_la_mood, .inl (cy 1, 5, .inl la_mood)), (a_no, .inr (8, [no_strong, no_at, no_wounds, .int no_dead, .int no_wet, .int no_drawn])), (a_od, .inr (4, [.ref a_la, .ref a_no]))] ++ X) a_el (el_tape) el_bytes (el_reader) (.ref a_la) (el_now) (el_past) (.ref a_od) (el_game) (el_placing) (el_marching) (el_trumpets) (el_fight) el_refusal el_faultTold el_faultPlace r_1 r_3 el_refusal_4 hc_5) gX11_across_X11_isRefused rfl hd_X11_isRefused ⟨Nat.le_of_ble_eq_true rfl, Nat.le_of_ble_eq_true rfl⟩ rfl rfl hKN (pX3 hP [0, 1, 2, 3, 4, 5] rfl) (dX3 hD [0, 1, 2, 3, 4, 5] rfl rfl) hS hA 11 0 rfl rfl rfl hl.1 rfl (Nat.le_of_ble_eq_true rfl) dX11_across_6 ⟨Nat.le_of_ble_eq_true rfl, Nat.le_of_ble_eq_true rfl⟩ (fun nb_6 H locs hP hD hS => ?_)
  have hP := pX4 (L1 := [(a_el, .inr (11, [el_tape, .int el_bytes, el_reader, .ref a_la, el_now, el_past, .ref a_od, el_game, el_placing, el_marching, el_trumpets, el_fight, .int el_refusal_4, .int el_faultTold, .int el_faultPlace])), (a_la, .inr (2, [.int la_lanes, .int la_deep, .int la_lanesTold, la_who, la_firstStrong, .int la_beasts, .ref a_la_kind, la_firstLane, .ref a_la_mood, la_price, .int la_cities, .int la_passes, la_passBetween, .int la_turned])), (a_la_kind, .inl (cy 1, 5, .inl la_kind)), (a_la_mood, .inl (cy 1, 5, .inl la_mood)), (a_no, .inr (8, [no_strong, no_at, no_wounds, .int no_dead, .int no_wet, .int no_drawn])), (a_od, .inr (4, [.ref a_la, .ref a_no]))]) hP [0, 1, 2, 3, 4, 5] rfl
  have hD := dX4 (L1 := [(a_el, .inr (11, [el_tape, .int el_bytes, el_reader, .ref a_la, el_now, el_past, .ref a_od, el_game, el_placing, el_marching, el_trumpets, el_fight, .int el_refusal_4, .int el_faultTold, .int el_faultPlace])), (a_la, .inr (2, [.int la_lanes, .int la_deep, .int la_lanesTold, la_who, la_firstStrong, .int la_beasts, .ref a_la_kind, la_firstLane, .ref a_la_mood, la_price, .int la_cities, .int la_passes, la_passBetween, .int la_turned])), (a_la_kind, .inl (cy 1, 5, .inl la_kind)), (a_la_mood, .inl (cy 1, 5, .inl la_mood)), (a_no, .inr (8, [no_strong, no_at, no_wounds, .int no_dead, .int no_wet, .int no_drawn])), (a_od, .inr (4, [.ref a_la, .ref a_no]))]) hD [0, 1, 2, 3, 4, 5] rfl rfl
  refine lv_if_eq (tgt := 18) hx hb dX11_across_9 (by decide) (fun cd => ?_) (fun cd => ?_)
  · have h := ifT cd h
    refine lv_aload_n hx hb dX11_across_18 rfl (lv_at hl 0 rfl) ?_
    refine va_get (D := D) (ci := 11) (C := RX11) (T := TX11) (N := 15) (v := .ref a_od) hx hb hX11 (fun _ q => q) hown hK hP 0 rfl rfl 6 (by decide) (hts (.fieldLink RX11 48 "ElephantLine" "odds" "LElephantLine$Odds;") (by decide +kernel)) (fun _ h9 => h9) rfl dX11_across_19 ?_
    refine lv_aload_n hx hb dX11_across_22 rfl (lv_at hl 0 rfl) ?_
    refine va_get (D := D) (ci := 11) (C := RX11) (T := TX11) (N := 15) (v := .ref a_od) hx hb hX11 (fun _ q => q) hown hK hP 0 rfl rfl 6 (by decide) (hts (.fieldLink RX11 48 "ElephantLine" "odds" "LElephantLine$Odds;") (by decide +kernel)) (fun _ h9 => h9) rfl dX11_across_23 ?_
    refine lv_iload_n hx hb dX11_across_26 rfl (lv_at hl 1 rfl) ?_
    obtain ⟨r_7, hc_8, h⟩ := bd1_some h
    refine kVl [.int p1] [.ref a_od] ⟨hx, hb, hml, hown, hts⟩ (c_X4_acrossOverFull l D cy a_la a_la_kind a_la_mood a_no a_od la_lanes la_deep la_lanesTold (la_who) (la_firstStrong) la_beasts (la_firstLane) (la_price) la_cities la_passes (la_passBetween) la_turned la_kind la_mood (no_strong) (no_at) (no_wounds) no_dead no_wet no_drawn p1 r_7 hc_8) gX11_across_X4_acrossOverFull rfl hd_X4_acrossOverFull ⟨Nat.le_of_ble_eq_true rfl, Nat.le_of_ble_eq_true rfl⟩ rfl rfl hKN (pXc hP [1, 2, 3, 4, 5] rfl) 4 4 rfl rfl rfl hl.1 rfl (Nat.le_of_ble_eq_true rfl) dX11_across_27 ⟨Nat.le_of_ble_eq_true rfl, Nat.le_of_ble_eq_true rfl⟩ ?_
    refine lv_iload_n hx hb dX11_across_30 rfl (lv_at hl 2 rfl) ?_
    obtain ⟨r_9, hc_10, h⟩ := bd1_some h
    refine kVl [.long r_7, .int p2] [] ⟨hx, hb, hml, hown, hts⟩ (c_X4_told l D cy a_la a_od la_lanes la_deep la_lanesTold (la_who) (la_firstStrong) la_beasts (.ref a_la_kind) (la_firstLane) (.ref a_la_mood) (la_price) la_cities la_passes (la_passBetween) la_turned (.ref a_no) r_7 p2 r_9 hc_10) gX11_across_X4_told rfl hd_X4_told ⟨Nat.le_of_ble_eq_true rfl, Nat.le_of_ble_eq_true rfl⟩ rfl rfl hKN (pXc hP [1, 5] rfl) 4 1 rfl rfl rfl hl.1 rfl (Nat.le_of_ble_eq_true rfl) dX11_across_31 ⟨Nat.le_of_ble_eq_true rfl, Nat.le_of_ble_eq_true rfl⟩ ?_
    cases h
    exact W.lret hx hb hr (fun t ht _ => ⟨⟨_, (), rfl, rfl, by rw [ht]; exact hP, hD⟩, hS.F ht⟩) hS.2.2 dX11_across_34
  · have h := ifF cd h
    refine lv_ldc2 (v := (-1)) hx hb hown (hts (.constantLong RX11 182 (-1)) (by decide +kernel)) dX11_across_12 ?_
    refine lv_goto (tgt := 34) hx hb dX11_across_15 (by decide) ?_
    cases h
    exact W.lret hx hb hr (fun t ht _ => ⟨⟨_, (), rfl, rfl, by rw [ht]; exact hP, hD⟩, hS.F ht⟩) hS.2.2 dX11_across_34
theorem hd_X11_meets : yX11_meets.cls = RX11 ∧ yX11_meets.cls ≠ "java/lang/invoke/MethodHandle" ∧ yX11_meets.cls ≠ "java/lang/invoke/VarHandle" ∧ (parseMethodDescriptor yX11_meets.desc).map (fun d => d.parameters.length) = some 3 := by decide +kernel
set_option maxHeartbeats 4000000 in
set_option maxRecDepth 100000 in
theorem c_X11_meets (l : Launch) (D : va_G) (cy : Nat → ClassId) (A : Nat → Prop) (X : va_W) (a_el a_la a_la_who a_la_kind a_no a_no_strong a_no_wounds a_od : Nat) (el_tape : Value) (el_bytes : Int32) (el_reader : Value) (el_now : Value) (el_past : Value) (el_game : Value) (el_placing : Value) (el_marching : Value) (el_trumpets : Value) (el_fight : Value) (el_refusal : Int32) (el_faultTold : Int32) (el_faultPlace : Int32) (la_lanes : Int32) (la_deep : Int32) (la_lanesTold : Int32) (la_firstStrong : Value) (la_beasts : Int32) (la_firstLane : Value) (la_mood : Value) (la_price : Value) (la_cities : Int32) (la_passes : Int32) (la_passBetween : Value) (la_turned : Int32) (la_who : Nat → Int32) (la_kind : Nat → Int32) (no_at : Value) (no_dead : Int32) (no_wet : Int32) (no_drawn : Int32) (no_strong : Nat → Int32) (no_wounds : Nat → Int32) (p1 : Int32) (p2 : Int32) (p3 : Int32) (res : Int32) (el_refusal' : Int32) (h : f_X11_meets el_refusal la_lanes la_beasts la_who la_kind no_dead no_strong no_wounds p1 p2 p3 = some (res, el_refusal')) : Met l yX11_meets wo_X11_meets ({ frames := 3, cells := 0, slots := 0, locals := 66 }) (wrPc D cy A [.ref a_el, .int p1, .int p2, .int p3] ([(a_el, .inr (11, [el_tape, .int el_bytes, el_reader, .ref a_la, el_now, el_past, .ref a_od, el_game, el_placing, el_marching, el_trumpets, el_fight, .int el_refusal, .int el_faultTold, .int el_faultPlace])), (a_la, .inr (2, [.int la_lanes, .int la_deep, .int la_lanesTold, .ref a_la_who, la_firstStrong, .int la_beasts, .ref a_la_kind, la_firstLane, la_mood, la_price, .int la_cities, .int la_passes, la_passBetween, .int la_turned])), (a_la_who, .inl (cy 1, 6, .inl la_who)), (a_la_kind, .inl (cy 1, 5, .inl la_kind)), (a_no, .inr (8, [.ref a_no_strong, no_at, .ref a_no_wounds, .int no_dead, .int no_wet, .int no_drawn])), (a_no_strong, .inl (cy 1, 6, .inl no_strong)), (a_no_wounds, .inl (cy 1, 5, .inl no_wounds)), (a_od, .inr (4, [.ref a_la, .ref a_no]))] ++ X)) (va_Qi (fun (r : Int32) (_ : Unit) => r = res) (wB D A ([(a_el, .inr (11, [el_tape, .int el_bytes, el_reader, .ref a_la, el_now, el_past, .ref a_od, el_game, el_placing, el_marching, el_trumpets, el_fight, .int el_refusal', .int el_faultTold, .int el_faultPlace])), (a_la, .inr (2, [.int la_lanes, .int la_deep, .int la_lanesTold, .ref a_la_who, la_firstStrong, .int la_beasts, .ref a_la_kind, la_firstLane, la_mood, la_price, .int la_cities, .int la_passes, la_passBetween, .int la_turned])), (a_la_who, .inl (cy 1, 6, .inl la_who)), (a_la_kind, .inl (cy 1, 5, .inl la_kind)), (a_no, .inr (8, [.ref a_no_strong, no_at, .ref a_no_wounds, .int no_dead, .int no_wet, .int no_drawn])), (a_no_strong, .inl (cy 1, 6, .inl no_strong)), (a_no_wounds, .inl (cy 1, 5, .inl no_wounds)), (a_od, .inr (4, [.ref a_la, .ref a_no]))] ++ X)) A) 0 0 A := by
  refine Met.ofW (cc := cX11_meets) (maxL := 4) (ret := (some .int)) (by decide) rfl ?_
  intro p e s m args below meth c s₁ B hml hv
  obtain ⟨rfl, hP, hKN, hD, hA⟩ := hv
  have hK := hKN.1
  have hx := B.exec
  have hb := B.bytes
  have hr := B.returns
  have hts := wt_X11_meets hKN.2.2 (([.ref a_el, .int p1, .int p2, .int p3] : List Value).toArray)
  have hown : s.vm.findClass RX11 = some m.cls := findClass_of_methodNamed B.named
  have hlocks := B.notSynchronized
  have hS : va_S A s.heap s.heap [] := va_S.rf
  have hX11 := wc_X11 hKN.2.2 (([.ref a_el, .int p1, .int p2, .int p3] : List Value).toArray)
  have hl := lv_entry ([.ref a_el, .int p1, .int p2, .int p3]) (n := 4) (Nat.le_of_ble_eq_true rfl)
  rw [lg_entry_eq]
  generalize (lg_sl ([.ref a_el, .int p1, .int p2, .int p3]) ++ List.replicate (4 - (lg_sl ([.ref a_el, .int p1, .int p2, .int p3])).length) Slot.unset).toArray = ls at hl ⊢
  have hl : lv_has ls 4 [(0, .ref a_el), (1, .int p1), (2, .int p2), (3, .int p3)] := hl
  unfold f_X11_meets at h
  refine lv_aload_n hx hb dX11_meets_0 rfl (lv_at hl 0 rfl) ?_
  refine lv_aload_n hx hb dX11_meets_1 rfl (lv_at hl 0 rfl) ?_
  refine lv_iload_n hx hb dX11_meets_2 rfl (lv_at hl 1 rfl) ?_
  refine lv_iload_n hx hb dX11_meets_3 rfl (lv_at hl 2 rfl) ?_
  obtain ⟨r_1, hc_2, h⟩ := bd1_some h
  refine kVi [.int p1, .int p2] [.ref a_el] ⟨hx, hb, hml, hown, hts⟩ (c_X11_meetingTrouble l D cy a_el a_la (el_tape) el_bytes (el_reader) (el_now) (el_past) (.ref a_od) (el_game) (el_placing) (el_marching) (el_trumpets) (el_fight) el_refusal el_faultTold el_faultPlace la_lanes la_deep la_lanesTold (.ref a_la_who) (la_firstStrong) la_beasts (.ref a_la_kind) (la_firstLane) (la_mood) (la_price) la_cities la_passes (la_passBetween) la_turned p1 p2 r_1 hc_2) gX11_meets_X11_meetingTrouble rfl hd_X11_meetingTrouble ⟨Nat.le_of_ble_eq_true rfl, Nat.le_of_ble_eq_true rfl⟩ rfl rfl hKN (pXc hP [0, 1] rfl) 11 0 rfl rfl rfl hl.1 rfl (Nat.le_of_ble_eq_true rfl) dX11_meets_4 ⟨Nat.le_of_ble_eq_true rfl, Nat.le_of_ble_eq_true rfl⟩ ?_
  obtain ⟨r_3, el_refusal_4, hc_5, h⟩ := bd2_some h
  refine wVb [.int r_1] [] ⟨hx, hb, hml, hown, hts⟩ (c_X11_isRefused l D cy A ([(a_la, .inr (2, [.int la_lanes, .int la_deep, .int la_lanesTold, .ref a_la_who, la_firstStrong, .int la_beasts, .ref a_la_kind, la_firstLane, la_mood, la_price, .int la_cities, .int la_passes, la_passBetween, .int la_turned])), (a_la_who, .inl (cy 1, 6, .inl la_who)), (a_la_kind, .inl (cy 1, 5, .inl la_kind)), (a_no, .inr (8, [.ref a_no_strong, no_at, .ref a_no_wounds, .int no_dead, .int no_wet, .int no_drawn])), (a_no_strong, .inl (cy 1, 6, .inl no_strong)), (a_no_wounds, .inl (cy 1, 5, .inl no_wounds)), (a_od, .inr (4, [.ref a_la, .ref a_no]))] ++ X) a_el (el_tape) el_bytes (el_reader) (.ref a_la) (el_now) (el_past) (.ref a_od) (el_game) (el_placing) (el_marching) (el_trumpets) (el_fight) el_refusal el_faultTold el_faultPlace r_1 r_3 el_refusal_4 hc_5) gX11_meets_X11_isRefused rfl hd_X11_isRefused ⟨Nat.le_of_ble_eq_true rfl, Nat.le_of_ble_eq_true rfl⟩ rfl rfl hKN (pX3 hP [0, 1, 2, 3, 4, 5, 6, 7] rfl) (dX3 hD [0, 1, 2, 3, 4, 5, 6, 7] rfl rfl) hS hA 11 0 rfl rfl rfl hl.1 rfl (Nat.le_of_ble_eq_true rfl) dX11_meets_7 ⟨Nat.le_of_ble_eq_true rfl, Nat.le_of_ble_eq_true rfl⟩ (fun nb_6 H locs hP hD hS => ?_)
  have hP := pX4 (L1 := [(a_el, .inr (11, [el_tape, .int el_bytes, el_reader, .ref a_la, el_now, el_past, .ref a_od, el_game, el_placing, el_marching, el_trumpets, el_fight, .int el_refusal_4, .int el_faultTold, .int el_faultPlace])), (a_la, .inr (2, [.int la_lanes, .int la_deep, .int la_lanesTold, .ref a_la_who, la_firstStrong, .int la_beasts, .ref a_la_kind, la_firstLane, la_mood, la_price, .int la_cities, .int la_passes, la_passBetween, .int la_turned])), (a_la_who, .inl (cy 1, 6, .inl la_who)), (a_la_kind, .inl (cy 1, 5, .inl la_kind)), (a_no, .inr (8, [.ref a_no_strong, no_at, .ref a_no_wounds, .int no_dead, .int no_wet, .int no_drawn])), (a_no_strong, .inl (cy 1, 6, .inl no_strong)), (a_no_wounds, .inl (cy 1, 5, .inl no_wounds)), (a_od, .inr (4, [.ref a_la, .ref a_no]))]) hP [0, 1, 2, 3, 4, 5, 6, 7] rfl
  have hD := dX4 (L1 := [(a_el, .inr (11, [el_tape, .int el_bytes, el_reader, .ref a_la, el_now, el_past, .ref a_od, el_game, el_placing, el_marching, el_trumpets, el_fight, .int el_refusal_4, .int el_faultTold, .int el_faultPlace])), (a_la, .inr (2, [.int la_lanes, .int la_deep, .int la_lanesTold, .ref a_la_who, la_firstStrong, .int la_beasts, .ref a_la_kind, la_firstLane, la_mood, la_price, .int la_cities, .int la_passes, la_passBetween, .int la_turned])), (a_la_who, .inl (cy 1, 6, .inl la_who)), (a_la_kind, .inl (cy 1, 5, .inl la_kind)), (a_no, .inr (8, [.ref a_no_strong, no_at, .ref a_no_wounds, .int no_dead, .int no_wet, .int no_drawn])), (a_no_strong, .inl (cy 1, 6, .inl no_strong)), (a_no_wounds, .inl (cy 1, 5, .inl no_wounds)), (a_od, .inr (4, [.ref a_la, .ref a_no]))]) hD [0, 1, 2, 3, 4, 5, 6, 7] rfl rfl
  refine lv_if_eq (tgt := 15) hx hb dX11_meets_10 (by decide) (fun cd => ?_) (fun cd => ?_)
  · have h := ifT cd h
    refine lv_aload_n hx hb dX11_meets_15 rfl (lv_at hl 0 rfl) ?_
    refine va_get (D := D) (ci := 11) (C := RX11) (T := TX11) (N := 15) (v := .ref a_od) hx hb hX11 (fun _ q => q) hown hK hP 0 rfl rfl 6 (by decide) (hts (.fieldLink RX11 48 "ElephantLine" "odds" "LElephantLine$Odds;") (by decide +kernel)) (fun _ h9 => h9) rfl dX11_meets_16 ?_
    refine lv_iload_n hx hb dX11_meets_19 rfl (lv_at hl 1 rfl) ?_
    refine lv_iload_n hx hb dX11_meets_20 rfl (lv_at hl 2 rfl) ?_
    refine lv_iload_n hx hb dX11_meets_21 rfl (lv_at hl 3 rfl) ?_
    obtain ⟨r_7, hc_8, h⟩ := bd1_some h
    refine kVi [.int p1, .int p2, .int p3] [] ⟨hx, hb, hml, hown, hts⟩ (c_X4_harmIn l D cy a_la a_la_who a_la_kind a_no a_no_strong a_no_wounds a_od la_lanes la_deep la_lanesTold (la_firstStrong) la_beasts (la_firstLane) (la_mood) (la_price) la_cities la_passes (la_passBetween) la_turned la_who la_kind (no_at) no_dead no_wet no_drawn no_strong no_wounds p1 p2 p3 r_7 hc_8) gX11_meets_X4_harmIn rfl hd_X4_harmIn ⟨Nat.le_of_ble_eq_true rfl, Nat.le_of_ble_eq_true rfl⟩ rfl rfl hKN (pXc hP [1, 2, 3, 4, 5, 6, 7] rfl) 4 6 rfl rfl rfl hl.1 rfl (Nat.le_of_ble_eq_true rfl) dX11_meets_22 ⟨Nat.le_of_ble_eq_true rfl, Nat.le_of_ble_eq_true rfl⟩ ?_
    cases h
    exact W.iret hx hb hr (fun t ht _ => ⟨⟨_, (), rfl, rfl, by rw [ht]; exact hP, hD⟩, hS.F ht⟩) hS.2.2 dX11_meets_25
  · have h := ifF cd h
    refine lv_iconst (v := (-1)) hx hb dX11_meets_13 (by decide) ?_
    cases h
    exact W.iret hx hb hr (fun t ht _ => ⟨⟨_, (), rfl, rfl, by rw [ht]; exact hP, hD⟩, hS.F ht⟩) hS.2.2 dX11_meets_14
theorem hd_X11_mean : yX11_mean.cls = RX11 ∧ yX11_mean.cls ≠ "java/lang/invoke/MethodHandle" ∧ yX11_mean.cls ≠ "java/lang/invoke/VarHandle" ∧ (parseMethodDescriptor yX11_mean.desc).map (fun d => d.parameters.length) = some 4 := by decide +kernel
set_option maxHeartbeats 4000000 in
set_option maxRecDepth 100000 in
theorem c_X11_mean (l : Launch) (D : va_G) (cy : Nat → ClassId) (A : Nat → Prop) (X : va_W) (a_el a_la a_la_who a_la_kind a_la_mood a_no a_no_strong a_no_wounds a_od : Nat) (el_tape : Value) (el_bytes : Int32) (el_reader : Value) (el_now : Value) (el_past : Value) (el_game : Value) (el_placing : Value) (el_marching : Value) (el_trumpets : Value) (el_fight : Value) (el_refusal : Int32) (el_faultTold : Int32) (el_faultPlace : Int32) (la_lanes : Int32) (la_deep : Int32) (la_lanesTold : Int32) (la_firstStrong : Value) (la_beasts : Int32) (la_firstLane : Value) (la_price : Value) (la_cities : Int32) (la_passes : Int32) (la_passBetween : Value) (la_turned : Int32) (la_who : Nat → Int32) (la_kind : Nat → Int32) (la_mood : Nat → Int32) (no_at : Value) (no_dead : Int32) (no_wet : Int32) (no_drawn : Int32) (no_strong : Nat → Int32) (no_wounds : Nat → Int32) (p1 : Int32) (p2 : Int32) (p3 : Int32) (p4 : Int32) (res : Int64) (el_refusal' : Int32) (h : f_X11_mean el_refusal la_lanes la_deep la_beasts la_who la_kind la_mood no_dead no_wet no_strong no_wounds p1 p2 p3 p4 = some (res, el_refusal')) : Met l yX11_mean wo_X11_mean ({ frames := 5, cells := 0, slots := 0, locals := 105 }) (wrPc D cy A [.ref a_el, .int p1, .int p2, .int p3, .int p4] ([(a_el, .inr (11, [el_tape, .int el_bytes, el_reader, .ref a_la, el_now, el_past, .ref a_od, el_game, el_placing, el_marching, el_trumpets, el_fight, .int el_refusal, .int el_faultTold, .int el_faultPlace])), (a_la, .inr (2, [.int la_lanes, .int la_deep, .int la_lanesTold, .ref a_la_who, la_firstStrong, .int la_beasts, .ref a_la_kind, la_firstLane, .ref a_la_mood, la_price, .int la_cities, .int la_passes, la_passBetween, .int la_turned])), (a_la_who, .inl (cy 1, 6, .inl la_who)), (a_la_kind, .inl (cy 1, 5, .inl la_kind)), (a_la_mood, .inl (cy 1, 5, .inl la_mood)), (a_no, .inr (8, [.ref a_no_strong, no_at, .ref a_no_wounds, .int no_dead, .int no_wet, .int no_drawn])), (a_no_strong, .inl (cy 1, 6, .inl no_strong)), (a_no_wounds, .inl (cy 1, 5, .inl no_wounds)), (a_od, .inr (4, [.ref a_la, .ref a_no]))] ++ X)) (va_Ql (fun (r : Int64) (_ : Unit) => r = res) (wB D A ([(a_el, .inr (11, [el_tape, .int el_bytes, el_reader, .ref a_la, el_now, el_past, .ref a_od, el_game, el_placing, el_marching, el_trumpets, el_fight, .int el_refusal', .int el_faultTold, .int el_faultPlace])), (a_la, .inr (2, [.int la_lanes, .int la_deep, .int la_lanesTold, .ref a_la_who, la_firstStrong, .int la_beasts, .ref a_la_kind, la_firstLane, .ref a_la_mood, la_price, .int la_cities, .int la_passes, la_passBetween, .int la_turned])), (a_la_who, .inl (cy 1, 6, .inl la_who)), (a_la_kind, .inl (cy 1, 5, .inl la_kind)), (a_la_mood, .inl (cy 1, 5, .inl la_mood)), (a_no, .inr (8, [.ref a_no_strong, no_at, .ref a_no_wounds, .int no_dead, .int no_wet, .int no_drawn])), (a_no_strong, .inl (cy 1, 6, .inl no_strong)), (a_no_wounds, .inl (cy 1, 5, .inl no_wounds)), (a_od, .inr (4, [.ref a_la, .ref a_no]))] ++ X)) A) 0 0 A := by
  refine Met.ofW (cc := cX11_mean) (maxL := 5) (ret := (some .long)) (by decide) rfl ?_
  intro p e s m args below meth c s₁ B hml hv
  obtain ⟨rfl, hP, hKN, hD, hA⟩ := hv
  have hK := hKN.1
  have hx := B.exec
  have hb := B.bytes
  have hr := B.returns
  have hts := wt_X11_mean hKN.2.2 (([.ref a_el, .int p1, .int p2, .int p3, .int p4] : List Value).toArray)
  have hown : s.vm.findClass RX11 = some m.cls := findClass_of_methodNamed B.named
  have hlocks := B.notSynchronized
  have hS : va_S A s.heap s.heap [] := va_S.rf
  have hX11 := wc_X11 hKN.2.2 (([.ref a_el, .int p1, .int p2, .int p3, .int p4] : List Value).toArray)
  have hl := lv_entry ([.ref a_el, .int p1, .int p2, .int p3, .int p4]) (n := 5) (Nat.le_of_ble_eq_true rfl)
  rw [lg_entry_eq]
  generalize (lg_sl ([.ref a_el, .int p1, .int p2, .int p3, .int p4]) ++ List.replicate (5 - (lg_sl ([.ref a_el, .int p1, .int p2, .int p3, .int p4])).length) Slot.unset).toArray = ls at hl ⊢
  have hl : lv_has ls 5 [(0, .ref a_el), (1, .int p1), (2, .int p2), (3, .int p3), (4, .int p4)] := hl
  unfold f_X11_mean at h
  refine lv_aload_n hx hb dX11_mean_0 rfl (lv_at hl 0 rfl) ?_
  refine lv_aload_n hx hb dX11_mean_1 rfl (lv_at hl 0 rfl) ?_
  refine lv_iload_n hx hb dX11_mean_2 rfl (lv_at hl 1 rfl) ?_
  refine lv_iload_n hx hb dX11_mean_3 rfl (lv_at hl 2 rfl) ?_
  obtain ⟨r_1, hc_2, h⟩ := bd1_some h
  refine kVi [.int p1, .int p2] [.ref a_el] ⟨hx, hb, hml, hown, hts⟩ (c_X11_meetingTrouble l D cy a_el a_la (el_tape) el_bytes (el_reader) (el_now) (el_past) (.ref a_od) (el_game) (el_placing) (el_marching) (el_trumpets) (el_fight) el_refusal el_faultTold el_faultPlace la_lanes la_deep la_lanesTold (.ref a_la_who) (la_firstStrong) la_beasts (.ref a_la_kind) (la_firstLane) (.ref a_la_mood) (la_price) la_cities la_passes (la_passBetween) la_turned p1 p2 r_1 hc_2) gX11_mean_X11_meetingTrouble rfl hd_X11_meetingTrouble ⟨Nat.le_of_ble_eq_true rfl, Nat.le_of_ble_eq_true rfl⟩ rfl rfl hKN (pXc hP [0, 1] rfl) 11 0 rfl rfl rfl hl.1 rfl (Nat.le_of_ble_eq_true rfl) dX11_mean_4 ⟨Nat.le_of_ble_eq_true rfl, Nat.le_of_ble_eq_true rfl⟩ ?_
  obtain ⟨r_3, el_refusal_4, hc_5, h⟩ := bd2_some h
  refine wVb [.int r_1] [] ⟨hx, hb, hml, hown, hts⟩ (c_X11_isRefused l D cy A ([(a_la, .inr (2, [.int la_lanes, .int la_deep, .int la_lanesTold, .ref a_la_who, la_firstStrong, .int la_beasts, .ref a_la_kind, la_firstLane, .ref a_la_mood, la_price, .int la_cities, .int la_passes, la_passBetween, .int la_turned])), (a_la_who, .inl (cy 1, 6, .inl la_who)), (a_la_kind, .inl (cy 1, 5, .inl la_kind)), (a_la_mood, .inl (cy 1, 5, .inl la_mood)), (a_no, .inr (8, [.ref a_no_strong, no_at, .ref a_no_wounds, .int no_dead, .int no_wet, .int no_drawn])), (a_no_strong, .inl (cy 1, 6, .inl no_strong)), (a_no_wounds, .inl (cy 1, 5, .inl no_wounds)), (a_od, .inr (4, [.ref a_la, .ref a_no]))] ++ X) a_el (el_tape) el_bytes (el_reader) (.ref a_la) (el_now) (el_past) (.ref a_od) (el_game) (el_placing) (el_marching) (el_trumpets) (el_fight) el_refusal el_faultTold el_faultPlace r_1 r_3 el_refusal_4 hc_5) gX11_mean_X11_isRefused rfl hd_X11_isRefused ⟨Nat.le_of_ble_eq_true rfl, Nat.le_of_ble_eq_true rfl⟩ rfl rfl hKN (pX3 hP [0, 1, 2, 3, 4, 5, 6, 7, 8] rfl) (dX3 hD [0, 1, 2, 3, 4, 5, 6, 7, 8] rfl rfl) hS hA 11 0 rfl rfl rfl hl.1 rfl (Nat.le_of_ble_eq_true rfl) dX11_mean_7 ⟨Nat.le_of_ble_eq_true rfl, Nat.le_of_ble_eq_true rfl⟩ (fun nb_6 H locs hP hD hS => ?_)
  have hP := pX4 (L1 := [(a_el, .inr (11, [el_tape, .int el_bytes, el_reader, .ref a_la, el_now, el_past, .ref a_od, el_game, el_placing, el_marching, el_trumpets, el_fight, .int el_refusal_4, .int el_faultTold, .int el_faultPlace])), (a_la, .inr (2, [.int la_lanes, .int la_deep, .int la_lanesTold, .ref a_la_who, la_firstStrong, .int la_beasts, .ref a_la_kind, la_firstLane, .ref a_la_mood, la_price, .int la_cities, .int la_passes, la_passBetween, .int la_turned])), (a_la_who, .inl (cy 1, 6, .inl la_who)), (a_la_kind, .inl (cy 1, 5, .inl la_kind)), (a_la_mood, .inl (cy 1, 5, .inl la_mood)), (a_no, .inr (8, [.ref a_no_strong, no_at, .ref a_no_wounds, .int no_dead, .int no_wet, .int no_drawn])), (a_no_strong, .inl (cy 1, 6, .inl no_strong)), (a_no_wounds, .inl (cy 1, 5, .inl no_wounds)), (a_od, .inr (4, [.ref a_la, .ref a_no]))]) hP [0, 1, 2, 3, 4, 5, 6, 7, 8] rfl
  have hD := dX4 (L1 := [(a_el, .inr (11, [el_tape, .int el_bytes, el_reader, .ref a_la, el_now, el_past, .ref a_od, el_game, el_placing, el_marching, el_trumpets, el_fight, .int el_refusal_4, .int el_faultTold, .int el_faultPlace])), (a_la, .inr (2, [.int la_lanes, .int la_deep, .int la_lanesTold, .ref a_la_who, la_firstStrong, .int la_beasts, .ref a_la_kind, la_firstLane, .ref a_la_mood, la_price, .int la_cities, .int la_passes, la_passBetween, .int la_turned])), (a_la_who, .inl (cy 1, 6, .inl la_who)), (a_la_kind, .inl (cy 1, 5, .inl la_kind)), (a_la_mood, .inl (cy 1, 5, .inl la_mood)), (a_no, .inr (8, [.ref a_no_strong, no_at, .ref a_no_wounds, .int no_dead, .int no_wet, .int no_drawn])), (a_no_strong, .inl (cy 1, 6, .inl no_strong)), (a_no_wounds, .inl (cy 1, 5, .inl no_wounds)), (a_od, .inr (4, [.ref a_la, .ref a_no]))]) hD [0, 1, 2, 3, 4, 5, 6, 7, 8] rfl rfl
  refine lv_if_eq (tgt := 19) hx hb dX11_mean_10 (by decide) (fun cd => ?_) (fun cd => ?_)
  · have h := ifT cd h
    refine lv_aload_n hx hb dX11_mean_19 rfl (lv_at hl 0 rfl) ?_
    refine va_get (D := D) (ci := 11) (C := RX11) (T := TX11) (N := 15) (v := .ref a_od) hx hb hX11 (fun _ q => q) hown hK hP 0 rfl rfl 6 (by decide) (hts (.fieldLink RX11 48 "ElephantLine" "odds" "LElephantLine$Odds;") (by decide +kernel)) (fun _ h9 => h9) rfl dX11_mean_20 ?_
    refine lv_aload_n hx hb dX11_mean_23 rfl (lv_at hl 0 rfl) ?_
    refine va_get (D := D) (ci := 11) (C := RX11) (T := TX11) (N := 15) (v := .ref a_od) hx hb hX11 (fun _ q => q) hown hK hP 0 rfl rfl 6 (by decide) (hts (.fieldLink RX11 48 "ElephantLine" "odds" "LElephantLine$Odds;") (by decide +kernel)) (fun _ h9 => h9) rfl dX11_mean_24 ?_
    refine lv_iload_n hx hb dX11_mean_27 rfl (lv_at hl 1 rfl) ?_
    refine lv_iload_n hx hb dX11_mean_28 rfl (lv_at hl 2 rfl) ?_
    refine lv_iload_n hx hb dX11_mean_29 rfl (lv_at hl 3 rfl) ?_
    obtain ⟨r_7, hc_8, h⟩ := bd1_some h
    refine kVl [.int p1, .int p2, .int p3] [.ref a_od] ⟨hx, hb, hml, hown, hts⟩ (c_X4_meanIn l D cy a_la a_la_who a_la_kind a_la_mood a_no a_no_strong a_no_wounds a_od la_lanes la_deep la_lanesTold (la_firstStrong) la_beasts (la_firstLane) (la_price) la_cities la_passes (la_passBetween) la_turned la_who la_kind la_mood (no_at) no_dead no_wet no_drawn no_strong no_wounds p1 p2 p3 r_7 hc_8) gX11_mean_X4_meanIn rfl hd_X4_meanIn ⟨Nat.le_of_ble_eq_true rfl, Nat.le_of_ble_eq_true rfl⟩ rfl rfl hKN (pXc hP [1, 2, 3, 4, 5, 6, 7, 8] rfl) 4 7 rfl rfl rfl hl.1 rfl (Nat.le_of_ble_eq_true rfl) dX11_mean_30 ⟨Nat.le_of_ble_eq_true rfl, Nat.le_of_ble_eq_true rfl⟩ ?_
    refine lv_iload hx hb dX11_mean_33 (lv_at hl 4 rfl) ?_
    obtain ⟨r_9, hc_10, h⟩ := bd1_some h
    refine kVl [.long r_7, .int p4] [] ⟨hx, hb, hml, hown, hts⟩ (c_X4_told l D cy a_la a_od la_lanes la_deep la_lanesTold (.ref a_la_who) (la_firstStrong) la_beasts (.ref a_la_kind) (la_firstLane) (.ref a_la_mood) (la_price) la_cities la_passes (la_passBetween) la_turned (.ref a_no) r_7 p4 r_9 hc_10) gX11_mean_X4_told rfl hd_X4_told ⟨Nat.le_of_ble_eq_true rfl, Nat.le_of_ble_eq_true rfl⟩ rfl rfl hKN (pXc hP [1, 8] rfl) 4 1 rfl rfl rfl hl.1 rfl (Nat.le_of_ble_eq_true rfl) dX11_mean_35 ⟨Nat.le_of_ble_eq_true rfl, Nat.le_of_ble_eq_true rfl⟩ ?_
    cases h
    exact W.lret hx hb hr (fun t ht _ => ⟨⟨_, (), rfl, rfl, by rw [ht]; exact hP, hD⟩, hS.F ht⟩) hS.2.2 dX11_mean_38
  · have h := ifF cd h
    refine lv_ldc2 (v := (-1)) hx hb hown (hts (.constantLong RX11 182 (-1)) (by decide +kernel)) dX11_mean_13 ?_
    refine lv_goto (tgt := 38) hx hb dX11_mean_16 (by decide) ?_
    cases h
    exact W.lret hx hb hr (fun t ht _ => ⟨⟨_, (), rfl, rfl, by rw [ht]; exact hP, hD⟩, hS.F ht⟩) hS.2.2 dX11_mean_38
theorem hd_X11_worth : yX11_worth.cls = RX11 ∧ yX11_worth.cls ≠ "java/lang/invoke/MethodHandle" ∧ yX11_worth.cls ≠ "java/lang/invoke/VarHandle" ∧ (parseMethodDescriptor yX11_worth.desc).map (fun d => d.parameters.length) = some 3 := by decide +kernel
set_option maxHeartbeats 4000000 in
set_option maxRecDepth 100000 in
theorem c_X11_worth (l : Launch) (D : va_G) (cy : Nat → ClassId) (A : Nat → Prop) (X : va_W) (a_el a_la a_la_who a_la_kind a_la_mood a_no a_no_strong a_no_wounds a_od : Nat) (el_tape : Value) (el_bytes : Int32) (el_reader : Value) (el_now : Value) (el_past : Value) (el_game : Value) (el_placing : Value) (el_marching : Value) (el_trumpets : Value) (el_fight : Value) (el_refusal : Int32) (el_faultTold : Int32) (el_faultPlace : Int32) (la_lanes : Int32) (la_deep : Int32) (la_lanesTold : Int32) (la_firstStrong : Value) (la_beasts : Int32) (la_firstLane : Value) (la_price : Value) (la_cities : Int32) (la_passes : Int32) (la_passBetween : Value) (la_turned : Int32) (la_who : Nat → Int32) (la_kind : Nat → Int32) (la_mood : Nat → Int32) (no_at : Value) (no_dead : Int32) (no_wet : Int32) (no_drawn : Int32) (no_strong : Nat → Int32) (no_wounds : Nat → Int32) (p1 : Int32) (p2 : Int32) (p3 : Int32) (res : Int64) (el_refusal' : Int32) (h : f_X11_worth el_refusal la_lanes la_deep la_beasts la_who la_kind la_mood no_dead no_wet no_strong no_wounds p1 p2 p3 = some (res, el_refusal')) : Met l yX11_worth wo_X11_worth ({ frames := 4, cells := 0, slots := 0, locals := 95 }) (wrPc D cy A [.ref a_el, .int p1, .int p2, .int p3] ([(a_el, .inr (11, [el_tape, .int el_bytes, el_reader, .ref a_la, el_now, el_past, .ref a_od, el_game, el_placing, el_marching, el_trumpets, el_fight, .int el_refusal, .int el_faultTold, .int el_faultPlace])), (a_la, .inr (2, [.int la_lanes, .int la_deep, .int la_lanesTold, .ref a_la_who, la_firstStrong, .int la_beasts, .ref a_la_kind, la_firstLane, .ref a_la_mood, la_price, .int la_cities, .int la_passes, la_passBetween, .int la_turned])), (a_la_who, .inl (cy 1, 6, .inl la_who)), (a_la_kind, .inl (cy 1, 5, .inl la_kind)), (a_la_mood, .inl (cy 1, 5, .inl la_mood)), (a_no, .inr (8, [.ref a_no_strong, no_at, .ref a_no_wounds, .int no_dead, .int no_wet, .int no_drawn])), (a_no_strong, .inl (cy 1, 6, .inl no_strong)), (a_no_wounds, .inl (cy 1, 5, .inl no_wounds)), (a_od, .inr (4, [.ref a_la, .ref a_no]))] ++ X)) (va_Ql (fun (r : Int64) (_ : Unit) => r = res) (wB D A ([(a_el, .inr (11, [el_tape, .int el_bytes, el_reader, .ref a_la, el_now, el_past, .ref a_od, el_game, el_placing, el_marching, el_trumpets, el_fight, .int el_refusal', .int el_faultTold, .int el_faultPlace])), (a_la, .inr (2, [.int la_lanes, .int la_deep, .int la_lanesTold, .ref a_la_who, la_firstStrong, .int la_beasts, .ref a_la_kind, la_firstLane, .ref a_la_mood, la_price, .int la_cities, .int la_passes, la_passBetween, .int la_turned])), (a_la_who, .inl (cy 1, 6, .inl la_who)), (a_la_kind, .inl (cy 1, 5, .inl la_kind)), (a_la_mood, .inl (cy 1, 5, .inl la_mood)), (a_no, .inr (8, [.ref a_no_strong, no_at, .ref a_no_wounds, .int no_dead, .int no_wet, .int no_drawn])), (a_no_strong, .inl (cy 1, 6, .inl no_strong)), (a_no_wounds, .inl (cy 1, 5, .inl no_wounds)), (a_od, .inr (4, [.ref a_la, .ref a_no]))] ++ X)) A) 0 0 A := by
  refine Met.ofW (cc := cX11_worth) (maxL := 4) (ret := (some .long)) (by decide) rfl ?_
  intro p e s m args below meth c s₁ B hml hv
  obtain ⟨rfl, hP, hKN, hD, hA⟩ := hv
  have hK := hKN.1
  have hx := B.exec
  have hb := B.bytes
  have hr := B.returns
  have hts := wt_X11_worth hKN.2.2 (([.ref a_el, .int p1, .int p2, .int p3] : List Value).toArray)
  have hown : s.vm.findClass RX11 = some m.cls := findClass_of_methodNamed B.named
  have hlocks := B.notSynchronized
  have hS : va_S A s.heap s.heap [] := va_S.rf
  have hX11 := wc_X11 hKN.2.2 (([.ref a_el, .int p1, .int p2, .int p3] : List Value).toArray)
  have hl := lv_entry ([.ref a_el, .int p1, .int p2, .int p3]) (n := 4) (Nat.le_of_ble_eq_true rfl)
  rw [lg_entry_eq]
  generalize (lg_sl ([.ref a_el, .int p1, .int p2, .int p3]) ++ List.replicate (4 - (lg_sl ([.ref a_el, .int p1, .int p2, .int p3])).length) Slot.unset).toArray = ls at hl ⊢
  have hl : lv_has ls 4 [(0, .ref a_el), (1, .int p1), (2, .int p2), (3, .int p3)] := hl
  unfold f_X11_worth at h
  refine lv_aload_n hx hb dX11_worth_0 rfl (lv_at hl 0 rfl) ?_
  refine lv_aload_n hx hb dX11_worth_1 rfl (lv_at hl 0 rfl) ?_
  refine lv_iload_n hx hb dX11_worth_2 rfl (lv_at hl 1 rfl) ?_
  refine lv_iload_n hx hb dX11_worth_3 rfl (lv_at hl 2 rfl) ?_
  obtain ⟨r_1, hc_2, h⟩ := bd1_some h
  refine kVi [.int p1, .int p2] [.ref a_el] ⟨hx, hb, hml, hown, hts⟩ (c_X11_meetingTrouble l D cy a_el a_la (el_tape) el_bytes (el_reader) (el_now) (el_past) (.ref a_od) (el_game) (el_placing) (el_marching) (el_trumpets) (el_fight) el_refusal el_faultTold el_faultPlace la_lanes la_deep la_lanesTold (.ref a_la_who) (la_firstStrong) la_beasts (.ref a_la_kind) (la_firstLane) (.ref a_la_mood) (la_price) la_cities la_passes (la_passBetween) la_turned p1 p2 r_1 hc_2) gX11_worth_X11_meetingTrouble rfl hd_X11_meetingTrouble ⟨Nat.le_of_ble_eq_true rfl, Nat.le_of_ble_eq_true rfl⟩ rfl rfl hKN (pXc hP [0, 1] rfl) 11 0 rfl rfl rfl hl.1 rfl (Nat.le_of_ble_eq_true rfl) dX11_worth_4 ⟨Nat.le_of_ble_eq_true rfl, Nat.le_of_ble_eq_true rfl⟩ ?_
  obtain ⟨r_3, el_refusal_4, hc_5, h⟩ := bd2_some h
  refine wVb [.int r_1] [] ⟨hx, hb, hml, hown, hts⟩ (c_X11_isRefused l D cy A ([(a_la, .inr (2, [.int la_lanes, .int la_deep, .int la_lanesTold, .ref a_la_who, la_firstStrong, .int la_beasts, .ref a_la_kind, la_firstLane, .ref a_la_mood, la_price, .int la_cities, .int la_passes, la_passBetween, .int la_turned])), (a_la_who, .inl (cy 1, 6, .inl la_who)), (a_la_kind, .inl (cy 1, 5, .inl la_kind)), (a_la_mood, .inl (cy 1, 5, .inl la_mood)), (a_no, .inr (8, [.ref a_no_strong, no_at, .ref a_no_wounds, .int no_dead, .int no_wet, .int no_drawn])), (a_no_strong, .inl (cy 1, 6, .inl no_strong)), (a_no_wounds, .inl (cy 1, 5, .inl no_wounds)), (a_od, .inr (4, [.ref a_la, .ref a_no]))] ++ X) a_el (el_tape) el_bytes (el_reader) (.ref a_la) (el_now) (el_past) (.ref a_od) (el_game) (el_placing) (el_marching) (el_trumpets) (el_fight) el_refusal el_faultTold el_faultPlace r_1 r_3 el_refusal_4 hc_5) gX11_worth_X11_isRefused rfl hd_X11_isRefused ⟨Nat.le_of_ble_eq_true rfl, Nat.le_of_ble_eq_true rfl⟩ rfl rfl hKN (pX3 hP [0, 1, 2, 3, 4, 5, 6, 7, 8] rfl) (dX3 hD [0, 1, 2, 3, 4, 5, 6, 7, 8] rfl rfl) hS hA 11 0 rfl rfl rfl hl.1 rfl (Nat.le_of_ble_eq_true rfl) dX11_worth_7 ⟨Nat.le_of_ble_eq_true rfl, Nat.le_of_ble_eq_true rfl⟩ (fun nb_6 H locs hP hD hS => ?_)
  have hP := pX4 (L1 := [(a_el, .inr (11, [el_tape, .int el_bytes, el_reader, .ref a_la, el_now, el_past, .ref a_od, el_game, el_placing, el_marching, el_trumpets, el_fight, .int el_refusal_4, .int el_faultTold, .int el_faultPlace])), (a_la, .inr (2, [.int la_lanes, .int la_deep, .int la_lanesTold, .ref a_la_who, la_firstStrong, .int la_beasts, .ref a_la_kind, la_firstLane, .ref a_la_mood, la_price, .int la_cities, .int la_passes, la_passBetween, .int la_turned])), (a_la_who, .inl (cy 1, 6, .inl la_who)), (a_la_kind, .inl (cy 1, 5, .inl la_kind)), (a_la_mood, .inl (cy 1, 5, .inl la_mood)), (a_no, .inr (8, [.ref a_no_strong, no_at, .ref a_no_wounds, .int no_dead, .int no_wet, .int no_drawn])), (a_no_strong, .inl (cy 1, 6, .inl no_strong)), (a_no_wounds, .inl (cy 1, 5, .inl no_wounds)), (a_od, .inr (4, [.ref a_la, .ref a_no]))]) hP [0, 1, 2, 3, 4, 5, 6, 7, 8] rfl
  have hD := dX4 (L1 := [(a_el, .inr (11, [el_tape, .int el_bytes, el_reader, .ref a_la, el_now, el_past, .ref a_od, el_game, el_placing, el_marching, el_trumpets, el_fight, .int el_refusal_4, .int el_faultTold, .int el_faultPlace])), (a_la, .inr (2, [.int la_lanes, .int la_deep, .int la_lanesTold, .ref a_la_who, la_firstStrong, .int la_beasts, .ref a_la_kind, la_firstLane, .ref a_la_mood, la_price, .int la_cities, .int la_passes, la_passBetween, .int la_turned])), (a_la_who, .inl (cy 1, 6, .inl la_who)), (a_la_kind, .inl (cy 1, 5, .inl la_kind)), (a_la_mood, .inl (cy 1, 5, .inl la_mood)), (a_no, .inr (8, [.ref a_no_strong, no_at, .ref a_no_wounds, .int no_dead, .int no_wet, .int no_drawn])), (a_no_strong, .inl (cy 1, 6, .inl no_strong)), (a_no_wounds, .inl (cy 1, 5, .inl no_wounds)), (a_od, .inr (4, [.ref a_la, .ref a_no]))]) hD [0, 1, 2, 3, 4, 5, 6, 7, 8] rfl rfl
  refine lv_if_eq (tgt := 19) hx hb dX11_worth_10 (by decide) (fun cd => ?_) (fun cd => ?_)
  · have h := ifT cd h
    refine lv_aload_n hx hb dX11_worth_19 rfl (lv_at hl 0 rfl) ?_
    refine va_get (D := D) (ci := 11) (C := RX11) (T := TX11) (N := 15) (v := .ref a_od) hx hb hX11 (fun _ q => q) hown hK hP 0 rfl rfl 6 (by decide) (hts (.fieldLink RX11 48 "ElephantLine" "odds" "LElephantLine$Odds;") (by decide +kernel)) (fun _ h9 => h9) rfl dX11_worth_20 ?_
    refine lv_aload_n hx hb dX11_worth_23 rfl (lv_at hl 0 rfl) ?_
    refine va_get (D := D) (ci := 11) (C := RX11) (T := TX11) (N := 15) (v := .ref a_od) hx hb hX11 (fun _ q => q) hown hK hP 0 rfl rfl 6 (by decide) (hts (.fieldLink RX11 48 "ElephantLine" "odds" "LElephantLine$Odds;") (by decide +kernel)) (fun _ h9 => h9) rfl dX11_worth_24 ?_
    refine lv_iload_n hx hb dX11_worth_27 rfl (lv_at hl 1 rfl) ?_
    refine lv_iload_n hx hb dX11_worth_28 rfl (lv_at hl 2 rfl) ?_
    obtain ⟨r_7, hc_8, h⟩ := bd1_some h
    refine kVl [.int p1, .int p2] [.ref a_od] ⟨hx, hb, hml, hown, hts⟩ (c_X4_worthIn l D cy a_la a_la_who a_la_kind a_la_mood a_no a_no_strong a_no_wounds a_od la_lanes la_deep la_lanesTold (la_firstStrong) la_beasts (la_firstLane) (la_price) la_cities la_passes (la_passBetween) la_turned la_who la_kind la_mood (no_at) no_dead no_wet no_drawn no_strong no_wounds p1 p2 r_7 hc_8) gX11_worth_X4_worthIn rfl hd_X4_worthIn ⟨Nat.le_of_ble_eq_true rfl, Nat.le_of_ble_eq_true rfl⟩ rfl rfl hKN (pXc hP [1, 2, 3, 4, 5, 6, 7, 8] rfl) 4 7 rfl rfl rfl hl.1 rfl (Nat.le_of_ble_eq_true rfl) dX11_worth_29 ⟨Nat.le_of_ble_eq_true rfl, Nat.le_of_ble_eq_true rfl⟩ ?_
    refine lv_iload_n hx hb dX11_worth_32 rfl (lv_at hl 3 rfl) ?_
    obtain ⟨r_9, hc_10, h⟩ := bd1_some h
    refine kVl [.long r_7, .int p3] [] ⟨hx, hb, hml, hown, hts⟩ (c_X4_told l D cy a_la a_od la_lanes la_deep la_lanesTold (.ref a_la_who) (la_firstStrong) la_beasts (.ref a_la_kind) (la_firstLane) (.ref a_la_mood) (la_price) la_cities la_passes (la_passBetween) la_turned (.ref a_no) r_7 p3 r_9 hc_10) gX11_worth_X4_told rfl hd_X4_told ⟨Nat.le_of_ble_eq_true rfl, Nat.le_of_ble_eq_true rfl⟩ rfl rfl hKN (pXc hP [1, 8] rfl) 4 1 rfl rfl rfl hl.1 rfl (Nat.le_of_ble_eq_true rfl) dX11_worth_33 ⟨Nat.le_of_ble_eq_true rfl, Nat.le_of_ble_eq_true rfl⟩ ?_
    cases h
    exact W.lret hx hb hr (fun t ht _ => ⟨⟨_, (), rfl, rfl, by rw [ht]; exact hP, hD⟩, hS.F ht⟩) hS.2.2 dX11_worth_36
  · have h := ifF cd h
    refine lv_ldc2 (v := (-9223372036854775808)) hx hb hown (hts (.constantLong RX11 205 (-9223372036854775808)) (by decide +kernel)) dX11_worth_13 ?_
    refine lv_goto (tgt := 36) hx hb dX11_worth_16 (by decide) ?_
    cases h
    exact W.lret hx hb hr (fun t ht _ => ⟨⟨_, (), rfl, rfl, by rw [ht]; exact hP, hD⟩, hS.F ht⟩) hS.2.2 dX11_worth_36
theorem hd_X11_bestLane : yX11_bestLane.cls = RX11 ∧ yX11_bestLane.cls ≠ "java/lang/invoke/MethodHandle" ∧ yX11_bestLane.cls ≠ "java/lang/invoke/VarHandle" ∧ (parseMethodDescriptor yX11_bestLane.desc).map (fun d => d.parameters.length) = some 1 := by decide +kernel
set_option maxHeartbeats 4000000 in
set_option maxRecDepth 100000 in
theorem c_X11_bestLane (l : Launch) (D : va_G) (cy : Nat → ClassId) (A : Nat → Prop) (X : va_W) (a_el a_la a_la_who a_la_kind a_la_mood a_no a_no_strong a_no_wounds a_od : Nat) (el_tape : Value) (el_bytes : Int32) (el_reader : Value) (el_now : Value) (el_past : Value) (el_game : Value) (el_placing : Value) (el_marching : Value) (el_trumpets : Value) (el_fight : Value) (el_refusal : Int32) (el_faultTold : Int32) (el_faultPlace : Int32) (la_lanes : Int32) (la_deep : Int32) (la_lanesTold : Int32) (la_firstStrong : Value) (la_beasts : Int32) (la_firstLane : Value) (la_price : Value) (la_cities : Int32) (la_passes : Int32) (la_passBetween : Value) (la_turned : Int32) (la_who : Nat → Int32) (la_kind : Nat → Int32) (la_mood : Nat → Int32) (no_at : Value) (no_dead : Int32) (no_wet : Int32) (no_drawn : Int32) (no_strong : Nat → Int32) (no_wounds : Nat → Int32) (p1 : Int32) (res : Int32) (el_refusal' : Int32) (h : f_X11_bestLane el_refusal la_lanes la_deep la_beasts la_who la_kind la_mood no_dead no_wet no_strong no_wounds p1 = some (res, el_refusal')) : Met l yX11_bestLane wo_X11_bestLane ({ frames := 5, cells := 0, slots := 0, locals := 122 }) (wrPc D cy A [.ref a_el, .int p1] ([(a_el, .inr (11, [el_tape, .int el_bytes, el_reader, .ref a_la, el_now, el_past, .ref a_od, el_game, el_placing, el_marching, el_trumpets, el_fight, .int el_refusal, .int el_faultTold, .int el_faultPlace])), (a_la, .inr (2, [.int la_lanes, .int la_deep, .int la_lanesTold, .ref a_la_who, la_firstStrong, .int la_beasts, .ref a_la_kind, la_firstLane, .ref a_la_mood, la_price, .int la_cities, .int la_passes, la_passBetween, .int la_turned])), (a_la_who, .inl (cy 1, 6, .inl la_who)), (a_la_kind, .inl (cy 1, 5, .inl la_kind)), (a_la_mood, .inl (cy 1, 5, .inl la_mood)), (a_no, .inr (8, [.ref a_no_strong, no_at, .ref a_no_wounds, .int no_dead, .int no_wet, .int no_drawn])), (a_no_strong, .inl (cy 1, 6, .inl no_strong)), (a_no_wounds, .inl (cy 1, 5, .inl no_wounds)), (a_od, .inr (4, [.ref a_la, .ref a_no]))] ++ X)) (va_Qi (fun (r : Int32) (_ : Unit) => r = res) (wB D A ([(a_el, .inr (11, [el_tape, .int el_bytes, el_reader, .ref a_la, el_now, el_past, .ref a_od, el_game, el_placing, el_marching, el_trumpets, el_fight, .int el_refusal', .int el_faultTold, .int el_faultPlace])), (a_la, .inr (2, [.int la_lanes, .int la_deep, .int la_lanesTold, .ref a_la_who, la_firstStrong, .int la_beasts, .ref a_la_kind, la_firstLane, .ref a_la_mood, la_price, .int la_cities, .int la_passes, la_passBetween, .int la_turned])), (a_la_who, .inl (cy 1, 6, .inl la_who)), (a_la_kind, .inl (cy 1, 5, .inl la_kind)), (a_la_mood, .inl (cy 1, 5, .inl la_mood)), (a_no, .inr (8, [.ref a_no_strong, no_at, .ref a_no_wounds, .int no_dead, .int no_wet, .int no_drawn])), (a_no_strong, .inl (cy 1, 6, .inl no_strong)), (a_no_wounds, .inl (cy 1, 5, .inl no_wounds)), (a_od, .inr (4, [.ref a_la, .ref a_no]))] ++ X)) A) 0 0 A := by
  refine Met.ofW (cc := cX11_bestLane) (maxL := 2) (ret := (some .int)) (by decide) rfl ?_
  intro p e s m args below meth c s₁ B hml hv
  obtain ⟨rfl, hP, hKN, hD, hA⟩ := hv
  have hK := hKN.1
  have hx := B.exec
  have hb := B.bytes
  have hr := B.returns
  have hts := wt_X11_bestLane hKN.2.2 (([.ref a_el, .int p1] : List Value).toArray)
  have hown : s.vm.findClass RX11 = some m.cls := findClass_of_methodNamed B.named
  have hlocks := B.notSynchronized
  have hS : va_S A s.heap s.heap [] := va_S.rf
  have hX11 := wc_X11 hKN.2.2 (([.ref a_el, .int p1] : List Value).toArray)
  have hl := lv_entry ([.ref a_el, .int p1]) (n := 2) (Nat.le_of_ble_eq_true rfl)
  rw [lg_entry_eq]
  generalize (lg_sl ([.ref a_el, .int p1]) ++ List.replicate (2 - (lg_sl ([.ref a_el, .int p1])).length) Slot.unset).toArray = ls at hl ⊢
  have hl : lv_has ls 2 [(0, .ref a_el), (1, .int p1)] := hl
  unfold f_X11_bestLane at h
  refine lv_aload_n hx hb dX11_bestLane_0 rfl (lv_at hl 0 rfl) ?_
  refine lv_aload_n hx hb dX11_bestLane_1 rfl (lv_at hl 0 rfl) ?_
  refine lv_iload_n hx hb dX11_bestLane_2 rfl (lv_at hl 1 rfl) ?_
  obtain ⟨r_1, hc_2, h⟩ := bd1_some h
  refine kVi [.int p1] [.ref a_el] ⟨hx, hb, hml, hown, hts⟩ (c_X11_beastTrouble l D cy a_el a_la (el_tape) el_bytes (el_reader) (el_now) (el_past) (.ref a_od) (el_game) (el_placing) (el_marching) (el_trumpets) (el_fight) el_refusal el_faultTold el_faultPlace la_lanes la_deep la_lanesTold (.ref a_la_who) (la_firstStrong) la_beasts (.ref a_la_kind) (la_firstLane) (.ref a_la_mood) (la_price) la_cities la_passes (la_passBetween) la_turned p1 r_1 hc_2) gX11_bestLane_X11_beastTrouble rfl hd_X11_beastTrouble ⟨Nat.le_of_ble_eq_true rfl, Nat.le_of_ble_eq_true rfl⟩ rfl rfl hKN (pXc hP [0, 1] rfl) 11 0 rfl rfl rfl hl.1 rfl (Nat.le_of_ble_eq_true rfl) dX11_bestLane_3 ⟨Nat.le_of_ble_eq_true rfl, Nat.le_of_ble_eq_true rfl⟩ ?_
  obtain ⟨r_3, el_refusal_4, hc_5, h⟩ := bd2_some h
  refine wVb [.int r_1] [] ⟨hx, hb, hml, hown, hts⟩ (c_X11_isRefused l D cy A ([(a_la, .inr (2, [.int la_lanes, .int la_deep, .int la_lanesTold, .ref a_la_who, la_firstStrong, .int la_beasts, .ref a_la_kind, la_firstLane, .ref a_la_mood, la_price, .int la_cities, .int la_passes, la_passBetween, .int la_turned])), (a_la_who, .inl (cy 1, 6, .inl la_who)), (a_la_kind, .inl (cy 1, 5, .inl la_kind)), (a_la_mood, .inl (cy 1, 5, .inl la_mood)), (a_no, .inr (8, [.ref a_no_strong, no_at, .ref a_no_wounds, .int no_dead, .int no_wet, .int no_drawn])), (a_no_strong, .inl (cy 1, 6, .inl no_strong)), (a_no_wounds, .inl (cy 1, 5, .inl no_wounds)), (a_od, .inr (4, [.ref a_la, .ref a_no]))] ++ X) a_el (el_tape) el_bytes (el_reader) (.ref a_la) (el_now) (el_past) (.ref a_od) (el_game) (el_placing) (el_marching) (el_trumpets) (el_fight) el_refusal el_faultTold el_faultPlace r_1 r_3 el_refusal_4 hc_5) gX11_bestLane_X11_isRefused rfl hd_X11_isRefused ⟨Nat.le_of_ble_eq_true rfl, Nat.le_of_ble_eq_true rfl⟩ rfl rfl hKN (pX3 hP [0, 1, 2, 3, 4, 5, 6, 7, 8] rfl) (dX3 hD [0, 1, 2, 3, 4, 5, 6, 7, 8] rfl rfl) hS hA 11 0 rfl rfl rfl hl.1 rfl (Nat.le_of_ble_eq_true rfl) dX11_bestLane_6 ⟨Nat.le_of_ble_eq_true rfl, Nat.le_of_ble_eq_true rfl⟩ (fun nb_6 H locs hP hD hS => ?_)
  have hP := pX4 (L1 := [(a_el, .inr (11, [el_tape, .int el_bytes, el_reader, .ref a_la, el_now, el_past, .ref a_od, el_game, el_placing, el_marching, el_trumpets, el_fight, .int el_refusal_4, .int el_faultTold, .int el_faultPlace])), (a_la, .inr (2, [.int la_lanes, .int la_deep, .int la_lanesTold, .ref a_la_who, la_firstStrong, .int la_beasts, .ref a_la_kind, la_firstLane, .ref a_la_mood, la_price, .int la_cities, .int la_passes, la_passBetween, .int la_turned])), (a_la_who, .inl (cy 1, 6, .inl la_who)), (a_la_kind, .inl (cy 1, 5, .inl la_kind)), (a_la_mood, .inl (cy 1, 5, .inl la_mood)), (a_no, .inr (8, [.ref a_no_strong, no_at, .ref a_no_wounds, .int no_dead, .int no_wet, .int no_drawn])), (a_no_strong, .inl (cy 1, 6, .inl no_strong)), (a_no_wounds, .inl (cy 1, 5, .inl no_wounds)), (a_od, .inr (4, [.ref a_la, .ref a_no]))]) hP [0, 1, 2, 3, 4, 5, 6, 7, 8] rfl
  have hD := dX4 (L1 := [(a_el, .inr (11, [el_tape, .int el_bytes, el_reader, .ref a_la, el_now, el_past, .ref a_od, el_game, el_placing, el_marching, el_trumpets, el_fight, .int el_refusal_4, .int el_faultTold, .int el_faultPlace])), (a_la, .inr (2, [.int la_lanes, .int la_deep, .int la_lanesTold, .ref a_la_who, la_firstStrong, .int la_beasts, .ref a_la_kind, la_firstLane, .ref a_la_mood, la_price, .int la_cities, .int la_passes, la_passBetween, .int la_turned])), (a_la_who, .inl (cy 1, 6, .inl la_who)), (a_la_kind, .inl (cy 1, 5, .inl la_kind)), (a_la_mood, .inl (cy 1, 5, .inl la_mood)), (a_no, .inr (8, [.ref a_no_strong, no_at, .ref a_no_wounds, .int no_dead, .int no_wet, .int no_drawn])), (a_no_strong, .inl (cy 1, 6, .inl no_strong)), (a_no_wounds, .inl (cy 1, 5, .inl no_wounds)), (a_od, .inr (4, [.ref a_la, .ref a_no]))]) hD [0, 1, 2, 3, 4, 5, 6, 7, 8] rfl rfl
  refine lv_if_eq (tgt := 16) hx hb dX11_bestLane_9 (by decide) (fun cd => ?_) (fun cd => ?_)
  · have h := ifT cd h
    refine lv_aload_n hx hb dX11_bestLane_16 rfl (lv_at hl 0 rfl) ?_
    refine va_get (D := D) (ci := 11) (C := RX11) (T := TX11) (N := 15) (v := .ref a_od) hx hb hX11 (fun _ q => q) hown hK hP 0 rfl rfl 6 (by decide) (hts (.fieldLink RX11 48 "ElephantLine" "odds" "LElephantLine$Odds;") (by decide +kernel)) (fun _ h9 => h9) rfl dX11_bestLane_17 ?_
    refine lv_iload_n hx hb dX11_bestLane_20 rfl (lv_at hl 1 rfl) ?_
    obtain ⟨r_7, hc_8, h⟩ := bd1_some h
    refine kVi [.int p1] [] ⟨hx, hb, hml, hown, hts⟩ (c_X4_laneOfMostWorth l D cy a_la a_la_who a_la_kind a_la_mood a_no a_no_strong a_no_wounds a_od la_lanes la_deep la_lanesTold (la_firstStrong) la_beasts (la_firstLane) (la_price) la_cities la_passes (la_passBetween) la_turned la_who la_kind la_mood (no_at) no_dead no_wet no_drawn no_strong no_wounds p1 r_7 hc_8) gX11_bestLane_X4_laneOfMostWorth rfl hd_X4_laneOfMostWorth ⟨Nat.le_of_ble_eq_true rfl, Nat.le_of_ble_eq_true rfl⟩ rfl rfl hKN (pXc hP [1, 2, 3, 4, 5, 6, 7, 8] rfl) 4 7 rfl rfl rfl hl.1 rfl (Nat.le_of_ble_eq_true rfl) dX11_bestLane_21 ⟨Nat.le_of_ble_eq_true rfl, Nat.le_of_ble_eq_true rfl⟩ ?_
    cases h
    exact W.iret hx hb hr (fun t ht _ => ⟨⟨_, (), rfl, rfl, by rw [ht]; exact hP, hD⟩, hS.F ht⟩) hS.2.2 dX11_bestLane_24
  · have h := ifF cd h
    refine lv_iconst (v := (-1)) hx hb dX11_bestLane_12 (by decide) ?_
    refine lv_goto (tgt := 24) hx hb dX11_bestLane_13 (by decide) ?_
    cases h
    exact W.iret hx hb hr (fun t ht _ => ⟨⟨_, (), rfl, rfl, by rw [ht]; exact hP, hD⟩, hS.F ht⟩) hS.2.2 dX11_bestLane_24
theorem hd_X11_all : yX11_all.cls = RX11 ∧ yX11_all.cls ≠ "java/lang/invoke/MethodHandle" ∧ yX11_all.cls ≠ "java/lang/invoke/VarHandle" ∧ (parseMethodDescriptor yX11_all.desc).map (fun d => d.parameters.length) = some 2 := by decide +kernel
set_option maxHeartbeats 4000000 in
set_option maxRecDepth 100000 in
theorem c_X11_all (l : Launch) (D : va_G) (cy : Nat → ClassId) (A : Nat → Prop) (X : va_W) (a_el a_la a_la_who a_la_kind a_la_mood a_no a_no_strong a_no_at a_no_wounds a_od : Nat) (el_tape : Value) (el_bytes : Int32) (el_reader : Value) (el_now : Value) (el_past : Value) (el_game : Value) (el_placing : Value) (el_marching : Value) (el_trumpets : Value) (el_fight : Value) (el_refusal : Int32) (el_faultTold : Int32) (el_faultPlace : Int32) (la_lanes : Int32) (la_deep : Int32) (la_lanesTold : Int32) (la_firstStrong : Value) (la_beasts : Int32) (la_firstLane : Value) (la_price : Value) (la_cities : Int32) (la_passes : Int32) (la_passBetween : Value) (la_turned : Int32) (la_who : Nat → Int32) (la_kind : Nat → Int32) (la_mood : Nat → Int32) (no_dead : Int32) (no_wet : Int32) (no_drawn : Int32) (no_strong : Nat → Int32) (no_at : Nat → Int32) (no_wounds : Nat → Int32) (p1 : Int32) (p2 : Int32) (res : Int64) (el_refusal' : Int32) (h : f_X11_all el_refusal la_lanes la_deep la_beasts la_who la_kind la_mood no_dead no_wet no_strong no_at no_wounds p1 p2 = some (res, el_refusal')) : Met l yX11_all wo_X11_all ({ frames := 6, cells := 0, slots := 0, locals := 129 }) (wrPc D cy A [.ref a_el, .int p1, .int p2] ([(a_el, .inr (11, [el_tape, .int el_bytes, el_reader, .ref a_la, el_now, el_past, .ref a_od, el_game, el_placing, el_marching, el_trumpets, el_fight, .int el_refusal, .int el_faultTold, .int el_faultPlace])), (a_la, .inr (2, [.int la_lanes, .int la_deep, .int la_lanesTold, .ref a_la_who, la_firstStrong, .int la_beasts, .ref a_la_kind, la_firstLane, .ref a_la_mood, la_price, .int la_cities, .int la_passes, la_passBetween, .int la_turned])), (a_la_who, .inl (cy 1, 6, .inl la_who)), (a_la_kind, .inl (cy 1, 5, .inl la_kind)), (a_la_mood, .inl (cy 1, 5, .inl la_mood)), (a_no, .inr (8, [.ref a_no_strong, .ref a_no_at, .ref a_no_wounds, .int no_dead, .int no_wet, .int no_drawn])), (a_no_strong, .inl (cy 1, 6, .inl no_strong)), (a_no_at, .inl (cy 1, 5, .inl no_at)), (a_no_wounds, .inl (cy 1, 5, .inl no_wounds)), (a_od, .inr (4, [.ref a_la, .ref a_no]))] ++ X)) (va_Ql (fun (r : Int64) (_ : Unit) => r = res) (wB D A ([(a_el, .inr (11, [el_tape, .int el_bytes, el_reader, .ref a_la, el_now, el_past, .ref a_od, el_game, el_placing, el_marching, el_trumpets, el_fight, .int el_refusal', .int el_faultTold, .int el_faultPlace])), (a_la, .inr (2, [.int la_lanes, .int la_deep, .int la_lanesTold, .ref a_la_who, la_firstStrong, .int la_beasts, .ref a_la_kind, la_firstLane, .ref a_la_mood, la_price, .int la_cities, .int la_passes, la_passBetween, .int la_turned])), (a_la_who, .inl (cy 1, 6, .inl la_who)), (a_la_kind, .inl (cy 1, 5, .inl la_kind)), (a_la_mood, .inl (cy 1, 5, .inl la_mood)), (a_no, .inr (8, [.ref a_no_strong, .ref a_no_at, .ref a_no_wounds, .int no_dead, .int no_wet, .int no_drawn])), (a_no_strong, .inl (cy 1, 6, .inl no_strong)), (a_no_at, .inl (cy 1, 5, .inl no_at)), (a_no_wounds, .inl (cy 1, 5, .inl no_wounds)), (a_od, .inr (4, [.ref a_la, .ref a_no]))] ++ X)) A) 0 0 A := by
  refine Met.ofW (cc := cX11_all) (maxL := 3) (ret := (some .long)) (by decide) rfl ?_
  intro p e s m args below meth c s₁ B hml hv
  obtain ⟨rfl, hP, hKN, hD, hA⟩ := hv
  have hK := hKN.1
  have hx := B.exec
  have hb := B.bytes
  have hr := B.returns
  have hts := wt_X11_all hKN.2.2 (([.ref a_el, .int p1, .int p2] : List Value).toArray)
  have hown : s.vm.findClass RX11 = some m.cls := findClass_of_methodNamed B.named
  have hlocks := B.notSynchronized
  have hS : va_S A s.heap s.heap [] := va_S.rf
  have hX11 := wc_X11 hKN.2.2 (([.ref a_el, .int p1, .int p2] : List Value).toArray)
  have hl := lv_entry ([.ref a_el, .int p1, .int p2]) (n := 3) (Nat.le_of_ble_eq_true rfl)
  rw [lg_entry_eq]
  generalize (lg_sl ([.ref a_el, .int p1, .int p2]) ++ List.replicate (3 - (lg_sl ([.ref a_el, .int p1, .int p2])).length) Slot.unset).toArray = ls at hl ⊢
  have hl : lv_has ls 3 [(0, .ref a_el), (1, .int p1), (2, .int p2)] := hl
  unfold f_X11_all at h
  refine lv_aload_n hx hb dX11_all_0 rfl (lv_at hl 0 rfl) ?_
  refine lv_aload_n hx hb dX11_all_1 rfl (lv_at hl 0 rfl) ?_
  obtain ⟨r_1, hc_2, h⟩ := bd1_some h
  refine kVi [] [.ref a_el] ⟨hx, hb, hml, hown, hts⟩ (c_X11_warTrouble l D cy a_el a_la (el_tape) el_bytes (el_reader) (el_now) (el_past) (.ref a_od) (el_game) (el_placing) (el_marching) (el_trumpets) (el_fight) el_refusal el_faultTold el_faultPlace la_lanes la_deep la_lanesTold (.ref a_la_who) (la_firstStrong) la_beasts (.ref a_la_kind) (la_firstLane) (.ref a_la_mood) (la_price) la_cities la_passes (la_passBetween) la_turned r_1 hc_2) gX11_all_X11_warTrouble rfl hd_X11_warTrouble ⟨Nat.le_of_ble_eq_true rfl, Nat.le_of_ble_eq_true rfl⟩ rfl rfl hKN (pXc hP [0, 1] rfl) 11 0 rfl rfl rfl hl.1 rfl (Nat.le_of_ble_eq_true rfl) dX11_all_2 ⟨Nat.le_of_ble_eq_true rfl, Nat.le_of_ble_eq_true rfl⟩ ?_
  obtain ⟨r_3, el_refusal_4, hc_5, h⟩ := bd2_some h
  refine wVb [.int r_1] [] ⟨hx, hb, hml, hown, hts⟩ (c_X11_isRefused l D cy A ([(a_la, .inr (2, [.int la_lanes, .int la_deep, .int la_lanesTold, .ref a_la_who, la_firstStrong, .int la_beasts, .ref a_la_kind, la_firstLane, .ref a_la_mood, la_price, .int la_cities, .int la_passes, la_passBetween, .int la_turned])), (a_la_who, .inl (cy 1, 6, .inl la_who)), (a_la_kind, .inl (cy 1, 5, .inl la_kind)), (a_la_mood, .inl (cy 1, 5, .inl la_mood)), (a_no, .inr (8, [.ref a_no_strong, .ref a_no_at, .ref a_no_wounds, .int no_dead, .int no_wet, .int no_drawn])), (a_no_strong, .inl (cy 1, 6, .inl no_strong)), (a_no_at, .inl (cy 1, 5, .inl no_at)), (a_no_wounds, .inl (cy 1, 5, .inl no_wounds)), (a_od, .inr (4, [.ref a_la, .ref a_no]))] ++ X) a_el (el_tape) el_bytes (el_reader) (.ref a_la) (el_now) (el_past) (.ref a_od) (el_game) (el_placing) (el_marching) (el_trumpets) (el_fight) el_refusal el_faultTold el_faultPlace r_1 r_3 el_refusal_4 hc_5) gX11_all_X11_isRefused rfl hd_X11_isRefused ⟨Nat.le_of_ble_eq_true rfl, Nat.le_of_ble_eq_true rfl⟩ rfl rfl hKN (pX3 hP [0, 1, 2, 3, 4, 5, 6, 7, 8, 9] rfl) (dX3 hD [0, 1, 2, 3, 4, 5, 6, 7, 8, 9] rfl rfl) hS hA 11 0 rfl rfl rfl hl.1 rfl (Nat.le_of_ble_eq_true rfl) dX11_all_5 ⟨Nat.le_of_ble_eq_true rfl, Nat.le_of_ble_eq_true rfl⟩ (fun nb_6 H locs hP hD hS => ?_)
  have hP := pX4 (L1 := [(a_el, .inr (11, [el_tape, .int el_bytes, el_reader, .ref a_la, el_now, el_past, .ref a_od, el_game, el_placing, el_marching, el_trumpets, el_fight, .int el_refusal_4, .int el_faultTold, .int el_faultPlace])), (a_la, .inr (2, [.int la_lanes, .int la_deep, .int la_lanesTold, .ref a_la_who, la_firstStrong, .int la_beasts, .ref a_la_kind, la_firstLane, .ref a_la_mood, la_price, .int la_cities, .int la_passes, la_passBetween, .int la_turned])), (a_la_who, .inl (cy 1, 6, .inl la_who)), (a_la_kind, .inl (cy 1, 5, .inl la_kind)), (a_la_mood, .inl (cy 1, 5, .inl la_mood)), (a_no, .inr (8, [.ref a_no_strong, .ref a_no_at, .ref a_no_wounds, .int no_dead, .int no_wet, .int no_drawn])), (a_no_strong, .inl (cy 1, 6, .inl no_strong)), (a_no_at, .inl (cy 1, 5, .inl no_at)), (a_no_wounds, .inl (cy 1, 5, .inl no_wounds)), (a_od, .inr (4, [.ref a_la, .ref a_no]))]) hP [0, 1, 2, 3, 4, 5, 6, 7, 8, 9] rfl
  have hD := dX4 (L1 := [(a_el, .inr (11, [el_tape, .int el_bytes, el_reader, .ref a_la, el_now, el_past, .ref a_od, el_game, el_placing, el_marching, el_trumpets, el_fight, .int el_refusal_4, .int el_faultTold, .int el_faultPlace])), (a_la, .inr (2, [.int la_lanes, .int la_deep, .int la_lanesTold, .ref a_la_who, la_firstStrong, .int la_beasts, .ref a_la_kind, la_firstLane, .ref a_la_mood, la_price, .int la_cities, .int la_passes, la_passBetween, .int la_turned])), (a_la_who, .inl (cy 1, 6, .inl la_who)), (a_la_kind, .inl (cy 1, 5, .inl la_kind)), (a_la_mood, .inl (cy 1, 5, .inl la_mood)), (a_no, .inr (8, [.ref a_no_strong, .ref a_no_at, .ref a_no_wounds, .int no_dead, .int no_wet, .int no_drawn])), (a_no_strong, .inl (cy 1, 6, .inl no_strong)), (a_no_at, .inl (cy 1, 5, .inl no_at)), (a_no_wounds, .inl (cy 1, 5, .inl no_wounds)), (a_od, .inr (4, [.ref a_la, .ref a_no]))]) hD [0, 1, 2, 3, 4, 5, 6, 7, 8, 9] rfl rfl
  refine lv_if_eq (tgt := 17) hx hb dX11_all_8 (by decide) (fun cd => ?_) (fun cd => ?_)
  · have h := ifT cd h
    refine lv_aload_n hx hb dX11_all_17 rfl (lv_at hl 0 rfl) ?_
    refine va_get (D := D) (ci := 11) (C := RX11) (T := TX11) (N := 15) (v := .ref a_od) hx hb hX11 (fun _ q => q) hown hK hP 0 rfl rfl 6 (by decide) (hts (.fieldLink RX11 48 "ElephantLine" "odds" "LElephantLine$Odds;") (by decide +kernel)) (fun _ h9 => h9) rfl dX11_all_18 ?_
    refine lv_aload_n hx hb dX11_all_21 rfl (lv_at hl 0 rfl) ?_
    refine va_get (D := D) (ci := 11) (C := RX11) (T := TX11) (N := 15) (v := .ref a_od) hx hb hX11 (fun _ q => q) hown hK hP 0 rfl rfl 6 (by decide) (hts (.fieldLink RX11 48 "ElephantLine" "odds" "LElephantLine$Odds;") (by decide +kernel)) (fun _ h9 => h9) rfl dX11_all_22 ?_
    refine lv_iload_n hx hb dX11_all_25 rfl (lv_at hl 1 rfl) ?_
    obtain ⟨r_7, hc_8, h⟩ := bd1_some h
    refine kVl [.int p1] [.ref a_od] ⟨hx, hb, hml, hown, hts⟩ (c_X4_sumOfMeans l D cy a_la a_la_who a_la_kind a_la_mood a_no a_no_strong a_no_at a_no_wounds a_od la_lanes la_deep la_lanesTold (la_firstStrong) la_beasts (la_firstLane) (la_price) la_cities la_passes (la_passBetween) la_turned la_who la_kind la_mood no_dead no_wet no_drawn no_strong no_at no_wounds p1 r_7 hc_8) gX11_all_X4_sumOfMeans rfl hd_X4_sumOfMeans ⟨Nat.le_of_ble_eq_true rfl, Nat.le_of_ble_eq_true rfl⟩ rfl rfl hKN (pXc hP [1, 2, 3, 4, 5, 6, 7, 8, 9] rfl) 4 8 rfl rfl rfl hl.1 rfl (Nat.le_of_ble_eq_true rfl) dX11_all_26 ⟨Nat.le_of_ble_eq_true rfl, Nat.le_of_ble_eq_true rfl⟩ ?_
    refine lv_iload_n hx hb dX11_all_29 rfl (lv_at hl 2 rfl) ?_
    obtain ⟨r_9, hc_10, h⟩ := bd1_some h
    refine kVl [.long r_7, .int p2] [] ⟨hx, hb, hml, hown, hts⟩ (c_X4_told l D cy a_la a_od la_lanes la_deep la_lanesTold (.ref a_la_who) (la_firstStrong) la_beasts (.ref a_la_kind) (la_firstLane) (.ref a_la_mood) (la_price) la_cities la_passes (la_passBetween) la_turned (.ref a_no) r_7 p2 r_9 hc_10) gX11_all_X4_told rfl hd_X4_told ⟨Nat.le_of_ble_eq_true rfl, Nat.le_of_ble_eq_true rfl⟩ rfl rfl hKN (pXc hP [1, 9] rfl) 4 1 rfl rfl rfl hl.1 rfl (Nat.le_of_ble_eq_true rfl) dX11_all_30 ⟨Nat.le_of_ble_eq_true rfl, Nat.le_of_ble_eq_true rfl⟩ ?_
    cases h
    exact W.lret hx hb hr (fun t ht _ => ⟨⟨_, (), rfl, rfl, by rw [ht]; exact hP, hD⟩, hS.F ht⟩) hS.2.2 dX11_all_33
  · have h := ifF cd h
    refine lv_ldc2 (v := (-1)) hx hb hown (hts (.constantLong RX11 182 (-1)) (by decide +kernel)) dX11_all_11 ?_
    refine lv_goto (tgt := 33) hx hb dX11_all_14 (by decide) ?_
    cases h
    exact W.lret hx hb hr (fun t ht _ => ⟨⟨_, (), rfl, rfl, by rw [ht]; exact hP, hD⟩, hS.F ht⟩) hS.2.2 dX11_all_33
theorem hd_X11_worst : yX11_worst.cls = RX11 ∧ yX11_worst.cls ≠ "java/lang/invoke/MethodHandle" ∧ yX11_worst.cls ≠ "java/lang/invoke/VarHandle" ∧ (parseMethodDescriptor yX11_worst.desc).map (fun d => d.parameters.length) = some 0 := by decide +kernel
set_option maxHeartbeats 4000000 in
set_option maxRecDepth 100000 in
theorem c_X11_worst (l : Launch) (D : va_G) (cy : Nat → ClassId) (A : Nat → Prop) (X : va_W) (a_el a_la a_la_who a_la_kind a_la_mood a_no a_no_strong a_no_at a_no_wounds a_od : Nat) (el_tape : Value) (el_bytes : Int32) (el_reader : Value) (el_now : Value) (el_past : Value) (el_game : Value) (el_placing : Value) (el_marching : Value) (el_trumpets : Value) (el_fight : Value) (el_refusal : Int32) (el_faultTold : Int32) (el_faultPlace : Int32) (la_lanes : Int32) (la_deep : Int32) (la_lanesTold : Int32) (la_firstStrong : Value) (la_beasts : Int32) (la_firstLane : Value) (la_price : Value) (la_cities : Int32) (la_passes : Int32) (la_passBetween : Value) (la_turned : Int32) (la_who : Nat → Int32) (la_kind : Nat → Int32) (la_mood : Nat → Int32) (no_dead : Int32) (no_wet : Int32) (no_drawn : Int32) (no_strong : Nat → Int32) (no_at : Nat → Int32) (no_wounds : Nat → Int32) (res : Int32) (el_refusal' : Int32) (h : f_X11_worst el_refusal la_lanes la_deep la_beasts la_who la_kind la_mood no_dead no_wet no_strong no_at no_wounds = some (res, el_refusal')) : Met l yX11_worst wo_X11_worst ({ frames := 6, cells := 0, slots := 0, locals := 131 }) (wrPc D cy A [.ref a_el] ([(a_el, .inr (11, [el_tape, .int el_bytes, el_reader, .ref a_la, el_now, el_past, .ref a_od, el_game, el_placing, el_marching, el_trumpets, el_fight, .int el_refusal, .int el_faultTold, .int el_faultPlace])), (a_la, .inr (2, [.int la_lanes, .int la_deep, .int la_lanesTold, .ref a_la_who, la_firstStrong, .int la_beasts, .ref a_la_kind, la_firstLane, .ref a_la_mood, la_price, .int la_cities, .int la_passes, la_passBetween, .int la_turned])), (a_la_who, .inl (cy 1, 6, .inl la_who)), (a_la_kind, .inl (cy 1, 5, .inl la_kind)), (a_la_mood, .inl (cy 1, 5, .inl la_mood)), (a_no, .inr (8, [.ref a_no_strong, .ref a_no_at, .ref a_no_wounds, .int no_dead, .int no_wet, .int no_drawn])), (a_no_strong, .inl (cy 1, 6, .inl no_strong)), (a_no_at, .inl (cy 1, 5, .inl no_at)), (a_no_wounds, .inl (cy 1, 5, .inl no_wounds)), (a_od, .inr (4, [.ref a_la, .ref a_no]))] ++ X)) (va_Qi (fun (r : Int32) (_ : Unit) => r = res) (wB D A ([(a_el, .inr (11, [el_tape, .int el_bytes, el_reader, .ref a_la, el_now, el_past, .ref a_od, el_game, el_placing, el_marching, el_trumpets, el_fight, .int el_refusal', .int el_faultTold, .int el_faultPlace])), (a_la, .inr (2, [.int la_lanes, .int la_deep, .int la_lanesTold, .ref a_la_who, la_firstStrong, .int la_beasts, .ref a_la_kind, la_firstLane, .ref a_la_mood, la_price, .int la_cities, .int la_passes, la_passBetween, .int la_turned])), (a_la_who, .inl (cy 1, 6, .inl la_who)), (a_la_kind, .inl (cy 1, 5, .inl la_kind)), (a_la_mood, .inl (cy 1, 5, .inl la_mood)), (a_no, .inr (8, [.ref a_no_strong, .ref a_no_at, .ref a_no_wounds, .int no_dead, .int no_wet, .int no_drawn])), (a_no_strong, .inl (cy 1, 6, .inl no_strong)), (a_no_at, .inl (cy 1, 5, .inl no_at)), (a_no_wounds, .inl (cy 1, 5, .inl no_wounds)), (a_od, .inr (4, [.ref a_la, .ref a_no]))] ++ X)) A) 0 0 A := by
  refine Met.ofW (cc := cX11_worst) (maxL := 1) (ret := (some .int)) (by decide) rfl ?_
  intro p e s m args below meth c s₁ B hml hv
  obtain ⟨rfl, hP, hKN, hD, hA⟩ := hv
  have hK := hKN.1
  have hx := B.exec
  have hb := B.bytes
  have hr := B.returns
  have hts := wt_X11_worst hKN.2.2 (([.ref a_el] : List Value).toArray)
  have hown : s.vm.findClass RX11 = some m.cls := findClass_of_methodNamed B.named
  have hlocks := B.notSynchronized
  have hS : va_S A s.heap s.heap [] := va_S.rf
  have hX11 := wc_X11 hKN.2.2 (([.ref a_el] : List Value).toArray)
  have hl := lv_entry ([.ref a_el]) (n := 1) (Nat.le_of_ble_eq_true rfl)
  rw [lg_entry_eq]
  generalize (lg_sl ([.ref a_el]) ++ List.replicate (1 - (lg_sl ([.ref a_el])).length) Slot.unset).toArray = ls at hl ⊢
  have hl : lv_has ls 1 [(0, .ref a_el)] := hl
  unfold f_X11_worst at h
  refine lv_aload_n hx hb dX11_worst_0 rfl (lv_at hl 0 rfl) ?_
  refine lv_aload_n hx hb dX11_worst_1 rfl (lv_at hl 0 rfl) ?_
  obtain ⟨r_1, hc_2, h⟩ := bd1_some h
  refine kVi [] [.ref a_el] ⟨hx, hb, hml, hown, hts⟩ (c_X11_warTrouble l D cy a_el a_la (el_tape) el_bytes (el_reader) (el_now) (el_past) (.ref a_od) (el_game) (el_placing) (el_marching) (el_trumpets) (el_fight) el_refusal el_faultTold el_faultPlace la_lanes la_deep la_lanesTold (.ref a_la_who) (la_firstStrong) la_beasts (.ref a_la_kind) (la_firstLane) (.ref a_la_mood) (la_price) la_cities la_passes (la_passBetween) la_turned r_1 hc_2) gX11_worst_X11_warTrouble rfl hd_X11_warTrouble ⟨Nat.le_of_ble_eq_true rfl, Nat.le_of_ble_eq_true rfl⟩ rfl rfl hKN (pXc hP [0, 1] rfl) 11 0 rfl rfl rfl hl.1 rfl (Nat.le_of_ble_eq_true rfl) dX11_worst_2 ⟨Nat.le_of_ble_eq_true rfl, Nat.le_of_ble_eq_true rfl⟩ ?_
  obtain ⟨r_3, el_refusal_4, hc_5, h⟩ := bd2_some h
  refine wVb [.int r_1] [] ⟨hx, hb, hml, hown, hts⟩ (c_X11_isRefused l D cy A ([(a_la, .inr (2, [.int la_lanes, .int la_deep, .int la_lanesTold, .ref a_la_who, la_firstStrong, .int la_beasts, .ref a_la_kind, la_firstLane, .ref a_la_mood, la_price, .int la_cities, .int la_passes, la_passBetween, .int la_turned])), (a_la_who, .inl (cy 1, 6, .inl la_who)), (a_la_kind, .inl (cy 1, 5, .inl la_kind)), (a_la_mood, .inl (cy 1, 5, .inl la_mood)), (a_no, .inr (8, [.ref a_no_strong, .ref a_no_at, .ref a_no_wounds, .int no_dead, .int no_wet, .int no_drawn])), (a_no_strong, .inl (cy 1, 6, .inl no_strong)), (a_no_at, .inl (cy 1, 5, .inl no_at)), (a_no_wounds, .inl (cy 1, 5, .inl no_wounds)), (a_od, .inr (4, [.ref a_la, .ref a_no]))] ++ X) a_el (el_tape) el_bytes (el_reader) (.ref a_la) (el_now) (el_past) (.ref a_od) (el_game) (el_placing) (el_marching) (el_trumpets) (el_fight) el_refusal el_faultTold el_faultPlace r_1 r_3 el_refusal_4 hc_5) gX11_worst_X11_isRefused rfl hd_X11_isRefused ⟨Nat.le_of_ble_eq_true rfl, Nat.le_of_ble_eq_true rfl⟩ rfl rfl hKN (pX3 hP [0, 1, 2, 3, 4, 5, 6, 7, 8, 9] rfl) (dX3 hD [0, 1, 2, 3, 4, 5, 6, 7, 8, 9] rfl rfl) hS hA 11 0 rfl rfl rfl hl.1 rfl (Nat.le_of_ble_eq_true rfl) dX11_worst_5 ⟨Nat.le_of_ble_eq_true rfl, Nat.le_of_ble_eq_true rfl⟩ (fun nb_6 H locs hP hD hS => ?_)
  have hP := pX4 (L1 := [(a_el, .inr (11, [el_tape, .int el_bytes, el_reader, .ref a_la, el_now, el_past, .ref a_od, el_game, el_placing, el_marching, el_trumpets, el_fight, .int el_refusal_4, .int el_faultTold, .int el_faultPlace])), (a_la, .inr (2, [.int la_lanes, .int la_deep, .int la_lanesTold, .ref a_la_who, la_firstStrong, .int la_beasts, .ref a_la_kind, la_firstLane, .ref a_la_mood, la_price, .int la_cities, .int la_passes, la_passBetween, .int la_turned])), (a_la_who, .inl (cy 1, 6, .inl la_who)), (a_la_kind, .inl (cy 1, 5, .inl la_kind)), (a_la_mood, .inl (cy 1, 5, .inl la_mood)), (a_no, .inr (8, [.ref a_no_strong, .ref a_no_at, .ref a_no_wounds, .int no_dead, .int no_wet, .int no_drawn])), (a_no_strong, .inl (cy 1, 6, .inl no_strong)), (a_no_at, .inl (cy 1, 5, .inl no_at)), (a_no_wounds, .inl (cy 1, 5, .inl no_wounds)), (a_od, .inr (4, [.ref a_la, .ref a_no]))]) hP [0, 1, 2, 3, 4, 5, 6, 7, 8, 9] rfl
  have hD := dX4 (L1 := [(a_el, .inr (11, [el_tape, .int el_bytes, el_reader, .ref a_la, el_now, el_past, .ref a_od, el_game, el_placing, el_marching, el_trumpets, el_fight, .int el_refusal_4, .int el_faultTold, .int el_faultPlace])), (a_la, .inr (2, [.int la_lanes, .int la_deep, .int la_lanesTold, .ref a_la_who, la_firstStrong, .int la_beasts, .ref a_la_kind, la_firstLane, .ref a_la_mood, la_price, .int la_cities, .int la_passes, la_passBetween, .int la_turned])), (a_la_who, .inl (cy 1, 6, .inl la_who)), (a_la_kind, .inl (cy 1, 5, .inl la_kind)), (a_la_mood, .inl (cy 1, 5, .inl la_mood)), (a_no, .inr (8, [.ref a_no_strong, .ref a_no_at, .ref a_no_wounds, .int no_dead, .int no_wet, .int no_drawn])), (a_no_strong, .inl (cy 1, 6, .inl no_strong)), (a_no_at, .inl (cy 1, 5, .inl no_at)), (a_no_wounds, .inl (cy 1, 5, .inl no_wounds)), (a_od, .inr (4, [.ref a_la, .ref a_no]))]) hD [0, 1, 2, 3, 4, 5, 6, 7, 8, 9] rfl rfl
  refine lv_if_eq (tgt := 15) hx hb dX11_worst_8 (by decide) (fun cd => ?_) (fun cd => ?_)
  · have h := ifT cd h
    refine lv_aload_n hx hb dX11_worst_15 rfl (lv_at hl 0 rfl) ?_
    refine va_get (D := D) (ci := 11) (C := RX11) (T := TX11) (N := 15) (v := .ref a_od) hx hb hX11 (fun _ q => q) hown hK hP 0 rfl rfl 6 (by decide) (hts (.fieldLink RX11 48 "ElephantLine" "odds" "LElephantLine$Odds;") (by decide +kernel)) (fun _ h9 => h9) rfl dX11_worst_16 ?_
    obtain ⟨r_7, hc_8, h⟩ := bd1_some h
    refine kVi [] [] ⟨hx, hb, hml, hown, hts⟩ (c_X4_beastOfMostOwnHarm l D cy a_la a_la_who a_la_kind a_la_mood a_no a_no_strong a_no_at a_no_wounds a_od la_lanes la_deep la_lanesTold (la_firstStrong) la_beasts (la_firstLane) (la_price) la_cities la_passes (la_passBetween) la_turned la_who la_kind la_mood no_dead no_wet no_drawn no_strong no_at no_wounds r_7 hc_8) gX11_worst_X4_beastOfMostOwnHarm rfl hd_X4_beastOfMostOwnHarm ⟨Nat.le_of_ble_eq_true rfl, Nat.le_of_ble_eq_true rfl⟩ rfl rfl hKN (pXc hP [1, 2, 3, 4, 5, 6, 7, 8, 9] rfl) 4 8 rfl rfl rfl hl.1 rfl (Nat.le_of_ble_eq_true rfl) dX11_worst_19 ⟨Nat.le_of_ble_eq_true rfl, Nat.le_of_ble_eq_true rfl⟩ ?_
    cases h
    exact W.iret hx hb hr (fun t ht _ => ⟨⟨_, (), rfl, rfl, by rw [ht]; exact hP, hD⟩, hS.F ht⟩) hS.2.2 dX11_worst_22
  · have h := ifF cd h
    refine lv_iconst (v := (-1)) hx hb dX11_worst_11 (by decide) ?_
    refine lv_goto (tgt := 22) hx hb dX11_worst_12 (by decide) ?_
    cases h
    exact W.iret hx hb hr (fun t ht _ => ⟨⟨_, (), rfl, rfl, by rw [ht]; exact hP, hD⟩, hS.F ht⟩) hS.2.2 dX11_worst_22
theorem hd_X11_worthIf : yX11_worthIf.cls = RX11 ∧ yX11_worthIf.cls ≠ "java/lang/invoke/MethodHandle" ∧ yX11_worthIf.cls ≠ "java/lang/invoke/VarHandle" ∧ (parseMethodDescriptor yX11_worthIf.desc).map (fun d => d.parameters.length) = some 4 := by decide +kernel
set_option maxHeartbeats 4000000 in
set_option maxRecDepth 100000 in
theorem c_X11_worthIf (l : Launch) (D : va_G) (cy : Nat → ClassId) (A : Nat → Prop) (X : va_W) (a_el a_la a_la_who a_la_kind a_la_mood a_no a_no_strong a_no_wounds a_od : Nat) (el_tape : Value) (el_bytes : Int32) (el_reader : Value) (el_past : Value) (el_game : Value) (el_placing : Value) (el_marching : Value) (el_trumpets : Value) (el_fight : Value) (el_refusal : Int32) (el_faultTold : Int32) (el_faultPlace : Int32) (la_lanes : Int32) (la_deep : Int32) (la_lanesTold : Int32) (la_firstStrong : Value) (la_beasts : Int32) (la_firstLane : Value) (la_price : Value) (la_cities : Int32) (la_passes : Int32) (la_passBetween : Value) (la_turned : Int32) (la_who : Nat → Int32) (la_kind : Nat → Int32) (la_mood : Nat → Int32) (no_at : Value) (no_dead : Int32) (no_wet : Int32) (no_drawn : Int32) (no_strong : Nat → Int32) (no_wounds : Nat → Int32) (p1 : Int32) (p2 : Int32) (p3 : Int32) (p4 : Int32) (res : Int64) (el_refusal' : Int32) (h : f_X11_worthIf el_refusal la_lanes la_deep la_beasts la_who la_kind la_mood no_dead no_strong no_wounds p1 p2 p3 p4 = some (res, el_refusal')) : Met l yX11_worthIf wo_X11_worthIf ({ frames := 3, cells := 0, slots := 0, locals := 73 }) (wrPc D cy A [.ref a_el, .int p1, .int p2, .int p3, .int p4] ([(a_el, .inr (11, [el_tape, .int el_bytes, el_reader, .ref a_la, .ref a_no, el_past, .ref a_od, el_game, el_placing, el_marching, el_trumpets, el_fight, .int el_refusal, .int el_faultTold, .int el_faultPlace])), (a_la, .inr (2, [.int la_lanes, .int la_deep, .int la_lanesTold, .ref a_la_who, la_firstStrong, .int la_beasts, .ref a_la_kind, la_firstLane, .ref a_la_mood, la_price, .int la_cities, .int la_passes, la_passBetween, .int la_turned])), (a_la_who, .inl (cy 1, 6, .inl la_who)), (a_la_kind, .inl (cy 1, 5, .inl la_kind)), (a_la_mood, .inl (cy 1, 5, .inl la_mood)), (a_no, .inr (8, [.ref a_no_strong, no_at, .ref a_no_wounds, .int no_dead, .int no_wet, .int no_drawn])), (a_no_strong, .inl (cy 1, 6, .inl no_strong)), (a_no_wounds, .inl (cy 1, 5, .inl no_wounds)), (a_od, .inr (4, [.ref a_la, .ref a_no]))] ++ X)) (va_Ql (fun (r : Int64) (_ : Unit) => r = res) (wB D A ([(a_el, .inr (11, [el_tape, .int el_bytes, el_reader, .ref a_la, .ref a_no, el_past, .ref a_od, el_game, el_placing, el_marching, el_trumpets, el_fight, .int el_refusal', .int el_faultTold, .int el_faultPlace])), (a_la, .inr (2, [.int la_lanes, .int la_deep, .int la_lanesTold, .ref a_la_who, la_firstStrong, .int la_beasts, .ref a_la_kind, la_firstLane, .ref a_la_mood, la_price, .int la_cities, .int la_passes, la_passBetween, .int la_turned])), (a_la_who, .inl (cy 1, 6, .inl la_who)), (a_la_kind, .inl (cy 1, 5, .inl la_kind)), (a_la_mood, .inl (cy 1, 5, .inl la_mood)), (a_no, .inr (8, [.ref a_no_strong, no_at, .ref a_no_wounds, .int no_dead, .int no_wet, .int no_drawn])), (a_no_strong, .inl (cy 1, 6, .inl no_strong)), (a_no_wounds, .inl (cy 1, 5, .inl no_wounds)), (a_od, .inr (4, [.ref a_la, .ref a_no]))] ++ X)) A) 0 0 A := by
  refine Met.ofW (cc := cX11_worthIf) (maxL := 6) (ret := (some .long)) (by decide) rfl ?_
  intro p e s m args below meth c s₁ B hml hv
  obtain ⟨rfl, hP, hKN, hD, hA⟩ := hv
  have hK := hKN.1
  have hx := B.exec
  have hb := B.bytes
  have hr := B.returns
  have hts := wt_X11_worthIf hKN.2.2 (([.ref a_el, .int p1, .int p2, .int p3, .int p4] : List Value).toArray)
  have hown : s.vm.findClass RX11 = some m.cls := findClass_of_methodNamed B.named
  have hlocks := B.notSynchronized
  have hS : va_S A s.heap s.heap [] := va_S.rf
  have hX11 := wc_X11 hKN.2.2 (([.ref a_el, .int p1, .int p2, .int p3, .int p4] : List Value).toArray)
  have hX2 := wc_X2 hKN.2.2 (([.ref a_el, .int p1, .int p2, .int p3, .int p4] : List Value).toArray)
  have hX8 := wc_X8 hKN.2.2 (([.ref a_el, .int p1, .int p2, .int p3, .int p4] : List Value).toArray)
  have hl := lv_entry ([.ref a_el, .int p1, .int p2, .int p3, .int p4]) (n := 6) (Nat.le_of_ble_eq_true rfl)
  rw [lg_entry_eq]
  generalize (lg_sl ([.ref a_el, .int p1, .int p2, .int p3, .int p4]) ++ List.replicate (6 - (lg_sl ([.ref a_el, .int p1, .int p2, .int p3, .int p4])).length) Slot.unset).toArray = ls at hl ⊢
  have hl : lv_has ls 6 [(0, .ref a_el), (1, .int p1), (2, .int p2), (3, .int p3), (4, .int p4)] := hl
  unfold f_X11_worthIf at h
  refine lv_aload_n hx hb dX11_worthIf_0 rfl (lv_at hl 0 rfl) ?_
  refine lv_aload_n hx hb dX11_worthIf_1 rfl (lv_at hl 0 rfl) ?_
  refine lv_iload_n hx hb dX11_worthIf_2 rfl (lv_at hl 1 rfl) ?_
  refine lv_iload_n hx hb dX11_worthIf_3 rfl (lv_at hl 2 rfl) ?_
  obtain ⟨r_1, hc_2, h⟩ := bd1_some h
  refine kVi [.int p1, .int p2] [.ref a_el] ⟨hx, hb, hml, hown, hts⟩ (c_X11_meetingTrouble l D cy a_el a_la (el_tape) el_bytes (el_reader) (.ref a_no) (el_past) (.ref a_od) (el_game) (el_placing) (el_marching) (el_trumpets) (el_fight) el_refusal el_faultTold el_faultPlace la_lanes la_deep la_lanesTold (.ref a_la_who) (la_firstStrong) la_beasts (.ref a_la_kind) (la_firstLane) (.ref a_la_mood) (la_price) la_cities la_passes (la_passBetween) la_turned p1 p2 r_1 hc_2) gX11_worthIf_X11_meetingTrouble rfl hd_X11_meetingTrouble ⟨Nat.le_of_ble_eq_true rfl, Nat.le_of_ble_eq_true rfl⟩ rfl rfl hKN (pXc hP [0, 1] rfl) 11 0 rfl rfl rfl hl.1 rfl (Nat.le_of_ble_eq_true rfl) dX11_worthIf_4 ⟨Nat.le_of_ble_eq_true rfl, Nat.le_of_ble_eq_true rfl⟩ ?_
  obtain ⟨r_3, el_refusal_4, hc_5, h⟩ := bd2_some h
  refine wVb [.int r_1] [] ⟨hx, hb, hml, hown, hts⟩ (c_X11_isRefused l D cy A ([(a_la, .inr (2, [.int la_lanes, .int la_deep, .int la_lanesTold, .ref a_la_who, la_firstStrong, .int la_beasts, .ref a_la_kind, la_firstLane, .ref a_la_mood, la_price, .int la_cities, .int la_passes, la_passBetween, .int la_turned])), (a_la_who, .inl (cy 1, 6, .inl la_who)), (a_la_kind, .inl (cy 1, 5, .inl la_kind)), (a_la_mood, .inl (cy 1, 5, .inl la_mood)), (a_no, .inr (8, [.ref a_no_strong, no_at, .ref a_no_wounds, .int no_dead, .int no_wet, .int no_drawn])), (a_no_strong, .inl (cy 1, 6, .inl no_strong)), (a_no_wounds, .inl (cy 1, 5, .inl no_wounds)), (a_od, .inr (4, [.ref a_la, .ref a_no]))] ++ X) a_el (el_tape) el_bytes (el_reader) (.ref a_la) (.ref a_no) (el_past) (.ref a_od) (el_game) (el_placing) (el_marching) (el_trumpets) (el_fight) el_refusal el_faultTold el_faultPlace r_1 r_3 el_refusal_4 hc_5) gX11_worthIf_X11_isRefused rfl hd_X11_isRefused ⟨Nat.le_of_ble_eq_true rfl, Nat.le_of_ble_eq_true rfl⟩ rfl rfl hKN (pX3 hP [0, 1, 2, 3, 4, 5, 6, 7, 8] rfl) (dX3 hD [0, 1, 2, 3, 4, 5, 6, 7, 8] rfl rfl) hS hA 11 0 rfl rfl rfl hl.1 rfl (Nat.le_of_ble_eq_true rfl) dX11_worthIf_7 ⟨Nat.le_of_ble_eq_true rfl, Nat.le_of_ble_eq_true rfl⟩ (fun nb_6 H locs hP hD hS => ?_)
  have hP := pX4 (L1 := [(a_el, .inr (11, [el_tape, .int el_bytes, el_reader, .ref a_la, .ref a_no, el_past, .ref a_od, el_game, el_placing, el_marching, el_trumpets, el_fight, .int el_refusal_4, .int el_faultTold, .int el_faultPlace])), (a_la, .inr (2, [.int la_lanes, .int la_deep, .int la_lanesTold, .ref a_la_who, la_firstStrong, .int la_beasts, .ref a_la_kind, la_firstLane, .ref a_la_mood, la_price, .int la_cities, .int la_passes, la_passBetween, .int la_turned])), (a_la_who, .inl (cy 1, 6, .inl la_who)), (a_la_kind, .inl (cy 1, 5, .inl la_kind)), (a_la_mood, .inl (cy 1, 5, .inl la_mood)), (a_no, .inr (8, [.ref a_no_strong, no_at, .ref a_no_wounds, .int no_dead, .int no_wet, .int no_drawn])), (a_no_strong, .inl (cy 1, 6, .inl no_strong)), (a_no_wounds, .inl (cy 1, 5, .inl no_wounds)), (a_od, .inr (4, [.ref a_la, .ref a_no]))]) hP [0, 1, 2, 3, 4, 5, 6, 7, 8] rfl
  have hD := dX4 (L1 := [(a_el, .inr (11, [el_tape, .int el_bytes, el_reader, .ref a_la, .ref a_no, el_past, .ref a_od, el_game, el_placing, el_marching, el_trumpets, el_fight, .int el_refusal_4, .int el_faultTold, .int el_faultPlace])), (a_la, .inr (2, [.int la_lanes, .int la_deep, .int la_lanesTold, .ref a_la_who, la_firstStrong, .int la_beasts, .ref a_la_kind, la_firstLane, .ref a_la_mood, la_price, .int la_cities, .int la_passes, la_passBetween, .int la_turned])), (a_la_who, .inl (cy 1, 6, .inl la_who)), (a_la_kind, .inl (cy 1, 5, .inl la_kind)), (a_la_mood, .inl (cy 1, 5, .inl la_mood)), (a_no, .inr (8, [.ref a_no_strong, no_at, .ref a_no_wounds, .int no_dead, .int no_wet, .int no_drawn])), (a_no_strong, .inl (cy 1, 6, .inl no_strong)), (a_no_wounds, .inl (cy 1, 5, .inl no_wounds)), (a_od, .inr (4, [.ref a_la, .ref a_no]))]) hD [0, 1, 2, 3, 4, 5, 6, 7, 8] rfl rfl
  refine lv_if_eq (tgt := 17) hx hb dX11_worthIf_10 (by decide) (fun cd => ?_) (fun cd => ?_)
  · have h := ifT cd h
    refine lv_aload_n hx hb dX11_worthIf_17 rfl (lv_at hl 0 rfl) ?_
    refine va_get (D := D) (ci := 11) (C := RX11) (T := TX11) (N := 15) (v := .ref a_la) hx hb hX11 (fun _ q => q) hown hK hP 0 rfl rfl 3 (by decide) (hts (.fieldLink RX11 25 "ElephantLine" "land" "LElephantLine$Land;") (by decide +kernel)) (fun _ h9 => h9) rfl dX11_worthIf_18 ?_
    refine va_getN (D := D) (ci := 2) (C := RX2) (T := TX2) (N := 14) (v := .ref a_la_kind) hx hb hX2 (fun _ q => q) hown hK hP 1 rfl rfl 6 (by decide) (va_Nw.use rfl (hKN.2.1.1 ("ElephantLine", 155, "ElephantLine$Land", "kind", "[I", "ElephantLine") (List.mem_of_getElem? (i := 23) rfl))) (fun _ h9 => h9) rfl dX11_worthIf_21 ?_
    refine lv_iload_n hx hb dX11_worthIf_24 rfl (lv_at hl 1 rfl) ?_
    obtain ⟨i_7, h⟩ := gIn_some h
    refine va_iald hx hb hK hP 3 1 rfl rfl i_7 dX11_worthIf_25 ?_
    refine lv_aload_n hx hb dX11_worthIf_26 rfl (lv_at hl 0 rfl) ?_
    refine va_get (D := D) (ci := 11) (C := RX11) (T := TX11) (N := 15) (v := .ref a_la) hx hb hX11 (fun _ q => q) hown hK hP 0 rfl rfl 3 (by decide) (hts (.fieldLink RX11 25 "ElephantLine" "land" "LElephantLine$Land;") (by decide +kernel)) (fun _ h9 => h9) rfl dX11_worthIf_27 ?_
    refine va_getN (D := D) (ci := 2) (C := RX2) (T := TX2) (N := 14) (v := .ref a_la_mood) hx hb hX2 (fun _ q => q) hown hK hP 1 rfl rfl 8 (by decide) (va_Nw.use rfl (hKN.2.1.1 ("ElephantLine", 161, "ElephantLine$Land", "mood", "[I", "ElephantLine") (List.mem_of_getElem? (i := 26) rfl))) (fun _ h9 => h9) rfl dX11_worthIf_30 ?_
    refine lv_iload_n hx hb dX11_worthIf_33 rfl (lv_at hl 1 rfl) ?_
    obtain ⟨i_8, h⟩ := gIn_some h
    refine va_iald hx hb hK hP 4 1 rfl rfl i_8 dX11_worthIf_34 ?_
    refine lv_iload_n hx hb dX11_worthIf_35 rfl (lv_at hl 3 rfl) ?_
    obtain ⟨r_9, hc_10, h⟩ := bd1_some h
    refine kSi [.int (la_kind p1.toNatClampNeg), .int (la_mood p1.toNatClampNeg), .int p3] [] ⟨hx, hb, hml, hown, hts⟩ (c_X4_holdBy l D cy (la_kind p1.toNatClampNeg) (la_mood p1.toNatClampNeg) p3 r_9 hc_10) gX11_worthIf_X4_holdBy rfl hd_X4_holdBy ⟨Nat.le_of_ble_eq_true rfl, Nat.le_of_ble_eq_true rfl⟩ rfl rfl hKN va_nil rfl hl.1 rfl (Nat.le_of_ble_eq_true rfl) dX11_worthIf_36 ⟨Nat.le_of_ble_eq_true rfl, Nat.le_of_ble_eq_true rfl⟩ ?_
    refine lv_istore (lv' := [(5, .int r_9), (0, .ref a_el), (1, .int p1), (2, .int p2), (3, .int p3), (4, .int p4)]) hx hb dX11_worthIf_39 hl (by decide) rfl (fun ls hl => ?_)
    refine lv_aload_n hx hb dX11_worthIf_41 rfl (lv_at hl 1 rfl) ?_
    refine va_get (D := D) (ci := 11) (C := RX11) (T := TX11) (N := 15) (v := .ref a_od) hx hb hX11 (fun _ q => q) hown hK hP 0 rfl rfl 6 (by decide) (hts (.fieldLink RX11 48 "ElephantLine" "odds" "LElephantLine$Odds;") (by decide +kernel)) (fun _ h9 => h9) rfl dX11_worthIf_42 ?_
    refine lv_aload_n hx hb dX11_worthIf_45 rfl (lv_at hl 1 rfl) ?_
    refine va_get (D := D) (ci := 11) (C := RX11) (T := TX11) (N := 15) (v := .ref a_od) hx hb hX11 (fun _ q => q) hown hK hP 0 rfl rfl 6 (by decide) (hts (.fieldLink RX11 48 "ElephantLine" "odds" "LElephantLine$Odds;") (by decide +kernel)) (fun _ h9 => h9) rfl dX11_worthIf_46 ?_
    refine lv_iload_n hx hb dX11_worthIf_49 rfl (lv_at hl 2 rfl) ?_
    refine lv_aload_n hx hb dX11_worthIf_50 rfl (lv_at hl 1 rfl) ?_
    refine va_get (D := D) (ci := 11) (C := RX11) (T := TX11) (N := 15) (v := .ref a_la) hx hb hX11 (fun _ q => q) hown hK hP 0 rfl rfl 3 (by decide) (hts (.fieldLink RX11 25 "ElephantLine" "land" "LElephantLine$Land;") (by decide +kernel)) (fun _ h9 => h9) rfl dX11_worthIf_51 ?_
    refine va_getN (D := D) (ci := 2) (C := RX2) (T := TX2) (N := 14) (v := .ref a_la_who) hx hb hX2 (fun _ q => q) hown hK hP 1 rfl rfl 3 (by decide) (va_Nw.use rfl (hKN.2.1.1 ("ElephantLine", 141, "ElephantLine$Land", "who", "[I", "ElephantLine") (List.mem_of_getElem? (i := 11) rfl))) (fun _ h9 => h9) rfl dX11_worthIf_54 ?_
    refine lv_iload_n hx hb dX11_worthIf_57 rfl (lv_at hl 3 rfl) ?_
    obtain ⟨i_11, h⟩ := gIn_some h
    refine va_iald hx hb hK hP 2 1 rfl rfl i_11 dX11_worthIf_58 ?_
    refine lv_aload_n hx hb dX11_worthIf_59 rfl (lv_at hl 1 rfl) ?_
    refine va_get (D := D) (ci := 11) (C := RX11) (T := TX11) (N := 15) (v := .ref a_no) hx hb hX11 (fun _ q => q) hown hK hP 0 rfl rfl 4 (by decide) (hts (.fieldLink RX11 32 "ElephantLine" "now" "LElephantLine$Stand;") (by decide +kernel)) (fun _ h9 => h9) rfl dX11_worthIf_60 ?_
    refine va_getN (D := D) (ci := 8) (C := RX8) (T := TX8) (N := 6) (v := .ref a_no_strong) hx hb hX8 (fun _ q => q) hown hK hP 5 rfl rfl 0 (by decide) (va_Nw.use rfl (hKN.2.1.1 ("ElephantLine", 145, "ElephantLine$Stand", "strong", "[I", "ElephantLine") (List.mem_of_getElem? (i := 42) rfl))) (fun _ h9 => h9) rfl dX11_worthIf_63 ?_
    refine lv_iload_n hx hb dX11_worthIf_66 rfl (lv_at hl 3 rfl) ?_
    obtain ⟨i_12, h⟩ := gIn_some h
    refine va_iald hx hb hK hP 6 1 rfl rfl i_12 dX11_worthIf_67 ?_
    refine lv_iload hx hb dX11_worthIf_68 (lv_at hl 0 rfl) ?_
    obtain ⟨r_13, hc_14, h⟩ := bd1_some h
    refine kVl [.int p1, .int (la_who p2.toNatClampNeg), .int (no_strong p2.toNatClampNeg), .int r_9] [.ref a_od] ⟨hx, hb, hml, hown, hts⟩ (c_X4_worthBy l D cy a_la a_la_kind a_no a_no_wounds a_od la_lanes la_deep la_lanesTold (.ref a_la_who) (la_firstStrong) la_beasts (la_firstLane) (.ref a_la_mood) (la_price) la_cities la_passes (la_passBetween) la_turned la_kind (.ref a_no_strong) (no_at) no_dead no_wet no_drawn no_wounds p1 (la_who p2.toNatClampNeg) (no_strong p2.toNatClampNeg) r_9 r_13 hc_14) gX11_worthIf_X4_worthBy rfl hd_X4_worthBy ⟨Nat.le_of_ble_eq_true rfl, Nat.le_of_ble_eq_true rfl⟩ rfl rfl hKN (pXc hP [1, 3, 5, 7, 8] rfl) 4 4 rfl rfl rfl hl.1 rfl (Nat.le_of_ble_eq_true rfl) dX11_worthIf_70 ⟨Nat.le_of_ble_eq_true rfl, Nat.le_of_ble_eq_true rfl⟩ ?_
    refine lv_iload hx hb dX11_worthIf_73 (lv_at hl 5 rfl) ?_
    obtain ⟨r_15, hc_16, h⟩ := bd1_some h
    refine kVl [.long r_13, .int p4] [] ⟨hx, hb, hml, hown, hts⟩ (c_X4_told l D cy a_la a_od la_lanes la_deep la_lanesTold (.ref a_la_who) (la_firstStrong) la_beasts (.ref a_la_kind) (la_firstLane) (.ref a_la_mood) (la_price) la_cities la_passes (la_passBetween) la_turned (.ref a_no) r_13 p4 r_15 hc_16) gX11_worthIf_X4_told rfl hd_X4_told ⟨Nat.le_of_ble_eq_true rfl, Nat.le_of_ble_eq_true rfl⟩ rfl rfl hKN (pXc hP [1, 8] rfl) 4 1 rfl rfl rfl hl.1 rfl (Nat.le_of_ble_eq_true rfl) dX11_worthIf_75 ⟨Nat.le_of_ble_eq_true rfl, Nat.le_of_ble_eq_true rfl⟩ ?_
    cases h
    exact W.lret hx hb hr (fun t ht _ => ⟨⟨_, (), rfl, rfl, by rw [ht]; exact hP, hD⟩, hS.F ht⟩) hS.2.2 dX11_worthIf_78
  · have h := ifF cd h
    refine lv_ldc2 (v := (-9223372036854775808)) hx hb hown (hts (.constantLong RX11 205 (-9223372036854775808)) (by decide +kernel)) dX11_worthIf_13 ?_
    cases h
    exact W.lret hx hb hr (fun t ht _ => ⟨⟨_, (), rfl, rfl, by rw [ht]; exact hP, hD⟩, hS.F ht⟩) hS.2.2 dX11_worthIf_16
theorem hd_X11_moodFor : yX11_moodFor.cls = RX11 ∧ yX11_moodFor.cls ≠ "java/lang/invoke/MethodHandle" ∧ yX11_moodFor.cls ≠ "java/lang/invoke/VarHandle" ∧ (parseMethodDescriptor yX11_moodFor.desc).map (fun d => d.parameters.length) = some 2 := by decide +kernel
set_option maxHeartbeats 4000000 in
set_option maxRecDepth 100000 in
theorem c_X11_moodFor (l : Launch) (D : va_G) (cy : Nat → ClassId) (A : Nat → Prop) (X : va_W) (a_el a_la a_la_who a_la_kind a_no a_no_strong a_no_wounds a_od : Nat) (el_tape : Value) (el_bytes : Int32) (el_reader : Value) (el_now : Value) (el_past : Value) (el_game : Value) (el_placing : Value) (el_marching : Value) (el_trumpets : Value) (el_fight : Value) (el_refusal : Int32) (el_faultTold : Int32) (el_faultPlace : Int32) (la_lanes : Int32) (la_deep : Int32) (la_lanesTold : Int32) (la_firstStrong : Value) (la_beasts : Int32) (la_firstLane : Value) (la_mood : Value) (la_price : Value) (la_cities : Int32) (la_passes : Int32) (la_passBetween : Value) (la_turned : Int32) (la_who : Nat → Int32) (la_kind : Nat → Int32) (no_at : Value) (no_dead : Int32) (no_wet : Int32) (no_drawn : Int32) (no_strong : Nat → Int32) (no_wounds : Nat → Int32) (p1 : Int32) (p2 : Int32) (res : Int32) (el_refusal' : Int32) (h : f_X11_moodFor el_refusal la_lanes la_deep la_beasts la_who la_kind no_dead no_wet no_strong no_wounds p1 p2 = some (res, el_refusal')) : Met l yX11_moodFor wo_X11_moodFor ({ frames := 4, cells := 0, slots := 0, locals := 97 }) (wrPc D cy A [.ref a_el, .int p1, .int p2] ([(a_el, .inr (11, [el_tape, .int el_bytes, el_reader, .ref a_la, el_now, el_past, .ref a_od, el_game, el_placing, el_marching, el_trumpets, el_fight, .int el_refusal, .int el_faultTold, .int el_faultPlace])), (a_la, .inr (2, [.int la_lanes, .int la_deep, .int la_lanesTold, .ref a_la_who, la_firstStrong, .int la_beasts, .ref a_la_kind, la_firstLane, la_mood, la_price, .int la_cities, .int la_passes, la_passBetween, .int la_turned])), (a_la_who, .inl (cy 1, 6, .inl la_who)), (a_la_kind, .inl (cy 1, 5, .inl la_kind)), (a_no, .inr (8, [.ref a_no_strong, no_at, .ref a_no_wounds, .int no_dead, .int no_wet, .int no_drawn])), (a_no_strong, .inl (cy 1, 6, .inl no_strong)), (a_no_wounds, .inl (cy 1, 5, .inl no_wounds)), (a_od, .inr (4, [.ref a_la, .ref a_no]))] ++ X)) (va_Qi (fun (r : Int32) (_ : Unit) => r = res) (wB D A ([(a_el, .inr (11, [el_tape, .int el_bytes, el_reader, .ref a_la, el_now, el_past, .ref a_od, el_game, el_placing, el_marching, el_trumpets, el_fight, .int el_refusal', .int el_faultTold, .int el_faultPlace])), (a_la, .inr (2, [.int la_lanes, .int la_deep, .int la_lanesTold, .ref a_la_who, la_firstStrong, .int la_beasts, .ref a_la_kind, la_firstLane, la_mood, la_price, .int la_cities, .int la_passes, la_passBetween, .int la_turned])), (a_la_who, .inl (cy 1, 6, .inl la_who)), (a_la_kind, .inl (cy 1, 5, .inl la_kind)), (a_no, .inr (8, [.ref a_no_strong, no_at, .ref a_no_wounds, .int no_dead, .int no_wet, .int no_drawn])), (a_no_strong, .inl (cy 1, 6, .inl no_strong)), (a_no_wounds, .inl (cy 1, 5, .inl no_wounds)), (a_od, .inr (4, [.ref a_la, .ref a_no]))] ++ X)) A) 0 0 A := by
  refine Met.ofW (cc := cX11_moodFor) (maxL := 3) (ret := (some .int)) (by decide) rfl ?_
  intro p e s m args below meth c s₁ B hml hv
  obtain ⟨rfl, hP, hKN, hD, hA⟩ := hv
  have hK := hKN.1
  have hx := B.exec
  have hb := B.bytes
  have hr := B.returns
  have hts := wt_X11_moodFor hKN.2.2 (([.ref a_el, .int p1, .int p2] : List Value).toArray)
  have hown : s.vm.findClass RX11 = some m.cls := findClass_of_methodNamed B.named
  have hlocks := B.notSynchronized
  have hS : va_S A s.heap s.heap [] := va_S.rf
  have hX11 := wc_X11 hKN.2.2 (([.ref a_el, .int p1, .int p2] : List Value).toArray)
  have hl := lv_entry ([.ref a_el, .int p1, .int p2]) (n := 3) (Nat.le_of_ble_eq_true rfl)
  rw [lg_entry_eq]
  generalize (lg_sl ([.ref a_el, .int p1, .int p2]) ++ List.replicate (3 - (lg_sl ([.ref a_el, .int p1, .int p2])).length) Slot.unset).toArray = ls at hl ⊢
  have hl : lv_has ls 3 [(0, .ref a_el), (1, .int p1), (2, .int p2)] := hl
  unfold f_X11_moodFor at h
  refine lv_aload_n hx hb dX11_moodFor_0 rfl (lv_at hl 0 rfl) ?_
  refine lv_aload_n hx hb dX11_moodFor_1 rfl (lv_at hl 0 rfl) ?_
  refine lv_iload_n hx hb dX11_moodFor_2 rfl (lv_at hl 1 rfl) ?_
  refine lv_iload_n hx hb dX11_moodFor_3 rfl (lv_at hl 2 rfl) ?_
  obtain ⟨r_1, hc_2, h⟩ := bd1_some h
  refine kVi [.int p1, .int p2] [.ref a_el] ⟨hx, hb, hml, hown, hts⟩ (c_X11_meetingTrouble l D cy a_el a_la (el_tape) el_bytes (el_reader) (el_now) (el_past) (.ref a_od) (el_game) (el_placing) (el_marching) (el_trumpets) (el_fight) el_refusal el_faultTold el_faultPlace la_lanes la_deep la_lanesTold (.ref a_la_who) (la_firstStrong) la_beasts (.ref a_la_kind) (la_firstLane) (la_mood) (la_price) la_cities la_passes (la_passBetween) la_turned p1 p2 r_1 hc_2) gX11_moodFor_X11_meetingTrouble rfl hd_X11_meetingTrouble ⟨Nat.le_of_ble_eq_true rfl, Nat.le_of_ble_eq_true rfl⟩ rfl rfl hKN (pXc hP [0, 1] rfl) 11 0 rfl rfl rfl hl.1 rfl (Nat.le_of_ble_eq_true rfl) dX11_moodFor_4 ⟨Nat.le_of_ble_eq_true rfl, Nat.le_of_ble_eq_true rfl⟩ ?_
  obtain ⟨r_3, el_refusal_4, hc_5, h⟩ := bd2_some h
  refine wVb [.int r_1] [] ⟨hx, hb, hml, hown, hts⟩ (c_X11_isRefused l D cy A ([(a_la, .inr (2, [.int la_lanes, .int la_deep, .int la_lanesTold, .ref a_la_who, la_firstStrong, .int la_beasts, .ref a_la_kind, la_firstLane, la_mood, la_price, .int la_cities, .int la_passes, la_passBetween, .int la_turned])), (a_la_who, .inl (cy 1, 6, .inl la_who)), (a_la_kind, .inl (cy 1, 5, .inl la_kind)), (a_no, .inr (8, [.ref a_no_strong, no_at, .ref a_no_wounds, .int no_dead, .int no_wet, .int no_drawn])), (a_no_strong, .inl (cy 1, 6, .inl no_strong)), (a_no_wounds, .inl (cy 1, 5, .inl no_wounds)), (a_od, .inr (4, [.ref a_la, .ref a_no]))] ++ X) a_el (el_tape) el_bytes (el_reader) (.ref a_la) (el_now) (el_past) (.ref a_od) (el_game) (el_placing) (el_marching) (el_trumpets) (el_fight) el_refusal el_faultTold el_faultPlace r_1 r_3 el_refusal_4 hc_5) gX11_moodFor_X11_isRefused rfl hd_X11_isRefused ⟨Nat.le_of_ble_eq_true rfl, Nat.le_of_ble_eq_true rfl⟩ rfl rfl hKN (pX3 hP [0, 1, 2, 3, 4, 5, 6, 7] rfl) (dX3 hD [0, 1, 2, 3, 4, 5, 6, 7] rfl rfl) hS hA 11 0 rfl rfl rfl hl.1 rfl (Nat.le_of_ble_eq_true rfl) dX11_moodFor_7 ⟨Nat.le_of_ble_eq_true rfl, Nat.le_of_ble_eq_true rfl⟩ (fun nb_6 H locs hP hD hS => ?_)
  have hP := pX4 (L1 := [(a_el, .inr (11, [el_tape, .int el_bytes, el_reader, .ref a_la, el_now, el_past, .ref a_od, el_game, el_placing, el_marching, el_trumpets, el_fight, .int el_refusal_4, .int el_faultTold, .int el_faultPlace])), (a_la, .inr (2, [.int la_lanes, .int la_deep, .int la_lanesTold, .ref a_la_who, la_firstStrong, .int la_beasts, .ref a_la_kind, la_firstLane, la_mood, la_price, .int la_cities, .int la_passes, la_passBetween, .int la_turned])), (a_la_who, .inl (cy 1, 6, .inl la_who)), (a_la_kind, .inl (cy 1, 5, .inl la_kind)), (a_no, .inr (8, [.ref a_no_strong, no_at, .ref a_no_wounds, .int no_dead, .int no_wet, .int no_drawn])), (a_no_strong, .inl (cy 1, 6, .inl no_strong)), (a_no_wounds, .inl (cy 1, 5, .inl no_wounds)), (a_od, .inr (4, [.ref a_la, .ref a_no]))]) hP [0, 1, 2, 3, 4, 5, 6, 7] rfl
  have hD := dX4 (L1 := [(a_el, .inr (11, [el_tape, .int el_bytes, el_reader, .ref a_la, el_now, el_past, .ref a_od, el_game, el_placing, el_marching, el_trumpets, el_fight, .int el_refusal_4, .int el_faultTold, .int el_faultPlace])), (a_la, .inr (2, [.int la_lanes, .int la_deep, .int la_lanesTold, .ref a_la_who, la_firstStrong, .int la_beasts, .ref a_la_kind, la_firstLane, la_mood, la_price, .int la_cities, .int la_passes, la_passBetween, .int la_turned])), (a_la_who, .inl (cy 1, 6, .inl la_who)), (a_la_kind, .inl (cy 1, 5, .inl la_kind)), (a_no, .inr (8, [.ref a_no_strong, no_at, .ref a_no_wounds, .int no_dead, .int no_wet, .int no_drawn])), (a_no_strong, .inl (cy 1, 6, .inl no_strong)), (a_no_wounds, .inl (cy 1, 5, .inl no_wounds)), (a_od, .inr (4, [.ref a_la, .ref a_no]))]) hD [0, 1, 2, 3, 4, 5, 6, 7] rfl rfl
  refine lv_if_eq (tgt := 17) hx hb dX11_moodFor_10 (by decide) (fun cd => ?_) (fun cd => ?_)
  · have h := ifT cd h
    refine lv_aload_n hx hb dX11_moodFor_17 rfl (lv_at hl 0 rfl) ?_
    refine va_get (D := D) (ci := 11) (C := RX11) (T := TX11) (N := 15) (v := .ref a_od) hx hb hX11 (fun _ q => q) hown hK hP 0 rfl rfl 6 (by decide) (hts (.fieldLink RX11 48 "ElephantLine" "odds" "LElephantLine$Odds;") (by decide +kernel)) (fun _ h9 => h9) rfl dX11_moodFor_18 ?_
    refine lv_iload_n hx hb dX11_moodFor_21 rfl (lv_at hl 1 rfl) ?_
    refine lv_iload_n hx hb dX11_moodFor_22 rfl (lv_at hl 2 rfl) ?_
    obtain ⟨r_7, hc_8, h⟩ := bd1_some h
    refine kVi [.int p1, .int p2] [] ⟨hx, hb, hml, hown, hts⟩ (c_X4_leastMood l D cy a_la a_la_who a_la_kind a_no a_no_strong a_no_wounds a_od la_lanes la_deep la_lanesTold (la_firstStrong) la_beasts (la_firstLane) (la_mood) (la_price) la_cities la_passes (la_passBetween) la_turned la_who la_kind (no_at) no_dead no_wet no_drawn no_strong no_wounds p1 p2 r_7 hc_8) gX11_moodFor_X4_leastMood rfl hd_X4_leastMood ⟨Nat.le_of_ble_eq_true rfl, Nat.le_of_ble_eq_true rfl⟩ rfl rfl hKN (pXc hP [1, 2, 3, 4, 5, 6, 7] rfl) 4 6 rfl rfl rfl hl.1 rfl (Nat.le_of_ble_eq_true rfl) dX11_moodFor_23 ⟨Nat.le_of_ble_eq_true rfl, Nat.le_of_ble_eq_true rfl⟩ ?_
    cases h
    exact W.iret hx hb hr (fun t ht _ => ⟨⟨_, (), rfl, rfl, by rw [ht]; exact hP, hD⟩, hS.F ht⟩) hS.2.2 dX11_moodFor_26
  · have h := ifF cd h
    refine lv_iconst (v := (-1)) hx hb dX11_moodFor_13 (by decide) ?_
    refine lv_goto (tgt := 26) hx hb dX11_moodFor_14 (by decide) ?_
    cases h
    exact W.iret hx hb hr (fun t ht _ => ⟨⟨_, (), rfl, rfl, by rw [ht]; exact hP, hD⟩, hS.F ht⟩) hS.2.2 dX11_moodFor_26
theorem hd_X11_toHammer : yX11_toHammer.cls = RX11 ∧ yX11_toHammer.cls ≠ "java/lang/invoke/MethodHandle" ∧ yX11_toHammer.cls ≠ "java/lang/invoke/VarHandle" ∧ (parseMethodDescriptor yX11_toHammer.desc).map (fun d => d.parameters.length) = some 0 := by decide +kernel
set_option maxHeartbeats 4000000 in
set_option maxRecDepth 100000 in
theorem c_X11_toHammer (l : Launch) (D : va_G) (cy : Nat → ClassId) (A : Nat → Prop) (X : va_W) (a_el a_la a_la_who a_la_kind a_la_mood a_no a_no_strong a_no_at a_no_wounds a_od : Nat) (el_tape : Value) (el_bytes : Int32) (el_reader : Value) (el_now : Value) (el_past : Value) (el_game : Value) (el_placing : Value) (el_marching : Value) (el_trumpets : Value) (el_fight : Value) (el_refusal : Int32) (el_faultTold : Int32) (el_faultPlace : Int32) (la_lanes : Int32) (la_deep : Int32) (la_lanesTold : Int32) (la_firstStrong : Value) (la_beasts : Int32) (la_firstLane : Value) (la_price : Value) (la_cities : Int32) (la_passes : Int32) (la_passBetween : Value) (la_turned : Int32) (la_who : Nat → Int32) (la_kind : Nat → Int32) (la_mood : Nat → Int32) (no_dead : Int32) (no_wet : Int32) (no_drawn : Int32) (no_strong : Nat → Int32) (no_at : Nat → Int32) (no_wounds : Nat → Int32) (res : Int32) (el_refusal' : Int32) (h : f_X11_toHammer el_refusal la_lanes la_deep la_beasts la_who la_kind la_mood no_dead no_wet no_strong no_at no_wounds = some (res, el_refusal')) : Met l yX11_toHammer wo_X11_toHammer ({ frames := 5, cells := 0, slots := 0, locals := 121 }) (wrPc D cy A [.ref a_el] ([(a_el, .inr (11, [el_tape, .int el_bytes, el_reader, .ref a_la, el_now, el_past, .ref a_od, el_game, el_placing, el_marching, el_trumpets, el_fight, .int el_refusal, .int el_faultTold, .int el_faultPlace])), (a_la, .inr (2, [.int la_lanes, .int la_deep, .int la_lanesTold, .ref a_la_who, la_firstStrong, .int la_beasts, .ref a_la_kind, la_firstLane, .ref a_la_mood, la_price, .int la_cities, .int la_passes, la_passBetween, .int la_turned])), (a_la_who, .inl (cy 1, 6, .inl la_who)), (a_la_kind, .inl (cy 1, 5, .inl la_kind)), (a_la_mood, .inl (cy 1, 5, .inl la_mood)), (a_no, .inr (8, [.ref a_no_strong, .ref a_no_at, .ref a_no_wounds, .int no_dead, .int no_wet, .int no_drawn])), (a_no_strong, .inl (cy 1, 6, .inl no_strong)), (a_no_at, .inl (cy 1, 5, .inl no_at)), (a_no_wounds, .inl (cy 1, 5, .inl no_wounds)), (a_od, .inr (4, [.ref a_la, .ref a_no]))] ++ X)) (va_Qi (fun (r : Int32) (_ : Unit) => r = res) (wB D A ([(a_el, .inr (11, [el_tape, .int el_bytes, el_reader, .ref a_la, el_now, el_past, .ref a_od, el_game, el_placing, el_marching, el_trumpets, el_fight, .int el_refusal', .int el_faultTold, .int el_faultPlace])), (a_la, .inr (2, [.int la_lanes, .int la_deep, .int la_lanesTold, .ref a_la_who, la_firstStrong, .int la_beasts, .ref a_la_kind, la_firstLane, .ref a_la_mood, la_price, .int la_cities, .int la_passes, la_passBetween, .int la_turned])), (a_la_who, .inl (cy 1, 6, .inl la_who)), (a_la_kind, .inl (cy 1, 5, .inl la_kind)), (a_la_mood, .inl (cy 1, 5, .inl la_mood)), (a_no, .inr (8, [.ref a_no_strong, .ref a_no_at, .ref a_no_wounds, .int no_dead, .int no_wet, .int no_drawn])), (a_no_strong, .inl (cy 1, 6, .inl no_strong)), (a_no_at, .inl (cy 1, 5, .inl no_at)), (a_no_wounds, .inl (cy 1, 5, .inl no_wounds)), (a_od, .inr (4, [.ref a_la, .ref a_no]))] ++ X)) A) 0 0 A := by
  refine Met.ofW (cc := cX11_toHammer) (maxL := 1) (ret := (some .int)) (by decide) rfl ?_
  intro p e s m args below meth c s₁ B hml hv
  obtain ⟨rfl, hP, hKN, hD, hA⟩ := hv
  have hK := hKN.1
  have hx := B.exec
  have hb := B.bytes
  have hr := B.returns
  have hts := wt_X11_toHammer hKN.2.2 (([.ref a_el] : List Value).toArray)
  have hown : s.vm.findClass RX11 = some m.cls := findClass_of_methodNamed B.named
  have hlocks := B.notSynchronized
  have hS : va_S A s.heap s.heap [] := va_S.rf
  have hX11 := wc_X11 hKN.2.2 (([.ref a_el] : List Value).toArray)
  have hl := lv_entry ([.ref a_el]) (n := 1) (Nat.le_of_ble_eq_true rfl)
  rw [lg_entry_eq]
  generalize (lg_sl ([.ref a_el]) ++ List.replicate (1 - (lg_sl ([.ref a_el])).length) Slot.unset).toArray = ls at hl ⊢
  have hl : lv_has ls 1 [(0, .ref a_el)] := hl
  unfold f_X11_toHammer at h
  refine lv_aload_n hx hb dX11_toHammer_0 rfl (lv_at hl 0 rfl) ?_
  refine lv_aload_n hx hb dX11_toHammer_1 rfl (lv_at hl 0 rfl) ?_
  obtain ⟨r_1, hc_2, h⟩ := bd1_some h
  refine kVi [] [.ref a_el] ⟨hx, hb, hml, hown, hts⟩ (c_X11_warTrouble l D cy a_el a_la (el_tape) el_bytes (el_reader) (el_now) (el_past) (.ref a_od) (el_game) (el_placing) (el_marching) (el_trumpets) (el_fight) el_refusal el_faultTold el_faultPlace la_lanes la_deep la_lanesTold (.ref a_la_who) (la_firstStrong) la_beasts (.ref a_la_kind) (la_firstLane) (.ref a_la_mood) (la_price) la_cities la_passes (la_passBetween) la_turned r_1 hc_2) gX11_toHammer_X11_warTrouble rfl hd_X11_warTrouble ⟨Nat.le_of_ble_eq_true rfl, Nat.le_of_ble_eq_true rfl⟩ rfl rfl hKN (pXc hP [0, 1] rfl) 11 0 rfl rfl rfl hl.1 rfl (Nat.le_of_ble_eq_true rfl) dX11_toHammer_2 ⟨Nat.le_of_ble_eq_true rfl, Nat.le_of_ble_eq_true rfl⟩ ?_
  obtain ⟨r_3, el_refusal_4, hc_5, h⟩ := bd2_some h
  refine wVb [.int r_1] [] ⟨hx, hb, hml, hown, hts⟩ (c_X11_isRefused l D cy A ([(a_la, .inr (2, [.int la_lanes, .int la_deep, .int la_lanesTold, .ref a_la_who, la_firstStrong, .int la_beasts, .ref a_la_kind, la_firstLane, .ref a_la_mood, la_price, .int la_cities, .int la_passes, la_passBetween, .int la_turned])), (a_la_who, .inl (cy 1, 6, .inl la_who)), (a_la_kind, .inl (cy 1, 5, .inl la_kind)), (a_la_mood, .inl (cy 1, 5, .inl la_mood)), (a_no, .inr (8, [.ref a_no_strong, .ref a_no_at, .ref a_no_wounds, .int no_dead, .int no_wet, .int no_drawn])), (a_no_strong, .inl (cy 1, 6, .inl no_strong)), (a_no_at, .inl (cy 1, 5, .inl no_at)), (a_no_wounds, .inl (cy 1, 5, .inl no_wounds)), (a_od, .inr (4, [.ref a_la, .ref a_no]))] ++ X) a_el (el_tape) el_bytes (el_reader) (.ref a_la) (el_now) (el_past) (.ref a_od) (el_game) (el_placing) (el_marching) (el_trumpets) (el_fight) el_refusal el_faultTold el_faultPlace r_1 r_3 el_refusal_4 hc_5) gX11_toHammer_X11_isRefused rfl hd_X11_isRefused ⟨Nat.le_of_ble_eq_true rfl, Nat.le_of_ble_eq_true rfl⟩ rfl rfl hKN (pX3 hP [0, 1, 2, 3, 4, 5, 6, 7, 8, 9] rfl) (dX3 hD [0, 1, 2, 3, 4, 5, 6, 7, 8, 9] rfl rfl) hS hA 11 0 rfl rfl rfl hl.1 rfl (Nat.le_of_ble_eq_true rfl) dX11_toHammer_5 ⟨Nat.le_of_ble_eq_true rfl, Nat.le_of_ble_eq_true rfl⟩ (fun nb_6 H locs hP hD hS => ?_)
  have hP := pX4 (L1 := [(a_el, .inr (11, [el_tape, .int el_bytes, el_reader, .ref a_la, el_now, el_past, .ref a_od, el_game, el_placing, el_marching, el_trumpets, el_fight, .int el_refusal_4, .int el_faultTold, .int el_faultPlace])), (a_la, .inr (2, [.int la_lanes, .int la_deep, .int la_lanesTold, .ref a_la_who, la_firstStrong, .int la_beasts, .ref a_la_kind, la_firstLane, .ref a_la_mood, la_price, .int la_cities, .int la_passes, la_passBetween, .int la_turned])), (a_la_who, .inl (cy 1, 6, .inl la_who)), (a_la_kind, .inl (cy 1, 5, .inl la_kind)), (a_la_mood, .inl (cy 1, 5, .inl la_mood)), (a_no, .inr (8, [.ref a_no_strong, .ref a_no_at, .ref a_no_wounds, .int no_dead, .int no_wet, .int no_drawn])), (a_no_strong, .inl (cy 1, 6, .inl no_strong)), (a_no_at, .inl (cy 1, 5, .inl no_at)), (a_no_wounds, .inl (cy 1, 5, .inl no_wounds)), (a_od, .inr (4, [.ref a_la, .ref a_no]))]) hP [0, 1, 2, 3, 4, 5, 6, 7, 8, 9] rfl
  have hD := dX4 (L1 := [(a_el, .inr (11, [el_tape, .int el_bytes, el_reader, .ref a_la, el_now, el_past, .ref a_od, el_game, el_placing, el_marching, el_trumpets, el_fight, .int el_refusal_4, .int el_faultTold, .int el_faultPlace])), (a_la, .inr (2, [.int la_lanes, .int la_deep, .int la_lanesTold, .ref a_la_who, la_firstStrong, .int la_beasts, .ref a_la_kind, la_firstLane, .ref a_la_mood, la_price, .int la_cities, .int la_passes, la_passBetween, .int la_turned])), (a_la_who, .inl (cy 1, 6, .inl la_who)), (a_la_kind, .inl (cy 1, 5, .inl la_kind)), (a_la_mood, .inl (cy 1, 5, .inl la_mood)), (a_no, .inr (8, [.ref a_no_strong, .ref a_no_at, .ref a_no_wounds, .int no_dead, .int no_wet, .int no_drawn])), (a_no_strong, .inl (cy 1, 6, .inl no_strong)), (a_no_at, .inl (cy 1, 5, .inl no_at)), (a_no_wounds, .inl (cy 1, 5, .inl no_wounds)), (a_od, .inr (4, [.ref a_la, .ref a_no]))]) hD [0, 1, 2, 3, 4, 5, 6, 7, 8, 9] rfl rfl
  refine lv_if_eq (tgt := 15) hx hb dX11_toHammer_8 (by decide) (fun cd => ?_) (fun cd => ?_)
  · have h := ifT cd h
    refine lv_aload_n hx hb dX11_toHammer_15 rfl (lv_at hl 0 rfl) ?_
    refine va_get (D := D) (ci := 11) (C := RX11) (T := TX11) (N := 15) (v := .ref a_od) hx hb hX11 (fun _ q => q) hown hK hP 0 rfl rfl 6 (by decide) (hts (.fieldLink RX11 48 "ElephantLine" "odds" "LElephantLine$Odds;") (by decide +kernel)) (fun _ h9 => h9) rfl dX11_toHammer_16 ?_
    obtain ⟨r_7, hc_8, h⟩ := bd1_some h
    refine kVi [] [] ⟨hx, hb, hml, hown, hts⟩ (c_X4_beastBetterDead l D cy a_la a_la_who a_la_kind a_la_mood a_no a_no_strong a_no_at a_no_wounds a_od la_lanes la_deep la_lanesTold (la_firstStrong) la_beasts (la_firstLane) (la_price) la_cities la_passes (la_passBetween) la_turned la_who la_kind la_mood no_dead no_wet no_drawn no_strong no_at no_wounds r_7 hc_8) gX11_toHammer_X4_beastBetterDead rfl hd_X4_beastBetterDead ⟨Nat.le_of_ble_eq_true rfl, Nat.le_of_ble_eq_true rfl⟩ rfl rfl hKN (pXc hP [1, 2, 3, 4, 5, 6, 7, 8, 9] rfl) 4 8 rfl rfl rfl hl.1 rfl (Nat.le_of_ble_eq_true rfl) dX11_toHammer_19 ⟨Nat.le_of_ble_eq_true rfl, Nat.le_of_ble_eq_true rfl⟩ ?_
    cases h
    exact W.iret hx hb hr (fun t ht _ => ⟨⟨_, (), rfl, rfl, by rw [ht]; exact hP, hD⟩, hS.F ht⟩) hS.2.2 dX11_toHammer_22
  · have h := ifF cd h
    refine lv_iconst (v := (-1)) hx hb dX11_toHammer_11 (by decide) ?_
    refine lv_goto (tgt := 22) hx hb dX11_toHammer_12 (by decide) ?_
    cases h
    exact W.iret hx hb hr (fun t ht _ => ⟨⟨_, (), rfl, rfl, by rw [ht]; exact hP, hD⟩, hS.F ht⟩) hS.2.2 dX11_toHammer_22
theorem hd_X11_place : yX11_place.cls = RX11 ∧ yX11_place.cls ≠ "java/lang/invoke/MethodHandle" ∧ yX11_place.cls ≠ "java/lang/invoke/VarHandle" ∧ (parseMethodDescriptor yX11_place.desc).map (fun d => d.parameters.length) = some 1 := by decide +kernel
set_option maxHeartbeats 4000000 in
set_option maxRecDepth 100000 in
theorem c_X11_place (l : Launch) (D : va_G) (cy : Nat → ClassId) (A : Nat → Prop) (X : va_W) (a_el a_la a_la_who a_la_kind a_la_mood a_no a_no_strong a_no_wounds a_od a_pl a_pl_worths a_pl_most a_pl_lanes : Nat) (el_tape : Value) (el_bytes : Int32) (el_reader : Value) (el_now : Value) (el_past : Value) (el_odds : Value) (el_game : Value) (el_marching : Value) (el_trumpets : Value) (el_fight : Value) (el_refusal : Int32) (el_faultTold : Int32) (el_faultPlace : Int32) (la_lanes : Int32) (la_deep : Int32) (la_lanesTold : Int32) (la_firstStrong : Value) (la_beasts : Int32) (la_firstLane : Value) (la_price : Value) (la_cities : Int32) (la_passes : Int32) (la_passBetween : Value) (la_turned : Int32) (la_who : Nat → Int32) (la_kind : Nat → Int32) (la_mood : Nat → Int32) (no_at : Value) (no_dead : Int32) (no_wet : Int32) (no_drawn : Int32) (no_strong : Nat → Int32) (no_wounds : Nat → Int32) (pl_worths : Nat → Int64) (pl_most : Nat → Int64) (pl_lanes : Nat → Int32) (p1 : Int32) (res : Int32) (el_refusal' : Int32) (pl_worths' : Nat → Int64) (pl_most' : Nat → Int64) (pl_lanes' : Nat → Int32) (h : f_X11_place el_refusal la_lanes la_deep la_beasts la_who la_kind la_mood no_dead no_wet no_strong no_wounds pl_worths pl_most pl_lanes p1 = some (res, el_refusal', pl_worths', pl_most', pl_lanes')) : Met l yX11_place wo_X11_place ({ frames := 6, cells := 0, slots := 0, locals := 140 }) (wrPc D cy A [.ref a_el, .int p1] ([(a_el, .inr (11, [el_tape, .int el_bytes, el_reader, .ref a_la, el_now, el_past, el_odds, el_game, .ref a_pl, el_marching, el_trumpets, el_fight, .int el_refusal, .int el_faultTold, .int el_faultPlace])), (a_la, .inr (2, [.int la_lanes, .int la_deep, .int la_lanesTold, .ref a_la_who, la_firstStrong, .int la_beasts, .ref a_la_kind, la_firstLane, .ref a_la_mood, la_price, .int la_cities, .int la_passes, la_passBetween, .int la_turned])), (a_la_who, .inl (cy 1, 6, .inl la_who)), (a_la_kind, .inl (cy 1, 5, .inl la_kind)), (a_la_mood, .inl (cy 1, 5, .inl la_mood)), (a_no, .inr (8, [.ref a_no_strong, no_at, .ref a_no_wounds, .int no_dead, .int no_wet, .int no_drawn])), (a_no_strong, .inl (cy 1, 6, .inl no_strong)), (a_no_wounds, .inl (cy 1, 5, .inl no_wounds)), (a_od, .inr (4, [.ref a_la, .ref a_no])), (a_pl, .inr (6, [.ref a_la, .ref a_no, .ref a_od, .ref a_pl_worths, .ref a_pl_most, .ref a_pl_lanes])), (a_pl_worths, .inl (cy 2, 6, .inr (.inl pl_worths))), (a_pl_most, .inl (cy 2, 384, .inr (.inl pl_most))), (a_pl_lanes, .inl (cy 1, 5, .inl pl_lanes))] ++ X)) (va_Qi (fun (r : Int32) (_ : Unit) => r = res) (wB D A ([(a_el, .inr (11, [el_tape, .int el_bytes, el_reader, .ref a_la, el_now, el_past, el_odds, el_game, .ref a_pl, el_marching, el_trumpets, el_fight, .int el_refusal', .int el_faultTold, .int el_faultPlace])), (a_la, .inr (2, [.int la_lanes, .int la_deep, .int la_lanesTold, .ref a_la_who, la_firstStrong, .int la_beasts, .ref a_la_kind, la_firstLane, .ref a_la_mood, la_price, .int la_cities, .int la_passes, la_passBetween, .int la_turned])), (a_la_who, .inl (cy 1, 6, .inl la_who)), (a_la_kind, .inl (cy 1, 5, .inl la_kind)), (a_la_mood, .inl (cy 1, 5, .inl la_mood)), (a_no, .inr (8, [.ref a_no_strong, no_at, .ref a_no_wounds, .int no_dead, .int no_wet, .int no_drawn])), (a_no_strong, .inl (cy 1, 6, .inl no_strong)), (a_no_wounds, .inl (cy 1, 5, .inl no_wounds)), (a_od, .inr (4, [.ref a_la, .ref a_no])), (a_pl, .inr (6, [.ref a_la, .ref a_no, .ref a_od, .ref a_pl_worths, .ref a_pl_most, .ref a_pl_lanes])), (a_pl_worths, .inl (cy 2, 6, .inr (.inl pl_worths'))), (a_pl_most, .inl (cy 2, 384, .inr (.inl pl_most'))), (a_pl_lanes, .inl (cy 1, 5, .inl pl_lanes'))] ++ X)) A) 0 0 A := by
  refine Met.ofW (cc := cX11_place) (maxL := 2) (ret := (some .int)) (by decide) rfl ?_
  intro p e s m args below meth c s₁ B hml hv
  obtain ⟨rfl, hP, hKN, hD, hA⟩ := hv
  have hK := hKN.1
  have hx := B.exec
  have hb := B.bytes
  have hr := B.returns
  have hts := wt_X11_place hKN.2.2 (([.ref a_el, .int p1] : List Value).toArray)
  have hown : s.vm.findClass RX11 = some m.cls := findClass_of_methodNamed B.named
  have hlocks := B.notSynchronized
  have hS : va_S A s.heap s.heap [] := va_S.rf
  have hX11 := wc_X11 hKN.2.2 (([.ref a_el, .int p1] : List Value).toArray)
  have hl := lv_entry ([.ref a_el, .int p1]) (n := 2) (Nat.le_of_ble_eq_true rfl)
  rw [lg_entry_eq]
  generalize (lg_sl ([.ref a_el, .int p1]) ++ List.replicate (2 - (lg_sl ([.ref a_el, .int p1])).length) Slot.unset).toArray = ls at hl ⊢
  have hl : lv_has ls 2 [(0, .ref a_el), (1, .int p1)] := hl
  unfold f_X11_place at h
  refine lv_aload_n hx hb dX11_place_0 rfl (lv_at hl 0 rfl) ?_
  refine lv_aload_n hx hb dX11_place_1 rfl (lv_at hl 0 rfl) ?_
  refine lv_iload_n hx hb dX11_place_2 rfl (lv_at hl 1 rfl) ?_
  obtain ⟨r_1, hc_2, h⟩ := bd1_some h
  refine kVi [.int p1] [.ref a_el] ⟨hx, hb, hml, hown, hts⟩ (c_X11_beastTrouble l D cy a_el a_la (el_tape) el_bytes (el_reader) (el_now) (el_past) (el_odds) (el_game) (.ref a_pl) (el_marching) (el_trumpets) (el_fight) el_refusal el_faultTold el_faultPlace la_lanes la_deep la_lanesTold (.ref a_la_who) (la_firstStrong) la_beasts (.ref a_la_kind) (la_firstLane) (.ref a_la_mood) (la_price) la_cities la_passes (la_passBetween) la_turned p1 r_1 hc_2) gX11_place_X11_beastTrouble rfl hd_X11_beastTrouble ⟨Nat.le_of_ble_eq_true rfl, Nat.le_of_ble_eq_true rfl⟩ rfl rfl hKN (pXc hP [0, 1] rfl) 11 0 rfl rfl rfl hl.1 rfl (Nat.le_of_ble_eq_true rfl) dX11_place_3 ⟨Nat.le_of_ble_eq_true rfl, Nat.le_of_ble_eq_true rfl⟩ ?_
  obtain ⟨r_3, el_refusal_4, hc_5, h⟩ := bd2_some h
  refine wVb [.int r_1] [] ⟨hx, hb, hml, hown, hts⟩ (c_X11_isRefused l D cy A ([(a_la, .inr (2, [.int la_lanes, .int la_deep, .int la_lanesTold, .ref a_la_who, la_firstStrong, .int la_beasts, .ref a_la_kind, la_firstLane, .ref a_la_mood, la_price, .int la_cities, .int la_passes, la_passBetween, .int la_turned])), (a_la_who, .inl (cy 1, 6, .inl la_who)), (a_la_kind, .inl (cy 1, 5, .inl la_kind)), (a_la_mood, .inl (cy 1, 5, .inl la_mood)), (a_no, .inr (8, [.ref a_no_strong, no_at, .ref a_no_wounds, .int no_dead, .int no_wet, .int no_drawn])), (a_no_strong, .inl (cy 1, 6, .inl no_strong)), (a_no_wounds, .inl (cy 1, 5, .inl no_wounds)), (a_od, .inr (4, [.ref a_la, .ref a_no])), (a_pl, .inr (6, [.ref a_la, .ref a_no, .ref a_od, .ref a_pl_worths, .ref a_pl_most, .ref a_pl_lanes])), (a_pl_worths, .inl (cy 2, 6, .inr (.inl pl_worths))), (a_pl_most, .inl (cy 2, 384, .inr (.inl pl_most))), (a_pl_lanes, .inl (cy 1, 5, .inl pl_lanes))] ++ X) a_el (el_tape) el_bytes (el_reader) (.ref a_la) (el_now) (el_past) (el_odds) (el_game) (.ref a_pl) (el_marching) (el_trumpets) (el_fight) el_refusal el_faultTold el_faultPlace r_1 r_3 el_refusal_4 hc_5) gX11_place_X11_isRefused rfl hd_X11_isRefused ⟨Nat.le_of_ble_eq_true rfl, Nat.le_of_ble_eq_true rfl⟩ rfl rfl hKN (pX3 hP [0, 1, 2, 3, 4, 5, 6, 7, 8, 9, 10, 11, 12] rfl) (dX3 hD [0, 1, 2, 3, 4, 5, 6, 7, 8, 9, 10, 11, 12] rfl rfl) hS hA 11 0 rfl rfl rfl hl.1 rfl (Nat.le_of_ble_eq_true rfl) dX11_place_6 ⟨Nat.le_of_ble_eq_true rfl, Nat.le_of_ble_eq_true rfl⟩ (fun nb_6 H locs hP hD hS => ?_)
  have hP := pX4 (L1 := [(a_el, .inr (11, [el_tape, .int el_bytes, el_reader, .ref a_la, el_now, el_past, el_odds, el_game, .ref a_pl, el_marching, el_trumpets, el_fight, .int el_refusal_4, .int el_faultTold, .int el_faultPlace])), (a_la, .inr (2, [.int la_lanes, .int la_deep, .int la_lanesTold, .ref a_la_who, la_firstStrong, .int la_beasts, .ref a_la_kind, la_firstLane, .ref a_la_mood, la_price, .int la_cities, .int la_passes, la_passBetween, .int la_turned])), (a_la_who, .inl (cy 1, 6, .inl la_who)), (a_la_kind, .inl (cy 1, 5, .inl la_kind)), (a_la_mood, .inl (cy 1, 5, .inl la_mood)), (a_no, .inr (8, [.ref a_no_strong, no_at, .ref a_no_wounds, .int no_dead, .int no_wet, .int no_drawn])), (a_no_strong, .inl (cy 1, 6, .inl no_strong)), (a_no_wounds, .inl (cy 1, 5, .inl no_wounds)), (a_od, .inr (4, [.ref a_la, .ref a_no])), (a_pl, .inr (6, [.ref a_la, .ref a_no, .ref a_od, .ref a_pl_worths, .ref a_pl_most, .ref a_pl_lanes])), (a_pl_worths, .inl (cy 2, 6, .inr (.inl pl_worths))), (a_pl_most, .inl (cy 2, 384, .inr (.inl pl_most))), (a_pl_lanes, .inl (cy 1, 5, .inl pl_lanes))]) hP [0, 1, 2, 3, 4, 5, 6, 7, 8, 9, 10, 11, 12] rfl
  have hD := dX4 (L1 := [(a_el, .inr (11, [el_tape, .int el_bytes, el_reader, .ref a_la, el_now, el_past, el_odds, el_game, .ref a_pl, el_marching, el_trumpets, el_fight, .int el_refusal_4, .int el_faultTold, .int el_faultPlace])), (a_la, .inr (2, [.int la_lanes, .int la_deep, .int la_lanesTold, .ref a_la_who, la_firstStrong, .int la_beasts, .ref a_la_kind, la_firstLane, .ref a_la_mood, la_price, .int la_cities, .int la_passes, la_passBetween, .int la_turned])), (a_la_who, .inl (cy 1, 6, .inl la_who)), (a_la_kind, .inl (cy 1, 5, .inl la_kind)), (a_la_mood, .inl (cy 1, 5, .inl la_mood)), (a_no, .inr (8, [.ref a_no_strong, no_at, .ref a_no_wounds, .int no_dead, .int no_wet, .int no_drawn])), (a_no_strong, .inl (cy 1, 6, .inl no_strong)), (a_no_wounds, .inl (cy 1, 5, .inl no_wounds)), (a_od, .inr (4, [.ref a_la, .ref a_no])), (a_pl, .inr (6, [.ref a_la, .ref a_no, .ref a_od, .ref a_pl_worths, .ref a_pl_most, .ref a_pl_lanes])), (a_pl_worths, .inl (cy 2, 6, .inr (.inl pl_worths))), (a_pl_most, .inl (cy 2, 384, .inr (.inl pl_most))), (a_pl_lanes, .inl (cy 1, 5, .inl pl_lanes))]) hD [0, 1, 2, 3, 4, 5, 6, 7, 8, 9, 10, 11, 12] rfl rfl
  refine lv_if_eq (tgt := 14) hx hb dX11_place_9 (by decide) (fun cd => ?_) (fun cd => ?_)
  · have h := ifT cd h
    refine lv_aload_n hx hb dX11_place_14 rfl (lv_at hl 0 rfl) ?_
    refine va_get (D := D) (ci := 11) (C := RX11) (T := TX11) (N := 15) (v := .ref a_pl) hx hb hX11 (fun _ q => q) hown hK hP 0 rfl rfl 8 (by decide) (hts (.fieldLink RX11 64 "ElephantLine" "placing" "LElephantLine$Placing;") (by decide +kernel)) (fun _ h9 => h9) rfl dX11_place_15 ?_
    obtain ⟨pl_worths_7, pl_most_8, pl_lanes_9, hc_10, h⟩ := bd3_some h
    refine wVv [] [] ⟨hx, hb, hml, hown, hts⟩ (c_X6_settle l D cy A ([(a_el, .inr (11, [el_tape, .int el_bytes, el_reader, .ref a_la, el_now, el_past, el_odds, el_game, .ref a_pl, el_marching, el_trumpets, el_fight, .int el_refusal_4, .int el_faultTold, .int el_faultPlace]))] ++ X) a_la a_la_who a_la_kind a_la_mood a_no a_no_strong a_no_wounds a_od a_pl a_pl_worths a_pl_most a_pl_lanes la_lanes la_deep la_lanesTold (la_firstStrong) la_beasts (la_firstLane) (la_price) la_cities la_passes (la_passBetween) la_turned la_who la_kind la_mood (no_at) no_dead no_wet no_drawn no_strong no_wounds pl_worths pl_most pl_lanes pl_worths_7 pl_most_8 pl_lanes_9 hc_10) gX11_place_X6_settle rfl hd_X6_settle ⟨Nat.le_of_ble_eq_true rfl, Nat.le_of_ble_eq_true rfl⟩ rfl rfl hKN (pX3 hP [1, 2, 3, 4, 5, 6, 7, 8, 9, 10, 11, 12, 0] rfl) (dX3 hD [1, 2, 3, 4, 5, 6, 7, 8, 9, 10, 11, 12, 0] rfl rfl) hS hA 6 8 rfl rfl rfl hl.1 rfl (Nat.le_of_ble_eq_true rfl) dX11_place_18 ⟨Nat.le_of_ble_eq_true rfl, Nat.le_of_ble_eq_true rfl⟩ (fun H locs hP hD hS => ?_)
    have hP := pX4 (L1 := [(a_el, .inr (11, [el_tape, .int el_bytes, el_reader, .ref a_la, el_now, el_past, el_odds, el_game, .ref a_pl, el_marching, el_trumpets, el_fight, .int el_refusal_4, .int el_faultTold, .int el_faultPlace])), (a_la, .inr (2, [.int la_lanes, .int la_deep, .int la_lanesTold, .ref a_la_who, la_firstStrong, .int la_beasts, .ref a_la_kind, la_firstLane, .ref a_la_mood, la_price, .int la_cities, .int la_passes, la_passBetween, .int la_turned])), (a_la_who, .inl (cy 1, 6, .inl la_who)), (a_la_kind, .inl (cy 1, 5, .inl la_kind)), (a_la_mood, .inl (cy 1, 5, .inl la_mood)), (a_no, .inr (8, [.ref a_no_strong, no_at, .ref a_no_wounds, .int no_dead, .int no_wet, .int no_drawn])), (a_no_strong, .inl (cy 1, 6, .inl no_strong)), (a_no_wounds, .inl (cy 1, 5, .inl no_wounds)), (a_od, .inr (4, [.ref a_la, .ref a_no])), (a_pl, .inr (6, [.ref a_la, .ref a_no, .ref a_od, .ref a_pl_worths, .ref a_pl_most, .ref a_pl_lanes])), (a_pl_worths, .inl (cy 2, 6, .inr (.inl pl_worths_7))), (a_pl_most, .inl (cy 2, 384, .inr (.inl pl_most_8))), (a_pl_lanes, .inl (cy 1, 5, .inl pl_lanes_9))]) hP [12, 0, 1, 2, 3, 4, 5, 6, 7, 8, 9, 10, 11] rfl
    have hD := dX4 (L1 := [(a_el, .inr (11, [el_tape, .int el_bytes, el_reader, .ref a_la, el_now, el_past, el_odds, el_game, .ref a_pl, el_marching, el_trumpets, el_fight, .int el_refusal_4, .int el_faultTold, .int el_faultPlace])), (a_la, .inr (2, [.int la_lanes, .int la_deep, .int la_lanesTold, .ref a_la_who, la_firstStrong, .int la_beasts, .ref a_la_kind, la_firstLane, .ref a_la_mood, la_price, .int la_cities, .int la_passes, la_passBetween, .int la_turned])), (a_la_who, .inl (cy 1, 6, .inl la_who)), (a_la_kind, .inl (cy 1, 5, .inl la_kind)), (a_la_mood, .inl (cy 1, 5, .inl la_mood)), (a_no, .inr (8, [.ref a_no_strong, no_at, .ref a_no_wounds, .int no_dead, .int no_wet, .int no_drawn])), (a_no_strong, .inl (cy 1, 6, .inl no_strong)), (a_no_wounds, .inl (cy 1, 5, .inl no_wounds)), (a_od, .inr (4, [.ref a_la, .ref a_no])), (a_pl, .inr (6, [.ref a_la, .ref a_no, .ref a_od, .ref a_pl_worths, .ref a_pl_most, .ref a_pl_lanes])), (a_pl_worths, .inl (cy 2, 6, .inr (.inl pl_worths_7))), (a_pl_most, .inl (cy 2, 384, .inr (.inl pl_most_8))), (a_pl_lanes, .inl (cy 1, 5, .inl pl_lanes_9))]) hD [12, 0, 1, 2, 3, 4, 5, 6, 7, 8, 9, 10, 11] rfl rfl
    refine lv_aload_n hx hb dX11_place_21 rfl (lv_at hl 0 rfl) ?_
    refine va_get (D := D) (ci := 11) (C := RX11) (T := TX11) (N := 15) (v := .ref a_pl) hx hb hX11 (fun _ q => q) hown hK hP 0 rfl rfl 8 (by decide) (hts (.fieldLink RX11 64 "ElephantLine" "placing" "LElephantLine$Placing;") (by decide +kernel)) (fun _ h9 => h9) rfl dX11_place_22 ?_
    refine lv_iload_n hx hb dX11_place_25 rfl (lv_at hl 1 rfl) ?_
    obtain ⟨r_11, hc_12, h⟩ := bd1_some h
    refine kVi [.int p1] [] ⟨hx, hb, hml, hown, hts⟩ (c_X6_laneFor l D cy a_la a_pl a_pl_lanes la_lanes la_deep la_lanesTold (.ref a_la_who) (la_firstStrong) la_beasts (.ref a_la_kind) (la_firstLane) (.ref a_la_mood) (la_price) la_cities la_passes (la_passBetween) la_turned (.ref a_no) (.ref a_od) (.ref a_pl_worths) (.ref a_pl_most) pl_lanes_9 p1 r_11 hc_12) gX11_place_X6_laneFor rfl hd_X6_laneFor ⟨Nat.le_of_ble_eq_true rfl, Nat.le_of_ble_eq_true rfl⟩ rfl rfl hKN (pXc hP [1, 9, 12] rfl) 6 1 rfl rfl rfl hl.1 rfl (Nat.le_of_ble_eq_true rfl) dX11_place_26 ⟨Nat.le_of_ble_eq_true rfl, Nat.le_of_ble_eq_true rfl⟩ ?_
    cases h
    exact W.iret hx hb hr (fun t ht _ => ⟨⟨_, (), rfl, rfl, by rw [ht]; exact hP, hD⟩, hS.F ht⟩) hS.2.2 dX11_place_29
  · have h := ifF cd h
    refine lv_iconst (v := (-1)) hx hb dX11_place_12 (by decide) ?_
    cases h
    exact W.iret hx hb hr (fun t ht _ => ⟨⟨_, (), rfl, rfl, by rw [ht]; exact hP, hD⟩, hS.F ht⟩) hS.2.2 dX11_place_13
theorem hd_X11_placed : yX11_placed.cls = RX11 ∧ yX11_placed.cls ≠ "java/lang/invoke/MethodHandle" ∧ yX11_placed.cls ≠ "java/lang/invoke/VarHandle" ∧ (parseMethodDescriptor yX11_placed.desc).map (fun d => d.parameters.length) = some 1 := by decide +kernel
set_option maxHeartbeats 4000000 in
set_option maxRecDepth 100000 in
theorem c_X11_placed (l : Launch) (D : va_G) (cy : Nat → ClassId) (A : Nat → Prop) (X : va_W) (a_el a_la a_la_who a_la_kind a_la_mood a_no a_no_strong a_no_wounds a_od a_pl a_pl_worths a_pl_most a_pl_lanes : Nat) (el_tape : Value) (el_bytes : Int32) (el_reader : Value) (el_now : Value) (el_past : Value) (el_game : Value) (el_marching : Value) (el_trumpets : Value) (el_fight : Value) (el_refusal : Int32) (el_faultTold : Int32) (el_faultPlace : Int32) (la_lanes : Int32) (la_deep : Int32) (la_lanesTold : Int32) (la_firstStrong : Value) (la_beasts : Int32) (la_firstLane : Value) (la_price : Value) (la_cities : Int32) (la_passes : Int32) (la_passBetween : Value) (la_turned : Int32) (la_who : Nat → Int32) (la_kind : Nat → Int32) (la_mood : Nat → Int32) (no_at : Value) (no_dead : Int32) (no_wet : Int32) (no_drawn : Int32) (no_strong : Nat → Int32) (no_wounds : Nat → Int32) (pl_worths : Nat → Int64) (pl_most : Nat → Int64) (pl_lanes : Nat → Int32) (p1 : Int32) (res : Int64) (el_refusal' : Int32) (pl_worths' : Nat → Int64) (pl_most' : Nat → Int64) (pl_lanes' : Nat → Int32) (h : f_X11_placed el_refusal la_lanes la_deep la_beasts la_who la_kind la_mood no_dead no_wet no_strong no_wounds pl_worths pl_most pl_lanes p1 = some (res, el_refusal', pl_worths', pl_most', pl_lanes')) : Met l yX11_placed wo_X11_placed ({ frames := 6, cells := 0, slots := 0, locals := 140 }) (wrPc D cy A [.ref a_el, .int p1] ([(a_el, .inr (11, [el_tape, .int el_bytes, el_reader, .ref a_la, el_now, el_past, .ref a_od, el_game, .ref a_pl, el_marching, el_trumpets, el_fight, .int el_refusal, .int el_faultTold, .int el_faultPlace])), (a_la, .inr (2, [.int la_lanes, .int la_deep, .int la_lanesTold, .ref a_la_who, la_firstStrong, .int la_beasts, .ref a_la_kind, la_firstLane, .ref a_la_mood, la_price, .int la_cities, .int la_passes, la_passBetween, .int la_turned])), (a_la_who, .inl (cy 1, 6, .inl la_who)), (a_la_kind, .inl (cy 1, 5, .inl la_kind)), (a_la_mood, .inl (cy 1, 5, .inl la_mood)), (a_no, .inr (8, [.ref a_no_strong, no_at, .ref a_no_wounds, .int no_dead, .int no_wet, .int no_drawn])), (a_no_strong, .inl (cy 1, 6, .inl no_strong)), (a_no_wounds, .inl (cy 1, 5, .inl no_wounds)), (a_od, .inr (4, [.ref a_la, .ref a_no])), (a_pl, .inr (6, [.ref a_la, .ref a_no, .ref a_od, .ref a_pl_worths, .ref a_pl_most, .ref a_pl_lanes])), (a_pl_worths, .inl (cy 2, 6, .inr (.inl pl_worths))), (a_pl_most, .inl (cy 2, 384, .inr (.inl pl_most))), (a_pl_lanes, .inl (cy 1, 5, .inl pl_lanes))] ++ X)) (va_Ql (fun (r : Int64) (_ : Unit) => r = res) (wB D A ([(a_el, .inr (11, [el_tape, .int el_bytes, el_reader, .ref a_la, el_now, el_past, .ref a_od, el_game, .ref a_pl, el_marching, el_trumpets, el_fight, .int el_refusal', .int el_faultTold, .int el_faultPlace])), (a_la, .inr (2, [.int la_lanes, .int la_deep, .int la_lanesTold, .ref a_la_who, la_firstStrong, .int la_beasts, .ref a_la_kind, la_firstLane, .ref a_la_mood, la_price, .int la_cities, .int la_passes, la_passBetween, .int la_turned])), (a_la_who, .inl (cy 1, 6, .inl la_who)), (a_la_kind, .inl (cy 1, 5, .inl la_kind)), (a_la_mood, .inl (cy 1, 5, .inl la_mood)), (a_no, .inr (8, [.ref a_no_strong, no_at, .ref a_no_wounds, .int no_dead, .int no_wet, .int no_drawn])), (a_no_strong, .inl (cy 1, 6, .inl no_strong)), (a_no_wounds, .inl (cy 1, 5, .inl no_wounds)), (a_od, .inr (4, [.ref a_la, .ref a_no])), (a_pl, .inr (6, [.ref a_la, .ref a_no, .ref a_od, .ref a_pl_worths, .ref a_pl_most, .ref a_pl_lanes])), (a_pl_worths, .inl (cy 2, 6, .inr (.inl pl_worths'))), (a_pl_most, .inl (cy 2, 384, .inr (.inl pl_most'))), (a_pl_lanes, .inl (cy 1, 5, .inl pl_lanes'))] ++ X)) A) 0 0 A := by
  refine Met.ofW (cc := cX11_placed) (maxL := 2) (ret := (some .long)) (by decide) rfl ?_
  intro p e s m args below meth c s₁ B hml hv
  obtain ⟨rfl, hP, hKN, hD, hA⟩ := hv
  have hK := hKN.1
  have hx := B.exec
  have hb := B.bytes
  have hr := B.returns
  have hts := wt_X11_placed hKN.2.2 (([.ref a_el, .int p1] : List Value).toArray)
  have hown : s.vm.findClass RX11 = some m.cls := findClass_of_methodNamed B.named
  have hlocks := B.notSynchronized
  have hS : va_S A s.heap s.heap [] := va_S.rf
  have hX11 := wc_X11 hKN.2.2 (([.ref a_el, .int p1] : List Value).toArray)
  have hl := lv_entry ([.ref a_el, .int p1]) (n := 2) (Nat.le_of_ble_eq_true rfl)
  rw [lg_entry_eq]
  generalize (lg_sl ([.ref a_el, .int p1]) ++ List.replicate (2 - (lg_sl ([.ref a_el, .int p1])).length) Slot.unset).toArray = ls at hl ⊢
  have hl : lv_has ls 2 [(0, .ref a_el), (1, .int p1)] := hl
  unfold f_X11_placed at h
  refine lv_aload_n hx hb dX11_placed_0 rfl (lv_at hl 0 rfl) ?_
  refine lv_aload_n hx hb dX11_placed_1 rfl (lv_at hl 0 rfl) ?_
  obtain ⟨r_1, hc_2, h⟩ := bd1_some h
  refine kVi [] [.ref a_el] ⟨hx, hb, hml, hown, hts⟩ (c_X11_warTrouble l D cy a_el a_la (el_tape) el_bytes (el_reader) (el_now) (el_past) (.ref a_od) (el_game) (.ref a_pl) (el_marching) (el_trumpets) (el_fight) el_refusal el_faultTold el_faultPlace la_lanes la_deep la_lanesTold (.ref a_la_who) (la_firstStrong) la_beasts (.ref a_la_kind) (la_firstLane) (.ref a_la_mood) (la_price) la_cities la_passes (la_passBetween) la_turned r_1 hc_2) gX11_placed_X11_warTrouble rfl hd_X11_warTrouble ⟨Nat.le_of_ble_eq_true rfl, Nat.le_of_ble_eq_true rfl⟩ rfl rfl hKN (pXc hP [0, 1] rfl) 11 0 rfl rfl rfl hl.1 rfl (Nat.le_of_ble_eq_true rfl) dX11_placed_2 ⟨Nat.le_of_ble_eq_true rfl, Nat.le_of_ble_eq_true rfl⟩ ?_
  obtain ⟨r_3, el_refusal_4, hc_5, h⟩ := bd2_some h
  refine wVb [.int r_1] [] ⟨hx, hb, hml, hown, hts⟩ (c_X11_isRefused l D cy A ([(a_la, .inr (2, [.int la_lanes, .int la_deep, .int la_lanesTold, .ref a_la_who, la_firstStrong, .int la_beasts, .ref a_la_kind, la_firstLane, .ref a_la_mood, la_price, .int la_cities, .int la_passes, la_passBetween, .int la_turned])), (a_la_who, .inl (cy 1, 6, .inl la_who)), (a_la_kind, .inl (cy 1, 5, .inl la_kind)), (a_la_mood, .inl (cy 1, 5, .inl la_mood)), (a_no, .inr (8, [.ref a_no_strong, no_at, .ref a_no_wounds, .int no_dead, .int no_wet, .int no_drawn])), (a_no_strong, .inl (cy 1, 6, .inl no_strong)), (a_no_wounds, .inl (cy 1, 5, .inl no_wounds)), (a_od, .inr (4, [.ref a_la, .ref a_no])), (a_pl, .inr (6, [.ref a_la, .ref a_no, .ref a_od, .ref a_pl_worths, .ref a_pl_most, .ref a_pl_lanes])), (a_pl_worths, .inl (cy 2, 6, .inr (.inl pl_worths))), (a_pl_most, .inl (cy 2, 384, .inr (.inl pl_most))), (a_pl_lanes, .inl (cy 1, 5, .inl pl_lanes))] ++ X) a_el (el_tape) el_bytes (el_reader) (.ref a_la) (el_now) (el_past) (.ref a_od) (el_game) (.ref a_pl) (el_marching) (el_trumpets) (el_fight) el_refusal el_faultTold el_faultPlace r_1 r_3 el_refusal_4 hc_5) gX11_placed_X11_isRefused rfl hd_X11_isRefused ⟨Nat.le_of_ble_eq_true rfl, Nat.le_of_ble_eq_true rfl⟩ rfl rfl hKN (pX3 hP [0, 1, 2, 3, 4, 5, 6, 7, 8, 9, 10, 11, 12] rfl) (dX3 hD [0, 1, 2, 3, 4, 5, 6, 7, 8, 9, 10, 11, 12] rfl rfl) hS hA 11 0 rfl rfl rfl hl.1 rfl (Nat.le_of_ble_eq_true rfl) dX11_placed_5 ⟨Nat.le_of_ble_eq_true rfl, Nat.le_of_ble_eq_true rfl⟩ (fun nb_6 H locs hP hD hS => ?_)
  have hP := pX4 (L1 := [(a_el, .inr (11, [el_tape, .int el_bytes, el_reader, .ref a_la, el_now, el_past, .ref a_od, el_game, .ref a_pl, el_marching, el_trumpets, el_fight, .int el_refusal_4, .int el_faultTold, .int el_faultPlace])), (a_la, .inr (2, [.int la_lanes, .int la_deep, .int la_lanesTold, .ref a_la_who, la_firstStrong, .int la_beasts, .ref a_la_kind, la_firstLane, .ref a_la_mood, la_price, .int la_cities, .int la_passes, la_passBetween, .int la_turned])), (a_la_who, .inl (cy 1, 6, .inl la_who)), (a_la_kind, .inl (cy 1, 5, .inl la_kind)), (a_la_mood, .inl (cy 1, 5, .inl la_mood)), (a_no, .inr (8, [.ref a_no_strong, no_at, .ref a_no_wounds, .int no_dead, .int no_wet, .int no_drawn])), (a_no_strong, .inl (cy 1, 6, .inl no_strong)), (a_no_wounds, .inl (cy 1, 5, .inl no_wounds)), (a_od, .inr (4, [.ref a_la, .ref a_no])), (a_pl, .inr (6, [.ref a_la, .ref a_no, .ref a_od, .ref a_pl_worths, .ref a_pl_most, .ref a_pl_lanes])), (a_pl_worths, .inl (cy 2, 6, .inr (.inl pl_worths))), (a_pl_most, .inl (cy 2, 384, .inr (.inl pl_most))), (a_pl_lanes, .inl (cy 1, 5, .inl pl_lanes))]) hP [0, 1, 2, 3, 4, 5, 6, 7, 8, 9, 10, 11, 12] rfl
  have hD := dX4 (L1 := [(a_el, .inr (11, [el_tape, .int el_bytes, el_reader, .ref a_la, el_now, el_past, .ref a_od, el_game, .ref a_pl, el_marching, el_trumpets, el_fight, .int el_refusal_4, .int el_faultTold, .int el_faultPlace])), (a_la, .inr (2, [.int la_lanes, .int la_deep, .int la_lanesTold, .ref a_la_who, la_firstStrong, .int la_beasts, .ref a_la_kind, la_firstLane, .ref a_la_mood, la_price, .int la_cities, .int la_passes, la_passBetween, .int la_turned])), (a_la_who, .inl (cy 1, 6, .inl la_who)), (a_la_kind, .inl (cy 1, 5, .inl la_kind)), (a_la_mood, .inl (cy 1, 5, .inl la_mood)), (a_no, .inr (8, [.ref a_no_strong, no_at, .ref a_no_wounds, .int no_dead, .int no_wet, .int no_drawn])), (a_no_strong, .inl (cy 1, 6, .inl no_strong)), (a_no_wounds, .inl (cy 1, 5, .inl no_wounds)), (a_od, .inr (4, [.ref a_la, .ref a_no])), (a_pl, .inr (6, [.ref a_la, .ref a_no, .ref a_od, .ref a_pl_worths, .ref a_pl_most, .ref a_pl_lanes])), (a_pl_worths, .inl (cy 2, 6, .inr (.inl pl_worths))), (a_pl_most, .inl (cy 2, 384, .inr (.inl pl_most))), (a_pl_lanes, .inl (cy 1, 5, .inl pl_lanes))]) hD [0, 1, 2, 3, 4, 5, 6, 7, 8, 9, 10, 11, 12] rfl rfl
  refine lv_if_eq (tgt := 15) hx hb dX11_placed_8 (by decide) (fun cd => ?_) (fun cd => ?_)
  · have h := ifT cd h
    refine lv_aload_n hx hb dX11_placed_15 rfl (lv_at hl 0 rfl) ?_
    refine va_get (D := D) (ci := 11) (C := RX11) (T := TX11) (N := 15) (v := .ref a_pl) hx hb hX11 (fun _ q => q) hown hK hP 0 rfl rfl 8 (by decide) (hts (.fieldLink RX11 64 "ElephantLine" "placing" "LElephantLine$Placing;") (by decide +kernel)) (fun _ h9 => h9) rfl dX11_placed_16 ?_
    obtain ⟨pl_worths_7, pl_most_8, pl_lanes_9, hc_10, h⟩ := bd3_some h
    refine wVv [] [] ⟨hx, hb, hml, hown, hts⟩ (c_X6_settle l D cy A ([(a_el, .inr (11, [el_tape, .int el_bytes, el_reader, .ref a_la, el_now, el_past, .ref a_od, el_game, .ref a_pl, el_marching, el_trumpets, el_fight, .int el_refusal_4, .int el_faultTold, .int el_faultPlace]))] ++ X) a_la a_la_who a_la_kind a_la_mood a_no a_no_strong a_no_wounds a_od a_pl a_pl_worths a_pl_most a_pl_lanes la_lanes la_deep la_lanesTold (la_firstStrong) la_beasts (la_firstLane) (la_price) la_cities la_passes (la_passBetween) la_turned la_who la_kind la_mood (no_at) no_dead no_wet no_drawn no_strong no_wounds pl_worths pl_most pl_lanes pl_worths_7 pl_most_8 pl_lanes_9 hc_10) gX11_placed_X6_settle rfl hd_X6_settle ⟨Nat.le_of_ble_eq_true rfl, Nat.le_of_ble_eq_true rfl⟩ rfl rfl hKN (pX3 hP [1, 2, 3, 4, 5, 6, 7, 8, 9, 10, 11, 12, 0] rfl) (dX3 hD [1, 2, 3, 4, 5, 6, 7, 8, 9, 10, 11, 12, 0] rfl rfl) hS hA 6 8 rfl rfl rfl hl.1 rfl (Nat.le_of_ble_eq_true rfl) dX11_placed_19 ⟨Nat.le_of_ble_eq_true rfl, Nat.le_of_ble_eq_true rfl⟩ (fun H locs hP hD hS => ?_)
    have hP := pX4 (L1 := [(a_el, .inr (11, [el_tape, .int el_bytes, el_reader, .ref a_la, el_now, el_past, .ref a_od, el_game, .ref a_pl, el_marching, el_trumpets, el_fight, .int el_refusal_4, .int el_faultTold, .int el_faultPlace])), (a_la, .inr (2, [.int la_lanes, .int la_deep, .int la_lanesTold, .ref a_la_who, la_firstStrong, .int la_beasts, .ref a_la_kind, la_firstLane, .ref a_la_mood, la_price, .int la_cities, .int la_passes, la_passBetween, .int la_turned])), (a_la_who, .inl (cy 1, 6, .inl la_who)), (a_la_kind, .inl (cy 1, 5, .inl la_kind)), (a_la_mood, .inl (cy 1, 5, .inl la_mood)), (a_no, .inr (8, [.ref a_no_strong, no_at, .ref a_no_wounds, .int no_dead, .int no_wet, .int no_drawn])), (a_no_strong, .inl (cy 1, 6, .inl no_strong)), (a_no_wounds, .inl (cy 1, 5, .inl no_wounds)), (a_od, .inr (4, [.ref a_la, .ref a_no])), (a_pl, .inr (6, [.ref a_la, .ref a_no, .ref a_od, .ref a_pl_worths, .ref a_pl_most, .ref a_pl_lanes])), (a_pl_worths, .inl (cy 2, 6, .inr (.inl pl_worths_7))), (a_pl_most, .inl (cy 2, 384, .inr (.inl pl_most_8))), (a_pl_lanes, .inl (cy 1, 5, .inl pl_lanes_9))]) hP [12, 0, 1, 2, 3, 4, 5, 6, 7, 8, 9, 10, 11] rfl
    have hD := dX4 (L1 := [(a_el, .inr (11, [el_tape, .int el_bytes, el_reader, .ref a_la, el_now, el_past, .ref a_od, el_game, .ref a_pl, el_marching, el_trumpets, el_fight, .int el_refusal_4, .int el_faultTold, .int el_faultPlace])), (a_la, .inr (2, [.int la_lanes, .int la_deep, .int la_lanesTold, .ref a_la_who, la_firstStrong, .int la_beasts, .ref a_la_kind, la_firstLane, .ref a_la_mood, la_price, .int la_cities, .int la_passes, la_passBetween, .int la_turned])), (a_la_who, .inl (cy 1, 6, .inl la_who)), (a_la_kind, .inl (cy 1, 5, .inl la_kind)), (a_la_mood, .inl (cy 1, 5, .inl la_mood)), (a_no, .inr (8, [.ref a_no_strong, no_at, .ref a_no_wounds, .int no_dead, .int no_wet, .int no_drawn])), (a_no_strong, .inl (cy 1, 6, .inl no_strong)), (a_no_wounds, .inl (cy 1, 5, .inl no_wounds)), (a_od, .inr (4, [.ref a_la, .ref a_no])), (a_pl, .inr (6, [.ref a_la, .ref a_no, .ref a_od, .ref a_pl_worths, .ref a_pl_most, .ref a_pl_lanes])), (a_pl_worths, .inl (cy 2, 6, .inr (.inl pl_worths_7))), (a_pl_most, .inl (cy 2, 384, .inr (.inl pl_most_8))), (a_pl_lanes, .inl (cy 1, 5, .inl pl_lanes_9))]) hD [12, 0, 1, 2, 3, 4, 5, 6, 7, 8, 9, 10, 11] rfl rfl
    refine lv_aload_n hx hb dX11_placed_22 rfl (lv_at hl 0 rfl) ?_
    refine va_get (D := D) (ci := 11) (C := RX11) (T := TX11) (N := 15) (v := .ref a_od) hx hb hX11 (fun _ q => q) hown hK hP 0 rfl rfl 6 (by decide) (hts (.fieldLink RX11 48 "ElephantLine" "odds" "LElephantLine$Odds;") (by decide +kernel)) (fun _ h9 => h9) rfl dX11_placed_23 ?_
    refine lv_aload_n hx hb dX11_placed_26 rfl (lv_at hl 0 rfl) ?_
    refine va_get (D := D) (ci := 11) (C := RX11) (T := TX11) (N := 15) (v := .ref a_pl) hx hb hX11 (fun _ q => q) hown hK hP 0 rfl rfl 8 (by decide) (hts (.fieldLink RX11 64 "ElephantLine" "placing" "LElephantLine$Placing;") (by decide +kernel)) (fun _ h9 => h9) rfl dX11_placed_27 ?_
    obtain ⟨r_11, hc_12, h⟩ := bd1_some h
    refine kVl [] [.ref a_od] ⟨hx, hb, hml, hown, hts⟩ (c_X6_greatestSum l D cy a_pl a_pl_most (.ref a_la) (.ref a_no) (.ref a_od) (.ref a_pl_worths) (.ref a_pl_lanes) pl_most_8 r_11 hc_12) gX11_placed_X6_greatestSum rfl hd_X6_greatestSum ⟨Nat.le_of_ble_eq_true rfl, Nat.le_of_ble_eq_true rfl⟩ rfl rfl hKN (pXc hP [9, 11] rfl) 6 0 rfl rfl rfl hl.1 rfl (Nat.le_of_ble_eq_true rfl) dX11_placed_30 ⟨Nat.le_of_ble_eq_true rfl, Nat.le_of_ble_eq_true rfl⟩ ?_
    refine lv_iload_n hx hb dX11_placed_33 rfl (lv_at hl 1 rfl) ?_
    obtain ⟨r_13, hc_14, h⟩ := bd1_some h
    refine kVl [.long r_11, .int p1] [] ⟨hx, hb, hml, hown, hts⟩ (c_X4_told l D cy a_la a_od la_lanes la_deep la_lanesTold (.ref a_la_who) (la_firstStrong) la_beasts (.ref a_la_kind) (la_firstLane) (.ref a_la_mood) (la_price) la_cities la_passes (la_passBetween) la_turned (.ref a_no) r_11 p1 r_13 hc_14) gX11_placed_X4_told rfl hd_X4_told ⟨Nat.le_of_ble_eq_true rfl, Nat.le_of_ble_eq_true rfl⟩ rfl rfl hKN (pXc hP [1, 8] rfl) 4 1 rfl rfl rfl hl.1 rfl (Nat.le_of_ble_eq_true rfl) dX11_placed_34 ⟨Nat.le_of_ble_eq_true rfl, Nat.le_of_ble_eq_true rfl⟩ ?_
    cases h
    exact W.lret hx hb hr (fun t ht _ => ⟨⟨_, (), rfl, rfl, by rw [ht]; exact hP, hD⟩, hS.F ht⟩) hS.2.2 dX11_placed_37
  · have h := ifF cd h
    refine lv_ldc2 (v := (-9223372036854775808)) hx hb hown (hts (.constantLong RX11 205 (-9223372036854775808)) (by decide +kernel)) dX11_placed_11 ?_
    cases h
    exact W.lret hx hb hr (fun t ht _ => ⟨⟨_, (), rfl, rfl, by rw [ht]; exact hP, hD⟩, hS.F ht⟩) hS.2.2 dX11_placed_14
theorem hd_X11_out : yX11_out.cls = RX11 ∧ yX11_out.cls ≠ "java/lang/invoke/MethodHandle" ∧ yX11_out.cls ≠ "java/lang/invoke/VarHandle" ∧ (parseMethodDescriptor yX11_out.desc).map (fun d => d.parameters.length) = some 0 := by decide +kernel
set_option maxHeartbeats 4000000 in
set_option maxRecDepth 100000 in
theorem c_X11_out (l : Launch) (D : va_G) (cy : Nat → ClassId) (A : Nat → Prop) (X : va_W) (a_el a_la a_la_who a_la_kind a_la_mood a_no a_no_strong a_no_wounds a_od a_pl a_pl_worths a_pl_most a_pl_lanes : Nat) (el_tape : Value) (el_bytes : Int32) (el_reader : Value) (el_now : Value) (el_past : Value) (el_odds : Value) (el_game : Value) (el_marching : Value) (el_trumpets : Value) (el_fight : Value) (el_refusal : Int32) (el_faultTold : Int32) (el_faultPlace : Int32) (la_lanes : Int32) (la_deep : Int32) (la_lanesTold : Int32) (la_firstStrong : Value) (la_beasts : Int32) (la_firstLane : Value) (la_price : Value) (la_cities : Int32) (la_passes : Int32) (la_passBetween : Value) (la_turned : Int32) (la_who : Nat → Int32) (la_kind : Nat → Int32) (la_mood : Nat → Int32) (no_at : Value) (no_dead : Int32) (no_wet : Int32) (no_drawn : Int32) (no_strong : Nat → Int32) (no_wounds : Nat → Int32) (pl_worths : Nat → Int64) (pl_most : Nat → Int64) (pl_lanes : Nat → Int32) (res : Int32) (el_refusal' : Int32) (pl_worths' : Nat → Int64) (pl_most' : Nat → Int64) (pl_lanes' : Nat → Int32) (h : f_X11_out el_refusal la_lanes la_deep la_beasts la_who la_kind la_mood no_dead no_wet no_strong no_wounds pl_worths pl_most pl_lanes = some (res, el_refusal', pl_worths', pl_most', pl_lanes')) : Met l yX11_out wo_X11_out ({ frames := 6, cells := 0, slots := 0, locals := 140 }) (wrPc D cy A [.ref a_el] ([(a_el, .inr (11, [el_tape, .int el_bytes, el_reader, .ref a_la, el_now, el_past, el_odds, el_game, .ref a_pl, el_marching, el_trumpets, el_fight, .int el_refusal, .int el_faultTold, .int el_faultPlace])), (a_la, .inr (2, [.int la_lanes, .int la_deep, .int la_lanesTold, .ref a_la_who, la_firstStrong, .int la_beasts, .ref a_la_kind, la_firstLane, .ref a_la_mood, la_price, .int la_cities, .int la_passes, la_passBetween, .int la_turned])), (a_la_who, .inl (cy 1, 6, .inl la_who)), (a_la_kind, .inl (cy 1, 5, .inl la_kind)), (a_la_mood, .inl (cy 1, 5, .inl la_mood)), (a_no, .inr (8, [.ref a_no_strong, no_at, .ref a_no_wounds, .int no_dead, .int no_wet, .int no_drawn])), (a_no_strong, .inl (cy 1, 6, .inl no_strong)), (a_no_wounds, .inl (cy 1, 5, .inl no_wounds)), (a_od, .inr (4, [.ref a_la, .ref a_no])), (a_pl, .inr (6, [.ref a_la, .ref a_no, .ref a_od, .ref a_pl_worths, .ref a_pl_most, .ref a_pl_lanes])), (a_pl_worths, .inl (cy 2, 6, .inr (.inl pl_worths))), (a_pl_most, .inl (cy 2, 384, .inr (.inl pl_most))), (a_pl_lanes, .inl (cy 1, 5, .inl pl_lanes))] ++ X)) (va_Qi (fun (r : Int32) (_ : Unit) => r = res) (wB D A ([(a_el, .inr (11, [el_tape, .int el_bytes, el_reader, .ref a_la, el_now, el_past, el_odds, el_game, .ref a_pl, el_marching, el_trumpets, el_fight, .int el_refusal', .int el_faultTold, .int el_faultPlace])), (a_la, .inr (2, [.int la_lanes, .int la_deep, .int la_lanesTold, .ref a_la_who, la_firstStrong, .int la_beasts, .ref a_la_kind, la_firstLane, .ref a_la_mood, la_price, .int la_cities, .int la_passes, la_passBetween, .int la_turned])), (a_la_who, .inl (cy 1, 6, .inl la_who)), (a_la_kind, .inl (cy 1, 5, .inl la_kind)), (a_la_mood, .inl (cy 1, 5, .inl la_mood)), (a_no, .inr (8, [.ref a_no_strong, no_at, .ref a_no_wounds, .int no_dead, .int no_wet, .int no_drawn])), (a_no_strong, .inl (cy 1, 6, .inl no_strong)), (a_no_wounds, .inl (cy 1, 5, .inl no_wounds)), (a_od, .inr (4, [.ref a_la, .ref a_no])), (a_pl, .inr (6, [.ref a_la, .ref a_no, .ref a_od, .ref a_pl_worths, .ref a_pl_most, .ref a_pl_lanes])), (a_pl_worths, .inl (cy 2, 6, .inr (.inl pl_worths'))), (a_pl_most, .inl (cy 2, 384, .inr (.inl pl_most'))), (a_pl_lanes, .inl (cy 1, 5, .inl pl_lanes'))] ++ X)) A) 0 0 A := by
  refine Met.ofW (cc := cX11_out) (maxL := 1) (ret := (some .int)) (by decide) rfl ?_
  intro p e s m args below meth c s₁ B hml hv
  obtain ⟨rfl, hP, hKN, hD, hA⟩ := hv
  have hK := hKN.1
  have hx := B.exec
  have hb := B.bytes
  have hr := B.returns
  have hts := wt_X11_out hKN.2.2 (([.ref a_el] : List Value).toArray)
  have hown : s.vm.findClass RX11 = some m.cls := findClass_of_methodNamed B.named
  have hlocks := B.notSynchronized
  have hS : va_S A s.heap s.heap [] := va_S.rf
  have hX11 := wc_X11 hKN.2.2 (([.ref a_el] : List Value).toArray)
  have hl := lv_entry ([.ref a_el]) (n := 1) (Nat.le_of_ble_eq_true rfl)
  rw [lg_entry_eq]
  generalize (lg_sl ([.ref a_el]) ++ List.replicate (1 - (lg_sl ([.ref a_el])).length) Slot.unset).toArray = ls at hl ⊢
  have hl : lv_has ls 1 [(0, .ref a_el)] := hl
  unfold f_X11_out at h
  refine lv_aload_n hx hb dX11_out_0 rfl (lv_at hl 0 rfl) ?_
  refine lv_aload_n hx hb dX11_out_1 rfl (lv_at hl 0 rfl) ?_
  obtain ⟨r_1, hc_2, h⟩ := bd1_some h
  refine kVi [] [.ref a_el] ⟨hx, hb, hml, hown, hts⟩ (c_X11_warTrouble l D cy a_el a_la (el_tape) el_bytes (el_reader) (el_now) (el_past) (el_odds) (el_game) (.ref a_pl) (el_marching) (el_trumpets) (el_fight) el_refusal el_faultTold el_faultPlace la_lanes la_deep la_lanesTold (.ref a_la_who) (la_firstStrong) la_beasts (.ref a_la_kind) (la_firstLane) (.ref a_la_mood) (la_price) la_cities la_passes (la_passBetween) la_turned r_1 hc_2) gX11_out_X11_warTrouble rfl hd_X11_warTrouble ⟨Nat.le_of_ble_eq_true rfl, Nat.le_of_ble_eq_true rfl⟩ rfl rfl hKN (pXc hP [0, 1] rfl) 11 0 rfl rfl rfl hl.1 rfl (Nat.le_of_ble_eq_true rfl) dX11_out_2 ⟨Nat.le_of_ble_eq_true rfl, Nat.le_of_ble_eq_true rfl⟩ ?_
  obtain ⟨r_3, el_refusal_4, hc_5, h⟩ := bd2_some h
  refine wVb [.int r_1] [] ⟨hx, hb, hml, hown, hts⟩ (c_X11_isRefused l D cy A ([(a_la, .inr (2, [.int la_lanes, .int la_deep, .int la_lanesTold, .ref a_la_who, la_firstStrong, .int la_beasts, .ref a_la_kind, la_firstLane, .ref a_la_mood, la_price, .int la_cities, .int la_passes, la_passBetween, .int la_turned])), (a_la_who, .inl (cy 1, 6, .inl la_who)), (a_la_kind, .inl (cy 1, 5, .inl la_kind)), (a_la_mood, .inl (cy 1, 5, .inl la_mood)), (a_no, .inr (8, [.ref a_no_strong, no_at, .ref a_no_wounds, .int no_dead, .int no_wet, .int no_drawn])), (a_no_strong, .inl (cy 1, 6, .inl no_strong)), (a_no_wounds, .inl (cy 1, 5, .inl no_wounds)), (a_od, .inr (4, [.ref a_la, .ref a_no])), (a_pl, .inr (6, [.ref a_la, .ref a_no, .ref a_od, .ref a_pl_worths, .ref a_pl_most, .ref a_pl_lanes])), (a_pl_worths, .inl (cy 2, 6, .inr (.inl pl_worths))), (a_pl_most, .inl (cy 2, 384, .inr (.inl pl_most))), (a_pl_lanes, .inl (cy 1, 5, .inl pl_lanes))] ++ X) a_el (el_tape) el_bytes (el_reader) (.ref a_la) (el_now) (el_past) (el_odds) (el_game) (.ref a_pl) (el_marching) (el_trumpets) (el_fight) el_refusal el_faultTold el_faultPlace r_1 r_3 el_refusal_4 hc_5) gX11_out_X11_isRefused rfl hd_X11_isRefused ⟨Nat.le_of_ble_eq_true rfl, Nat.le_of_ble_eq_true rfl⟩ rfl rfl hKN (pX3 hP [0, 1, 2, 3, 4, 5, 6, 7, 8, 9, 10, 11, 12] rfl) (dX3 hD [0, 1, 2, 3, 4, 5, 6, 7, 8, 9, 10, 11, 12] rfl rfl) hS hA 11 0 rfl rfl rfl hl.1 rfl (Nat.le_of_ble_eq_true rfl) dX11_out_5 ⟨Nat.le_of_ble_eq_true rfl, Nat.le_of_ble_eq_true rfl⟩ (fun nb_6 H locs hP hD hS => ?_)
  have hP := pX4 (L1 := [(a_el, .inr (11, [el_tape, .int el_bytes, el_reader, .ref a_la, el_now, el_past, el_odds, el_game, .ref a_pl, el_marching, el_trumpets, el_fight, .int el_refusal_4, .int el_faultTold, .int el_faultPlace])), (a_la, .inr (2, [.int la_lanes, .int la_deep, .int la_lanesTold, .ref a_la_who, la_firstStrong, .int la_beasts, .ref a_la_kind, la_firstLane, .ref a_la_mood, la_price, .int la_cities, .int la_passes, la_passBetween, .int la_turned])), (a_la_who, .inl (cy 1, 6, .inl la_who)), (a_la_kind, .inl (cy 1, 5, .inl la_kind)), (a_la_mood, .inl (cy 1, 5, .inl la_mood)), (a_no, .inr (8, [.ref a_no_strong, no_at, .ref a_no_wounds, .int no_dead, .int no_wet, .int no_drawn])), (a_no_strong, .inl (cy 1, 6, .inl no_strong)), (a_no_wounds, .inl (cy 1, 5, .inl no_wounds)), (a_od, .inr (4, [.ref a_la, .ref a_no])), (a_pl, .inr (6, [.ref a_la, .ref a_no, .ref a_od, .ref a_pl_worths, .ref a_pl_most, .ref a_pl_lanes])), (a_pl_worths, .inl (cy 2, 6, .inr (.inl pl_worths))), (a_pl_most, .inl (cy 2, 384, .inr (.inl pl_most))), (a_pl_lanes, .inl (cy 1, 5, .inl pl_lanes))]) hP [0, 1, 2, 3, 4, 5, 6, 7, 8, 9, 10, 11, 12] rfl
  have hD := dX4 (L1 := [(a_el, .inr (11, [el_tape, .int el_bytes, el_reader, .ref a_la, el_now, el_past, el_odds, el_game, .ref a_pl, el_marching, el_trumpets, el_fight, .int el_refusal_4, .int el_faultTold, .int el_faultPlace])), (a_la, .inr (2, [.int la_lanes, .int la_deep, .int la_lanesTold, .ref a_la_who, la_firstStrong, .int la_beasts, .ref a_la_kind, la_firstLane, .ref a_la_mood, la_price, .int la_cities, .int la_passes, la_passBetween, .int la_turned])), (a_la_who, .inl (cy 1, 6, .inl la_who)), (a_la_kind, .inl (cy 1, 5, .inl la_kind)), (a_la_mood, .inl (cy 1, 5, .inl la_mood)), (a_no, .inr (8, [.ref a_no_strong, no_at, .ref a_no_wounds, .int no_dead, .int no_wet, .int no_drawn])), (a_no_strong, .inl (cy 1, 6, .inl no_strong)), (a_no_wounds, .inl (cy 1, 5, .inl no_wounds)), (a_od, .inr (4, [.ref a_la, .ref a_no])), (a_pl, .inr (6, [.ref a_la, .ref a_no, .ref a_od, .ref a_pl_worths, .ref a_pl_most, .ref a_pl_lanes])), (a_pl_worths, .inl (cy 2, 6, .inr (.inl pl_worths))), (a_pl_most, .inl (cy 2, 384, .inr (.inl pl_most))), (a_pl_lanes, .inl (cy 1, 5, .inl pl_lanes))]) hD [0, 1, 2, 3, 4, 5, 6, 7, 8, 9, 10, 11, 12] rfl rfl
  refine lv_if_eq (tgt := 13) hx hb dX11_out_8 (by decide) (fun cd => ?_) (fun cd => ?_)
  · have h := ifT cd h
    refine lv_aload_n hx hb dX11_out_13 rfl (lv_at hl 0 rfl) ?_
    refine va_get (D := D) (ci := 11) (C := RX11) (T := TX11) (N := 15) (v := .ref a_pl) hx hb hX11 (fun _ q => q) hown hK hP 0 rfl rfl 8 (by decide) (hts (.fieldLink RX11 64 "ElephantLine" "placing" "LElephantLine$Placing;") (by decide +kernel)) (fun _ h9 => h9) rfl dX11_out_14 ?_
    obtain ⟨pl_worths_7, pl_most_8, pl_lanes_9, hc_10, h⟩ := bd3_some h
    refine wVv [] [] ⟨hx, hb, hml, hown, hts⟩ (c_X6_settle l D cy A ([(a_el, .inr (11, [el_tape, .int el_bytes, el_reader, .ref a_la, el_now, el_past, el_odds, el_game, .ref a_pl, el_marching, el_trumpets, el_fight, .int el_refusal_4, .int el_faultTold, .int el_faultPlace]))] ++ X) a_la a_la_who a_la_kind a_la_mood a_no a_no_strong a_no_wounds a_od a_pl a_pl_worths a_pl_most a_pl_lanes la_lanes la_deep la_lanesTold (la_firstStrong) la_beasts (la_firstLane) (la_price) la_cities la_passes (la_passBetween) la_turned la_who la_kind la_mood (no_at) no_dead no_wet no_drawn no_strong no_wounds pl_worths pl_most pl_lanes pl_worths_7 pl_most_8 pl_lanes_9 hc_10) gX11_out_X6_settle rfl hd_X6_settle ⟨Nat.le_of_ble_eq_true rfl, Nat.le_of_ble_eq_true rfl⟩ rfl rfl hKN (pX3 hP [1, 2, 3, 4, 5, 6, 7, 8, 9, 10, 11, 12, 0] rfl) (dX3 hD [1, 2, 3, 4, 5, 6, 7, 8, 9, 10, 11, 12, 0] rfl rfl) hS hA 6 8 rfl rfl rfl hl.1 rfl (Nat.le_of_ble_eq_true rfl) dX11_out_17 ⟨Nat.le_of_ble_eq_true rfl, Nat.le_of_ble_eq_true rfl⟩ (fun H locs hP hD hS => ?_)
    have hP := pX4 (L1 := [(a_el, .inr (11, [el_tape, .int el_bytes, el_reader, .ref a_la, el_now, el_past, el_odds, el_game, .ref a_pl, el_marching, el_trumpets, el_fight, .int el_refusal_4, .int el_faultTold, .int el_faultPlace])), (a_la, .inr (2, [.int la_lanes, .int la_deep, .int la_lanesTold, .ref a_la_who, la_firstStrong, .int la_beasts, .ref a_la_kind, la_firstLane, .ref a_la_mood, la_price, .int la_cities, .int la_passes, la_passBetween, .int la_turned])), (a_la_who, .inl (cy 1, 6, .inl la_who)), (a_la_kind, .inl (cy 1, 5, .inl la_kind)), (a_la_mood, .inl (cy 1, 5, .inl la_mood)), (a_no, .inr (8, [.ref a_no_strong, no_at, .ref a_no_wounds, .int no_dead, .int no_wet, .int no_drawn])), (a_no_strong, .inl (cy 1, 6, .inl no_strong)), (a_no_wounds, .inl (cy 1, 5, .inl no_wounds)), (a_od, .inr (4, [.ref a_la, .ref a_no])), (a_pl, .inr (6, [.ref a_la, .ref a_no, .ref a_od, .ref a_pl_worths, .ref a_pl_most, .ref a_pl_lanes])), (a_pl_worths, .inl (cy 2, 6, .inr (.inl pl_worths_7))), (a_pl_most, .inl (cy 2, 384, .inr (.inl pl_most_8))), (a_pl_lanes, .inl (cy 1, 5, .inl pl_lanes_9))]) hP [12, 0, 1, 2, 3, 4, 5, 6, 7, 8, 9, 10, 11] rfl
    have hD := dX4 (L1 := [(a_el, .inr (11, [el_tape, .int el_bytes, el_reader, .ref a_la, el_now, el_past, el_odds, el_game, .ref a_pl, el_marching, el_trumpets, el_fight, .int el_refusal_4, .int el_faultTold, .int el_faultPlace])), (a_la, .inr (2, [.int la_lanes, .int la_deep, .int la_lanesTold, .ref a_la_who, la_firstStrong, .int la_beasts, .ref a_la_kind, la_firstLane, .ref a_la_mood, la_price, .int la_cities, .int la_passes, la_passBetween, .int la_turned])), (a_la_who, .inl (cy 1, 6, .inl la_who)), (a_la_kind, .inl (cy 1, 5, .inl la_kind)), (a_la_mood, .inl (cy 1, 5, .inl la_mood)), (a_no, .inr (8, [.ref a_no_strong, no_at, .ref a_no_wounds, .int no_dead, .int no_wet, .int no_drawn])), (a_no_strong, .inl (cy 1, 6, .inl no_strong)), (a_no_wounds, .inl (cy 1, 5, .inl no_wounds)), (a_od, .inr (4, [.ref a_la, .ref a_no])), (a_pl, .inr (6, [.ref a_la, .ref a_no, .ref a_od, .ref a_pl_worths, .ref a_pl_most, .ref a_pl_lanes])), (a_pl_worths, .inl (cy 2, 6, .inr (.inl pl_worths_7))), (a_pl_most, .inl (cy 2, 384, .inr (.inl pl_most_8))), (a_pl_lanes, .inl (cy 1, 5, .inl pl_lanes_9))]) hD [12, 0, 1, 2, 3, 4, 5, 6, 7, 8, 9, 10, 11] rfl rfl
    refine lv_aload_n hx hb dX11_out_20 rfl (lv_at hl 0 rfl) ?_
    refine va_get (D := D) (ci := 11) (C := RX11) (T := TX11) (N := 15) (v := .ref a_pl) hx hb hX11 (fun _ q => q) hown hK hP 0 rfl rfl 8 (by decide) (hts (.fieldLink RX11 64 "ElephantLine" "placing" "LElephantLine$Placing;") (by decide +kernel)) (fun _ h9 => h9) rfl dX11_out_21 ?_
    obtain ⟨r_11, hc_12, h⟩ := bd1_some h
    refine kVi [] [] ⟨hx, hb, hml, hown, hts⟩ (c_X6_livingLeftOut l D cy a_la a_no a_pl a_pl_lanes la_lanes la_deep la_lanesTold (.ref a_la_who) (la_firstStrong) la_beasts (.ref a_la_kind) (la_firstLane) (.ref a_la_mood) (la_price) la_cities la_passes (la_passBetween) la_turned (.ref a_no_strong) (no_at) (.ref a_no_wounds) no_dead no_wet no_drawn (.ref a_od) (.ref a_pl_worths) (.ref a_pl_most) pl_lanes_9 r_11 hc_12) gX11_out_X6_livingLeftOut rfl hd_X6_livingLeftOut ⟨Nat.le_of_ble_eq_true rfl, Nat.le_of_ble_eq_true rfl⟩ rfl rfl hKN (pXc hP [1, 5, 9, 12] rfl) 6 2 rfl rfl rfl hl.1 rfl (Nat.le_of_ble_eq_true rfl) dX11_out_24 ⟨Nat.le_of_ble_eq_true rfl, Nat.le_of_ble_eq_true rfl⟩ ?_
    cases h
    exact W.iret hx hb hr (fun t ht _ => ⟨⟨_, (), rfl, rfl, by rw [ht]; exact hP, hD⟩, hS.F ht⟩) hS.2.2 dX11_out_27
  · have h := ifF cd h
    refine lv_iconst (v := (-1)) hx hb dX11_out_11 (by decide) ?_
    cases h
    exact W.iret hx hb hr (fun t ht _ => ⟨⟨_, (), rfl, rfl, by rw [ht]; exact hP, hD⟩, hS.F ht⟩) hS.2.2 dX11_out_12
