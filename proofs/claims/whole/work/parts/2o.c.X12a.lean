theorem hd_X12_find : yX12_find.cls = RX12 ∧ yX12_find.cls ≠ "java/lang/invoke/MethodHandle" ∧ yX12_find.cls ≠ "java/lang/invoke/VarHandle" ∧ (parseMethodDescriptor yX12_find.desc).map (fun d => d.parameters.length) = some 1 := by decide +kernel
set_option maxHeartbeats 4000000 in
set_option maxRecDepth 100000 in
theorem c_X12_find (l : Launch) (D : va_G) (cy : Nat → ClassId) (a_re a_re_name : Nat) (re_lanes : Int32) (re_deep : Int32) (re_told : Int32) (re_beasts : Int32) (re_cities : Int32) (re_passes : Int32) (re_turned : Int32) (re_names : Int32) (re_who : Value) (re_strong : Value) (re_kind : Value) (re_lane : Value) (re_mood : Value) (re_price : Value) (re_loses : Value) (re_nameSort : Value) (re_numberOf : Value) (re_name : Nat → Int64) (p1 : Int64) (res : Int32) (h : f_X12_find re_names re_name p1 = some (res)) : Met l yX12_find wo_X12_find ({ frames := 0, cells := 0, slots := 0, locals := 0 }) (roPc D cy [.ref a_re, .long p1] [(a_re, .inr (12, [.int re_lanes, .int re_deep, .int re_told, .int re_beasts, .int re_cities, .int re_passes, .int re_turned, .int re_names, re_who, re_strong, re_kind, re_lane, re_mood, re_price, re_loses, .ref a_re_name, re_nameSort, re_numberOf])), (a_re_name, .inl (cy 2, 11, .inr (.inl re_name)))]) (vp_Si (fun r => r = res)) 0 0 (fun _ => False) := by
  refine Met.ofW (cc := cX12_find) (maxL := 4) (ret := (some .int)) (by decide) rfl ?_
  intro p e s m args below meth c s₁ B hml hv
  obtain ⟨rfl, hP, hKN⟩ := hv
  have hK := hKN.1
  have hx := B.exec
  have hb := B.bytes
  have hr := B.returns
  have hts := wt_X12_find hKN.2.2 (([.ref a_re, .long p1] : List Value).toArray)
  have hown : s.vm.findClass RX12 = some m.cls := findClass_of_methodNamed B.named
  have hlocks := B.notSynchronized
  have hX12 := wc_X12 hKN.2.2 (([.ref a_re, .long p1] : List Value).toArray)
  have hl := lv_entry ([.ref a_re, .long p1]) (n := 4) (Nat.le_of_ble_eq_true rfl)
  rw [lg_entry_eq]
  generalize (lg_sl ([.ref a_re, .long p1]) ++ List.replicate (4 - (lg_sl ([.ref a_re, .long p1])).length) Slot.unset).toArray = ls at hl ⊢
  have hl : lv_has ls 4 [(0, .ref a_re), (1, .long p1)] := hl
  unfold f_X12_find at h
  refine lv_iconst (v := 0) hx hb dX12_find_0 (by decide) ?_
  refine lv_istore_n (lv' := [(3, .int 0), (0, .ref a_re), (1, .long p1)]) hx hb dX12_find_1 rfl hl (by decide) rfl (fun ls hl => ?_)
  have lp2 : ∀ (n2 : Nat) (x3_1 : Int32), f_X12_find_L2 re_names re_name p1 n2 x3_1 = some (res) → ∀ ls : Array Slot, lv_has ls 4 [(0, .ref a_re), (1, .long p1), (3, .int x3_1)] → W p l e (headSpec wo_X12_find ({ frames := 0, cells := 0, slots := 0, locals := 0 })).room s m (([.ref a_re, .long p1] : List Value).toArray) below meth c s.heap [] 0 0 (MQ below (vp_Si (fun r => r = res)) (([.ref a_re, .long p1] : List Value).toArray) s 0 0 (fun _ => False)) (F0 m 2 ls []) := by
    intro n2
    induction n2 with
    | zero => intro x3_1 h; exact absurd (show (none : Option (Int32)) = some _ from h) (by intro q; cases q)
    | succ n2 ih2 =>
      intro x3_1 h ls hl
      have h : f_X12_find_b2 re_names re_name p1 (f_X12_find_L2 re_names re_name p1 n2) x3_1 = some (res) := h
      unfold f_X12_find_b2 at h
      refine lv_iload_n hx hb dX12_find_2 rfl (lv_at hl 2 rfl) ?_
      refine lv_aload_n hx hb dX12_find_3 rfl (lv_at hl 0 rfl) ?_
      refine va_get (D := D) (ci := 12) (C := RX12) (T := TX12) (N := 18) (v := .int re_names) hx hb hX12 (fun _ q => q) hown hK hP 0 rfl rfl 7 (by decide) (hts (.fieldLink RX12 43 "ElephantLineModel$War" "names" "I") (by decide +kernel)) (fun _ h9 => h9) rfl dX12_find_4 ?_
      refine lv_icmp_ge (tgt := 29) hx hb dX12_find_7 (by decide) (fun cd => ?_) (fun cd => ?_)
      · have h := ifT cd h
        refine lv_iconst (v := (-1)) hx hb dX12_find_29 (by decide) ?_
        exact W.iret (v := (-1)) hx hb hr (fun t ht _ => ⟨_, rfl, Option.some.inj h, ht⟩) (fun _ q => by cases q) dX12_find_30
      · have h := ifF cd h
        refine lv_aload_n hx hb dX12_find_10 rfl (lv_at hl 0 rfl) ?_
        refine va_get (D := D) (ci := 12) (C := RX12) (T := TX12) (N := 18) (v := .ref a_re_name) hx hb hX12 (fun _ q => q) hown hK hP 0 rfl rfl 15 (by decide) (hts (.fieldLink RX12 33 "ElephantLineModel$War" "name" "[J") (by decide +kernel)) (fun _ h9 => h9) rfl dX12_find_11 ?_
        refine lv_iload_n hx hb dX12_find_14 rfl (lv_at hl 2 rfl) ?_
        obtain ⟨i_2, h⟩ := gIn_some h
        refine va_lald hx hb hK hP 1 2 rfl rfl i_2 dX12_find_15 ?_
        refine lv_lload_n hx hb dX12_find_16 rfl (lv_at hl 1 rfl) ?_
        refine W.lcmp hx hb dX12_find_17 ?_
        refine lv_if_ne (tgt := 23) hx hb dX12_find_18 (by decide) (fun cd => ?_) (fun cd => ?_)
        · have cd := fun q => cd ((lgc_eq _ _).mpr q)
          have h := ifF cd h
          refine lv_iinc (v := x3_1 + 1) (lv' := [(3, .int (x3_1 + 1)), (0, .ref a_re), (1, .long p1)]) hx hb dX12_find_23 hl (k := 2) rfl (by first | rfl | decide) (by decide) rfl (fun ls hl => ?_)
          refine lv_goto (tgt := 2) hx hb dX12_find_26 (by decide) ?_
          exact ih2 (x3_1 + 1) h _ (lv_sub hl [1, 2, 0] rfl)
        · have cd := (lgc_eq _ _).mp cd
          have h := ifT cd h
          refine lv_iload_n hx hb dX12_find_21 rfl (lv_at hl 2 rfl) ?_
          exact W.iret (v := x3_1) hx hb hr (fun t ht _ => ⟨_, rfl, Option.some.inj h, ht⟩) (fun _ q => by cases q) dX12_find_22
  exact lp2 fuelN (0 : Int32) h _ (lv_sub hl [1, 2, 0] rfl)
