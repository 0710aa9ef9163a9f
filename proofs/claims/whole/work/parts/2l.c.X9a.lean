theorem hd_X9_begin : yX9_begin.cls = RX9 ∧ yX9_begin.cls ≠ "java/lang/invoke/MethodHandle" ∧ yX9_begin.cls ≠ "java/lang/invoke/VarHandle" ∧ (parseMethodDescriptor yX9_begin.desc).map (fun d => d.parameters.length) = some 1 := by decide +kernel
set_option maxHeartbeats 4000000 in
set_option maxRecDepth 100000 in
theorem c_X9_begin (l : Launch) (D : va_G) (cy : Nat → ClassId) (A : Nat → Prop) (X : va_W) (a_tape a_tk : Nat) (tape : Nat → Int32) (tk_limit : Int32) (tk_start : Int32) (tk_end : Int32) (tk_sort : Int32) (p1 : Int32) (tk_limit' : Int32) (tk_start' : Int32) (tk_end' : Int32) (tk_sort' : Int32) (h : f_X9_begin tk_limit tk_start tk_end tk_sort p1 = some (tk_limit', tk_start', tk_end', tk_sort')) : Met l yX9_begin wo_X9_begin ({ frames := 1, cells := 0, slots := 0, locals := 15 }) (wrPc D cy A [.ref a_tk, .int p1] ([(a_tape, .inl (cy 0, 900, .inl tape)), (a_tk, .inr (9, [.ref a_tape, .int tk_limit, .int tk_start, .int tk_end, .int tk_sort]))] ++ X)) (va_Qv (fun (_ : Unit) => True) (wB D A ([(a_tape, .inl (cy 0, 900, .inl tape)), (a_tk, .inr (9, [.ref a_tape, .int tk_limit', .int tk_start', .int tk_end', .int tk_sort']))] ++ X)) A) 0 0 A := by
  refine Met.ofW (cc := cX9_begin) (maxL := 2) (ret := none) (by decide) rfl ?_
  intro p e s m args below meth c s₁ B hml hv
  obtain ⟨rfl, hP, hKN, hD, hA⟩ := hv
  have hK := hKN.1
  have hx := B.exec
  have hb := B.bytes
  have hr := B.returns
  have hts := wt_X9_begin hKN.2.2 (([.ref a_tk, .int p1] : List Value).toArray)
  have hown : s.vm.findClass RX9 = some m.cls := findClass_of_methodNamed B.named
  have hlocks := B.notSynchronized
  have hS : va_S A s.heap s.heap [] := va_S.rf
  have hX9 := wc_X9 hKN.2.2 (([.ref a_tk, .int p1] : List Value).toArray)
  have hl := lv_entry ([.ref a_tk, .int p1]) (n := 2) (Nat.le_of_ble_eq_true rfl)
  rw [lg_entry_eq]
  generalize (lg_sl ([.ref a_tk, .int p1]) ++ List.replicate (2 - (lg_sl ([.ref a_tk, .int p1])).length) Slot.unset).toArray = ls at hl ⊢
  have hl : lv_has ls 2 [(0, .ref a_tk), (1, .int p1)] := hl
  unfold f_X9_begin at h
  refine lv_aload_n hx hb dX9_begin_0 rfl (lv_at hl 0 rfl) ?_
  refine lv_iload_n hx hb dX9_begin_1 rfl (lv_at hl 1 rfl) ?_
  refine lv_aload_n hx hb dX9_begin_2 rfl (lv_at hl 0 rfl) ?_
  refine va_get (D := D) (ci := 9) (C := RX9) (T := TX9) (N := 5) (v := .ref a_tape) hx hb hX9 (fun _ q => q) hown hK hP 1 rfl rfl 0 (by decide) (hts (.fieldLink RX9 7 "ElephantLine$Tokens" "tape" "[B") (by decide +kernel)) (fun _ h9 => h9) rfl dX9_begin_3 ?_
  refine va_alen (v := 900) hx hb hK hP 0 0 rfl rfl rfl dX9_begin_6 ?_
  refine va_mmin hx hb (hml.trans hl.1.symm) hown (hts (.methodLink RX9 13 Lib.Math.min.name) (by decide +kernel)) (hts (.static Lib.Math.min.name) (by decide +kernel)) (hts (.initialized "java/lang/Math") (by decide +kernel)) (hts (.code Lib.Math.min.name Lib.Math.min.code 2 (some .int)) (by decide +kernel)) (Nat.le_of_ble_eq_true rfl) (Nat.le_of_ble_eq_true rfl) (Nat.le_of_ble_eq_true rfl) (Nat.le_of_ble_eq_true rfl) dX9_begin_7 ?_
  refine va_put (D := D) (ci := 9) (C := RX9) (T := TX9) (N := 5) (v := .int (if (900 : Int32) < p1 then 900 else p1)) (ty := .int) hx hb hX9 (fun _ q => q) tyX9 tyX9_ok nmX9 hown hK hP hD hS 1 rfl rfl 1 (by decide) (hts (.fieldLink RX9 19 "ElephantLine$Tokens" "limit" "I") (by decide +kernel)) (fun _ h9 => h9) rfl (tyX9_ok 1 (by decide)) rfl rfl (Nat.le_of_ble_eq_true rfl) dX9_begin_10 (fun H locs hP hD hS => ?_)
  refine lv_aload_n hx hb dX9_begin_13 rfl (lv_at hl 0 rfl) ?_
  refine lv_iconst (v := 0) hx hb dX9_begin_14 (by decide) ?_
  refine va_put (D := D) (ci := 9) (C := RX9) (T := TX9) (N := 5) (v := .int 0) (ty := .int) hx hb hX9 (fun _ q => q) tyX9 tyX9_ok nmX9 hown hK hP hD hS 1 rfl rfl 2 (by decide) (hts (.fieldLink RX9 23 "ElephantLine$Tokens" "start" "I") (by decide +kernel)) (fun _ h9 => h9) rfl (tyX9_ok 2 (by decide)) rfl rfl (Nat.le_of_ble_eq_true rfl) dX9_begin_15 (fun H locs hP hD hS => ?_)
  refine lv_aload_n hx hb dX9_begin_18 rfl (lv_at hl 0 rfl) ?_
  refine lv_iconst (v := 0) hx hb dX9_begin_19 (by decide) ?_
  refine va_put (D := D) (ci := 9) (C := RX9) (T := TX9) (N := 5) (v := .int 0) (ty := .int) hx hb hX9 (fun _ q => q) tyX9 tyX9_ok nmX9 hown hK hP hD hS 1 rfl rfl 3 (by decide) (hts (.fieldLink RX9 26 "ElephantLine$Tokens" "end" "I") (by decide +kernel)) (fun _ h9 => h9) rfl (tyX9_ok 3 (by decide)) rfl rfl (Nat.le_of_ble_eq_true rfl) dX9_begin_20 (fun H locs hP hD hS => ?_)
  refine lv_aload_n hx hb dX9_begin_23 rfl (lv_at hl 0 rfl) ?_
  refine lv_iconst (v := 0) hx hb dX9_begin_24 (by decide) ?_
  refine va_put (D := D) (ci := 9) (C := RX9) (T := TX9) (N := 5) (v := .int 0) (ty := .int) hx hb hX9 (fun _ q => q) tyX9 tyX9_ok nmX9 hown hK hP hD hS 1 rfl rfl 4 (by decide) (hts (.fieldLink RX9 29 "ElephantLine$Tokens" "sort" "I") (by decide +kernel)) (fun _ h9 => h9) rfl (tyX9_ok 4 (by decide)) rfl rfl (Nat.le_of_ble_eq_true rfl) dX9_begin_25 (fun H locs hP hD hS => ?_)
  cases h
  exact W.vret hx hb hr (fun t ht _ => ⟨⟨(), rfl, trivial, by rw [ht]; exact hP, hD⟩, hS.F ht⟩) hS.2.2 dX9_begin_28
theorem hd_X9_runOn : yX9_runOn.cls = RX9 ∧ yX9_runOn.cls ≠ "java/lang/invoke/MethodHandle" ∧ yX9_runOn.cls ≠ "java/lang/invoke/VarHandle" ∧ (parseMethodDescriptor yX9_runOn.desc).map (fun d => d.parameters.length) = some 2 := by decide +kernel
set_option maxHeartbeats 4000000 in
set_option maxRecDepth 100000 in
theorem c_X9_runOn (l : Launch) (D : va_G) (cy : Nat → ClassId) (A : Nat → Prop) (X : va_W) (a_tape a_tk : Nat) (tape : Nat → Int32) (tk_limit : Int32) (tk_start : Int32) (tk_end : Int32) (tk_sort : Int32) (p1 : Int32) (p2 : Int32) (res : Int32) (tk_end' : Int32) (h : f_X9_runOn tape tk_limit tk_start tk_end p1 p2 = some (res, tk_end')) : Met l yX9_runOn wo_X9_runOn ({ frames := 0, cells := 0, slots := 0, locals := 0 }) (wrPc D cy A [.ref a_tk, .int p1, .int p2] ([(a_tape, .inl (cy 0, 900, .inl tape)), (a_tk, .inr (9, [.ref a_tape, .int tk_limit, .int tk_start, .int tk_end, .int tk_sort]))] ++ X)) (va_Qi (fun (r : Int32) (_ : Unit) => r = res ∧ nbv r) (wB D A ([(a_tape, .inl (cy 0, 900, .inl tape)), (a_tk, .inr (9, [.ref a_tape, .int tk_limit, .int tk_start, .int tk_end', .int tk_sort]))] ++ X)) A) 0 0 A := by
  refine Met.ofW (cc := cX9_runOn) (maxL := 3) (ret := (some .boolean)) (by decide) rfl ?_
  intro p e s m args below meth c s₁ B hml hv
  obtain ⟨rfl, hP, hKN, hD, hA⟩ := hv
  have hK := hKN.1
  have hx := B.exec
  have hb := B.bytes
  have hr := B.returns
  have hts := wt_X9_runOn hKN.2.2 (([.ref a_tk, .int p1, .int p2] : List Value).toArray)
  have hown : s.vm.findClass RX9 = some m.cls := findClass_of_methodNamed B.named
  have hlocks := B.notSynchronized
  have hS : va_S A s.heap s.heap [] := va_S.rf
  have hX9 := wc_X9 hKN.2.2 (([.ref a_tk, .int p1, .int p2] : List Value).toArray)
  have hl := lv_entry ([.ref a_tk, .int p1, .int p2]) (n := 3) (Nat.le_of_ble_eq_true rfl)
  rw [lg_entry_eq]
  generalize (lg_sl ([.ref a_tk, .int p1, .int p2]) ++ List.replicate (3 - (lg_sl ([.ref a_tk, .int p1, .int p2])).length) Slot.unset).toArray = ls at hl ⊢
  have hl : lv_has ls 3 [(0, .ref a_tk), (1, .int p1), (2, .int p2)] := hl
  unfold f_X9_runOn at h
  have jn50 : ∀ (tk_end_1 : Int32), f_X9_runOn_B50 tape tk_limit tk_start tk_end_1 = some (res, tk_end') → ∀ (H : Heap) (locs : List Loc), va_P D vwCl ([(a_tape, .inl (cy 0, 900, .inl tape)), (a_tk, .inr (9, [.ref a_tape, .int tk_limit, .int tk_start, .int tk_end_1, .int tk_sort]))] ++ X) H → va_D A ([(a_tape, .inl (cy 0, 900, .inl tape)), (a_tk, .inr (9, [.ref a_tape, .int tk_limit, .int tk_start, .int tk_end_1, .int tk_sort]))] ++ X) → va_S A s.heap H locs → ∀ ls : Array Slot, lv_has ls 3 [(0, .ref a_tk)] → W p l e (headSpec wo_X9_runOn ({ frames := 0, cells := 0, slots := 0, locals := 0 })).room s m (([.ref a_tk, .int p1, .int p2] : List Value).toArray) below meth c H locs 0 0 (MQ below (va_Qi (fun (r : Int32) (_ : Unit) => r = res ∧ nbv r) (wB D A ([(a_tape, .inl (cy 0, 900, .inl tape)), (a_tk, .inr (9, [.ref a_tape, .int tk_limit, .int tk_start, .int tk_end', .int tk_sort]))] ++ X)) A) (([.ref a_tk, .int p1, .int p2] : List Value).toArray) s 0 0 A) (F0 m 50 ls []) := by
    intro tk_end_1 h H locs hP hD hS ls hl
    unfold f_X9_runOn_B50 at h
    refine lv_aload_n hx hb dX9_runOn_50 rfl (lv_at hl 0 rfl) ?_
    refine va_get (D := D) (ci := 9) (C := RX9) (T := TX9) (N := 5) (v := .int tk_end_1) hx hb hX9 (fun _ q => q) hown hK hP 1 rfl rfl 3 (by decide) (hts (.fieldLink RX9 26 "ElephantLine$Tokens" "end" "I") (by decide +kernel)) (fun _ h9 => h9) rfl dX9_runOn_51 ?_
    refine lv_aload_n hx hb dX9_runOn_54 rfl (lv_at hl 0 rfl) ?_
    refine va_get (D := D) (ci := 9) (C := RX9) (T := TX9) (N := 5) (v := .int tk_start) hx hb hX9 (fun _ q => q) hown hK hP 1 rfl rfl 2 (by decide) (hts (.fieldLink RX9 23 "ElephantLine$Tokens" "start" "I") (by decide +kernel)) (fun _ h9 => h9) rfl dX9_runOn_55 ?_
    refine lv_icmp_le (tgt := 65) hx hb dX9_runOn_58 (by decide) (fun cd => ?_) (fun cd => ?_)
    · have h := ifT cd h
      refine lv_iconst (v := 0) hx hb dX9_runOn_65 (by decide) ?_
      cases h
      exact W.zret (ty := .boolean) hx hb hr (nbv.n nbv_0) (fun t ht _ => ⟨⟨_, (), rfl, ⟨rfl, nbv_0⟩, by rw [ht]; exact hP, hD⟩, hS.F ht⟩) hS.2.2 dX9_runOn_66
    · have h := ifF cd h
      refine lv_iconst (v := 1) hx hb dX9_runOn_61 (by decide) ?_
      refine lv_goto (tgt := 66) hx hb dX9_runOn_62 (by decide) ?_
      cases h
      exact W.zret (ty := .boolean) hx hb hr (nbv.n nbv_1) (fun t ht _ => ⟨⟨_, (), rfl, ⟨rfl, nbv_1⟩, by rw [ht]; exact hP, hD⟩, hS.F ht⟩) hS.2.2 dX9_runOn_66
  have lp0 : ∀ (n0 : Nat) (tk_end_2 : Int32), f_X9_runOn_L0 tape tk_limit tk_start p1 p2 n0 tk_end_2 = some (res, tk_end') → ∀ (H : Heap) (locs : List Loc), va_P D vwCl ([(a_tape, .inl (cy 0, 900, .inl tape)), (a_tk, .inr (9, [.ref a_tape, .int tk_limit, .int tk_start, .int tk_end_2, .int tk_sort]))] ++ X) H → va_D A ([(a_tape, .inl (cy 0, 900, .inl tape)), (a_tk, .inr (9, [.ref a_tape, .int tk_limit, .int tk_start, .int tk_end_2, .int tk_sort]))] ++ X) → va_S A s.heap H locs → ∀ ls : Array Slot, lv_has ls 3 [(0, .ref a_tk), (1, .int p1), (2, .int p2)] → W p l e (headSpec wo_X9_runOn ({ frames := 0, cells := 0, slots := 0, locals := 0 })).room s m (([.ref a_tk, .int p1, .int p2] : List Value).toArray) below meth c H locs 0 0 (MQ below (va_Qi (fun (r : Int32) (_ : Unit) => r = res ∧ nbv r) (wB D A ([(a_tape, .inl (cy 0, 900, .inl tape)), (a_tk, .inr (9, [.ref a_tape, .int tk_limit, .int tk_start, .int tk_end', .int tk_sort]))] ++ X)) A) (([.ref a_tk, .int p1, .int p2] : List Value).toArray) s 0 0 A) (F0 m 0 ls []) := by
    intro n0
    induction n0 with
    | zero => intro tk_end_2 h; exact absurd (show (none : Option (Int32 × Int32)) = some _ from h) (by intro q; cases q)
    | succ n0 ih0 =>
      intro tk_end_2 h H locs hP hD hS ls hl
      have h : f_X9_runOn_b0 tape tk_limit tk_start p1 p2 (f_X9_runOn_L0 tape tk_limit tk_start p1 p2 n0) tk_end_2 = some (res, tk_end') := h
      unfold f_X9_runOn_b0 at h
      refine lv_aload_n hx hb dX9_runOn_0 rfl (lv_at hl 0 rfl) ?_
      refine va_get (D := D) (ci := 9) (C := RX9) (T := TX9) (N := 5) (v := .int tk_end_2) hx hb hX9 (fun _ q => q) hown hK hP 1 rfl rfl 3 (by decide) (hts (.fieldLink RX9 26 "ElephantLine$Tokens" "end" "I") (by decide +kernel)) (fun _ h9 => h9) rfl dX9_runOn_1 ?_
      refine lv_aload_n hx hb dX9_runOn_4 rfl (lv_at hl 0 rfl) ?_
      refine va_get (D := D) (ci := 9) (C := RX9) (T := TX9) (N := 5) (v := .int tk_limit) hx hb hX9 (fun _ q => q) hown hK hP 1 rfl rfl 1 (by decide) (hts (.fieldLink RX9 19 "ElephantLine$Tokens" "limit" "I") (by decide +kernel)) (fun _ h9 => h9) rfl dX9_runOn_5 ?_
      refine lv_icmp_ge (tgt := 50) hx hb dX9_runOn_8 (by decide) (fun cd => ?_) (fun cd => ?_)
      · have h := ifT cd h
        exact jn50 tk_end_2 h _ _ hP hD hS _ (lv_sub hl [0] rfl)
      · have h := ifF cd h
        refine lv_aload_n hx hb dX9_runOn_11 rfl (lv_at hl 0 rfl) ?_
        refine va_get (D := D) (ci := 9) (C := RX9) (T := TX9) (N := 5) (v := .ref a_tape) hx hb hX9 (fun _ q => q) hown hK hP 1 rfl rfl 0 (by decide) (hts (.fieldLink RX9 7 "ElephantLine$Tokens" "tape" "[B") (by decide +kernel)) (fun _ h9 => h9) rfl dX9_runOn_12 ?_
        refine lv_aload_n hx hb dX9_runOn_15 rfl (lv_at hl 0 rfl) ?_
        refine va_get (D := D) (ci := 9) (C := RX9) (T := TX9) (N := 5) (v := .int tk_end_2) hx hb hX9 (fun _ q => q) hown hK hP 1 rfl rfl 3 (by decide) (hts (.fieldLink RX9 26 "ElephantLine$Tokens" "end" "I") (by decide +kernel)) (fun _ h9 => h9) rfl dX9_runOn_16 ?_
        obtain ⟨i_3, h⟩ := gIn_some h
        refine va_bald hx hb hK hP 0 0 rfl rfl i_3 dX9_runOn_19 ?_
        refine lv_iload_n hx hb dX9_runOn_20 rfl (lv_at hl 1 rfl) ?_
        refine lv_icmp_lt (tgt := 50) hx hb dX9_runOn_21 (by decide) (fun cd => ?_) (fun cd => ?_)
        · have h := ifT cd h
          exact jn50 tk_end_2 h _ _ hP hD hS _ (lv_sub hl [0] rfl)
        · have h := ifF cd h
          refine lv_aload_n hx hb dX9_runOn_24 rfl (lv_at hl 0 rfl) ?_
          refine va_get (D := D) (ci := 9) (C := RX9) (T := TX9) (N := 5) (v := .ref a_tape) hx hb hX9 (fun _ q => q) hown hK hP 1 rfl rfl 0 (by decide) (hts (.fieldLink RX9 7 "ElephantLine$Tokens" "tape" "[B") (by decide +kernel)) (fun _ h9 => h9) rfl dX9_runOn_25 ?_
          refine lv_aload_n hx hb dX9_runOn_28 rfl (lv_at hl 0 rfl) ?_
          refine va_get (D := D) (ci := 9) (C := RX9) (T := TX9) (N := 5) (v := .int tk_end_2) hx hb hX9 (fun _ q => q) hown hK hP 1 rfl rfl 3 (by decide) (hts (.fieldLink RX9 26 "ElephantLine$Tokens" "end" "I") (by decide +kernel)) (fun _ h9 => h9) rfl dX9_runOn_29 ?_
          obtain ⟨i_4, h⟩ := gIn_some h
          refine va_bald hx hb hK hP 0 0 rfl rfl i_4 dX9_runOn_32 ?_
          refine lv_iload_n hx hb dX9_runOn_33 rfl (lv_at hl 2 rfl) ?_
          refine lv_icmp_gt (tgt := 50) hx hb dX9_runOn_34 (by decide) (fun cd => ?_) (fun cd => ?_)
          · have h := ifT cd h
            exact jn50 tk_end_2 h _ _ hP hD hS _ (lv_sub hl [0] rfl)
          · have h := ifF cd h
            refine lv_aload_n hx hb dX9_runOn_37 rfl (lv_at hl 0 rfl) ?_
            refine lv_dup hx hb dX9_runOn_38 rfl ?_
            refine va_get (D := D) (ci := 9) (C := RX9) (T := TX9) (N := 5) (v := .int tk_end_2) hx hb hX9 (fun _ q => q) hown hK hP 1 rfl rfl 3 (by decide) (hts (.fieldLink RX9 26 "ElephantLine$Tokens" "end" "I") (by decide +kernel)) (fun _ h9 => h9) rfl dX9_runOn_39 ?_
            refine lv_iconst (v := 1) hx hb dX9_runOn_42 (by decide) ?_
            refine lv_iadd hx hb dX9_runOn_43 ?_
            refine va_put (D := D) (ci := 9) (C := RX9) (T := TX9) (N := 5) (v := .int (tk_end_2 + 1)) (ty := .int) hx hb hX9 (fun _ q => q) tyX9 tyX9_ok nmX9 hown hK hP hD hS 1 rfl rfl 3 (by decide) (hts (.fieldLink RX9 26 "ElephantLine$Tokens" "end" "I") (by decide +kernel)) (fun _ h9 => h9) rfl (tyX9_ok 3 (by decide)) rfl rfl (Nat.le_of_ble_eq_true rfl) dX9_runOn_44 (fun H locs hP hD hS => ?_)
            refine lv_goto (tgt := 0) hx hb dX9_runOn_47 (by decide) ?_
            exact ih0 (tk_end_2 + 1) h _ _ hP hD hS _ (lv_sub hl [0, 1, 2] rfl)
  exact lp0 fuelN tk_end h _ _ hP hD hS _ (lv_sub hl [0, 1, 2] rfl)
theorem hd_X9_isWord : yX9_isWord.cls = RX9 ∧ yX9_isWord.cls ≠ "java/lang/invoke/MethodHandle" ∧ yX9_isWord.cls ≠ "java/lang/invoke/VarHandle" ∧ (parseMethodDescriptor yX9_isWord.desc).map (fun d => d.parameters.length) = some 1 := by decide +kernel
set_option maxHeartbeats 4000000 in
set_option maxRecDepth 100000 in
theorem c_X9_isWord (l : Launch) (D : va_G) (cy : Nat → ClassId) (sa sv : Nat → Nat) (a_tape a_tk : Nat) (tape : Nat → Int32) (tk_limit : Int32) (tk_start : Int32) (tk_end : Int32) (tk_sort : Int32) (p1 : Nat) (hi_p1 : p1 < nR) (res : Int32) (h : f_X9_isWord tape tk_start tk_end tk_sort (cn p1) = some (res)) : Met l yX9_isWord wo_X9_isWord ({ frames := 4, cells := 0, slots := 0, locals := 91 }) (roPcS D cy sa sv [.ref a_tk, .ref (sa p1)] [(a_tape, .inl (cy 0, 900, .inl tape)), (a_tk, .inr (9, [.ref a_tape, .int tk_limit, .int tk_start, .int tk_end, .int tk_sort]))]) (vp_Si (fun r => r = res ∧ nbv r)) 0 0 (fun _ => False) := by
  refine Met.ofW (cc := cX9_isWord) (maxL := 3) (ret := (some .boolean)) (by decide) rfl ?_
  intro p e s m args below meth c s₁ B hml hv
  obtain ⟨rfl, hP, hKN, hSS⟩ := hv
  have hK := hKN.1
  have hx := B.exec
  have hb := B.bytes
  have hr := B.returns
  have hts := wt_X9_isWord hKN.2.2 (([.ref a_tk, .ref (sa p1)] : List Value).toArray)
  have hown : s.vm.findClass RX9 = some m.cls := findClass_of_methodNamed B.named
  have hlocks := B.notSynchronized
  have hX9 := wc_X9 hKN.2.2 (([.ref a_tk, .ref (sa p1)] : List Value).toArray)
  have hl := lv_entry ([.ref a_tk, .ref (sa p1)]) (n := 3) (Nat.le_of_ble_eq_true rfl)
  rw [lg_entry_eq]
  generalize (lg_sl ([.ref a_tk, .ref (sa p1)]) ++ List.replicate (3 - (lg_sl ([.ref a_tk, .ref (sa p1)])).length) Slot.unset).toArray = ls at hl ⊢
  have hl : lv_has ls 3 [(0, .ref a_tk), (1, .ref (sa p1))] := hl
  unfold f_X9_isWord at h
  refine lv_aload_n hx hb dX9_isWord_0 rfl (lv_at hl 0 rfl) ?_
  refine va_get (D := D) (ci := 9) (C := RX9) (T := TX9) (N := 5) (v := .int tk_sort) hx hb hX9 (fun _ q => q) hown hK hP 1 rfl rfl 4 (by decide) (hts (.fieldLink RX9 29 "ElephantLine$Tokens" "sort" "I") (by decide +kernel)) (fun _ h9 => h9) rfl dX9_isWord_1 ?_
  refine lv_iconst (v := 1) hx hb dX9_isWord_4 (by decide) ?_
  refine lv_icmp_ne (tgt := 24) hx hb dX9_isWord_5 (by decide) (fun cd => ?_) (fun cd => ?_)
  · have h := ifF cd h
    refine lv_iconst (v := 0) hx hb dX9_isWord_24 (by decide) ?_
    exact W.zret (ty := .boolean) (v := 0) hx hb hr (nbv.n nbv_0) (fun t ht _ => ⟨_, rfl, ⟨Option.some.inj h, nbv_0⟩, ht⟩) (fun _ q => by cases q) dX9_isWord_25
  · have h := ifT cd h
    refine lv_aload_n hx hb dX9_isWord_8 rfl (lv_at hl 0 rfl) ?_
    refine va_get (D := D) (ci := 9) (C := RX9) (T := TX9) (N := 5) (v := .int tk_end) hx hb hX9 (fun _ q => q) hown hK hP 1 rfl rfl 3 (by decide) (hts (.fieldLink RX9 26 "ElephantLine$Tokens" "end" "I") (by decide +kernel)) (fun _ h9 => h9) rfl dX9_isWord_9 ?_
    refine lv_aload_n hx hb dX9_isWord_12 rfl (lv_at hl 0 rfl) ?_
    refine va_get (D := D) (ci := 9) (C := RX9) (T := TX9) (N := 5) (v := .int tk_start) hx hb hX9 (fun _ q => q) hown hK hP 1 rfl rfl 2 (by decide) (hts (.fieldLink RX9 23 "ElephantLine$Tokens" "start" "I") (by decide +kernel)) (fun _ h9 => h9) rfl dX9_isWord_13 ?_
    refine lv_isub hx hb dX9_isWord_16 ?_
    refine lv_aload_n hx hb dX9_isWord_17 rfl (lv_at hl 1 rfl) ?_
    refine kT (i := p1) [] [.int (tk_end - tk_start)] ⟨hx, hb, hml, hown, hts⟩ (c_J0_length_8abf5 l D cy sa sv p1 hi_p1) gX9_isWord_J0_length_8abf5 rfl hd_J0_length_8abf5 ⟨Nat.le_of_ble_eq_true rfl, Nat.le_of_ble_eq_true rfl⟩ rfl rfl hKN hSS hi_p1 rfl hl.1 rfl (Nat.le_of_ble_eq_true rfl) dX9_isWord_18 ⟨Nat.le_of_ble_eq_true rfl, Nat.le_of_ble_eq_true rfl⟩ ?_
    refine lv_icmp_eq (tgt := 26) hx hb dX9_isWord_21 (by decide) (fun cd => ?_) (fun cd => ?_)
    · have h := ifT cd h
      refine lv_iconst (v := 0) hx hb dX9_isWord_26 (by decide) ?_
      refine lv_istore_n (lv' := [(2, .int 0), (0, .ref a_tk), (1, .ref (sa p1))]) hx hb dX9_isWord_27 rfl hl (by decide) rfl (fun ls hl => ?_)
      have lp28 : ∀ (n28 : Nat) (x2_1 : Int32), f_X9_isWord_L28 (cn p1) tape tk_start tk_end tk_sort n28 x2_1 = some (res) → ∀ ls : Array Slot, lv_has ls 3 [(0, .ref a_tk), (1, .ref (sa p1)), (2, .int x2_1)] → W p l e (headSpec wo_X9_isWord ({ frames := 4, cells := 0, slots := 0, locals := 91 })).room s m (([.ref a_tk, .ref (sa p1)] : List Value).toArray) below meth c s.heap [] 0 0 (MQ below (vp_Si (fun r => r = res ∧ nbv r)) (([.ref a_tk, .ref (sa p1)] : List Value).toArray) s 0 0 (fun _ => False)) (F0 m 28 ls []) := by
        intro n28
        induction n28 with
        | zero => intro x2_1 h; exact absurd (show (none : Option (Int32)) = some _ from h) (by intro q; cases q)
        | succ n28 ih28 =>
          intro x2_1 h ls hl
          have h : f_X9_isWord_b28 (cn p1) tape tk_start tk_end tk_sort (f_X9_isWord_L28 (cn p1) tape tk_start tk_end tk_sort n28) x2_1 = some (res) := h
          unfold f_X9_isWord_b28 at h
          refine lv_iload_n hx hb dX9_isWord_28 rfl (lv_at hl 2 rfl) ?_
          refine lv_aload_n hx hb dX9_isWord_29 rfl (lv_at hl 1 rfl) ?_
          refine kT (i := p1) [] [.int x2_1] ⟨hx, hb, hml, hown, hts⟩ (c_J0_length_8abf5 l D cy sa sv p1 hi_p1) gX9_isWord_J0_length_8abf5 rfl hd_J0_length_8abf5 ⟨Nat.le_of_ble_eq_true rfl, Nat.le_of_ble_eq_true rfl⟩ rfl rfl hKN hSS hi_p1 rfl hl.1 rfl (Nat.le_of_ble_eq_true rfl) dX9_isWord_30 ⟨Nat.le_of_ble_eq_true rfl, Nat.le_of_ble_eq_true rfl⟩ ?_
          refine lv_icmp_ge (tgt := 63) hx hb dX9_isWord_33 (by decide) (fun cd => ?_) (fun cd => ?_)
          · have h := ifT cd h
            refine lv_iconst (v := 1) hx hb dX9_isWord_63 (by decide) ?_
            exact W.zret (ty := .boolean) (v := 1) hx hb hr (nbv.n nbv_1) (fun t ht _ => ⟨_, rfl, ⟨Option.some.inj h, nbv_1⟩, ht⟩) (fun _ q => by cases q) dX9_isWord_64
          · have h := ifF cd h
            refine lv_aload_n hx hb dX9_isWord_36 rfl (lv_at hl 0 rfl) ?_
            refine va_get (D := D) (ci := 9) (C := RX9) (T := TX9) (N := 5) (v := .ref a_tape) hx hb hX9 (fun _ q => q) hown hK hP 1 rfl rfl 0 (by decide) (hts (.fieldLink RX9 7 "ElephantLine$Tokens" "tape" "[B") (by decide +kernel)) (fun _ h9 => h9) rfl dX9_isWord_37 ?_
            refine lv_aload_n hx hb dX9_isWord_40 rfl (lv_at hl 0 rfl) ?_
            refine va_get (D := D) (ci := 9) (C := RX9) (T := TX9) (N := 5) (v := .int tk_start) hx hb hX9 (fun _ q => q) hown hK hP 1 rfl rfl 2 (by decide) (hts (.fieldLink RX9 23 "ElephantLine$Tokens" "start" "I") (by decide +kernel)) (fun _ h9 => h9) rfl dX9_isWord_41 ?_
            refine lv_iload_n hx hb dX9_isWord_44 rfl (lv_at hl 2 rfl) ?_
            refine lv_iadd hx hb dX9_isWord_45 ?_
            obtain ⟨i_2, h⟩ := gIn_some h
            refine va_bald hx hb hK hP 0 0 rfl rfl i_2 dX9_isWord_46 ?_
            refine lv_aload_n hx hb dX9_isWord_47 rfl (lv_at hl 1 rfl) ?_
            refine lv_iload_n hx hb dX9_isWord_48 rfl (lv_at hl 2 rfl) ?_
            obtain ⟨i_3, h⟩ := gIn_some h
            refine kT (i := p1) [.int x2_1] [.int (tape (tk_start + x2_1).toNatClampNeg)] ⟨hx, hb, hml, hown, hts⟩ (c_J0_charAt_5068e l D cy sa sv p1 hi_p1 x2_1 i_3) gX9_isWord_J0_charAt_5068e rfl hd_J0_charAt_5068e ⟨Nat.le_of_ble_eq_true rfl, Nat.le_of_ble_eq_true rfl⟩ rfl rfl hKN hSS hi_p1 rfl hl.1 rfl (Nat.le_of_ble_eq_true rfl) dX9_isWord_49 ⟨Nat.le_of_ble_eq_true rfl, Nat.le_of_ble_eq_true rfl⟩ ?_
            refine lv_icmp_eq (tgt := 57) hx hb dX9_isWord_52 (by decide) (fun cd => ?_) (fun cd => ?_)
            · have h := ifT cd h
              refine lv_iinc (v := x2_1 + 1) (lv' := [(2, .int (x2_1 + 1)), (0, .ref a_tk), (1, .ref (sa p1))]) hx hb dX9_isWord_57 hl (k := 2) rfl (by first | rfl | decide) (by decide) rfl (fun ls hl => ?_)
              refine lv_goto (tgt := 28) hx hb dX9_isWord_60 (by decide) ?_
              exact ih28 (x2_1 + 1) h _ (lv_sub hl [1, 2, 0] rfl)
            · have h := ifF cd h
              refine lv_iconst (v := 0) hx hb dX9_isWord_55 (by decide) ?_
              exact W.zret (ty := .boolean) (v := 0) hx hb hr (nbv.n nbv_0) (fun t ht _ => ⟨_, rfl, ⟨Option.some.inj h, nbv_0⟩, ht⟩) (fun _ q => by cases q) dX9_isWord_56
      exact lp28 fuelN (0 : Int32) h _ (lv_sub hl [1, 2, 0] rfl)
    · have h := ifF cd h
      refine lv_iconst (v := 0) hx hb dX9_isWord_24 (by decide) ?_
      exact W.zret (ty := .boolean) (v := 0) hx hb hr (nbv.n nbv_0) (fun t ht _ => ⟨_, rfl, ⟨Option.some.inj h, nbv_0⟩, ht⟩) (fun _ q => by cases q) dX9_isWord_25
theorem hd_X9_value : yX9_value.cls = RX9 ∧ yX9_value.cls ≠ "java/lang/invoke/MethodHandle" ∧ yX9_value.cls ≠ "java/lang/invoke/VarHandle" ∧ (parseMethodDescriptor yX9_value.desc).map (fun d => d.parameters.length) = some 0 := by decide +kernel
set_option maxHeartbeats 4000000 in
set_option maxRecDepth 100000 in
theorem c_X9_value (l : Launch) (D : va_G) (cy : Nat → ClassId) (a_tape a_tk : Nat) (tape : Nat → Int32) (tk_limit : Int32) (tk_start : Int32) (tk_end : Int32) (tk_sort : Int32) (res : Int32) (h : f_X9_value tape tk_start tk_end = some (res)) : Met l yX9_value wo_X9_value ({ frames := 0, cells := 0, slots := 0, locals := 0 }) (roPc D cy [.ref a_tk] [(a_tape, .inl (cy 0, 900, .inl tape)), (a_tk, .inr (9, [.ref a_tape, .int tk_limit, .int tk_start, .int tk_end, .int tk_sort]))]) (vp_Si (fun r => r = res)) 0 0 (fun _ => False) := by
  refine Met.ofW (cc := cX9_value) (maxL := 3) (ret := (some .int)) (by decide) rfl ?_
  intro p e s m args below meth c s₁ B hml hv
  obtain ⟨rfl, hP, hKN⟩ := hv
  have hK := hKN.1
  have hx := B.exec
  have hb := B.bytes
  have hr := B.returns
  have hts := wt_X9_value hKN.2.2 (([.ref a_tk] : List Value).toArray)
  have hown : s.vm.findClass RX9 = some m.cls := findClass_of_methodNamed B.named
  have hlocks := B.notSynchronized
  have hX9 := wc_X9 hKN.2.2 (([.ref a_tk] : List Value).toArray)
  have hl := lv_entry ([.ref a_tk]) (n := 3) (Nat.le_of_ble_eq_true rfl)
  rw [lg_entry_eq]
  generalize (lg_sl ([.ref a_tk]) ++ List.replicate (3 - (lg_sl ([.ref a_tk])).length) Slot.unset).toArray = ls at hl ⊢
  have hl : lv_has ls 3 [(0, .ref a_tk)] := hl
  unfold f_X9_value at h
  refine lv_iconst (v := 0) hx hb dX9_value_0 (by decide) ?_
  refine lv_istore_n (lv' := [(1, .int 0), (0, .ref a_tk)]) hx hb dX9_value_1 rfl hl (by decide) rfl (fun ls hl => ?_)
  refine lv_aload_n hx hb dX9_value_2 rfl (lv_at hl 1 rfl) ?_
  refine va_get (D := D) (ci := 9) (C := RX9) (T := TX9) (N := 5) (v := .int tk_start) hx hb hX9 (fun _ q => q) hown hK hP 1 rfl rfl 2 (by decide) (hts (.fieldLink RX9 23 "ElephantLine$Tokens" "start" "I") (by decide +kernel)) (fun _ h9 => h9) rfl dX9_value_3 ?_
  refine lv_istore_n (lv' := [(2, .int tk_start), (1, .int 0), (0, .ref a_tk)]) hx hb dX9_value_6 rfl hl (by decide) rfl (fun ls hl => ?_)
  have lp7 : ∀ (n7 : Nat) (x1_1 : Int32) (x2_2 : Int32), f_X9_value_L7 tape tk_start tk_end n7 x1_1 x2_2 = some (res) → ∀ ls : Array Slot, lv_has ls 3 [(0, .ref a_tk), (1, .int x1_1), (2, .int x2_2)] → W p l e (headSpec wo_X9_value ({ frames := 0, cells := 0, slots := 0, locals := 0 })).room s m (([.ref a_tk] : List Value).toArray) below meth c s.heap [] 0 0 (MQ below (vp_Si (fun r => r = res)) (([.ref a_tk] : List Value).toArray) s 0 0 (fun _ => False)) (F0 m 7 ls []) := by
    intro n7
    induction n7 with
    | zero => intro x1_1 x2_2 h; exact absurd (show (none : Option (Int32)) = some _ from h) (by intro q; cases q)
    | succ n7 ih7 =>
      intro x1_1 x2_2 h ls hl
      have h : f_X9_value_b7 tape tk_start tk_end (f_X9_value_L7 tape tk_start tk_end n7) x1_1 x2_2 = some (res) := h
      unfold f_X9_value_b7 at h
      refine lv_iload_n hx hb dX9_value_7 rfl (lv_at hl 2 rfl) ?_
      refine lv_aload_n hx hb dX9_value_8 rfl (lv_at hl 0 rfl) ?_
      refine va_get (D := D) (ci := 9) (C := RX9) (T := TX9) (N := 5) (v := .int tk_end) hx hb hX9 (fun _ q => q) hown hK hP 1 rfl rfl 3 (by decide) (hts (.fieldLink RX9 26 "ElephantLine$Tokens" "end" "I") (by decide +kernel)) (fun _ h9 => h9) rfl dX9_value_9 ?_
      refine lv_icmp_ge (tgt := 36) hx hb dX9_value_12 (by decide) (fun cd => ?_) (fun cd => ?_)
      · have h := ifT cd h
        refine lv_iload_n hx hb dX9_value_36 rfl (lv_at hl 1 rfl) ?_
        exact W.iret (v := x1_1) hx hb hr (fun t ht _ => ⟨_, rfl, Option.some.inj h, ht⟩) (fun _ q => by cases q) dX9_value_37
      · have h := ifF cd h
        refine lv_bipush (v := 10) hx hb dX9_value_15 (by decide) ?_
        refine lv_iload_n hx hb dX9_value_17 rfl (lv_at hl 1 rfl) ?_
        refine lv_imul hx hb dX9_value_18 ?_
        refine lv_aload_n hx hb dX9_value_19 rfl (lv_at hl 0 rfl) ?_
        refine va_get (D := D) (ci := 9) (C := RX9) (T := TX9) (N := 5) (v := .ref a_tape) hx hb hX9 (fun _ q => q) hown hK hP 1 rfl rfl 0 (by decide) (hts (.fieldLink RX9 7 "ElephantLine$Tokens" "tape" "[B") (by decide +kernel)) (fun _ h9 => h9) rfl dX9_value_20 ?_
        refine lv_iload_n hx hb dX9_value_23 rfl (lv_at hl 2 rfl) ?_
        obtain ⟨i_3, h⟩ := gIn_some h
        refine va_bald hx hb hK hP 0 0 rfl rfl i_3 dX9_value_24 ?_
        refine lv_iadd hx hb dX9_value_25 ?_
        refine lv_bipush (v := 48) hx hb dX9_value_26 (by decide) ?_
        refine lv_isub hx hb dX9_value_28 ?_
        refine lv_istore_n (lv' := [(1, .int (((10 * x1_1) + (tape x2_2.toNatClampNeg)) - 48)), (0, .ref a_tk), (2, .int x2_2)]) hx hb dX9_value_29 rfl hl (by decide) rfl (fun ls hl => ?_)
        refine lv_iinc (v := x2_2 + 1) (lv' := [(2, .int (x2_2 + 1)), (1, .int (((10 * x1_1) + (tape x2_2.toNatClampNeg)) - 48)), (0, .ref a_tk)]) hx hb dX9_value_30 hl (k := 2) rfl (by first | rfl | decide) (by decide) rfl (fun ls hl => ?_)
        refine lv_goto (tgt := 7) hx hb dX9_value_33 (by decide) ?_
        exact ih7 (((10 * x1_1) + (tape x2_2.toNatClampNeg)) - 48) (x2_2 + 1) h _ (lv_sub hl [2, 1, 0] rfl)
  exact lp7 fuelN (0 : Int32) tk_start h _ (lv_sub hl [2, 1, 0] rfl)
theorem hd_X9_beginsLine : yX9_beginsLine.cls = RX9 ∧ yX9_beginsLine.cls ≠ "java/lang/invoke/MethodHandle" ∧ yX9_beginsLine.cls ≠ "java/lang/invoke/VarHandle" ∧ (parseMethodDescriptor yX9_beginsLine.desc).map (fun d => d.parameters.length) = some 0 := by decide +kernel
set_option maxHeartbeats 4000000 in
set_option maxRecDepth 100000 in
theorem c_X9_beginsLine (l : Launch) (D : va_G) (cy : Nat → ClassId) (sa sv : Nat → Nat) (a_tape a_tk : Nat) (tape : Nat → Int32) (tk_limit : Int32) (tk_start : Int32) (tk_end : Int32) (tk_sort : Int32) (res : Int32) (h : f_X9_beginsLine tape tk_start tk_end tk_sort = some (res)) : Met l yX9_beginsLine wo_X9_beginsLine ({ frames := 5, cells := 0, slots := 0, locals := 113 }) (roPcS D cy sa sv [.ref a_tk] [(a_tape, .inl (cy 0, 900, .inl tape)), (a_tk, .inr (9, [.ref a_tape, .int tk_limit, .int tk_start, .int tk_end, .int tk_sort]))]) (vp_Si (fun r => r = res ∧ nbv r)) 0 0 (fun _ => False) := by
  refine Met.ofW (cc := cX9_beginsLine) (maxL := 1) (ret := (some .boolean)) (by decide) rfl ?_
  intro p e s m args below meth c s₁ B hml hv
  obtain ⟨rfl, hP, hKN, hSS⟩ := hv
  have hK := hKN.1
  have hx := B.exec
  have hb := B.bytes
  have hr := B.returns
  have hts := wt_X9_beginsLine hKN.2.2 (([.ref a_tk] : List Value).toArray)
  have hown : s.vm.findClass RX9 = some m.cls := findClass_of_methodNamed B.named
  have hlocks := B.notSynchronized
  have hl := lv_entry ([.ref a_tk]) (n := 1) (Nat.le_of_ble_eq_true rfl)
  rw [lg_entry_eq]
  generalize (lg_sl ([.ref a_tk]) ++ List.replicate (1 - (lg_sl ([.ref a_tk])).length) Slot.unset).toArray = ls at hl ⊢
  have hl : lv_has ls 1 [(0, .ref a_tk)] := hl
  unfold f_X9_beginsLine at h
  refine lv_aload_n hx hb dX9_beginsLine_0 rfl (lv_at hl 0 rfl) ?_
  refine va_ldcS hx hb hown (hSS.2.2.2 ("ElephantLine$Tokens", 46, "field", 41) (List.mem_of_getElem? (i := 41) rfl)) dX9_beginsLine_1 ?_
  obtain ⟨r_1, hc_2, h⟩ := bd1_some h
  refine kVbS [.ref (sa 41)] [] ⟨hx, hb, hml, hown, hts⟩ (c_X9_isWord l D cy sa sv a_tape a_tk tape tk_limit tk_start tk_end tk_sort 41 (by decide) r_1 hc_2) gX9_beginsLine_X9_isWord rfl hd_X9_isWord ⟨Nat.le_of_ble_eq_true rfl, Nat.le_of_ble_eq_true rfl⟩ rfl rfl hKN (hP.sub [0, 1] rfl) hSS 9 1 rfl rfl rfl hl.1 rfl (Nat.le_of_ble_eq_true rfl) dX9_beginsLine_3 ⟨Nat.le_of_ble_eq_true rfl, Nat.le_of_ble_eq_true rfl⟩ (fun nb_3 => ?_)
  have jn54 : f_X9_beginsLine_B54 tape tk_start tk_end tk_sort = some (res) → ∀ ls : Array Slot, lv_has ls 1 [] → W p l e (headSpec wo_X9_beginsLine ({ frames := 5, cells := 0, slots := 0, locals := 113 })).room s m (([.ref a_tk] : List Value).toArray) below meth c s.heap [] 0 0 (MQ below (vp_Si (fun r => r = res ∧ nbv r)) (([.ref a_tk] : List Value).toArray) s 0 0 (fun _ => False)) (F0 m 54 ls []) := by
    intro h ls hl
    unfold f_X9_beginsLine_B54 at h
    refine lv_iconst (v := 1) hx hb dX9_beginsLine_54 (by decide) ?_
    refine lv_goto (tgt := 59) hx hb dX9_beginsLine_55 (by decide) ?_
    exact W.zret (ty := .boolean) (v := 1) hx hb hr (nbv.n nbv_1) (fun t ht _ => ⟨_, rfl, ⟨Option.some.inj h, nbv_1⟩, ht⟩) (fun _ q => by cases q) dX9_beginsLine_59
  refine lv_if_ne (tgt := 54) hx hb dX9_beginsLine_6 (by decide) (fun cd => ?_) (fun cd => ?_)
  · have h := ifF cd h
    exact jn54 h _ (lv_sub hl [] rfl)
  · have h := ifT cd h
    refine lv_aload_n hx hb dX9_beginsLine_9 rfl (lv_at hl 0 rfl) ?_
    refine va_ldcS hx hb hown (hSS.2.2.2 ("ElephantLine$Tokens", 52, "lane", 42) (List.mem_of_getElem? (i := 42) rfl)) dX9_beginsLine_10 ?_
    obtain ⟨r_4, hc_5, h⟩ := bd1_some h
    refine kVbS [.ref (sa 42)] [] ⟨hx, hb, hml, hown, hts⟩ (c_X9_isWord l D cy sa sv a_tape a_tk tape tk_limit tk_start tk_end tk_sort 42 (by decide) r_4 hc_5) gX9_beginsLine_X9_isWord rfl hd_X9_isWord ⟨Nat.le_of_ble_eq_true rfl, Nat.le_of_ble_eq_true rfl⟩ rfl rfl hKN (hP.sub [0, 1] rfl) hSS 9 1 rfl rfl rfl hl.1 rfl (Nat.le_of_ble_eq_true rfl) dX9_beginsLine_12 ⟨Nat.le_of_ble_eq_true rfl, Nat.le_of_ble_eq_true rfl⟩ (fun nb_6 => ?_)
    refine lv_if_ne (tgt := 54) hx hb dX9_beginsLine_15 (by decide) (fun cd => ?_) (fun cd => ?_)
    · have h := ifF cd h
      exact jn54 h _ (lv_sub hl [] rfl)
    · have h := ifT cd h
      refine lv_aload_n hx hb dX9_beginsLine_18 rfl (lv_at hl 0 rfl) ?_
      refine va_ldcS hx hb hown (hSS.2.2.2 ("ElephantLine$Tokens", 54, "beast", 43) (List.mem_of_getElem? (i := 43) rfl)) dX9_beginsLine_19 ?_
      obtain ⟨r_7, hc_8, h⟩ := bd1_some h
      refine kVbS [.ref (sa 43)] [] ⟨hx, hb, hml, hown, hts⟩ (c_X9_isWord l D cy sa sv a_tape a_tk tape tk_limit tk_start tk_end tk_sort 43 (by decide) r_7 hc_8) gX9_beginsLine_X9_isWord rfl hd_X9_isWord ⟨Nat.le_of_ble_eq_true rfl, Nat.le_of_ble_eq_true rfl⟩ rfl rfl hKN (hP.sub [0, 1] rfl) hSS 9 1 rfl rfl rfl hl.1 rfl (Nat.le_of_ble_eq_true rfl) dX9_beginsLine_21 ⟨Nat.le_of_ble_eq_true rfl, Nat.le_of_ble_eq_true rfl⟩ (fun nb_9 => ?_)
      refine lv_if_ne (tgt := 54) hx hb dX9_beginsLine_24 (by decide) (fun cd => ?_) (fun cd => ?_)
      · have h := ifF cd h
        exact jn54 h _ (lv_sub hl [] rfl)
      · have h := ifT cd h
        refine lv_aload_n hx hb dX9_beginsLine_27 rfl (lv_at hl 0 rfl) ?_
        refine va_ldcS hx hb hown (hSS.2.2.2 ("ElephantLine$Tokens", 56, "city", 44) (List.mem_of_getElem? (i := 44) rfl)) dX9_beginsLine_28 ?_
        obtain ⟨r_10, hc_11, h⟩ := bd1_some h
        refine kVbS [.ref (sa 44)] [] ⟨hx, hb, hml, hown, hts⟩ (c_X9_isWord l D cy sa sv a_tape a_tk tape tk_limit tk_start tk_end tk_sort 44 (by decide) r_10 hc_11) gX9_beginsLine_X9_isWord rfl hd_X9_isWord ⟨Nat.le_of_ble_eq_true rfl, Nat.le_of_ble_eq_true rfl⟩ rfl rfl hKN (hP.sub [0, 1] rfl) hSS 9 1 rfl rfl rfl hl.1 rfl (Nat.le_of_ble_eq_true rfl) dX9_beginsLine_30 ⟨Nat.le_of_ble_eq_true rfl, Nat.le_of_ble_eq_true rfl⟩ (fun nb_12 => ?_)
        refine lv_if_ne (tgt := 54) hx hb dX9_beginsLine_33 (by decide) (fun cd => ?_) (fun cd => ?_)
        · have h := ifF cd h
          exact jn54 h _ (lv_sub hl [] rfl)
        · have h := ifT cd h
          refine lv_aload_n hx hb dX9_beginsLine_36 rfl (lv_at hl 0 rfl) ?_
          refine va_ldcS hx hb hown (hSS.2.2.2 ("ElephantLine$Tokens", 58, "pass", 45) (List.mem_of_getElem? (i := 45) rfl)) dX9_beginsLine_37 ?_
          obtain ⟨r_13, hc_14, h⟩ := bd1_some h
          refine kVbS [.ref (sa 45)] [] ⟨hx, hb, hml, hown, hts⟩ (c_X9_isWord l D cy sa sv a_tape a_tk tape tk_limit tk_start tk_end tk_sort 45 (by decide) r_13 hc_14) gX9_beginsLine_X9_isWord rfl hd_X9_isWord ⟨Nat.le_of_ble_eq_true rfl, Nat.le_of_ble_eq_true rfl⟩ rfl rfl hKN (hP.sub [0, 1] rfl) hSS 9 1 rfl rfl rfl hl.1 rfl (Nat.le_of_ble_eq_true rfl) dX9_beginsLine_39 ⟨Nat.le_of_ble_eq_true rfl, Nat.le_of_ble_eq_true rfl⟩ (fun nb_15 => ?_)
          refine lv_if_ne (tgt := 54) hx hb dX9_beginsLine_42 (by decide) (fun cd => ?_) (fun cd => ?_)
          · have h := ifF cd h
            exact jn54 h _ (lv_sub hl [] rfl)
          · have h := ifT cd h
            refine lv_aload_n hx hb dX9_beginsLine_45 rfl (lv_at hl 0 rfl) ?_
            refine va_ldcS hx hb hown (hSS.2.2.2 ("ElephantLine$Tokens", 60, "turned", 46) (List.mem_of_getElem? (i := 46) rfl)) dX9_beginsLine_46 ?_
            obtain ⟨r_16, hc_17, h⟩ := bd1_some h
            refine kVbS [.ref (sa 46)] [] ⟨hx, hb, hml, hown, hts⟩ (c_X9_isWord l D cy sa sv a_tape a_tk tape tk_limit tk_start tk_end tk_sort 46 (by decide) r_16 hc_17) gX9_beginsLine_X9_isWord rfl hd_X9_isWord ⟨Nat.le_of_ble_eq_true rfl, Nat.le_of_ble_eq_true rfl⟩ rfl rfl hKN (hP.sub [0, 1] rfl) hSS 9 1 rfl rfl rfl hl.1 rfl (Nat.le_of_ble_eq_true rfl) dX9_beginsLine_48 ⟨Nat.le_of_ble_eq_true rfl, Nat.le_of_ble_eq_true rfl⟩ (fun nb_18 => ?_)
            refine lv_if_eq (tgt := 58) hx hb dX9_beginsLine_51 (by decide) (fun cd => ?_) (fun cd => ?_)
            · have h := ifT cd h
              refine lv_iconst (v := 0) hx hb dX9_beginsLine_58 (by decide) ?_
              exact W.zret (ty := .boolean) (v := 0) hx hb hr (nbv.n nbv_0) (fun t ht _ => ⟨_, rfl, ⟨Option.some.inj h, nbv_0⟩, ht⟩) (fun _ q => by cases q) dX9_beginsLine_59
            · have h := ifF cd h
              exact jn54 h _ (lv_sub hl [] rfl)
theorem hd_X9_isSameAs : yX9_isSameAs.cls = RX9 ∧ yX9_isSameAs.cls ≠ "java/lang/invoke/MethodHandle" ∧ yX9_isSameAs.cls ≠ "java/lang/invoke/VarHandle" ∧ (parseMethodDescriptor yX9_isSameAs.desc).map (fun d => d.parameters.length) = some 2 := by decide +kernel
set_option maxHeartbeats 4000000 in
set_option maxRecDepth 100000 in
theorem c_X9_isSameAs (l : Launch) (D : va_G) (cy : Nat → ClassId) (a_tape a_tk : Nat) (tape : Nat → Int32) (tk_limit : Int32) (tk_start : Int32) (tk_end : Int32) (tk_sort : Int32) (p1 : Int32) (p2 : Int32) (res : Int32) (h : f_X9_isSameAs tape tk_limit tk_start tk_end p1 p2 = some (res)) : Met l yX9_isSameAs wo_X9_isSameAs ({ frames := 0, cells := 0, slots := 0, locals := 0 }) (roPc D cy [.ref a_tk, .int p1, .int p2] [(a_tape, .inl (cy 0, 900, .inl tape)), (a_tk, .inr (9, [.ref a_tape, .int tk_limit, .int tk_start, .int tk_end, .int tk_sort]))]) (vp_Si (fun r => r = res ∧ nbv r)) 0 0 (fun _ => False) := by
  refine Met.ofW (cc := cX9_isSameAs) (maxL := 4) (ret := (some .boolean)) (by decide) rfl ?_
  intro p e s m args below meth c s₁ B hml hv
  obtain ⟨rfl, hP, hKN⟩ := hv
  have hK := hKN.1
  have hx := B.exec
  have hb := B.bytes
  have hr := B.returns
  have hts := wt_X9_isSameAs hKN.2.2 (([.ref a_tk, .int p1, .int p2] : List Value).toArray)
  have hown : s.vm.findClass RX9 = some m.cls := findClass_of_methodNamed B.named
  have hlocks := B.notSynchronized
  have hX9 := wc_X9 hKN.2.2 (([.ref a_tk, .int p1, .int p2] : List Value).toArray)
  have hl := lv_entry ([.ref a_tk, .int p1, .int p2]) (n := 4) (Nat.le_of_ble_eq_true rfl)
  rw [lg_entry_eq]
  generalize (lg_sl ([.ref a_tk, .int p1, .int p2]) ++ List.replicate (4 - (lg_sl ([.ref a_tk, .int p1, .int p2])).length) Slot.unset).toArray = ls at hl ⊢
  have hl : lv_has ls 4 [(0, .ref a_tk), (1, .int p1), (2, .int p2)] := hl
  unfold f_X9_isSameAs at h
  refine lv_aload_n hx hb dX9_isSameAs_0 rfl (lv_at hl 0 rfl) ?_
  refine va_get (D := D) (ci := 9) (C := RX9) (T := TX9) (N := 5) (v := .int tk_end) hx hb hX9 (fun _ q => q) hown hK hP 1 rfl rfl 3 (by decide) (hts (.fieldLink RX9 26 "ElephantLine$Tokens" "end" "I") (by decide +kernel)) (fun _ h9 => h9) rfl dX9_isSameAs_1 ?_
  refine lv_aload_n hx hb dX9_isSameAs_4 rfl (lv_at hl 0 rfl) ?_
  refine va_get (D := D) (ci := 9) (C := RX9) (T := TX9) (N := 5) (v := .int tk_start) hx hb hX9 (fun _ q => q) hown hK hP 1 rfl rfl 2 (by decide) (hts (.fieldLink RX9 23 "ElephantLine$Tokens" "start" "I") (by decide +kernel)) (fun _ h9 => h9) rfl dX9_isSameAs_5 ?_
  refine lv_isub hx hb dX9_isSameAs_8 ?_
  refine lv_iload_n hx hb dX9_isSameAs_9 rfl (lv_at hl 2 rfl) ?_
  refine lv_iload_n hx hb dX9_isSameAs_10 rfl (lv_at hl 1 rfl) ?_
  refine lv_isub hx hb dX9_isSameAs_11 ?_
  refine lv_icmp_ne (tgt := 27) hx hb dX9_isSameAs_12 (by decide) (fun cd => ?_) (fun cd => ?_)
  · have h := ifF cd h
    refine lv_iconst (v := 0) hx hb dX9_isSameAs_27 (by decide) ?_
    exact W.zret (ty := .boolean) (v := 0) hx hb hr (nbv.n nbv_0) (fun t ht _ => ⟨_, rfl, ⟨Option.some.inj h, nbv_0⟩, ht⟩) (fun _ q => by cases q) dX9_isSameAs_28
  · have h := ifT cd h
    refine lv_iload_n hx hb dX9_isSameAs_15 rfl (lv_at hl 1 rfl) ?_
    refine lv_if_lt (tgt := 27) hx hb dX9_isSameAs_16 (by decide) (fun cd => ?_) (fun cd => ?_)
    · have h := ifT cd h
      refine lv_iconst (v := 0) hx hb dX9_isSameAs_27 (by decide) ?_
      exact W.zret (ty := .boolean) (v := 0) hx hb hr (nbv.n nbv_0) (fun t ht _ => ⟨_, rfl, ⟨Option.some.inj h, nbv_0⟩, ht⟩) (fun _ q => by cases q) dX9_isSameAs_28
    · have h := ifF cd h
      refine lv_iload_n hx hb dX9_isSameAs_19 rfl (lv_at hl 2 rfl) ?_
      refine lv_aload_n hx hb dX9_isSameAs_20 rfl (lv_at hl 0 rfl) ?_
      refine va_get (D := D) (ci := 9) (C := RX9) (T := TX9) (N := 5) (v := .int tk_limit) hx hb hX9 (fun _ q => q) hown hK hP 1 rfl rfl 1 (by decide) (hts (.fieldLink RX9 19 "ElephantLine$Tokens" "limit" "I") (by decide +kernel)) (fun _ h9 => h9) rfl dX9_isSameAs_21 ?_
      refine lv_icmp_le (tgt := 29) hx hb dX9_isSameAs_24 (by decide) (fun cd => ?_) (fun cd => ?_)
      · have h := ifT cd h
        refine lv_iconst (v := 0) hx hb dX9_isSameAs_29 (by decide) ?_
        refine lv_istore_n (lv' := [(3, .int 0), (0, .ref a_tk), (1, .int p1), (2, .int p2)]) hx hb dX9_isSameAs_30 rfl hl (by decide) rfl (fun ls hl => ?_)
        have lp31 : ∀ (n31 : Nat) (x3_1 : Int32), f_X9_isSameAs_L31 tape tk_limit tk_start tk_end p1 n31 x3_1 = some (res) → ∀ ls : Array Slot, lv_has ls 4 [(0, .ref a_tk), (1, .int p1), (3, .int x3_1)] → W p l e (headSpec wo_X9_isSameAs ({ frames := 0, cells := 0, slots := 0, locals := 0 })).room s m (([.ref a_tk, .int p1, .int p2] : List Value).toArray) below meth c s.heap [] 0 0 (MQ below (vp_Si (fun r => r = res ∧ nbv r)) (([.ref a_tk, .int p1, .int p2] : List Value).toArray) s 0 0 (fun _ => False)) (F0 m 31 ls []) := by
          intro n31
          induction n31 with
          | zero => intro x3_1 h; exact absurd (show (none : Option (Int32)) = some _ from h) (by intro q; cases q)
          | succ n31 ih31 =>
            intro x3_1 h ls hl
            have h : f_X9_isSameAs_b31 tape tk_limit tk_start tk_end p1 (f_X9_isSameAs_L31 tape tk_limit tk_start tk_end p1 n31) x3_1 = some (res) := h
            unfold f_X9_isSameAs_b31 at h
            refine lv_iload_n hx hb dX9_isSameAs_31 rfl (lv_at hl 2 rfl) ?_
            refine lv_aload_n hx hb dX9_isSameAs_32 rfl (lv_at hl 0 rfl) ?_
            refine va_get (D := D) (ci := 9) (C := RX9) (T := TX9) (N := 5) (v := .int tk_end) hx hb hX9 (fun _ q => q) hown hK hP 1 rfl rfl 3 (by decide) (hts (.fieldLink RX9 26 "ElephantLine$Tokens" "end" "I") (by decide +kernel)) (fun _ h9 => h9) rfl dX9_isSameAs_33 ?_
            refine lv_aload_n hx hb dX9_isSameAs_36 rfl (lv_at hl 0 rfl) ?_
            refine va_get (D := D) (ci := 9) (C := RX9) (T := TX9) (N := 5) (v := .int tk_start) hx hb hX9 (fun _ q => q) hown hK hP 1 rfl rfl 2 (by decide) (hts (.fieldLink RX9 23 "ElephantLine$Tokens" "start" "I") (by decide +kernel)) (fun _ h9 => h9) rfl dX9_isSameAs_37 ?_
            refine lv_isub hx hb dX9_isSameAs_40 ?_
            refine lv_icmp_ge (tgt := 74) hx hb dX9_isSameAs_41 (by decide) (fun cd => ?_) (fun cd => ?_)
            · have h := ifT cd h
              refine lv_iconst (v := 1) hx hb dX9_isSameAs_74 (by decide) ?_
              exact W.zret (ty := .boolean) (v := 1) hx hb hr (nbv.n nbv_1) (fun t ht _ => ⟨_, rfl, ⟨Option.some.inj h, nbv_1⟩, ht⟩) (fun _ q => by cases q) dX9_isSameAs_75
            · have h := ifF cd h
              refine lv_aload_n hx hb dX9_isSameAs_44 rfl (lv_at hl 0 rfl) ?_
              refine va_get (D := D) (ci := 9) (C := RX9) (T := TX9) (N := 5) (v := .ref a_tape) hx hb hX9 (fun _ q => q) hown hK hP 1 rfl rfl 0 (by decide) (hts (.fieldLink RX9 7 "ElephantLine$Tokens" "tape" "[B") (by decide +kernel)) (fun _ h9 => h9) rfl dX9_isSameAs_45 ?_
              refine lv_aload_n hx hb dX9_isSameAs_48 rfl (lv_at hl 0 rfl) ?_
              refine va_get (D := D) (ci := 9) (C := RX9) (T := TX9) (N := 5) (v := .int tk_start) hx hb hX9 (fun _ q => q) hown hK hP 1 rfl rfl 2 (by decide) (hts (.fieldLink RX9 23 "ElephantLine$Tokens" "start" "I") (by decide +kernel)) (fun _ h9 => h9) rfl dX9_isSameAs_49 ?_
              refine lv_iload_n hx hb dX9_isSameAs_52 rfl (lv_at hl 2 rfl) ?_
              refine lv_iadd hx hb dX9_isSameAs_53 ?_
              obtain ⟨i_2, h⟩ := gIn_some h
              refine va_bald hx hb hK hP 0 0 rfl rfl i_2 dX9_isSameAs_54 ?_
              refine lv_aload_n hx hb dX9_isSameAs_55 rfl (lv_at hl 0 rfl) ?_
              refine va_get (D := D) (ci := 9) (C := RX9) (T := TX9) (N := 5) (v := .ref a_tape) hx hb hX9 (fun _ q => q) hown hK hP 1 rfl rfl 0 (by decide) (hts (.fieldLink RX9 7 "ElephantLine$Tokens" "tape" "[B") (by decide +kernel)) (fun _ h9 => h9) rfl dX9_isSameAs_56 ?_
              refine lv_iload_n hx hb dX9_isSameAs_59 rfl (lv_at hl 1 rfl) ?_
              refine lv_iload_n hx hb dX9_isSameAs_60 rfl (lv_at hl 2 rfl) ?_
              refine lv_iadd hx hb dX9_isSameAs_61 ?_
              obtain ⟨i_3, h⟩ := gIn_some h
              refine va_bald hx hb hK hP 0 0 rfl rfl i_3 dX9_isSameAs_62 ?_
              refine lv_icmp_eq (tgt := 68) hx hb dX9_isSameAs_63 (by decide) (fun cd => ?_) (fun cd => ?_)
              · have h := ifT cd h
                refine lv_iinc (v := x3_1 + 1) (lv' := [(3, .int (x3_1 + 1)), (0, .ref a_tk), (1, .int p1)]) hx hb dX9_isSameAs_68 hl (k := 2) rfl (by first | rfl | decide) (by decide) rfl (fun ls hl => ?_)
                refine lv_goto (tgt := 31) hx hb dX9_isSameAs_71 (by decide) ?_
                exact ih31 (x3_1 + 1) h _ (lv_sub hl [1, 2, 0] rfl)
              · have h := ifF cd h
                refine lv_iconst (v := 0) hx hb dX9_isSameAs_66 (by decide) ?_
                exact W.zret (ty := .boolean) (v := 0) hx hb hr (nbv.n nbv_0) (fun t ht _ => ⟨_, rfl, ⟨Option.some.inj h, nbv_0⟩, ht⟩) (fun _ q => by cases q) dX9_isSameAs_67
        exact lp31 fuelN (0 : Int32) h _ (lv_sub hl [1, 2, 0] rfl)
      · have h := ifF cd h
        refine lv_iconst (v := 0) hx hb dX9_isSameAs_27 (by decide) ?_
        exact W.zret (ty := .boolean) (v := 0) hx hb hr (nbv.n nbv_0) (fun t ht _ => ⟨_, rfl, ⟨Option.some.inj h, nbv_0⟩, ht⟩) (fun _ q => by cases q) dX9_isSameAs_28
theorem hd_X9_step : yX9_step.cls = RX9 ∧ yX9_step.cls ≠ "java/lang/invoke/MethodHandle" ∧ yX9_step.cls ≠ "java/lang/invoke/VarHandle" ∧ (parseMethodDescriptor yX9_step.desc).map (fun d => d.parameters.length) = some 0 := by decide +kernel
set_option maxHeartbeats 4000000 in
set_option maxRecDepth 100000 in
theorem c_X9_step (l : Launch) (D : va_G) (cy : Nat → ClassId) (A : Nat → Prop) (X : va_W) (a_tape a_tk : Nat) (tape : Nat → Int32) (tk_limit : Int32) (tk_start : Int32) (tk_end : Int32) (tk_sort : Int32) (tk_start' : Int32) (tk_end' : Int32) (tk_sort' : Int32) (h : f_X9_step tape tk_limit tk_start tk_end tk_sort = some (tk_start', tk_end', tk_sort')) : Met l yX9_step wo_X9_step ({ frames := 1, cells := 0, slots := 0, locals := 22 }) (wrPc D cy A [.ref a_tk] ([(a_tape, .inl (cy 0, 900, .inl tape)), (a_tk, .inr (9, [.ref a_tape, .int tk_limit, .int tk_start, .int tk_end, .int tk_sort]))] ++ X)) (va_Qv (fun (_ : Unit) => True) (wB D A ([(a_tape, .inl (cy 0, 900, .inl tape)), (a_tk, .inr (9, [.ref a_tape, .int tk_limit, .int tk_start', .int tk_end', .int tk_sort']))] ++ X)) A) 0 0 A := by
  refine Met.ofW (cc := cX9_step) (maxL := 1) (ret := none) (by decide) rfl ?_
  intro p e s m args below meth c s₁ B hml hv
  obtain ⟨rfl, hP, hKN, hD, hA⟩ := hv
  have hK := hKN.1
  have hx := B.exec
  have hb := B.bytes
  have hr := B.returns
  have hts := wt_X9_step hKN.2.2 (([.ref a_tk] : List Value).toArray)
  have hown : s.vm.findClass RX9 = some m.cls := findClass_of_methodNamed B.named
  have hlocks := B.notSynchronized
  have hS : va_S A s.heap s.heap [] := va_S.rf
  have hX9 := wc_X9 hKN.2.2 (([.ref a_tk] : List Value).toArray)
  have hl := lv_entry ([.ref a_tk]) (n := 1) (Nat.le_of_ble_eq_true rfl)
  rw [lg_entry_eq]
  generalize (lg_sl ([.ref a_tk]) ++ List.replicate (1 - (lg_sl ([.ref a_tk])).length) Slot.unset).toArray = ls at hl ⊢
  have hl : lv_has ls 1 [(0, .ref a_tk)] := hl
  unfold f_X9_step at h
  refine lv_aload_n hx hb dX9_step_0 rfl (lv_at hl 0 rfl) ?_
  refine lv_aload_n hx hb dX9_step_1 rfl (lv_at hl 0 rfl) ?_
  refine va_get (D := D) (ci := 9) (C := RX9) (T := TX9) (N := 5) (v := .int tk_end) hx hb hX9 (fun _ q => q) hown hK hP 1 rfl rfl 3 (by decide) (hts (.fieldLink RX9 26 "ElephantLine$Tokens" "end" "I") (by decide +kernel)) (fun _ h9 => h9) rfl dX9_step_2 ?_
  refine va_put (D := D) (ci := 9) (C := RX9) (T := TX9) (N := 5) (v := .int tk_end) (ty := .int) hx hb hX9 (fun _ q => q) tyX9 tyX9_ok nmX9 hown hK hP hD hS 1 rfl rfl 2 (by decide) (hts (.fieldLink RX9 23 "ElephantLine$Tokens" "start" "I") (by decide +kernel)) (fun _ h9 => h9) rfl (tyX9_ok 2 (by decide)) rfl rfl (Nat.le_of_ble_eq_true rfl) dX9_step_5 (fun H locs hP hD hS => ?_)
  have jn46 : ∀ (tk_start_1 : Int32), f_X9_step_B46 tape tk_limit tk_start_1 tk_end tk_sort = some (tk_start', tk_end', tk_sort') → ∀ (H : Heap) (locs : List Loc), va_P D vwCl ([(a_tape, .inl (cy 0, 900, .inl tape)), (a_tk, .inr (9, [.ref a_tape, .int tk_limit, .int tk_start_1, .int tk_end, .int tk_sort]))] ++ X) H → va_D A ([(a_tape, .inl (cy 0, 900, .inl tape)), (a_tk, .inr (9, [.ref a_tape, .int tk_limit, .int tk_start_1, .int tk_end, .int tk_sort]))] ++ X) → va_S A s.heap H locs → ∀ ls : Array Slot, lv_has ls 1 [(0, .ref a_tk)] → W p l e (headSpec wo_X9_step ({ frames := 1, cells := 0, slots := 0, locals := 22 })).room s m (([.ref a_tk] : List Value).toArray) below meth c H locs 0 0 (MQ below (va_Qv (fun (_ : Unit) => True) (wB D A ([(a_tape, .inl (cy 0, 900, .inl tape)), (a_tk, .inr (9, [.ref a_tape, .int tk_limit, .int tk_start', .int tk_end', .int tk_sort']))] ++ X)) A) (([.ref a_tk] : List Value).toArray) s 0 0 A) (F0 m 46 ls []) := by
    intro tk_start_1 h H locs hP hD hS ls hl
    unfold f_X9_step_B46 at h
    refine lv_aload_n hx hb dX9_step_46 rfl (lv_at hl 0 rfl) ?_
    refine lv_aload_n hx hb dX9_step_47 rfl (lv_at hl 0 rfl) ?_
    refine va_get (D := D) (ci := 9) (C := RX9) (T := TX9) (N := 5) (v := .int tk_start_1) hx hb hX9 (fun _ q => q) hown hK hP 1 rfl rfl 2 (by decide) (hts (.fieldLink RX9 23 "ElephantLine$Tokens" "start" "I") (by decide +kernel)) (fun _ h9 => h9) rfl dX9_step_48 ?_
    refine va_put (D := D) (ci := 9) (C := RX9) (T := TX9) (N := 5) (v := .int tk_start_1) (ty := .int) hx hb hX9 (fun _ q => q) tyX9 tyX9_ok nmX9 hown hK hP hD hS 1 rfl rfl 3 (by decide) (hts (.fieldLink RX9 26 "ElephantLine$Tokens" "end" "I") (by decide +kernel)) (fun _ h9 => h9) rfl (tyX9_ok 3 (by decide)) rfl rfl (Nat.le_of_ble_eq_true rfl) dX9_step_51 (fun H locs hP hD hS => ?_)
    refine lv_aload_n hx hb dX9_step_54 rfl (lv_at hl 0 rfl) ?_
    refine va_get (D := D) (ci := 9) (C := RX9) (T := TX9) (N := 5) (v := .int tk_start_1) hx hb hX9 (fun _ q => q) hown hK hP 1 rfl rfl 2 (by decide) (hts (.fieldLink RX9 23 "ElephantLine$Tokens" "start" "I") (by decide +kernel)) (fun _ h9 => h9) rfl dX9_step_55 ?_
    refine lv_aload_n hx hb dX9_step_58 rfl (lv_at hl 0 rfl) ?_
    refine va_get (D := D) (ci := 9) (C := RX9) (T := TX9) (N := 5) (v := .int tk_limit) hx hb hX9 (fun _ q => q) hown hK hP 1 rfl rfl 1 (by decide) (hts (.fieldLink RX9 19 "ElephantLine$Tokens" "limit" "I") (by decide +kernel)) (fun _ h9 => h9) rfl dX9_step_59 ?_
    refine lv_icmp_lt (tgt := 73) hx hb dX9_step_62 (by decide) (fun cd => ?_) (fun cd => ?_)
    · have h := ifT cd h
      refine lv_aload_n hx hb dX9_step_73 rfl (lv_at hl 0 rfl) ?_
      refine va_get (D := D) (ci := 9) (C := RX9) (T := TX9) (N := 5) (v := .ref a_tape) hx hb hX9 (fun _ q => q) hown hK hP 1 rfl rfl 0 (by decide) (hts (.fieldLink RX9 7 "ElephantLine$Tokens" "tape" "[B") (by decide +kernel)) (fun _ h9 => h9) rfl dX9_step_74 ?_
      refine lv_aload_n hx hb dX9_step_77 rfl (lv_at hl 0 rfl) ?_
      refine va_get (D := D) (ci := 9) (C := RX9) (T := TX9) (N := 5) (v := .int tk_start_1) hx hb hX9 (fun _ q => q) hown hK hP 1 rfl rfl 2 (by decide) (hts (.fieldLink RX9 23 "ElephantLine$Tokens" "start" "I") (by decide +kernel)) (fun _ h9 => h9) rfl dX9_step_78 ?_
      obtain ⟨i_2, h⟩ := gIn_some h
      refine va_bald hx hb hK hP 0 0 rfl rfl i_2 dX9_step_81 ?_
      refine lv_bipush (v := 59) hx hb dX9_step_82 (by decide) ?_
      refine lv_icmp_ne (tgt := 105) hx hb dX9_step_84 (by decide) (fun cd => ?_) (fun cd => ?_)
      · have h := ifF cd h
        refine lv_aload_n hx hb dX9_step_105 rfl (lv_at hl 0 rfl) ?_
        refine lv_bipush (v := 97) hx hb dX9_step_106 (by decide) ?_
        refine lv_bipush (v := 122) hx hb dX9_step_108 (by decide) ?_
        have hP : va_P D vwCl ([(a_tape, .inl (cy 0, 900, .inl tape)), (a_tk, .inr (9, [.ref a_tape, .int tk_limit, .int tk_start_1, .int tk_start_1, .int tk_sort]))] ++ X) H := hP
        have hD : va_D A ([(a_tape, .inl (cy 0, 900, .inl tape)), (a_tk, .inr (9, [.ref a_tape, .int tk_limit, .int tk_start_1, .int tk_start_1, .int tk_sort]))] ++ X) := hD
        obtain ⟨r_3, tk_end_4, hc_5, h⟩ := bd2_some h
        refine wVb [.int 97, .int 122] [] ⟨hx, hb, hml, hown, hts⟩ (c_X9_runOn l D cy A X a_tape a_tk tape tk_limit tk_start_1 tk_start_1 tk_sort (97 : Int32) (122 : Int32) r_3 tk_end_4 hc_5) gX9_step_X9_runOn rfl hd_X9_runOn ⟨Nat.le_of_ble_eq_true rfl, Nat.le_of_ble_eq_true rfl⟩ rfl rfl hKN hP hD hS hA 9 1 rfl rfl rfl hl.1 rfl (Nat.le_of_ble_eq_true rfl) dX9_step_110 ⟨Nat.le_of_ble_eq_true rfl, Nat.le_of_ble_eq_true rfl⟩ (fun nb_6 H locs hP hD hS => ?_)
        refine lv_if_eq (tgt := 142) hx hb dX9_step_113 (by decide) (fun cd => ?_) (fun cd => ?_)
        · have h := ifT cd h
          refine lv_aload_n hx hb dX9_step_142 rfl (lv_at hl 0 rfl) ?_
          refine lv_bipush (v := 48) hx hb dX9_step_143 (by decide) ?_
          refine lv_bipush (v := 57) hx hb dX9_step_145 (by decide) ?_
          obtain ⟨r_7, tk_end_8, hc_9, h⟩ := bd2_some h
          refine wVb [.int 48, .int 57] [] ⟨hx, hb, hml, hown, hts⟩ (c_X9_runOn l D cy A X a_tape a_tk tape tk_limit tk_start_1 tk_end_4 tk_sort (48 : Int32) (57 : Int32) r_7 tk_end_8 hc_9) gX9_step_X9_runOn rfl hd_X9_runOn ⟨Nat.le_of_ble_eq_true rfl, Nat.le_of_ble_eq_true rfl⟩ rfl rfl hKN hP hD hS hA 9 1 rfl rfl rfl hl.1 rfl (Nat.le_of_ble_eq_true rfl) dX9_step_147 ⟨Nat.le_of_ble_eq_true rfl, Nat.le_of_ble_eq_true rfl⟩ (fun nb_10 H locs hP hD hS => ?_)
          refine lv_if_eq (tgt := 178) hx hb dX9_step_150 (by decide) (fun cd => ?_) (fun cd => ?_)
          · have h := ifT cd h
            refine lv_aload_n hx hb dX9_step_178 rfl (lv_at hl 0 rfl) ?_
            refine lv_iconst (v := 4) hx hb dX9_step_179 (by decide) ?_
            refine va_put (D := D) (ci := 9) (C := RX9) (T := TX9) (N := 5) (v := .int 4) (ty := .int) hx hb hX9 (fun _ q => q) tyX9 tyX9_ok nmX9 hown hK hP hD hS 1 rfl rfl 4 (by decide) (hts (.fieldLink RX9 29 "ElephantLine$Tokens" "sort" "I") (by decide +kernel)) (fun _ h9 => h9) rfl (tyX9_ok 4 (by decide)) rfl rfl (Nat.le_of_ble_eq_true rfl) dX9_step_180 (fun H locs hP hD hS => ?_)
            cases h
            exact W.vret hx hb hr (fun t ht _ => ⟨⟨(), rfl, trivial, by rw [ht]; exact hP, hD⟩, hS.F ht⟩) hS.2.2 dX9_step_183
          · have h := ifF cd h
            refine lv_aload_n hx hb dX9_step_153 rfl (lv_at hl 0 rfl) ?_
            refine lv_aload_n hx hb dX9_step_154 rfl (lv_at hl 0 rfl) ?_
            refine va_get (D := D) (ci := 9) (C := RX9) (T := TX9) (N := 5) (v := .int tk_end_8) hx hb hX9 (fun _ q => q) hown hK hP 1 rfl rfl 3 (by decide) (hts (.fieldLink RX9 26 "ElephantLine$Tokens" "end" "I") (by decide +kernel)) (fun _ h9 => h9) rfl dX9_step_155 ?_
            refine lv_aload_n hx hb dX9_step_158 rfl (lv_at hl 0 rfl) ?_
            refine va_get (D := D) (ci := 9) (C := RX9) (T := TX9) (N := 5) (v := .int tk_start_1) hx hb hX9 (fun _ q => q) hown hK hP 1 rfl rfl 2 (by decide) (hts (.fieldLink RX9 23 "ElephantLine$Tokens" "start" "I") (by decide +kernel)) (fun _ h9 => h9) rfl dX9_step_159 ?_
            refine lv_isub hx hb dX9_step_162 ?_
            refine lv_iconst (v := 3) hx hb dX9_step_163 (by decide) ?_
            have jn172 : ∀ (t1_11 : Int32), f_X9_step_B172 tape tk_limit t1_11 tk_start_1 tk_end_8 tk_sort = some (tk_start', tk_end', tk_sort') → ∀ (H : Heap) (locs : List Loc), va_P D vwCl ([(a_tape, .inl (cy 0, 900, .inl tape)), (a_tk, .inr (9, [.ref a_tape, .int tk_limit, .int tk_start_1, .int tk_end_8, .int tk_sort]))] ++ X) H → va_D A ([(a_tape, .inl (cy 0, 900, .inl tape)), (a_tk, .inr (9, [.ref a_tape, .int tk_limit, .int tk_start_1, .int tk_end_8, .int tk_sort]))] ++ X) → va_S A s.heap H locs → ∀ ls : Array Slot, lv_has ls 1 [] → W p l e (headSpec wo_X9_step ({ frames := 1, cells := 0, slots := 0, locals := 22 })).room s m (([.ref a_tk] : List Value).toArray) below meth c H locs 0 0 (MQ below (va_Qv (fun (_ : Unit) => True) (wB D A ([(a_tape, .inl (cy 0, 900, .inl tape)), (a_tk, .inr (9, [.ref a_tape, .int tk_limit, .int tk_start', .int tk_end', .int tk_sort']))] ++ X)) A) (([.ref a_tk] : List Value).toArray) s 0 0 A) (F0 m 172 ls [.int t1_11, .ref a_tk]) := by
              intro t1_11 h H locs hP hD hS ls hl
              unfold f_X9_step_B172 at h
              refine va_put (D := D) (ci := 9) (C := RX9) (T := TX9) (N := 5) (v := .int t1_11) (ty := .int) hx hb hX9 (fun _ q => q) tyX9 tyX9_ok nmX9 hown hK hP hD hS 1 rfl rfl 4 (by decide) (hts (.fieldLink RX9 29 "ElephantLine$Tokens" "sort" "I") (by decide +kernel)) (fun _ h9 => h9) rfl (tyX9_ok 4 (by decide)) rfl rfl (Nat.le_of_ble_eq_true rfl) dX9_step_172 (fun H locs hP hD hS => ?_)
              refine lv_goto (tgt := 183) hx hb dX9_step_175 (by decide) ?_
              cases h
              exact W.vret hx hb hr (fun t ht _ => ⟨⟨(), rfl, trivial, by rw [ht]; exact hP, hD⟩, hS.F ht⟩) hS.2.2 dX9_step_183
            refine lv_icmp_gt (tgt := 171) hx hb dX9_step_164 (by decide) (fun cd => ?_) (fun cd => ?_)
            · have h := ifT cd h
              refine lv_iconst (v := 4) hx hb dX9_step_171 (by decide) ?_
              exact jn172 (4 : Int32) h _ _ hP hD hS _ (lv_sub hl [] rfl)
            · have h := ifF cd h
              refine lv_iconst (v := 2) hx hb dX9_step_167 (by decide) ?_
              refine lv_goto (tgt := 172) hx hb dX9_step_168 (by decide) ?_
              exact jn172 (2 : Int32) h _ _ hP hD hS _ (lv_sub hl [] rfl)
        · have h := ifF cd h
          refine lv_aload_n hx hb dX9_step_116 rfl (lv_at hl 0 rfl) ?_
          refine lv_aload_n hx hb dX9_step_117 rfl (lv_at hl 0 rfl) ?_
          refine va_get (D := D) (ci := 9) (C := RX9) (T := TX9) (N := 5) (v := .int tk_end_4) hx hb hX9 (fun _ q => q) hown hK hP 1 rfl rfl 3 (by decide) (hts (.fieldLink RX9 26 "ElephantLine$Tokens" "end" "I") (by decide +kernel)) (fun _ h9 => h9) rfl dX9_step_118 ?_
          refine lv_aload_n hx hb dX9_step_121 rfl (lv_at hl 0 rfl) ?_
          refine va_get (D := D) (ci := 9) (C := RX9) (T := TX9) (N := 5) (v := .int tk_start_1) hx hb hX9 (fun _ q => q) hown hK hP 1 rfl rfl 2 (by decide) (hts (.fieldLink RX9 23 "ElephantLine$Tokens" "start" "I") (by decide +kernel)) (fun _ h9 => h9) rfl dX9_step_122 ?_
          refine lv_isub hx hb dX9_step_125 ?_
          refine lv_bipush (v := 8) hx hb dX9_step_126 (by decide) ?_
          have jn136 : ∀ (t1_12 : Int32), f_X9_step_B136 tape tk_limit t1_12 tk_start_1 tk_end_4 tk_sort = some (tk_start', tk_end', tk_sort') → ∀ (H : Heap) (locs : List Loc), va_P D vwCl ([(a_tape, .inl (cy 0, 900, .inl tape)), (a_tk, .inr (9, [.ref a_tape, .int tk_limit, .int tk_start_1, .int tk_end_4, .int tk_sort]))] ++ X) H → va_D A ([(a_tape, .inl (cy 0, 900, .inl tape)), (a_tk, .inr (9, [.ref a_tape, .int tk_limit, .int tk_start_1, .int tk_end_4, .int tk_sort]))] ++ X) → va_S A s.heap H locs → ∀ ls : Array Slot, lv_has ls 1 [] → W p l e (headSpec wo_X9_step ({ frames := 1, cells := 0, slots := 0, locals := 22 })).room s m (([.ref a_tk] : List Value).toArray) below meth c H locs 0 0 (MQ below (va_Qv (fun (_ : Unit) => True) (wB D A ([(a_tape, .inl (cy 0, 900, .inl tape)), (a_tk, .inr (9, [.ref a_tape, .int tk_limit, .int tk_start', .int tk_end', .int tk_sort']))] ++ X)) A) (([.ref a_tk] : List Value).toArray) s 0 0 A) (F0 m 136 ls [.int t1_12, .ref a_tk]) := by
            intro t1_12 h H locs hP hD hS ls hl
            unfold f_X9_step_B136 at h
            refine va_put (D := D) (ci := 9) (C := RX9) (T := TX9) (N := 5) (v := .int t1_12) (ty := .int) hx hb hX9 (fun _ q => q) tyX9 tyX9_ok nmX9 hown hK hP hD hS 1 rfl rfl 4 (by decide) (hts (.fieldLink RX9 29 "ElephantLine$Tokens" "sort" "I") (by decide +kernel)) (fun _ h9 => h9) rfl (tyX9_ok 4 (by decide)) rfl rfl (Nat.le_of_ble_eq_true rfl) dX9_step_136 (fun H locs hP hD hS => ?_)
            refine lv_goto (tgt := 183) hx hb dX9_step_139 (by decide) ?_
            cases h
            exact W.vret hx hb hr (fun t ht _ => ⟨⟨(), rfl, trivial, by rw [ht]; exact hP, hD⟩, hS.F ht⟩) hS.2.2 dX9_step_183
          refine lv_icmp_gt (tgt := 135) hx hb dX9_step_128 (by decide) (fun cd => ?_) (fun cd => ?_)
          · have h := ifT cd h
            refine lv_iconst (v := 4) hx hb dX9_step_135 (by decide) ?_
            exact jn136 (4 : Int32) h _ _ hP hD hS _ (lv_sub hl [] rfl)
          · have h := ifF cd h
            refine lv_iconst (v := 1) hx hb dX9_step_131 (by decide) ?_
            refine lv_goto (tgt := 136) hx hb dX9_step_132 (by decide) ?_
            exact jn136 (1 : Int32) h _ _ hP hD hS _ (lv_sub hl [] rfl)
      · have h := ifT cd h
        refine lv_aload_n hx hb dX9_step_87 rfl (lv_at hl 0 rfl) ?_
        refine lv_aload_n hx hb dX9_step_88 rfl (lv_at hl 0 rfl) ?_
        refine va_get (D := D) (ci := 9) (C := RX9) (T := TX9) (N := 5) (v := .int tk_start_1) hx hb hX9 (fun _ q => q) hown hK hP 1 rfl rfl 2 (by decide) (hts (.fieldLink RX9 23 "ElephantLine$Tokens" "start" "I") (by decide +kernel)) (fun _ h9 => h9) rfl dX9_step_89 ?_
        refine lv_iconst (v := 1) hx hb dX9_step_92 (by decide) ?_
        refine lv_iadd hx hb dX9_step_93 ?_
        refine va_put (D := D) (ci := 9) (C := RX9) (T := TX9) (N := 5) (v := .int (tk_start_1 + 1)) (ty := .int) hx hb hX9 (fun _ q => q) tyX9 tyX9_ok nmX9 hown hK hP hD hS 1 rfl rfl 3 (by decide) (hts (.fieldLink RX9 26 "ElephantLine$Tokens" "end" "I") (by decide +kernel)) (fun _ h9 => h9) rfl (tyX9_ok 3 (by decide)) rfl rfl (Nat.le_of_ble_eq_true rfl) dX9_step_94 (fun H locs hP hD hS => ?_)
        refine lv_aload_n hx hb dX9_step_97 rfl (lv_at hl 0 rfl) ?_
        refine lv_iconst (v := 3) hx hb dX9_step_98 (by decide) ?_
        refine va_put (D := D) (ci := 9) (C := RX9) (T := TX9) (N := 5) (v := .int 3) (ty := .int) hx hb hX9 (fun _ q => q) tyX9 tyX9_ok nmX9 hown hK hP hD hS 1 rfl rfl 4 (by decide) (hts (.fieldLink RX9 29 "ElephantLine$Tokens" "sort" "I") (by decide +kernel)) (fun _ h9 => h9) rfl (tyX9_ok 4 (by decide)) rfl rfl (Nat.le_of_ble_eq_true rfl) dX9_step_99 (fun H locs hP hD hS => ?_)
        refine lv_goto (tgt := 183) hx hb dX9_step_102 (by decide) ?_
        cases h
        exact W.vret hx hb hr (fun t ht _ => ⟨⟨(), rfl, trivial, by rw [ht]; exact hP, hD⟩, hS.F ht⟩) hS.2.2 dX9_step_183
    · have h := ifF cd h
      refine lv_aload_n hx hb dX9_step_65 rfl (lv_at hl 0 rfl) ?_
      refine lv_iconst (v := 0) hx hb dX9_step_66 (by decide) ?_
      refine va_put (D := D) (ci := 9) (C := RX9) (T := TX9) (N := 5) (v := .int 0) (ty := .int) hx hb hX9 (fun _ q => q) tyX9 tyX9_ok nmX9 hown hK hP hD hS 1 rfl rfl 4 (by decide) (hts (.fieldLink RX9 29 "ElephantLine$Tokens" "sort" "I") (by decide +kernel)) (fun _ h9 => h9) rfl (tyX9_ok 4 (by decide)) rfl rfl (Nat.le_of_ble_eq_true rfl) dX9_step_67 (fun H locs hP hD hS => ?_)
      refine lv_goto (tgt := 183) hx hb dX9_step_70 (by decide) ?_
      cases h
      exact W.vret hx hb hr (fun t ht _ => ⟨⟨(), rfl, trivial, by rw [ht]; exact hP, hD⟩, hS.F ht⟩) hS.2.2 dX9_step_183
  have lp8 : ∀ (n8 : Nat) (tk_start_13 : Int32), f_X9_step_L8 tape tk_limit tk_end tk_sort n8 tk_start_13 = some (tk_start', tk_end', tk_sort') → ∀ (H : Heap) (locs : List Loc), va_P D vwCl ([(a_tape, .inl (cy 0, 900, .inl tape)), (a_tk, .inr (9, [.ref a_tape, .int tk_limit, .int tk_start_13, .int tk_end, .int tk_sort]))] ++ X) H → va_D A ([(a_tape, .inl (cy 0, 900, .inl tape)), (a_tk, .inr (9, [.ref a_tape, .int tk_limit, .int tk_start_13, .int tk_end, .int tk_sort]))] ++ X) → va_S A s.heap H locs → ∀ ls : Array Slot, lv_has ls 1 [(0, .ref a_tk)] → W p l e (headSpec wo_X9_step ({ frames := 1, cells := 0, slots := 0, locals := 22 })).room s m (([.ref a_tk] : List Value).toArray) below meth c H locs 0 0 (MQ below (va_Qv (fun (_ : Unit) => True) (wB D A ([(a_tape, .inl (cy 0, 900, .inl tape)), (a_tk, .inr (9, [.ref a_tape, .int tk_limit, .int tk_start', .int tk_end', .int tk_sort']))] ++ X)) A) (([.ref a_tk] : List Value).toArray) s 0 0 A) (F0 m 8 ls []) := by
    intro n8
    induction n8 with
    | zero => intro tk_start_13 h; exact absurd (show (none : Option (Int32 × Int32 × Int32)) = some _ from h) (by intro q; cases q)
    | succ n8 ih8 =>
      intro tk_start_13 h H locs hP hD hS ls hl
      have h : f_X9_step_b8 tape tk_limit tk_end tk_sort (f_X9_step_L8 tape tk_limit tk_end tk_sort n8) tk_start_13 = some (tk_start', tk_end', tk_sort') := h
      unfold f_X9_step_b8 at h
      refine lv_aload_n hx hb dX9_step_8 rfl (lv_at hl 0 rfl) ?_
      refine va_get (D := D) (ci := 9) (C := RX9) (T := TX9) (N := 5) (v := .int tk_start_13) hx hb hX9 (fun _ q => q) hown hK hP 1 rfl rfl 2 (by decide) (hts (.fieldLink RX9 23 "ElephantLine$Tokens" "start" "I") (by decide +kernel)) (fun _ h9 => h9) rfl dX9_step_9 ?_
      refine lv_aload_n hx hb dX9_step_12 rfl (lv_at hl 0 rfl) ?_
      refine va_get (D := D) (ci := 9) (C := RX9) (T := TX9) (N := 5) (v := .int tk_limit) hx hb hX9 (fun _ q => q) hown hK hP 1 rfl rfl 1 (by decide) (hts (.fieldLink RX9 19 "ElephantLine$Tokens" "limit" "I") (by decide +kernel)) (fun _ h9 => h9) rfl dX9_step_13 ?_
      refine lv_icmp_ge (tgt := 46) hx hb dX9_step_16 (by decide) (fun cd => ?_) (fun cd => ?_)
      · have h := ifT cd h
        exact jn46 tk_start_13 h _ _ hP hD hS _ (lv_sub hl [0] rfl)
      · have h := ifF cd h
        refine lv_aload_n hx hb dX9_step_19 rfl (lv_at hl 0 rfl) ?_
        refine va_get (D := D) (ci := 9) (C := RX9) (T := TX9) (N := 5) (v := .ref a_tape) hx hb hX9 (fun _ q => q) hown hK hP 1 rfl rfl 0 (by decide) (hts (.fieldLink RX9 7 "ElephantLine$Tokens" "tape" "[B") (by decide +kernel)) (fun _ h9 => h9) rfl dX9_step_20 ?_
        refine lv_aload_n hx hb dX9_step_23 rfl (lv_at hl 0 rfl) ?_
        refine va_get (D := D) (ci := 9) (C := RX9) (T := TX9) (N := 5) (v := .int tk_start_13) hx hb hX9 (fun _ q => q) hown hK hP 1 rfl rfl 2 (by decide) (hts (.fieldLink RX9 23 "ElephantLine$Tokens" "start" "I") (by decide +kernel)) (fun _ h9 => h9) rfl dX9_step_24 ?_
        obtain ⟨i_14, h⟩ := gIn_some h
        refine va_bald hx hb hK hP 0 0 rfl rfl i_14 dX9_step_27 ?_
        refine lv_bipush (v := 32) hx hb dX9_step_28 (by decide) ?_
        refine lv_icmp_ne (tgt := 46) hx hb dX9_step_30 (by decide) (fun cd => ?_) (fun cd => ?_)
        · have h := ifF cd h
          exact jn46 tk_start_13 h _ _ hP hD hS _ (lv_sub hl [0] rfl)
        · have h := ifT cd h
          refine lv_aload_n hx hb dX9_step_33 rfl (lv_at hl 0 rfl) ?_
          refine lv_dup hx hb dX9_step_34 rfl ?_
          refine va_get (D := D) (ci := 9) (C := RX9) (T := TX9) (N := 5) (v := .int tk_start_13) hx hb hX9 (fun _ q => q) hown hK hP 1 rfl rfl 2 (by decide) (hts (.fieldLink RX9 23 "ElephantLine$Tokens" "start" "I") (by decide +kernel)) (fun _ h9 => h9) rfl dX9_step_35 ?_
          refine lv_iconst (v := 1) hx hb dX9_step_38 (by decide) ?_
          refine lv_iadd hx hb dX9_step_39 ?_
          refine va_put (D := D) (ci := 9) (C := RX9) (T := TX9) (N := 5) (v := .int (tk_start_13 + 1)) (ty := .int) hx hb hX9 (fun _ q => q) tyX9 tyX9_ok nmX9 hown hK hP hD hS 1 rfl rfl 2 (by decide) (hts (.fieldLink RX9 23 "ElephantLine$Tokens" "start" "I") (by decide +kernel)) (fun _ h9 => h9) rfl (tyX9_ok 2 (by decide)) rfl rfl (Nat.le_of_ble_eq_true rfl) dX9_step_40 (fun H locs hP hD hS => ?_)
          refine lv_goto (tgt := 8) hx hb dX9_step_43 (by decide) ?_
          exact ih8 (tk_start_13 + 1) h _ _ hP hD hS _ (lv_sub hl [0] rfl)
  exact lp8 fuelN tk_end h _ _ hP hD hS _ (lv_sub hl [0] rfl)
