noncomputable def f_X7_fail (rd_faultFound : Int32) (rd_faultAt : Int32) (tk_start : Int32) (p1 : Int32) : Option (Int32 × Int32 × Int32) :=
  some (0, p1, tk_start)
theorem hd_X7_fail : yX7_fail.cls = RX7 ∧ yX7_fail.cls ≠ "java/lang/invoke/MethodHandle" ∧ yX7_fail.cls ≠ "java/lang/invoke/VarHandle" ∧ (parseMethodDescriptor yX7_fail.desc).map (fun d => d.parameters.length) = some 1 := by decide +kernel
set_option maxHeartbeats 4000000 in
set_option maxRecDepth 100000 in
theorem c_X7_fail (l : Launch) (D : va_G) (cy : Nat → ClassId) (A : Nat → Prop) (X : va_W) (a_rd a_tk : Nat) (rd_draft : Value) (rd_nameStarts : Value) (rd_nameEnds : Value) (rd_nameNumbers : Value) (rd_nameIsBeast : Value) (rd_names : Int32) (rd_faultFound : Int32) (rd_faultAt : Int32) (tk_tape : Value) (tk_limit : Int32) (tk_start : Int32) (tk_end : Int32) (tk_sort : Int32) (p1 : Int32) (res : Int32) (rd_faultFound' : Int32) (rd_faultAt' : Int32) (h : f_X7_fail rd_faultFound rd_faultAt tk_start p1 = some (res, rd_faultFound', rd_faultAt')) : Met l yX7_fail wo_X7_fail ({ frames := 0, cells := 0, slots := 0, locals := 0 }) (wrPc D cy A [.ref a_rd, .int p1] ([(a_rd, .inr (7, [.ref a_tk, rd_draft, rd_nameStarts, rd_nameEnds, rd_nameNumbers, rd_nameIsBeast, .int rd_names, .int rd_faultFound, .int rd_faultAt])), (a_tk, .inr (9, [tk_tape, .int tk_limit, .int tk_start, .int tk_end, .int tk_sort]))] ++ X)) (va_Qi (fun (r : Int32) (_ : Unit) => r = res ∧ nbv r) (wB D A ([(a_rd, .inr (7, [.ref a_tk, rd_draft, rd_nameStarts, rd_nameEnds, rd_nameNumbers, rd_nameIsBeast, .int rd_names, .int rd_faultFound', .int rd_faultAt'])), (a_tk, .inr (9, [tk_tape, .int tk_limit, .int tk_start, .int tk_end, .int tk_sort]))] ++ X)) A) 0 0 A := by
  refine Met.ofW (cc := cX7_fail) (maxL := 2) (ret := (some .boolean)) (by decide) rfl ?_
  intro p e s m args below meth c s₁ B hml hv
  obtain ⟨rfl, hP, hKN, hD, hA⟩ := hv
  have hK := hKN.1
  have hx := B.exec
  have hb := B.bytes
  have hr := B.returns
  have hts := wt_X7_fail hKN.2.2 (([.ref a_rd, .int p1] : List Value).toArray)
  have hown : s.vm.findClass RX7 = some m.cls := findClass_of_methodNamed B.named
  have hlocks := B.notSynchronized
  have hS : va_S A s.heap s.heap [] := va_S.rf
  have hX7 := wc_X7 hKN.2.2 (([.ref a_rd, .int p1] : List Value).toArray)
  have hX9 := wc_X9 hKN.2.2 (([.ref a_rd, .int p1] : List Value).toArray)
  have hl := lv_entry ([.ref a_rd, .int p1]) (n := 2) (Nat.le_of_ble_eq_true rfl)
  rw [lg_entry_eq]
  generalize (lg_sl ([.ref a_rd, .int p1]) ++ List.replicate (2 - (lg_sl ([.ref a_rd, .int p1])).length) Slot.unset).toArray = ls at hl ⊢
  have hl : lv_has ls 2 [(0, .ref a_rd), (1, .int p1)] := hl
  unfold f_X7_fail at h
  refine lv_aload_n hx hb dX7_fail_0 rfl (lv_at hl 0 rfl) ?_
  refine lv_iload_n hx hb dX7_fail_1 rfl (lv_at hl 1 rfl) ?_
  refine va_put (D := D) (ci := 7) (C := RX7) (T := TX7) (N := 9) (v := .int p1) (ty := .int) hx hb hX7 (fun _ q => q) tyX7 tyX7_ok nmX7 hown hK hP hD hS 0 rfl rfl 7 (by decide) (hts (.fieldLink RX7 41 "ElephantLine$Reader" "faultFound" "I") (by decide +kernel)) (fun _ h9 => h9) rfl (tyX7_ok 7 (by decide)) rfl rfl (Nat.le_of_ble_eq_true rfl) dX7_fail_2 (fun H locs hP hD hS => ?_)
  refine lv_aload_n hx hb dX7_fail_5 rfl (lv_at hl 0 rfl) ?_
  refine lv_aload_n hx hb dX7_fail_6 rfl (lv_at hl 0 rfl) ?_
  refine va_get (D := D) (ci := 7) (C := RX7) (T := TX7) (N := 9) (v := .ref a_tk) hx hb hX7 (fun _ q => q) hown hK hP 0 rfl rfl 0 (by decide) (hts (.fieldLink RX7 37 "ElephantLine$Reader" "token" "LElephantLine$Tokens;") (by decide +kernel)) (fun _ h9 => h9) rfl dX7_fail_7 ?_
  refine va_getN (D := D) (ci := 9) (C := RX9) (T := TX9) (N := 5) (v := .int tk_start) hx hb hX9 (fun _ q => q) hown hK hP 1 rfl rfl 2 (by decide) (va_Nw.use rfl (hKN.2.1.1 ("ElephantLine$Reader", 78, "ElephantLine$Tokens", "start", "I", "ElephantLine") (List.mem_of_getElem? (i := 36) rfl))) (fun _ h9 => h9) rfl dX7_fail_10 ?_
  refine va_put (D := D) (ci := 7) (C := RX7) (T := TX7) (N := 9) (v := .int tk_start) (ty := .int) hx hb hX7 (fun _ q => q) tyX7 tyX7_ok nmX7 hown hK hP hD hS 0 rfl rfl 8 (by decide) (hts (.fieldLink RX7 45 "ElephantLine$Reader" "faultAt" "I") (by decide +kernel)) (fun _ h9 => h9) rfl (tyX7_ok 8 (by decide)) rfl rfl (Nat.le_of_ble_eq_true rfl) dX7_fail_13 (fun H locs hP hD hS => ?_)
  refine lv_iconst (v := 0) hx hb dX7_fail_16 (by decide) ?_
  cases h
  exact W.zret (ty := .boolean) hx hb hr (nbv.n nbv_0) (fun t ht _ => ⟨⟨_, (), rfl, ⟨rfl, nbv_0⟩, by rw [ht]; exact hP, hD⟩, hS.F ht⟩) hS.2.2 dX7_fail_17
noncomputable def f_X7_indexOfName_b2 (tape : Nat → Int32) (rd_names : Int32) (rd_nameStarts : Nat → Int32) (rd_nameEnds : Nat → Int32) (tk_limit : Int32) (tk_start : Int32) (tk_end : Int32) (k2 : Int32 → Option (Int32)) (x1 : Int32) : Option (Int32) :=
  (if rd_names ≤ x1 then
  some ((-1))
  else
  (if 11 ≤ x1 then
  some ((-1))
  else
  gIn x1 11 <|
  gIn x1 11 <|
  bd1 (f_X9_isSameAs tape tk_limit tk_start tk_end (rd_nameStarts x1.toNatClampNeg) (rd_nameEnds x1.toNatClampNeg)) fun r_3 =>
  (if r_3 = 0 then
  k2 (x1 + 1)
  else
  some (x1))))
noncomputable def f_X7_indexOfName_L2 (tape : Nat → Int32) (rd_names : Int32) (rd_nameStarts : Nat → Int32) (rd_nameEnds : Nat → Int32) (tk_limit : Int32) (tk_start : Int32) (tk_end : Int32) : Nat → Int32 → Option (Int32)
  | 0 => fun _ => none
  | n + 1 => f_X7_indexOfName_b2 tape rd_names rd_nameStarts rd_nameEnds tk_limit tk_start tk_end (f_X7_indexOfName_L2 tape rd_names rd_nameStarts rd_nameEnds tk_limit tk_start tk_end n)
noncomputable def f_X7_indexOfName (tape : Nat → Int32) (rd_names : Int32) (rd_nameStarts : Nat → Int32) (rd_nameEnds : Nat → Int32) (tk_limit : Int32) (tk_start : Int32) (tk_end : Int32) : Option (Int32) :=
  f_X7_indexOfName_L2 tape rd_names rd_nameStarts rd_nameEnds tk_limit tk_start tk_end fuelN 0
theorem hd_X7_indexOfName : yX7_indexOfName.cls = RX7 ∧ yX7_indexOfName.cls ≠ "java/lang/invoke/MethodHandle" ∧ yX7_indexOfName.cls ≠ "java/lang/invoke/VarHandle" ∧ (parseMethodDescriptor yX7_indexOfName.desc).map (fun d => d.parameters.length) = some 0 := by decide +kernel
set_option maxHeartbeats 4000000 in
set_option maxRecDepth 100000 in
theorem c_X7_indexOfName (l : Launch) (D : va_G) (cy : Nat → ClassId) (a_tape a_rd a_rd_nameStarts a_rd_nameEnds a_tk : Nat) (tape : Nat → Int32) (rd_draft : Value) (rd_nameNumbers : Value) (rd_nameIsBeast : Value) (rd_names : Int32) (rd_faultFound : Int32) (rd_faultAt : Int32) (rd_nameStarts : Nat → Int32) (rd_nameEnds : Nat → Int32) (tk_limit : Int32) (tk_start : Int32) (tk_end : Int32) (tk_sort : Int32) (res : Int32) (h : f_X7_indexOfName tape rd_names rd_nameStarts rd_nameEnds tk_limit tk_start tk_end = some (res)) : Met l yX7_indexOfName wo_X7_indexOfName ({ frames := 1, cells := 0, slots := 0, locals := 23 }) (roPc D cy [.ref a_rd] [(a_tape, .inl (cy 0, 900, .inl tape)), (a_rd, .inr (7, [.ref a_tk, rd_draft, .ref a_rd_nameStarts, .ref a_rd_nameEnds, rd_nameNumbers, rd_nameIsBeast, .int rd_names, .int rd_faultFound, .int rd_faultAt])), (a_rd_nameStarts, .inl (cy 1, 11, .inl rd_nameStarts)), (a_rd_nameEnds, .inl (cy 1, 11, .inl rd_nameEnds)), (a_tk, .inr (9, [.ref a_tape, .int tk_limit, .int tk_start, .int tk_end, .int tk_sort]))]) (vp_Si (fun r => r = res)) 0 0 (fun _ => False) := by
  refine Met.ofW (cc := cX7_indexOfName) (maxL := 2) (ret := (some .int)) (by decide) rfl ?_
  intro p e s m args below meth c s₁ B hml hv
  obtain ⟨rfl, hP, hKN⟩ := hv
  have hK := hKN.1
  have hx := B.exec
  have hb := B.bytes
  have hr := B.returns
  have hts := wt_X7_indexOfName hKN.2.2 (([.ref a_rd] : List Value).toArray)
  have hown : s.vm.findClass RX7 = some m.cls := findClass_of_methodNamed B.named
  have hlocks := B.notSynchronized
  have hX7 := wc_X7 hKN.2.2 (([.ref a_rd] : List Value).toArray)
  have hl := lv_entry ([.ref a_rd]) (n := 2) (Nat.le_of_ble_eq_true rfl)
  rw [lg_entry_eq]
  generalize (lg_sl ([.ref a_rd]) ++ List.replicate (2 - (lg_sl ([.ref a_rd])).length) Slot.unset).toArray = ls at hl ⊢
  have hl : lv_has ls 2 [(0, .ref a_rd)] := hl
  unfold f_X7_indexOfName at h
  refine lv_iconst (v := 0) hx hb dX7_indexOfName_0 (by decide) ?_
  refine lv_istore_n (lv' := [(1, .int 0), (0, .ref a_rd)]) hx hb dX7_indexOfName_1 rfl hl (by decide) rfl (fun ls hl => ?_)
  have lp2 : ∀ (n2 : Nat) (x1_1 : Int32), f_X7_indexOfName_L2 tape rd_names rd_nameStarts rd_nameEnds tk_limit tk_start tk_end n2 x1_1 = some (res) → ∀ ls : Array Slot, lv_has ls 2 [(0, .ref a_rd), (1, .int x1_1)] → W p l e (headSpec wo_X7_indexOfName ({ frames := 1, cells := 0, slots := 0, locals := 23 })).room s m (([.ref a_rd] : List Value).toArray) below meth c s.heap [] 0 0 (MQ below (vp_Si (fun r => r = res)) (([.ref a_rd] : List Value).toArray) s 0 0 (fun _ => False)) (F0 m 2 ls []) := by
    intro n2
    induction n2 with
    | zero => intro x1_1 h; exact absurd (show (none : Option (Int32)) = some _ from h) (by intro q; cases q)
    | succ n2 ih2 =>
      intro x1_1 h ls hl
      have h : f_X7_indexOfName_b2 tape rd_names rd_nameStarts rd_nameEnds tk_limit tk_start tk_end (f_X7_indexOfName_L2 tape rd_names rd_nameStarts rd_nameEnds tk_limit tk_start tk_end n2) x1_1 = some (res) := h
      unfold f_X7_indexOfName_b2 at h
      refine lv_iload_n hx hb dX7_indexOfName_2 rfl (lv_at hl 1 rfl) ?_
      refine lv_aload_n hx hb dX7_indexOfName_3 rfl (lv_at hl 0 rfl) ?_
      refine va_get (D := D) (ci := 7) (C := RX7) (T := TX7) (N := 9) (v := .int rd_names) hx hb hX7 (fun _ q => q) hown hK hP 1 rfl rfl 6 (by decide) (hts (.fieldLink RX7 48 "ElephantLine$Reader" "names" "I") (by decide +kernel)) (fun _ h9 => h9) rfl dX7_indexOfName_4 ?_
      refine lv_icmp_ge (tgt := 46) hx hb dX7_indexOfName_7 (by decide) (fun cd => ?_) (fun cd => ?_)
      · have h := ifT cd h
        refine lv_iconst (v := (-1)) hx hb dX7_indexOfName_46 (by decide) ?_
        exact W.iret (v := (-1)) hx hb hr (fun t ht _ => ⟨_, rfl, Option.some.inj h, ht⟩) (fun _ q => by cases q) dX7_indexOfName_47
      · have h := ifF cd h
        refine lv_iload_n hx hb dX7_indexOfName_10 rfl (lv_at hl 1 rfl) ?_
        refine lv_bipush (v := 11) hx hb dX7_indexOfName_11 (by decide) ?_
        refine lv_icmp_ge (tgt := 46) hx hb dX7_indexOfName_13 (by decide) (fun cd => ?_) (fun cd => ?_)
        · have h := ifT cd h
          refine lv_iconst (v := (-1)) hx hb dX7_indexOfName_46 (by decide) ?_
          exact W.iret (v := (-1)) hx hb hr (fun t ht _ => ⟨_, rfl, Option.some.inj h, ht⟩) (fun _ q => by cases q) dX7_indexOfName_47
        · have h := ifF cd h
          refine lv_aload_n hx hb dX7_indexOfName_16 rfl (lv_at hl 0 rfl) ?_
          refine va_get (D := D) (ci := 7) (C := RX7) (T := TX7) (N := 9) (v := .ref a_tk) hx hb hX7 (fun _ q => q) hown hK hP 1 rfl rfl 0 (by decide) (hts (.fieldLink RX7 37 "ElephantLine$Reader" "token" "LElephantLine$Tokens;") (by decide +kernel)) (fun _ h9 => h9) rfl dX7_indexOfName_17 ?_
          refine lv_aload_n hx hb dX7_indexOfName_20 rfl (lv_at hl 0 rfl) ?_
          refine va_get (D := D) (ci := 7) (C := RX7) (T := TX7) (N := 9) (v := .ref a_rd_nameStarts) hx hb hX7 (fun _ q => q) hown hK hP 1 rfl rfl 2 (by decide) (hts (.fieldLink RX7 18 "ElephantLine$Reader" "nameStarts" "[I") (by decide +kernel)) (fun _ h9 => h9) rfl dX7_indexOfName_21 ?_
          refine lv_iload_n hx hb dX7_indexOfName_24 rfl (lv_at hl 1 rfl) ?_
          obtain ⟨i_2, h⟩ := gIn_some h
          refine va_iald hx hb hK hP 2 1 rfl rfl i_2 dX7_indexOfName_25 ?_
          refine lv_aload_n hx hb dX7_indexOfName_26 rfl (lv_at hl 0 rfl) ?_
          refine va_get (D := D) (ci := 7) (C := RX7) (T := TX7) (N := 9) (v := .ref a_rd_nameEnds) hx hb hX7 (fun _ q => q) hown hK hP 1 rfl rfl 3 (by decide) (hts (.fieldLink RX7 22 "ElephantLine$Reader" "nameEnds" "[I") (by decide +kernel)) (fun _ h9 => h9) rfl dX7_indexOfName_27 ?_
          refine lv_iload_n hx hb dX7_indexOfName_30 rfl (lv_at hl 1 rfl) ?_
          obtain ⟨i_3, h⟩ := gIn_some h
          refine va_iald hx hb hK hP 3 1 rfl rfl i_3 dX7_indexOfName_31 ?_
          obtain ⟨r_4, hc_5, h⟩ := bd1_some h
          refine kVb [.int (rd_nameStarts x1_1.toNatClampNeg), .int (rd_nameEnds x1_1.toNatClampNeg)] [] ⟨hx, hb, hml, hown, hts⟩ (c_X9_isSameAs l D cy a_tape a_tk tape tk_limit tk_start tk_end tk_sort (rd_nameStarts x1_1.toNatClampNeg) (rd_nameEnds x1_1.toNatClampNeg) r_4 hc_5) gX7_indexOfName_X9_isSameAs rfl hd_X9_isSameAs ⟨Nat.le_of_ble_eq_true rfl, Nat.le_of_ble_eq_true rfl⟩ rfl rfl hKN (hP.sub [0, 4] rfl) 9 1 rfl rfl rfl hl.1 rfl (Nat.le_of_ble_eq_true rfl) dX7_indexOfName_32 ⟨Nat.le_of_ble_eq_true rfl, Nat.le_of_ble_eq_true rfl⟩ (fun nb_6 => ?_)
          refine lv_if_eq (tgt := 40) hx hb dX7_indexOfName_35 (by decide) (fun cd => ?_) (fun cd => ?_)
          · have h := ifT cd h
            refine lv_iinc (v := x1_1 + 1) (lv' := [(1, .int (x1_1 + 1)), (0, .ref a_rd)]) hx hb dX7_indexOfName_40 hl (k := 1) rfl (by first | rfl | decide) (by decide) rfl (fun ls hl => ?_)
            refine lv_goto (tgt := 2) hx hb dX7_indexOfName_43 (by decide) ?_
            exact ih2 (x1_1 + 1) h _ (lv_sub hl [1, 0] rfl)
          · have h := ifF cd h
            refine lv_iload_n hx hb dX7_indexOfName_38 rfl (lv_at hl 1 rfl) ?_
            exact W.iret (v := x1_1) hx hb hr (fun t ht _ => ⟨_, rfl, Option.some.inj h, ht⟩) (fun _ q => by cases q) dX7_indexOfName_39
  exact lp2 fuelN (0 : Int32) h _ (lv_sub hl [1, 0] rfl)
noncomputable def f_X7_readWhole (tape : Nat → Int32) (rd_faultFound : Int32) (rd_faultAt : Int32) (tk_limit : Int32) (tk_start : Int32) (tk_end : Int32) (tk_sort : Int32) (p1 : Int32) (p2 : Int32) : Option (Int32 × Int32 × Int32 × Int32 × Int32 × Int32) :=
  bd3 (f_X9_step tape tk_limit tk_start tk_end tk_sort) fun tk_start_1 tk_end_2 tk_sort_3 =>
  (if tk_sort_3 = 2 then
  bd1 (f_X9_value tape tk_start_1 tk_end_2) fun r_5 =>
  bd1 (f_X11_outside  r_5 p1 p2) fun r_7 =>
  (if r_7 = 0 then
  some (r_5, rd_faultFound, rd_faultAt, tk_start_1, tk_end_2, tk_sort_3)
  else
  bd3 (f_X7_fail rd_faultFound rd_faultAt tk_start_1 (4 : Int32)) fun r_10 rd_faultFound_11 rd_faultAt_12 =>
  some ((-1), rd_faultFound_11, rd_faultAt_12, tk_start_1, tk_end_2, tk_sort_3))
  else
  bd3 (f_X7_fail rd_faultFound rd_faultAt tk_start_1 (1 : Int32)) fun r_15 rd_faultFound_16 rd_faultAt_17 =>
  some ((-1), rd_faultFound_16, rd_faultAt_17, tk_start_1, tk_end_2, tk_sort_3))
theorem hd_X7_readWhole : yX7_readWhole.cls = RX7 ∧ yX7_readWhole.cls ≠ "java/lang/invoke/MethodHandle" ∧ yX7_readWhole.cls ≠ "java/lang/invoke/VarHandle" ∧ (parseMethodDescriptor yX7_readWhole.desc).map (fun d => d.parameters.length) = some 2 := by decide +kernel
set_option maxHeartbeats 4000000 in
set_option maxRecDepth 100000 in
theorem c_X7_readWhole (l : Launch) (D : va_G) (cy : Nat → ClassId) (A : Nat → Prop) (X : va_W) (a_tape a_rd a_tk : Nat) (tape : Nat → Int32) (rd_draft : Value) (rd_nameStarts : Value) (rd_nameEnds : Value) (rd_nameNumbers : Value) (rd_nameIsBeast : Value) (rd_names : Int32) (rd_faultFound : Int32) (rd_faultAt : Int32) (tk_limit : Int32) (tk_start : Int32) (tk_end : Int32) (tk_sort : Int32) (p1 : Int32) (p2 : Int32) (res : Int32) (rd_faultFound' : Int32) (rd_faultAt' : Int32) (tk_start' : Int32) (tk_end' : Int32) (tk_sort' : Int32) (h : f_X7_readWhole tape rd_faultFound rd_faultAt tk_limit tk_start tk_end tk_sort p1 p2 = some (res, rd_faultFound', rd_faultAt', tk_start', tk_end', tk_sort')) : Met l yX7_readWhole wo_X7_readWhole ({ frames := 2, cells := 0, slots := 0, locals := 42 }) (wrPc D cy A [.ref a_rd, .int p1, .int p2] ([(a_tape, .inl (cy 0, 900, .inl tape)), (a_rd, .inr (7, [.ref a_tk, rd_draft, rd_nameStarts, rd_nameEnds, rd_nameNumbers, rd_nameIsBeast, .int rd_names, .int rd_faultFound, .int rd_faultAt])), (a_tk, .inr (9, [.ref a_tape, .int tk_limit, .int tk_start, .int tk_end, .int tk_sort]))] ++ X)) (va_Qi (fun (r : Int32) (_ : Unit) => r = res) (wB D A ([(a_tape, .inl (cy 0, 900, .inl tape)), (a_rd, .inr (7, [.ref a_tk, rd_draft, rd_nameStarts, rd_nameEnds, rd_nameNumbers, rd_nameIsBeast, .int rd_names, .int rd_faultFound', .int rd_faultAt'])), (a_tk, .inr (9, [.ref a_tape, .int tk_limit, .int tk_start', .int tk_end', .int tk_sort']))] ++ X)) A) 0 0 A := by
  refine Met.ofW (cc := cX7_readWhole) (maxL := 4) (ret := (some .int)) (by decide) rfl ?_
  intro p e s m args below meth c s₁ B hml hv
  obtain ⟨rfl, hP, hKN, hD, hA⟩ := hv
  have hK := hKN.1
  have hx := B.exec
  have hb := B.bytes
  have hr := B.returns
  have hts := wt_X7_readWhole hKN.2.2 (([.ref a_rd, .int p1, .int p2] : List Value).toArray)
  have hown : s.vm.findClass RX7 = some m.cls := findClass_of_methodNamed B.named
  have hlocks := B.notSynchronized
  have hS : va_S A s.heap s.heap [] := va_S.rf
  have hX7 := wc_X7 hKN.2.2 (([.ref a_rd, .int p1, .int p2] : List Value).toArray)
  have hX9 := wc_X9 hKN.2.2 (([.ref a_rd, .int p1, .int p2] : List Value).toArray)
  have hl := lv_entry ([.ref a_rd, .int p1, .int p2]) (n := 4) (Nat.le_of_ble_eq_true rfl)
  rw [lg_entry_eq]
  generalize (lg_sl ([.ref a_rd, .int p1, .int p2]) ++ List.replicate (4 - (lg_sl ([.ref a_rd, .int p1, .int p2])).length) Slot.unset).toArray = ls at hl ⊢
  have hl : lv_has ls 4 [(0, .ref a_rd), (1, .int p1), (2, .int p2)] := hl
  unfold f_X7_readWhole at h
  refine lv_aload_n hx hb dX7_readWhole_0 rfl (lv_at hl 0 rfl) ?_
  refine va_get (D := D) (ci := 7) (C := RX7) (T := TX7) (N := 9) (v := .ref a_tk) hx hb hX7 (fun _ q => q) hown hK hP 1 rfl rfl 0 (by decide) (hts (.fieldLink RX7 37 "ElephantLine$Reader" "token" "LElephantLine$Tokens;") (by decide +kernel)) (fun _ h9 => h9) rfl dX7_readWhole_1 ?_
  obtain ⟨tk_start_1, tk_end_2, tk_sort_3, hc_4, h⟩ := bd3_some h
  refine wVv [] [] ⟨hx, hb, hml, hown, hts⟩ (c_X9_step l D cy A ([(a_rd, .inr (7, [.ref a_tk, rd_draft, rd_nameStarts, rd_nameEnds, rd_nameNumbers, rd_nameIsBeast, .int rd_names, .int rd_faultFound, .int rd_faultAt]))] ++ X) a_tape a_tk tape tk_limit tk_start tk_end tk_sort tk_start_1 tk_end_2 tk_sort_3 hc_4) gX7_readWhole_X9_step rfl hd_X9_step ⟨Nat.le_of_ble_eq_true rfl, Nat.le_of_ble_eq_true rfl⟩ rfl rfl hKN (pX3 hP [0, 2, 1] rfl) (dX3 hD [0, 2, 1] rfl rfl) hS hA 9 1 rfl rfl rfl hl.1 rfl (Nat.le_of_ble_eq_true rfl) dX7_readWhole_4 ⟨Nat.le_of_ble_eq_true rfl, Nat.le_of_ble_eq_true rfl⟩ (fun H locs hP hD hS => ?_)
  have hP := pX4 (L1 := [(a_tape, .inl (cy 0, 900, .inl tape)), (a_rd, .inr (7, [.ref a_tk, rd_draft, rd_nameStarts, rd_nameEnds, rd_nameNumbers, rd_nameIsBeast, .int rd_names, .int rd_faultFound, .int rd_faultAt])), (a_tk, .inr (9, [.ref a_tape, .int tk_limit, .int tk_start_1, .int tk_end_2, .int tk_sort_3]))]) hP [0, 2, 1] rfl
  have hD := dX4 (L1 := [(a_tape, .inl (cy 0, 900, .inl tape)), (a_rd, .inr (7, [.ref a_tk, rd_draft, rd_nameStarts, rd_nameEnds, rd_nameNumbers, rd_nameIsBeast, .int rd_names, .int rd_faultFound, .int rd_faultAt])), (a_tk, .inr (9, [.ref a_tape, .int tk_limit, .int tk_start_1, .int tk_end_2, .int tk_sort_3]))]) hD [0, 2, 1] rfl rfl
  refine lv_aload_n hx hb dX7_readWhole_7 rfl (lv_at hl 0 rfl) ?_
  refine va_get (D := D) (ci := 7) (C := RX7) (T := TX7) (N := 9) (v := .ref a_tk) hx hb hX7 (fun _ q => q) hown hK hP 1 rfl rfl 0 (by decide) (hts (.fieldLink RX7 37 "ElephantLine$Reader" "token" "LElephantLine$Tokens;") (by decide +kernel)) (fun _ h9 => h9) rfl dX7_readWhole_8 ?_
  refine va_getN (D := D) (ci := 9) (C := RX9) (T := TX9) (N := 5) (v := .int tk_sort_3) hx hb hX9 (fun _ q => q) hown hK hP 2 rfl rfl 4 (by decide) (va_Nw.use rfl (hKN.2.1.1 ("ElephantLine$Reader", 65, "ElephantLine$Tokens", "sort", "I", "ElephantLine") (List.mem_of_getElem? (i := 38) rfl))) (fun _ h9 => h9) rfl dX7_readWhole_11 ?_
  refine lv_iconst (v := 2) hx hb dX7_readWhole_14 (by decide) ?_
  refine lv_icmp_eq (tgt := 26) hx hb dX7_readWhole_15 (by decide) (fun cd => ?_) (fun cd => ?_)
  · have h := ifT cd h
    refine lv_aload_n hx hb dX7_readWhole_26 rfl (lv_at hl 0 rfl) ?_
    refine va_get (D := D) (ci := 7) (C := RX7) (T := TX7) (N := 9) (v := .ref a_tk) hx hb hX7 (fun _ q => q) hown hK hP 1 rfl rfl 0 (by decide) (hts (.fieldLink RX7 37 "ElephantLine$Reader" "token" "LElephantLine$Tokens;") (by decide +kernel)) (fun _ h9 => h9) rfl dX7_readWhole_27 ?_
    obtain ⟨r_5, hc_6, h⟩ := bd1_some h
    refine kVi [] [] ⟨hx, hb, hml, hown, hts⟩ (c_X9_value l D cy a_tape a_tk tape tk_limit tk_start_1 tk_end_2 tk_sort_3 r_5 hc_6) gX7_readWhole_X9_value rfl hd_X9_value ⟨Nat.le_of_ble_eq_true rfl, Nat.le_of_ble_eq_true rfl⟩ rfl rfl hKN (pXc hP [0, 2] rfl) 9 1 rfl rfl rfl hl.1 rfl (Nat.le_of_ble_eq_true rfl) dX7_readWhole_30 ⟨Nat.le_of_ble_eq_true rfl, Nat.le_of_ble_eq_true rfl⟩ ?_
    refine lv_istore_n (lv' := [(3, .int r_5), (0, .ref a_rd), (1, .int p1), (2, .int p2)]) hx hb dX7_readWhole_33 rfl hl (by decide) rfl (fun ls hl => ?_)
    refine lv_iload_n hx hb dX7_readWhole_34 rfl (lv_at hl 0 rfl) ?_
    refine lv_iload_n hx hb dX7_readWhole_35 rfl (lv_at hl 2 rfl) ?_
    refine lv_iload_n hx hb dX7_readWhole_36 rfl (lv_at hl 3 rfl) ?_
    obtain ⟨r_7, hc_8, h⟩ := bd1_some h
    refine kSNb [.int r_5, .int p1, .int p2] [] ⟨hx, hb, hml, hown, hts⟩ (c_X11_outside l D cy r_5 p1 p2 r_7 hc_8) gX7_readWhole_X11_outside (hKN.2.1.2 ("ElephantLine$Reader", 210, ⟨"ElephantLine", "outside", "(III)Z"⟩, "ElephantLine") (List.mem_of_getElem? (i := 4) rfl)) (hts (.initialized RX11) (by decide +kernel)) (hts (.static yX11_outside) (by decide +kernel)) rfl hd_X11_outside ⟨Nat.le_of_ble_eq_true rfl, Nat.le_of_ble_eq_true rfl⟩ rfl rfl hKN va_nil rfl hl.1 rfl (Nat.le_of_ble_eq_true rfl) dX7_readWhole_37 ⟨Nat.le_of_ble_eq_true rfl, Nat.le_of_ble_eq_true rfl⟩ (fun nb_9 => ?_)
    refine lv_if_eq (tgt := 51) hx hb dX7_readWhole_40 (by decide) (fun cd => ?_) (fun cd => ?_)
    · have h := ifT cd h
      refine lv_iload_n hx hb dX7_readWhole_51 rfl (lv_at hl 0 rfl) ?_
      cases h
      exact W.iret hx hb hr (fun t ht _ => ⟨⟨_, (), rfl, rfl, by rw [ht]; exact hP, hD⟩, hS.F ht⟩) hS.2.2 dX7_readWhole_52
    · have h := ifF cd h
      refine lv_aload_n hx hb dX7_readWhole_43 rfl (lv_at hl 1 rfl) ?_
      refine lv_iconst (v := 4) hx hb dX7_readWhole_44 (by decide) ?_
      obtain ⟨r_10, rd_faultFound_11, rd_faultAt_12, hc_13, h⟩ := bd3_some h
      refine wVb [.int 4] [] ⟨hx, hb, hml, hown, hts⟩ (c_X7_fail l D cy A ([(a_tape, .inl (cy 0, 900, .inl tape))] ++ X) a_rd a_tk (rd_draft) (rd_nameStarts) (rd_nameEnds) (rd_nameNumbers) (rd_nameIsBeast) rd_names rd_faultFound rd_faultAt (.ref a_tape) tk_limit tk_start_1 tk_end_2 tk_sort_3 (4 : Int32) r_10 rd_faultFound_11 rd_faultAt_12 hc_13) gX7_readWhole_X7_fail rfl hd_X7_fail ⟨Nat.le_of_ble_eq_true rfl, Nat.le_of_ble_eq_true rfl⟩ rfl rfl hKN (pX3 hP [1, 2, 0] rfl) (dX3 hD [1, 2, 0] rfl rfl) hS hA 7 0 rfl rfl rfl hl.1 rfl (Nat.le_of_ble_eq_true rfl) dX7_readWhole_45 ⟨Nat.le_of_ble_eq_true rfl, Nat.le_of_ble_eq_true rfl⟩ (fun nb_14 H locs hP hD hS => ?_)
      have hP := pX4 (L1 := [(a_tape, .inl (cy 0, 900, .inl tape)), (a_rd, .inr (7, [.ref a_tk, rd_draft, rd_nameStarts, rd_nameEnds, rd_nameNumbers, rd_nameIsBeast, .int rd_names, .int rd_faultFound_11, .int rd_faultAt_12])), (a_tk, .inr (9, [.ref a_tape, .int tk_limit, .int tk_start_1, .int tk_end_2, .int tk_sort_3]))]) hP [2, 0, 1] rfl
      have hD := dX4 (L1 := [(a_tape, .inl (cy 0, 900, .inl tape)), (a_rd, .inr (7, [.ref a_tk, rd_draft, rd_nameStarts, rd_nameEnds, rd_nameNumbers, rd_nameIsBeast, .int rd_names, .int rd_faultFound_11, .int rd_faultAt_12])), (a_tk, .inr (9, [.ref a_tape, .int tk_limit, .int tk_start_1, .int tk_end_2, .int tk_sort_3]))]) hD [2, 0, 1] rfl rfl
      refine lv_pop hx hb dX7_readWhole_48 rfl ?_
      refine lv_iconst (v := (-1)) hx hb dX7_readWhole_49 (by decide) ?_
      cases h
      exact W.iret hx hb hr (fun t ht _ => ⟨⟨_, (), rfl, rfl, by rw [ht]; exact hP, hD⟩, hS.F ht⟩) hS.2.2 dX7_readWhole_50
  · have h := ifF cd h
    refine lv_aload_n hx hb dX7_readWhole_18 rfl (lv_at hl 0 rfl) ?_
    refine lv_iconst (v := 1) hx hb dX7_readWhole_19 (by decide) ?_
    obtain ⟨r_15, rd_faultFound_16, rd_faultAt_17, hc_18, h⟩ := bd3_some h
    refine wVb [.int 1] [] ⟨hx, hb, hml, hown, hts⟩ (c_X7_fail l D cy A ([(a_tape, .inl (cy 0, 900, .inl tape))] ++ X) a_rd a_tk (rd_draft) (rd_nameStarts) (rd_nameEnds) (rd_nameNumbers) (rd_nameIsBeast) rd_names rd_faultFound rd_faultAt (.ref a_tape) tk_limit tk_start_1 tk_end_2 tk_sort_3 (1 : Int32) r_15 rd_faultFound_16 rd_faultAt_17 hc_18) gX7_readWhole_X7_fail rfl hd_X7_fail ⟨Nat.le_of_ble_eq_true rfl, Nat.le_of_ble_eq_true rfl⟩ rfl rfl hKN (pX3 hP [1, 2, 0] rfl) (dX3 hD [1, 2, 0] rfl rfl) hS hA 7 0 rfl rfl rfl hl.1 rfl (Nat.le_of_ble_eq_true rfl) dX7_readWhole_20 ⟨Nat.le_of_ble_eq_true rfl, Nat.le_of_ble_eq_true rfl⟩ (fun nb_19 H locs hP hD hS => ?_)
    have hP := pX4 (L1 := [(a_tape, .inl (cy 0, 900, .inl tape)), (a_rd, .inr (7, [.ref a_tk, rd_draft, rd_nameStarts, rd_nameEnds, rd_nameNumbers, rd_nameIsBeast, .int rd_names, .int rd_faultFound_16, .int rd_faultAt_17])), (a_tk, .inr (9, [.ref a_tape, .int tk_limit, .int tk_start_1, .int tk_end_2, .int tk_sort_3]))]) hP [2, 0, 1] rfl
    have hD := dX4 (L1 := [(a_tape, .inl (cy 0, 900, .inl tape)), (a_rd, .inr (7, [.ref a_tk, rd_draft, rd_nameStarts, rd_nameEnds, rd_nameNumbers, rd_nameIsBeast, .int rd_names, .int rd_faultFound_16, .int rd_faultAt_17])), (a_tk, .inr (9, [.ref a_tape, .int tk_limit, .int tk_start_1, .int tk_end_2, .int tk_sort_3]))]) hD [2, 0, 1] rfl rfl
    refine lv_pop hx hb dX7_readWhole_23 rfl ?_
    refine lv_iconst (v := (-1)) hx hb dX7_readWhole_24 (by decide) ?_
    cases h
    exact W.iret hx hb hr (fun t ht _ => ⟨⟨_, (), rfl, rfl, by rw [ht]; exact hP, hD⟩, hS.F ht⟩) hS.2.2 dX7_readWhole_25
