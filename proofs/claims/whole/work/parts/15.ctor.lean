theorem hd_X8_init : yX8_init.cls ≠ "java/lang/invoke/MethodHandle" ∧ yX8_init.cls ≠ "java/lang/invoke/VarHandle" ∧ (parseMethodDescriptor yX8_init.desc).map (fun d => d.parameters.length) = some 0 := by decide +kernel
def wz_X8_init (cy : Nat → ClassId) (a_no : Nat) (u : Nat × Nat × Nat) : va_W := [(a_no, .inr (8, [.ref u.1, .ref u.2.1, .ref u.2.2, .int 0, .int 0, .int 0])), (u.1, .inl (cy 1, 6, .inl (fun _ => 0))), (u.2.1, .inl (cy 1, 5, .inl (fun _ => 0))), (u.2.2, .inl (cy 1, 5, .inl (fun _ => 0)))]
set_option maxHeartbeats 4000000 in
set_option maxRecDepth 100000 in
theorem c_X8_init (l : Launch) (D : va_G) (cy : Nat → ClassId) (A : Nat → Prop) (X : va_W) (a_no : Nat) : Met l yX8_init wo_X8_init ({ frames := 1, cells := 3, slots := 16, locals := 12 }) (wrPc D cy A [.ref a_no] ([(a_no, .inr (8, [.null, .null, .null, .int 0, .int 0, .int 0]))] ++ X)) (va_Qv (fun (_ : Nat × Nat × Nat) => True) (fun u t => va_P D vwCl (wz_X8_init cy a_no u ++ X) t.heap ∧ va_D A (wz_X8_init cy a_no u ++ X)) A) 3 16 A := by
  refine Met.ofW (cc := cX8_init) (maxL := 1) (ret := none) (by decide) rfl ?_
  intro p e s m args below meth c s₁ B hml hv
  obtain ⟨rfl, hP, hKN, hD, hA⟩ := hv
  have hK := hKN.1
  have hx := B.exec
  have hb := B.bytes
  have hr := B.returns
  have hts := wt_X8_init hKN.2.2 (([.ref a_no] : List Value).toArray)
  have hown : s.vm.findClass RX8 = some m.cls := findClass_of_methodNamed B.named
  have hlocks := B.notSynchronized
  have hin : meth.name = "<init>" := (name_of_methodNamed B.named B.method).1
  have hS : va_S A s.heap s.heap [] := va_S.rf
  have hX8 := wc_X8 hKN.2.2 (([.ref a_no] : List Value).toArray)
  have hl := lv_entry ([.ref a_no]) (n := 1) (Nat.le_of_ble_eq_true rfl)
  rw [lg_entry_eq]
  generalize (lg_sl ([.ref a_no]) ++ List.replicate (1 - (lg_sl ([.ref a_no])).length) Slot.unset).toArray = ls at hl ⊢
  have hl : lv_has ls 1 [(0, .ref a_no)] := hl
  refine lv_aload_n hx hb dX8_init_0 rfl (lv_at hl 0 rfl) ?_
  refine W.objInit hx hb hown (hts (.methodLink RX8 3 objectInit) (by decide +kernel)) (hts (.instanceMethod objectInit) (by decide +kernel)) (hts (.code objectInit ⟨#[0xb1]⟩ 1 none) (by decide +kernel)) rfl (hl.1.trans hml.symm) rfl dX8_init_1 (Nat.le_of_ble_eq_true rfl) (Nat.le_of_ble_eq_true rfl) ?_
  refine W.eq (g2 := F0 m 4 ls []) rfl ?_
  refine lv_aload_n hx hb dX8_init_4 rfl (lv_at hl 0 rfl) ?_
  refine lv_bipush (v := 6) hx hb dX8_init_5 (by decide) ?_
  refine nAI hx hb (hts (.arrayClass .int) (by decide +kernel)) hK hP hD hS hA 6 (by decide) (by decide) (by decide) (Nat.le_of_ble_eq_true rfl) (Nat.le_of_ble_eq_true rfl) dX8_init_7 (fun q1 H hP hD hS => ?_)
  have hP : va_P D vwCl ([(a_no, .inr (8, [.null, .null, .null, .int 0, .int 0, .int 0])), (q1, .inl (cy 1, 6, .inl (fun _ => 0)))] ++ X) H := hP
  have hD : va_D A ([(a_no, .inr (8, [.null, .null, .null, .int 0, .int 0, .int 0])), (q1, .inl (cy 1, 6, .inl (fun _ => 0)))] ++ X) := hD
  refine W.widen (k := 1) (n := 6) (Nat.le_of_ble_eq_true rfl) (Nat.le_of_ble_eq_true rfl) ?_
  refine va_putF (D := D) (ci := 8) (C := RX8) (T := TX8) (N := 6) (v := .ref q1) (ty := .array .int) hx hb hX8 (fun _ q => q) tyX8 tyX8_ok nmX8 hown hK hP hD hS 0 rfl rfl 0 (by decide) (hts (.fieldLink RX8 9 "ElephantLine$Stand" "strong" "[I") (by decide +kernel)) (fun _ h9 => h9) rfl hin rfl (tyX8_ok 0 (by decide)) rfl rfl (Nat.le_of_ble_eq_true rfl) dX8_init_9 (fun H locs hP hD hS => ?_)
  have hP : va_P D vwCl ([(a_no, .inr (8, [.ref q1, .null, .null, .int 0, .int 0, .int 0])), (q1, .inl (cy 1, 6, .inl (fun _ => 0)))] ++ X) H := hP
  have hD : va_D A ([(a_no, .inr (8, [.ref q1, .null, .null, .int 0, .int 0, .int 0])), (q1, .inl (cy 1, 6, .inl (fun _ => 0)))] ++ X) := hD
  refine lv_aload_n hx hb dX8_init_12 rfl (lv_at hl 0 rfl) ?_
  refine lv_iconst (v := 5) hx hb dX8_init_13 (by decide) ?_
  refine nAI hx hb (hts (.arrayClass .int) (by decide +kernel)) hK hP hD hS hA 5 (by decide) (by decide) (by decide) (Nat.le_of_ble_eq_true rfl) (Nat.le_of_ble_eq_true rfl) dX8_init_14 (fun q2 H hP hD hS => ?_)
  have hP : va_P D vwCl ([(a_no, .inr (8, [.ref q1, .null, .null, .int 0, .int 0, .int 0])), (q1, .inl (cy 1, 6, .inl (fun _ => 0))), (q2, .inl (cy 1, 5, .inl (fun _ => 0)))] ++ X) H := hP
  have hD : va_D A ([(a_no, .inr (8, [.ref q1, .null, .null, .int 0, .int 0, .int 0])), (q1, .inl (cy 1, 6, .inl (fun _ => 0))), (q2, .inl (cy 1, 5, .inl (fun _ => 0)))] ++ X) := hD
  refine W.widen (k := 2) (n := 11) (Nat.le_of_ble_eq_true rfl) (Nat.le_of_ble_eq_true rfl) ?_
  refine va_putF (D := D) (ci := 8) (C := RX8) (T := TX8) (N := 6) (v := .ref q2) (ty := .array .int) hx hb hX8 (fun _ q => q) tyX8 tyX8_ok nmX8 hown hK hP hD hS 0 rfl rfl 1 (by decide) (hts (.fieldLink RX8 15 "ElephantLine$Stand" "at" "[I") (by decide +kernel)) (fun _ h9 => h9) rfl hin rfl (tyX8_ok 1 (by decide)) rfl rfl (Nat.le_of_ble_eq_true rfl) dX8_init_16 (fun H locs hP hD hS => ?_)
  have hP : va_P D vwCl ([(a_no, .inr (8, [.ref q1, .ref q2, .null, .int 0, .int 0, .int 0])), (q1, .inl (cy 1, 6, .inl (fun _ => 0))), (q2, .inl (cy 1, 5, .inl (fun _ => 0)))] ++ X) H := hP
  have hD : va_D A ([(a_no, .inr (8, [.ref q1, .ref q2, .null, .int 0, .int 0, .int 0])), (q1, .inl (cy 1, 6, .inl (fun _ => 0))), (q2, .inl (cy 1, 5, .inl (fun _ => 0)))] ++ X) := hD
  refine lv_aload_n hx hb dX8_init_19 rfl (lv_at hl 0 rfl) ?_
  refine lv_iconst (v := 5) hx hb dX8_init_20 (by decide) ?_
  refine nAI hx hb (hts (.arrayClass .int) (by decide +kernel)) hK hP hD hS hA 5 (by decide) (by decide) (by decide) (Nat.le_of_ble_eq_true rfl) (Nat.le_of_ble_eq_true rfl) dX8_init_21 (fun q3 H hP hD hS => ?_)
  have hP : va_P D vwCl ([(a_no, .inr (8, [.ref q1, .ref q2, .null, .int 0, .int 0, .int 0])), (q1, .inl (cy 1, 6, .inl (fun _ => 0))), (q2, .inl (cy 1, 5, .inl (fun _ => 0))), (q3, .inl (cy 1, 5, .inl (fun _ => 0)))] ++ X) H := hP
  have hD : va_D A ([(a_no, .inr (8, [.ref q1, .ref q2, .null, .int 0, .int 0, .int 0])), (q1, .inl (cy 1, 6, .inl (fun _ => 0))), (q2, .inl (cy 1, 5, .inl (fun _ => 0))), (q3, .inl (cy 1, 5, .inl (fun _ => 0)))] ++ X) := hD
  refine W.widen (k := 3) (n := 16) (Nat.le_of_ble_eq_true rfl) (Nat.le_of_ble_eq_true rfl) ?_
  refine va_putF (D := D) (ci := 8) (C := RX8) (T := TX8) (N := 6) (v := .ref q3) (ty := .array .int) hx hb hX8 (fun _ q => q) tyX8 tyX8_ok nmX8 hown hK hP hD hS 0 rfl rfl 2 (by decide) (hts (.fieldLink RX8 18 "ElephantLine$Stand" "wounds" "[I") (by decide +kernel)) (fun _ h9 => h9) rfl hin rfl (tyX8_ok 2 (by decide)) rfl rfl (Nat.le_of_ble_eq_true rfl) dX8_init_23 (fun H locs hP hD hS => ?_)
  have hP : va_P D vwCl ([(a_no, .inr (8, [.ref q1, .ref q2, .ref q3, .int 0, .int 0, .int 0])), (q1, .inl (cy 1, 6, .inl (fun _ => 0))), (q2, .inl (cy 1, 5, .inl (fun _ => 0))), (q3, .inl (cy 1, 5, .inl (fun _ => 0)))] ++ X) H := hP
  have hD : va_D A ([(a_no, .inr (8, [.ref q1, .ref q2, .ref q3, .int 0, .int 0, .int 0])), (q1, .inl (cy 1, 6, .inl (fun _ => 0))), (q2, .inl (cy 1, 5, .inl (fun _ => 0))), (q3, .inl (cy 1, 5, .inl (fun _ => 0)))] ++ X) := hD
  exact W.vret hx hb hr (fun t ht _ => ⟨⟨(q1, q2, q3), rfl, trivial, by rw [ht]; exact hP, hD⟩, hS.F ht⟩) hS.2.2 dX8_init_26
theorem hd_X2_init : yX2_init.cls ≠ "java/lang/invoke/MethodHandle" ∧ yX2_init.cls ≠ "java/lang/invoke/VarHandle" ∧ (parseMethodDescriptor yX2_init.desc).map (fun d => d.parameters.length) = some 0 := by decide +kernel
def wz_X2_init (cy : Nat → ClassId) (a_la : Nat) (u : Nat × Nat × Nat × Nat × Nat × Nat × Nat) : va_W := [(a_la, .inr (2, [.int 0, .int 0, .int 0, .ref u.1, .ref u.2.1, .int 0, .ref u.2.2.1, .ref u.2.2.2.1, .ref u.2.2.2.2.1, .ref u.2.2.2.2.2.1, .int 0, .int 0, .ref u.2.2.2.2.2.2, .int 0])), (u.1, .inl (cy 1, 6, .inl (fun _ => 0))), (u.2.1, .inl (cy 1, 6, .inl (fun _ => 0))), (u.2.2.1, .inl (cy 1, 5, .inl (fun _ => 0))), (u.2.2.2.1, .inl (cy 1, 5, .inl (fun _ => 0))), (u.2.2.2.2.1, .inl (cy 1, 5, .inl (fun _ => 0))), (u.2.2.2.2.2.1, .inl (cy 1, 5, .inl (fun _ => 0))), (u.2.2.2.2.2.2, .inl (cy 1, 36, .inl (fun _ => 0)))]
set_option maxHeartbeats 4000000 in
set_option maxRecDepth 100000 in
theorem c_X2_init (l : Launch) (D : va_G) (cy : Nat → ClassId) (A : Nat → Prop) (X : va_W) (a_la : Nat) : Met l yX2_init wo_X2_init ({ frames := 1, cells := 7, slots := 68, locals := 12 }) (wrPc D cy A [.ref a_la] ([(a_la, .inr (2, [.int 0, .int 0, .int 0, .null, .null, .int 0, .null, .null, .null, .null, .int 0, .int 0, .null, .int 0]))] ++ X)) (va_Qv (fun (_ : Nat × Nat × Nat × Nat × Nat × Nat × Nat) => True) (fun u t => va_P D vwCl (wz_X2_init cy a_la u ++ X) t.heap ∧ va_D A (wz_X2_init cy a_la u ++ X)) A) 7 68 A := by
  refine Met.ofW (cc := cX2_init) (maxL := 1) (ret := none) (by decide) rfl ?_
  intro p e s m args below meth c s₁ B hml hv
  obtain ⟨rfl, hP, hKN, hD, hA⟩ := hv
  have hK := hKN.1
  have hx := B.exec
  have hb := B.bytes
  have hr := B.returns
  have hts := wt_X2_init hKN.2.2 (([.ref a_la] : List Value).toArray)
  have hown : s.vm.findClass RX2 = some m.cls := findClass_of_methodNamed B.named
  have hlocks := B.notSynchronized
  have hin : meth.name = "<init>" := (name_of_methodNamed B.named B.method).1
  have hS : va_S A s.heap s.heap [] := va_S.rf
  have hX2 := wc_X2 hKN.2.2 (([.ref a_la] : List Value).toArray)
  have hl := lv_entry ([.ref a_la]) (n := 1) (Nat.le_of_ble_eq_true rfl)
  rw [lg_entry_eq]
  generalize (lg_sl ([.ref a_la]) ++ List.replicate (1 - (lg_sl ([.ref a_la])).length) Slot.unset).toArray = ls at hl ⊢
  have hl : lv_has ls 1 [(0, .ref a_la)] := hl
  refine lv_aload_n hx hb dX2_init_0 rfl (lv_at hl 0 rfl) ?_
  refine W.objInit hx hb hown (hts (.methodLink RX2 3 objectInit) (by decide +kernel)) (hts (.instanceMethod objectInit) (by decide +kernel)) (hts (.code objectInit ⟨#[0xb1]⟩ 1 none) (by decide +kernel)) rfl (hl.1.trans hml.symm) rfl dX2_init_1 (Nat.le_of_ble_eq_true rfl) (Nat.le_of_ble_eq_true rfl) ?_
  refine W.eq (g2 := F0 m 4 ls []) rfl ?_
  refine lv_aload_n hx hb dX2_init_4 rfl (lv_at hl 0 rfl) ?_
  refine lv_bipush (v := 6) hx hb dX2_init_5 (by decide) ?_
  refine nAI hx hb (hts (.arrayClass .int) (by decide +kernel)) hK hP hD hS hA 6 (by decide) (by decide) (by decide) (Nat.le_of_ble_eq_true rfl) (Nat.le_of_ble_eq_true rfl) dX2_init_7 (fun q1 H hP hD hS => ?_)
  have hP : va_P D vwCl ([(a_la, .inr (2, [.int 0, .int 0, .int 0, .null, .null, .int 0, .null, .null, .null, .null, .int 0, .int 0, .null, .int 0])), (q1, .inl (cy 1, 6, .inl (fun _ => 0)))] ++ X) H := hP
  have hD : va_D A ([(a_la, .inr (2, [.int 0, .int 0, .int 0, .null, .null, .int 0, .null, .null, .null, .null, .int 0, .int 0, .null, .int 0])), (q1, .inl (cy 1, 6, .inl (fun _ => 0)))] ++ X) := hD
  refine W.widen (k := 1) (n := 6) (Nat.le_of_ble_eq_true rfl) (Nat.le_of_ble_eq_true rfl) ?_
  refine va_putF (D := D) (ci := 2) (C := RX2) (T := TX2) (N := 14) (v := .ref q1) (ty := .array .int) hx hb hX2 (fun _ q => q) tyX2 tyX2_ok nmX2 hown hK hP hD hS 0 rfl rfl 3 (by decide) (hts (.fieldLink RX2 9 "ElephantLine$Land" "who" "[I") (by decide +kernel)) (fun _ h9 => h9) rfl hin rfl (tyX2_ok 3 (by decide)) rfl rfl (Nat.le_of_ble_eq_true rfl) dX2_init_9 (fun H locs hP hD hS => ?_)
  have hP : va_P D vwCl ([(a_la, .inr (2, [.int 0, .int 0, .int 0, .ref q1, .null, .int 0, .null, .null, .null, .null, .int 0, .int 0, .null, .int 0])), (q1, .inl (cy 1, 6, .inl (fun _ => 0)))] ++ X) H := hP
  have hD : va_D A ([(a_la, .inr (2, [.int 0, .int 0, .int 0, .ref q1, .null, .int 0, .null, .null, .null, .null, .int 0, .int 0, .null, .int 0])), (q1, .inl (cy 1, 6, .inl (fun _ => 0)))] ++ X) := hD
  refine lv_aload_n hx hb dX2_init_12 rfl (lv_at hl 0 rfl) ?_
  refine lv_bipush (v := 6) hx hb dX2_init_13 (by decide) ?_
  refine nAI hx hb (hts (.arrayClass .int) (by decide +kernel)) hK hP hD hS hA 6 (by decide) (by decide) (by decide) (Nat.le_of_ble_eq_true rfl) (Nat.le_of_ble_eq_true rfl) dX2_init_15 (fun q2 H hP hD hS => ?_)
  have hP : va_P D vwCl ([(a_la, .inr (2, [.int 0, .int 0, .int 0, .ref q1, .null, .int 0, .null, .null, .null, .null, .int 0, .int 0, .null, .int 0])), (q1, .inl (cy 1, 6, .inl (fun _ => 0))), (q2, .inl (cy 1, 6, .inl (fun _ => 0)))] ++ X) H := hP
  have hD : va_D A ([(a_la, .inr (2, [.int 0, .int 0, .int 0, .ref q1, .null, .int 0, .null, .null, .null, .null, .int 0, .int 0, .null, .int 0])), (q1, .inl (cy 1, 6, .inl (fun _ => 0))), (q2, .inl (cy 1, 6, .inl (fun _ => 0)))] ++ X) := hD
  refine W.widen (k := 2) (n := 12) (Nat.le_of_ble_eq_true rfl) (Nat.le_of_ble_eq_true rfl) ?_
  refine va_putF (D := D) (ci := 2) (C := RX2) (T := TX2) (N := 14) (v := .ref q2) (ty := .array .int) hx hb hX2 (fun _ q => q) tyX2 tyX2_ok nmX2 hown hK hP hD hS 0 rfl rfl 4 (by decide) (hts (.fieldLink RX2 15 "ElephantLine$Land" "firstStrong" "[I") (by decide +kernel)) (fun _ h9 => h9) rfl hin rfl (tyX2_ok 4 (by decide)) rfl rfl (Nat.le_of_ble_eq_true rfl) dX2_init_17 (fun H locs hP hD hS => ?_)
  have hP : va_P D vwCl ([(a_la, .inr (2, [.int 0, .int 0, .int 0, .ref q1, .ref q2, .int 0, .null, .null, .null, .null, .int 0, .int 0, .null, .int 0])), (q1, .inl (cy 1, 6, .inl (fun _ => 0))), (q2, .inl (cy 1, 6, .inl (fun _ => 0)))] ++ X) H := hP
  have hD : va_D A ([(a_la, .inr (2, [.int 0, .int 0, .int 0, .ref q1, .ref q2, .int 0, .null, .null, .null, .null, .int 0, .int 0, .null, .int 0])), (q1, .inl (cy 1, 6, .inl (fun _ => 0))), (q2, .inl (cy 1, 6, .inl (fun _ => 0)))] ++ X) := hD
  refine lv_aload_n hx hb dX2_init_20 rfl (lv_at hl 0 rfl) ?_
  refine lv_iconst (v := 5) hx hb dX2_init_21 (by decide) ?_
  refine nAI hx hb (hts (.arrayClass .int) (by decide +kernel)) hK hP hD hS hA 5 (by decide) (by decide) (by decide) (Nat.le_of_ble_eq_true rfl) (Nat.le_of_ble_eq_true rfl) dX2_init_22 (fun q3 H hP hD hS => ?_)
  have hP : va_P D vwCl ([(a_la, .inr (2, [.int 0, .int 0, .int 0, .ref q1, .ref q2, .int 0, .null, .null, .null, .null, .int 0, .int 0, .null, .int 0])), (q1, .inl (cy 1, 6, .inl (fun _ => 0))), (q2, .inl (cy 1, 6, .inl (fun _ => 0))), (q3, .inl (cy 1, 5, .inl (fun _ => 0)))] ++ X) H := hP
  have hD : va_D A ([(a_la, .inr (2, [.int 0, .int 0, .int 0, .ref q1, .ref q2, .int 0, .null, .null, .null, .null, .int 0, .int 0, .null, .int 0])), (q1, .inl (cy 1, 6, .inl (fun _ => 0))), (q2, .inl (cy 1, 6, .inl (fun _ => 0))), (q3, .inl (cy 1, 5, .inl (fun _ => 0)))] ++ X) := hD
  refine W.widen (k := 3) (n := 17) (Nat.le_of_ble_eq_true rfl) (Nat.le_of_ble_eq_true rfl) ?_
  refine va_putF (D := D) (ci := 2) (C := RX2) (T := TX2) (N := 14) (v := .ref q3) (ty := .array .int) hx hb hX2 (fun _ q => q) tyX2 tyX2_ok nmX2 hown hK hP hD hS 0 rfl rfl 6 (by decide) (hts (.fieldLink RX2 18 "ElephantLine$Land" "kind" "[I") (by decide +kernel)) (fun _ h9 => h9) rfl hin rfl (tyX2_ok 6 (by decide)) rfl rfl (Nat.le_of_ble_eq_true rfl) dX2_init_24 (fun H locs hP hD hS => ?_)
  have hP : va_P D vwCl ([(a_la, .inr (2, [.int 0, .int 0, .int 0, .ref q1, .ref q2, .int 0, .ref q3, .null, .null, .null, .int 0, .int 0, .null, .int 0])), (q1, .inl (cy 1, 6, .inl (fun _ => 0))), (q2, .inl (cy 1, 6, .inl (fun _ => 0))), (q3, .inl (cy 1, 5, .inl (fun _ => 0)))] ++ X) H := hP
  have hD : va_D A ([(a_la, .inr (2, [.int 0, .int 0, .int 0, .ref q1, .ref q2, .int 0, .ref q3, .null, .null, .null, .int 0, .int 0, .null, .int 0])), (q1, .inl (cy 1, 6, .inl (fun _ => 0))), (q2, .inl (cy 1, 6, .inl (fun _ => 0))), (q3, .inl (cy 1, 5, .inl (fun _ => 0)))] ++ X) := hD
  refine lv_aload_n hx hb dX2_init_27 rfl (lv_at hl 0 rfl) ?_
  refine lv_iconst (v := 5) hx hb dX2_init_28 (by decide) ?_
  refine nAI hx hb (hts (.arrayClass .int) (by decide +kernel)) hK hP hD hS hA 5 (by decide) (by decide) (by decide) (Nat.le_of_ble_eq_true rfl) (Nat.le_of_ble_eq_true rfl) dX2_init_29 (fun q4 H hP hD hS => ?_)
  have hP : va_P D vwCl ([(a_la, .inr (2, [.int 0, .int 0, .int 0, .ref q1, .ref q2, .int 0, .ref q3, .null, .null, .null, .int 0, .int 0, .null, .int 0])), (q1, .inl (cy 1, 6, .inl (fun _ => 0))), (q2, .inl (cy 1, 6, .inl (fun _ => 0))), (q3, .inl (cy 1, 5, .inl (fun _ => 0))), (q4, .inl (cy 1, 5, .inl (fun _ => 0)))] ++ X) H := hP
  have hD : va_D A ([(a_la, .inr (2, [.int 0, .int 0, .int 0, .ref q1, .ref q2, .int 0, .ref q3, .null, .null, .null, .int 0, .int 0, .null, .int 0])), (q1, .inl (cy 1, 6, .inl (fun _ => 0))), (q2, .inl (cy 1, 6, .inl (fun _ => 0))), (q3, .inl (cy 1, 5, .inl (fun _ => 0))), (q4, .inl (cy 1, 5, .inl (fun _ => 0)))] ++ X) := hD
  refine W.widen (k := 4) (n := 22) (Nat.le_of_ble_eq_true rfl) (Nat.le_of_ble_eq_true rfl) ?_
  refine va_putF (D := D) (ci := 2) (C := RX2) (T := TX2) (N := 14) (v := .ref q4) (ty := .array .int) hx hb hX2 (fun _ q => q) tyX2 tyX2_ok nmX2 hown hK hP hD hS 0 rfl rfl 7 (by decide) (hts (.fieldLink RX2 21 "ElephantLine$Land" "firstLane" "[I") (by decide +kernel)) (fun _ h9 => h9) rfl hin rfl (tyX2_ok 7 (by decide)) rfl rfl (Nat.le_of_ble_eq_true rfl) dX2_init_31 (fun H locs hP hD hS => ?_)
  have hP : va_P D vwCl ([(a_la, .inr (2, [.int 0, .int 0, .int 0, .ref q1, .ref q2, .int 0, .ref q3, .ref q4, .null, .null, .int 0, .int 0, .null, .int 0])), (q1, .inl (cy 1, 6, .inl (fun _ => 0))), (q2, .inl (cy 1, 6, .inl (fun _ => 0))), (q3, .inl (cy 1, 5, .inl (fun _ => 0))), (q4, .inl (cy 1, 5, .inl (fun _ => 0)))] ++ X) H := hP
  have hD : va_D A ([(a_la, .inr (2, [.int 0, .int 0, .int 0, .ref q1, .ref q2, .int 0, .ref q3, .ref q4, .null, .null, .int 0, .int 0, .null, .int 0])), (q1, .inl (cy 1, 6, .inl (fun _ => 0))), (q2, .inl (cy 1, 6, .inl (fun _ => 0))), (q3, .inl (cy 1, 5, .inl (fun _ => 0))), (q4, .inl (cy 1, 5, .inl (fun _ => 0)))] ++ X) := hD
  refine lv_aload_n hx hb dX2_init_34 rfl (lv_at hl 0 rfl) ?_
  refine lv_iconst (v := 5) hx hb dX2_init_35 (by decide) ?_
  refine nAI hx hb (hts (.arrayClass .int) (by decide +kernel)) hK hP hD hS hA 5 (by decide) (by decide) (by decide) (Nat.le_of_ble_eq_true rfl) (Nat.le_of_ble_eq_true rfl) dX2_init_36 (fun q5 H hP hD hS => ?_)
  have hP : va_P D vwCl ([(a_la, .inr (2, [.int 0, .int 0, .int 0, .ref q1, .ref q2, .int 0, .ref q3, .ref q4, .null, .null, .int 0, .int 0, .null, .int 0])), (q1, .inl (cy 1, 6, .inl (fun _ => 0))), (q2, .inl (cy 1, 6, .inl (fun _ => 0))), (q3, .inl (cy 1, 5, .inl (fun _ => 0))), (q4, .inl (cy 1, 5, .inl (fun _ => 0))), (q5, .inl (cy 1, 5, .inl (fun _ => 0)))] ++ X) H := hP
  have hD : va_D A ([(a_la, .inr (2, [.int 0, .int 0, .int 0, .ref q1, .ref q2, .int 0, .ref q3, .ref q4, .null, .null, .int 0, .int 0, .null, .int 0])), (q1, .inl (cy 1, 6, .inl (fun _ => 0))), (q2, .inl (cy 1, 6, .inl (fun _ => 0))), (q3, .inl (cy 1, 5, .inl (fun _ => 0))), (q4, .inl (cy 1, 5, .inl (fun _ => 0))), (q5, .inl (cy 1, 5, .inl (fun _ => 0)))] ++ X) := hD
  refine W.widen (k := 5) (n := 27) (Nat.le_of_ble_eq_true rfl) (Nat.le_of_ble_eq_true rfl) ?_
  refine va_putF (D := D) (ci := 2) (C := RX2) (T := TX2) (N := 14) (v := .ref q5) (ty := .array .int) hx hb hX2 (fun _ q => q) tyX2 tyX2_ok nmX2 hown hK hP hD hS 0 rfl rfl 8 (by decide) (hts (.fieldLink RX2 24 "ElephantLine$Land" "mood" "[I") (by decide +kernel)) (fun _ h9 => h9) rfl hin rfl (tyX2_ok 8 (by decide)) rfl rfl (Nat.le_of_ble_eq_true rfl) dX2_init_38 (fun H locs hP hD hS => ?_)
  have hP : va_P D vwCl ([(a_la, .inr (2, [.int 0, .int 0, .int 0, .ref q1, .ref q2, .int 0, .ref q3, .ref q4, .ref q5, .null, .int 0, .int 0, .null, .int 0])), (q1, .inl (cy 1, 6, .inl (fun _ => 0))), (q2, .inl (cy 1, 6, .inl (fun _ => 0))), (q3, .inl (cy 1, 5, .inl (fun _ => 0))), (q4, .inl (cy 1, 5, .inl (fun _ => 0))), (q5, .inl (cy 1, 5, .inl (fun _ => 0)))] ++ X) H := hP
  have hD : va_D A ([(a_la, .inr (2, [.int 0, .int 0, .int 0, .ref q1, .ref q2, .int 0, .ref q3, .ref q4, .ref q5, .null, .int 0, .int 0, .null, .int 0])), (q1, .inl (cy 1, 6, .inl (fun _ => 0))), (q2, .inl (cy 1, 6, .inl (fun _ => 0))), (q3, .inl (cy 1, 5, .inl (fun _ => 0))), (q4, .inl (cy 1, 5, .inl (fun _ => 0))), (q5, .inl (cy 1, 5, .inl (fun _ => 0)))] ++ X) := hD
  refine lv_aload_n hx hb dX2_init_41 rfl (lv_at hl 0 rfl) ?_
  refine lv_iconst (v := 5) hx hb dX2_init_42 (by decide) ?_
  refine nAI hx hb (hts (.arrayClass .int) (by decide +kernel)) hK hP hD hS hA 5 (by decide) (by decide) (by decide) (Nat.le_of_ble_eq_true rfl) (Nat.le_of_ble_eq_true rfl) dX2_init_43 (fun q6 H hP hD hS => ?_)
  have hP : va_P D vwCl ([(a_la, .inr (2, [.int 0, .int 0, .int 0, .ref q1, .ref q2, .int 0, .ref q3, .ref q4, .ref q5, .null, .int 0, .int 0, .null, .int 0])), (q1, .inl (cy 1, 6, .inl (fun _ => 0))), (q2, .inl (cy 1, 6, .inl (fun _ => 0))), (q3, .inl (cy 1, 5, .inl (fun _ => 0))), (q4, .inl (cy 1, 5, .inl (fun _ => 0))), (q5, .inl (cy 1, 5, .inl (fun _ => 0))), (q6, .inl (cy 1, 5, .inl (fun _ => 0)))] ++ X) H := hP
  have hD : va_D A ([(a_la, .inr (2, [.int 0, .int 0, .int 0, .ref q1, .ref q2, .int 0, .ref q3, .ref q4, .ref q5, .null, .int 0, .int 0, .null, .int 0])), (q1, .inl (cy 1, 6, .inl (fun _ => 0))), (q2, .inl (cy 1, 6, .inl (fun _ => 0))), (q3, .inl (cy 1, 5, .inl (fun _ => 0))), (q4, .inl (cy 1, 5, .inl (fun _ => 0))), (q5, .inl (cy 1, 5, .inl (fun _ => 0))), (q6, .inl (cy 1, 5, .inl (fun _ => 0)))] ++ X) := hD
  refine W.widen (k := 6) (n := 32) (Nat.le_of_ble_eq_true rfl) (Nat.le_of_ble_eq_true rfl) ?_
  refine va_putF (D := D) (ci := 2) (C := RX2) (T := TX2) (N := 14) (v := .ref q6) (ty := .array .int) hx hb hX2 (fun _ q => q) tyX2 tyX2_ok nmX2 hown hK hP hD hS 0 rfl rfl 9 (by decide) (hts (.fieldLink RX2 27 "ElephantLine$Land" "price" "[I") (by decide +kernel)) (fun _ h9 => h9) rfl hin rfl (tyX2_ok 9 (by decide)) rfl rfl (Nat.le_of_ble_eq_true rfl) dX2_init_45 (fun H locs hP hD hS => ?_)
  have hP : va_P D vwCl ([(a_la, .inr (2, [.int 0, .int 0, .int 0, .ref q1, .ref q2, .int 0, .ref q3, .ref q4, .ref q5, .ref q6, .int 0, .int 0, .null, .int 0])), (q1, .inl (cy 1, 6, .inl (fun _ => 0))), (q2, .inl (cy 1, 6, .inl (fun _ => 0))), (q3, .inl (cy 1, 5, .inl (fun _ => 0))), (q4, .inl (cy 1, 5, .inl (fun _ => 0))), (q5, .inl (cy 1, 5, .inl (fun _ => 0))), (q6, .inl (cy 1, 5, .inl (fun _ => 0)))] ++ X) H := hP
  have hD : va_D A ([(a_la, .inr (2, [.int 0, .int 0, .int 0, .ref q1, .ref q2, .int 0, .ref q3, .ref q4, .ref q5, .ref q6, .int 0, .int 0, .null, .int 0])), (q1, .inl (cy 1, 6, .inl (fun _ => 0))), (q2, .inl (cy 1, 6, .inl (fun _ => 0))), (q3, .inl (cy 1, 5, .inl (fun _ => 0))), (q4, .inl (cy 1, 5, .inl (fun _ => 0))), (q5, .inl (cy 1, 5, .inl (fun _ => 0))), (q6, .inl (cy 1, 5, .inl (fun _ => 0)))] ++ X) := hD
  refine lv_aload_n hx hb dX2_init_48 rfl (lv_at hl 0 rfl) ?_
  refine lv_bipush (v := 36) hx hb dX2_init_49 (by decide) ?_
  refine nAI hx hb (hts (.arrayClass .int) (by decide +kernel)) hK hP hD hS hA 36 (by decide) (by decide) (by decide) (Nat.le_of_ble_eq_true rfl) (Nat.le_of_ble_eq_true rfl) dX2_init_51 (fun q7 H hP hD hS => ?_)
  have hP : va_P D vwCl ([(a_la, .inr (2, [.int 0, .int 0, .int 0, .ref q1, .ref q2, .int 0, .ref q3, .ref q4, .ref q5, .ref q6, .int 0, .int 0, .null, .int 0])), (q1, .inl (cy 1, 6, .inl (fun _ => 0))), (q2, .inl (cy 1, 6, .inl (fun _ => 0))), (q3, .inl (cy 1, 5, .inl (fun _ => 0))), (q4, .inl (cy 1, 5, .inl (fun _ => 0))), (q5, .inl (cy 1, 5, .inl (fun _ => 0))), (q6, .inl (cy 1, 5, .inl (fun _ => 0))), (q7, .inl (cy 1, 36, .inl (fun _ => 0)))] ++ X) H := hP
  have hD : va_D A ([(a_la, .inr (2, [.int 0, .int 0, .int 0, .ref q1, .ref q2, .int 0, .ref q3, .ref q4, .ref q5, .ref q6, .int 0, .int 0, .null, .int 0])), (q1, .inl (cy 1, 6, .inl (fun _ => 0))), (q2, .inl (cy 1, 6, .inl (fun _ => 0))), (q3, .inl (cy 1, 5, .inl (fun _ => 0))), (q4, .inl (cy 1, 5, .inl (fun _ => 0))), (q5, .inl (cy 1, 5, .inl (fun _ => 0))), (q6, .inl (cy 1, 5, .inl (fun _ => 0))), (q7, .inl (cy 1, 36, .inl (fun _ => 0)))] ++ X) := hD
  refine W.widen (k := 7) (n := 68) (Nat.le_of_ble_eq_true rfl) (Nat.le_of_ble_eq_true rfl) ?_
  refine va_putF (D := D) (ci := 2) (C := RX2) (T := TX2) (N := 14) (v := .ref q7) (ty := .array .int) hx hb hX2 (fun _ q => q) tyX2 tyX2_ok nmX2 hown hK hP hD hS 0 rfl rfl 12 (by decide) (hts (.fieldLink RX2 30 "ElephantLine$Land" "passBetween" "[I") (by decide +kernel)) (fun _ h9 => h9) rfl hin rfl (tyX2_ok 12 (by decide)) rfl rfl (Nat.le_of_ble_eq_true rfl) dX2_init_53 (fun H locs hP hD hS => ?_)
  have hP : va_P D vwCl ([(a_la, .inr (2, [.int 0, .int 0, .int 0, .ref q1, .ref q2, .int 0, .ref q3, .ref q4, .ref q5, .ref q6, .int 0, .int 0, .ref q7, .int 0])), (q1, .inl (cy 1, 6, .inl (fun _ => 0))), (q2, .inl (cy 1, 6, .inl (fun _ => 0))), (q3, .inl (cy 1, 5, .inl (fun _ => 0))), (q4, .inl (cy 1, 5, .inl (fun _ => 0))), (q5, .inl (cy 1, 5, .inl (fun _ => 0))), (q6, .inl (cy 1, 5, .inl (fun _ => 0))), (q7, .inl (cy 1, 36, .inl (fun _ => 0)))] ++ X) H := hP
  have hD : va_D A ([(a_la, .inr (2, [.int 0, .int 0, .int 0, .ref q1, .ref q2, .int 0, .ref q3, .ref q4, .ref q5, .ref q6, .int 0, .int 0, .ref q7, .int 0])), (q1, .inl (cy 1, 6, .inl (fun _ => 0))), (q2, .inl (cy 1, 6, .inl (fun _ => 0))), (q3, .inl (cy 1, 5, .inl (fun _ => 0))), (q4, .inl (cy 1, 5, .inl (fun _ => 0))), (q5, .inl (cy 1, 5, .inl (fun _ => 0))), (q6, .inl (cy 1, 5, .inl (fun _ => 0))), (q7, .inl (cy 1, 36, .inl (fun _ => 0)))] ++ X) := hD
  exact W.vret hx hb hr (fun t ht _ => ⟨⟨(q1, q2, q3, q4, q5, q6, q7), rfl, trivial, by rw [ht]; exact hP, hD⟩, hS.F ht⟩) hS.2.2 dX2_init_56
theorem hd_X4_init : yX4_init.cls ≠ "java/lang/invoke/MethodHandle" ∧ yX4_init.cls ≠ "java/lang/invoke/VarHandle" ∧ (parseMethodDescriptor yX4_init.desc).map (fun d => d.parameters.length) = some 2 := by decide +kernel
def wz_X4_init (cy : Nat → ClassId) (a_od a_la a_no : Nat) (u : Unit) : va_W := [(a_od, .inr (4, [.ref a_la, .ref a_no]))]
set_option maxHeartbeats 4000000 in
set_option maxRecDepth 100000 in
theorem c_X4_init (l : Launch) (D : va_G) (cy : Nat → ClassId) (A : Nat → Prop) (X : va_W) (a_od a_la a_no : Nat) : Met l yX4_init wo_X4_init ({ frames := 1, cells := 0, slots := 0, locals := 12 }) (wrPc D cy A [.ref a_od, .ref a_la, .ref a_no] ([(a_od, .inr (4, [.null, .null]))] ++ X)) (va_Qv (fun (_ : Unit) => True) (fun u t => va_P D vwCl (wz_X4_init cy a_od a_la a_no u ++ X) t.heap ∧ va_D A (wz_X4_init cy a_od a_la a_no u ++ X)) A) 0 0 A := by
  refine Met.ofW (cc := cX4_init) (maxL := 3) (ret := none) (by decide) rfl ?_
  intro p e s m args below meth c s₁ B hml hv
  obtain ⟨rfl, hP, hKN, hD, hA⟩ := hv
  have hK := hKN.1
  have hx := B.exec
  have hb := B.bytes
  have hr := B.returns
  have hts := wt_X4_init hKN.2.2 (([.ref a_od, .ref a_la, .ref a_no] : List Value).toArray)
  have hown : s.vm.findClass RX4 = some m.cls := findClass_of_methodNamed B.named
  have hlocks := B.notSynchronized
  have hin : meth.name = "<init>" := (name_of_methodNamed B.named B.method).1
  have hS : va_S A s.heap s.heap [] := va_S.rf
  have hX4 := wc_X4 hKN.2.2 (([.ref a_od, .ref a_la, .ref a_no] : List Value).toArray)
  have hl := lv_entry ([.ref a_od, .ref a_la, .ref a_no]) (n := 3) (Nat.le_of_ble_eq_true rfl)
  rw [lg_entry_eq]
  generalize (lg_sl ([.ref a_od, .ref a_la, .ref a_no]) ++ List.replicate (3 - (lg_sl ([.ref a_od, .ref a_la, .ref a_no])).length) Slot.unset).toArray = ls at hl ⊢
  have hl : lv_has ls 3 [(0, .ref a_od), (1, .ref a_la), (2, .ref a_no)] := hl
  refine lv_aload_n hx hb dX4_init_0 rfl (lv_at hl 0 rfl) ?_
  refine W.objInit hx hb hown (hts (.methodLink RX4 3 objectInit) (by decide +kernel)) (hts (.instanceMethod objectInit) (by decide +kernel)) (hts (.code objectInit ⟨#[0xb1]⟩ 1 none) (by decide +kernel)) rfl (hl.1.trans hml.symm) rfl dX4_init_1 (Nat.le_of_ble_eq_true rfl) (Nat.le_of_ble_eq_true rfl) ?_
  refine W.eq (g2 := F0 m 4 ls []) rfl ?_
  refine lv_aload_n hx hb dX4_init_4 rfl (lv_at hl 0 rfl) ?_
  refine lv_aload_n hx hb dX4_init_5 rfl (lv_at hl 1 rfl) ?_
  refine va_putF (D := D) (ci := 4) (C := RX4) (T := TX4) (N := 2) (v := .ref a_la) (ty := .object "ElephantLine$Land") hx hb hX4 (fun _ q => q) tyX4 tyX4_ok nmX4 hown hK hP hD hS 0 rfl rfl 0 (by decide) (hts (.fieldLink RX4 9 "ElephantLine$Odds" "land" "LElephantLine$Land;") (by decide +kernel)) (fun _ h9 => h9) rfl hin rfl (tyX4_ok 0 (by decide)) rfl rfl (Nat.le_of_ble_eq_true rfl) dX4_init_6 (fun H locs hP hD hS => ?_)
  have hP : va_P D vwCl ([(a_od, .inr (4, [.ref a_la, .null]))] ++ X) H := hP
  have hD : va_D A ([(a_od, .inr (4, [.ref a_la, .null]))] ++ X) := hD
  refine lv_aload_n hx hb dX4_init_9 rfl (lv_at hl 0 rfl) ?_
  refine lv_aload_n hx hb dX4_init_10 rfl (lv_at hl 2 rfl) ?_
  refine va_putF (D := D) (ci := 4) (C := RX4) (T := TX4) (N := 2) (v := .ref a_no) (ty := .object "ElephantLine$Stand") hx hb hX4 (fun _ q => q) tyX4 tyX4_ok nmX4 hown hK hP hD hS 0 rfl rfl 1 (by decide) (hts (.fieldLink RX4 15 "ElephantLine$Odds" "now" "LElephantLine$Stand;") (by decide +kernel)) (fun _ h9 => h9) rfl hin rfl (tyX4_ok 1 (by decide)) rfl rfl (Nat.le_of_ble_eq_true rfl) dX4_init_11 (fun H locs hP hD hS => ?_)
  have hP : va_P D vwCl ([(a_od, .inr (4, [.ref a_la, .ref a_no]))] ++ X) H := hP
  have hD : va_D A ([(a_od, .inr (4, [.ref a_la, .ref a_no]))] ++ X) := hD
  exact W.vret hx hb hr (fun t ht _ => ⟨⟨(), rfl, trivial, by rw [ht]; exact hP, hD⟩, hS.F ht⟩) hS.2.2 dX4_init_14
theorem hd_X1_init : yX1_init.cls ≠ "java/lang/invoke/MethodHandle" ∧ yX1_init.cls ≠ "java/lang/invoke/VarHandle" ∧ (parseMethodDescriptor yX1_init.desc).map (fun d => d.parameters.length) = some 3 := by decide +kernel
def wz_X1_init (cy : Nat → ClassId) (a_ga a_la a_no a_od : Nat) (u : Nat) : va_W := [(a_ga, .inr (1, [.ref a_la, .ref a_no, .ref a_od, .ref u, .long 0])), (u, .inl (cy 2, 6, .inr (.inl (fun _ => 0))))]
set_option maxHeartbeats 4000000 in
set_option maxRecDepth 100000 in
theorem c_X1_init (l : Launch) (D : va_G) (cy : Nat → ClassId) (A : Nat → Prop) (X : va_W) (a_ga a_la a_no a_od : Nat) : Met l yX1_init wo_X1_init ({ frames := 1, cells := 1, slots := 6, locals := 12 }) (wrPc D cy A [.ref a_ga, .ref a_la, .ref a_no, .ref a_od] ([(a_ga, .inr (1, [.null, .null, .null, .null, .long 0]))] ++ X)) (va_Qv (fun (_ : Nat) => True) (fun u t => va_P D vwCl (wz_X1_init cy a_ga a_la a_no a_od u ++ X) t.heap ∧ va_D A (wz_X1_init cy a_ga a_la a_no a_od u ++ X)) A) 1 6 A := by
  refine Met.ofW (cc := cX1_init) (maxL := 4) (ret := none) (by decide) rfl ?_
  intro p e s m args below meth c s₁ B hml hv
  obtain ⟨rfl, hP, hKN, hD, hA⟩ := hv
  have hK := hKN.1
  have hx := B.exec
  have hb := B.bytes
  have hr := B.returns
  have hts := wt_X1_init hKN.2.2 (([.ref a_ga, .ref a_la, .ref a_no, .ref a_od] : List Value).toArray)
  have hown : s.vm.findClass RX1 = some m.cls := findClass_of_methodNamed B.named
  have hlocks := B.notSynchronized
  have hin : meth.name = "<init>" := (name_of_methodNamed B.named B.method).1
  have hS : va_S A s.heap s.heap [] := va_S.rf
  have hX1 := wc_X1 hKN.2.2 (([.ref a_ga, .ref a_la, .ref a_no, .ref a_od] : List Value).toArray)
  have hl := lv_entry ([.ref a_ga, .ref a_la, .ref a_no, .ref a_od]) (n := 4) (Nat.le_of_ble_eq_true rfl)
  rw [lg_entry_eq]
  generalize (lg_sl ([.ref a_ga, .ref a_la, .ref a_no, .ref a_od]) ++ List.replicate (4 - (lg_sl ([.ref a_ga, .ref a_la, .ref a_no, .ref a_od])).length) Slot.unset).toArray = ls at hl ⊢
  have hl : lv_has ls 4 [(0, .ref a_ga), (1, .ref a_la), (2, .ref a_no), (3, .ref a_od)] := hl
  refine lv_aload_n hx hb dX1_init_0 rfl (lv_at hl 0 rfl) ?_
  refine W.objInit hx hb hown (hts (.methodLink RX1 3 objectInit) (by decide +kernel)) (hts (.instanceMethod objectInit) (by decide +kernel)) (hts (.code objectInit ⟨#[0xb1]⟩ 1 none) (by decide +kernel)) rfl (hl.1.trans hml.symm) rfl dX1_init_1 (Nat.le_of_ble_eq_true rfl) (Nat.le_of_ble_eq_true rfl) ?_
  refine W.eq (g2 := F0 m 4 ls []) rfl ?_
  refine lv_aload_n hx hb dX1_init_4 rfl (lv_at hl 0 rfl) ?_
  refine lv_bipush (v := 6) hx hb dX1_init_5 (by decide) ?_
  refine nAJ hx hb (hts (.arrayClass .long) (by decide +kernel)) hK hP hD hS hA 6 (by decide) (by decide) (by decide) (Nat.le_of_ble_eq_true rfl) (Nat.le_of_ble_eq_true rfl) dX1_init_7 (fun q1 H hP hD hS => ?_)
  have hP : va_P D vwCl ([(a_ga, .inr (1, [.null, .null, .null, .null, .long 0])), (q1, .inl (cy 2, 6, .inr (.inl (fun _ => 0))))] ++ X) H := hP
  have hD : va_D A ([(a_ga, .inr (1, [.null, .null, .null, .null, .long 0])), (q1, .inl (cy 2, 6, .inr (.inl (fun _ => 0))))] ++ X) := hD
  refine W.widen (k := 1) (n := 6) (Nat.le_of_ble_eq_true rfl) (Nat.le_of_ble_eq_true rfl) ?_
  refine va_putF (D := D) (ci := 1) (C := RX1) (T := TX1) (N := 5) (v := .ref q1) (ty := .array .long) hx hb hX1 (fun _ q => q) tyX1 tyX1_ok nmX1 hown hK hP hD hS 0 rfl rfl 3 (by decide) (hts (.fieldLink RX1 9 "ElephantLine$Game" "worths" "[J") (by decide +kernel)) (fun _ h9 => h9) rfl hin rfl (tyX1_ok 3 (by decide)) rfl rfl (Nat.le_of_ble_eq_true rfl) dX1_init_9 (fun H locs hP hD hS => ?_)
  have hP : va_P D vwCl ([(a_ga, .inr (1, [.null, .null, .null, .ref q1, .long 0])), (q1, .inl (cy 2, 6, .inr (.inl (fun _ => 0))))] ++ X) H := hP
  have hD : va_D A ([(a_ga, .inr (1, [.null, .null, .null, .ref q1, .long 0])), (q1, .inl (cy 2, 6, .inr (.inl (fun _ => 0))))] ++ X) := hD
  refine lv_aload_n hx hb dX1_init_12 rfl (lv_at hl 0 rfl) ?_
  refine lv_aload_n hx hb dX1_init_13 rfl (lv_at hl 1 rfl) ?_
  refine va_putF (D := D) (ci := 1) (C := RX1) (T := TX1) (N := 5) (v := .ref a_la) (ty := .object "ElephantLine$Land") hx hb hX1 (fun _ q => q) tyX1 tyX1_ok nmX1 hown hK hP hD hS 0 rfl rfl 0 (by decide) (hts (.fieldLink RX1 15 "ElephantLine$Game" "land" "LElephantLine$Land;") (by decide +kernel)) (fun _ h9 => h9) rfl hin rfl (tyX1_ok 0 (by decide)) rfl rfl (Nat.le_of_ble_eq_true rfl) dX1_init_14 (fun H locs hP hD hS => ?_)
  have hP : va_P D vwCl ([(a_ga, .inr (1, [.ref a_la, .null, .null, .ref q1, .long 0])), (q1, .inl (cy 2, 6, .inr (.inl (fun _ => 0))))] ++ X) H := hP
  have hD : va_D A ([(a_ga, .inr (1, [.ref a_la, .null, .null, .ref q1, .long 0])), (q1, .inl (cy 2, 6, .inr (.inl (fun _ => 0))))] ++ X) := hD
  refine lv_aload_n hx hb dX1_init_17 rfl (lv_at hl 0 rfl) ?_
  refine lv_aload_n hx hb dX1_init_18 rfl (lv_at hl 2 rfl) ?_
  refine va_putF (D := D) (ci := 1) (C := RX1) (T := TX1) (N := 5) (v := .ref a_no) (ty := .object "ElephantLine$Stand") hx hb hX1 (fun _ q => q) tyX1 tyX1_ok nmX1 hown hK hP hD hS 0 rfl rfl 1 (by decide) (hts (.fieldLink RX1 19 "ElephantLine$Game" "now" "LElephantLine$Stand;") (by decide +kernel)) (fun _ h9 => h9) rfl hin rfl (tyX1_ok 1 (by decide)) rfl rfl (Nat.le_of_ble_eq_true rfl) dX1_init_19 (fun H locs hP hD hS => ?_)
  have hP : va_P D vwCl ([(a_ga, .inr (1, [.ref a_la, .ref a_no, .null, .ref q1, .long 0])), (q1, .inl (cy 2, 6, .inr (.inl (fun _ => 0))))] ++ X) H := hP
  have hD : va_D A ([(a_ga, .inr (1, [.ref a_la, .ref a_no, .null, .ref q1, .long 0])), (q1, .inl (cy 2, 6, .inr (.inl (fun _ => 0))))] ++ X) := hD
  refine lv_aload_n hx hb dX1_init_22 rfl (lv_at hl 0 rfl) ?_
  refine lv_aload_n hx hb dX1_init_23 rfl (lv_at hl 3 rfl) ?_
  refine va_putF (D := D) (ci := 1) (C := RX1) (T := TX1) (N := 5) (v := .ref a_od) (ty := .object "ElephantLine$Odds") hx hb hX1 (fun _ q => q) tyX1 tyX1_ok nmX1 hown hK hP hD hS 0 rfl rfl 2 (by decide) (hts (.fieldLink RX1 23 "ElephantLine$Game" "odds" "LElephantLine$Odds;") (by decide +kernel)) (fun _ h9 => h9) rfl hin rfl (tyX1_ok 2 (by decide)) rfl rfl (Nat.le_of_ble_eq_true rfl) dX1_init_24 (fun H locs hP hD hS => ?_)
  have hP : va_P D vwCl ([(a_ga, .inr (1, [.ref a_la, .ref a_no, .ref a_od, .ref q1, .long 0])), (q1, .inl (cy 2, 6, .inr (.inl (fun _ => 0))))] ++ X) H := hP
  have hD : va_D A ([(a_ga, .inr (1, [.ref a_la, .ref a_no, .ref a_od, .ref q1, .long 0])), (q1, .inl (cy 2, 6, .inr (.inl (fun _ => 0))))] ++ X) := hD
  exact W.vret hx hb hr (fun t ht _ => ⟨⟨q1, rfl, trivial, by rw [ht]; exact hP, hD⟩, hS.F ht⟩) hS.2.2 dX1_init_27
theorem hd_X6_init : yX6_init.cls ≠ "java/lang/invoke/MethodHandle" ∧ yX6_init.cls ≠ "java/lang/invoke/VarHandle" ∧ (parseMethodDescriptor yX6_init.desc).map (fun d => d.parameters.length) = some 3 := by decide +kernel
def wz_X6_init (cy : Nat → ClassId) (a_pl a_la a_no a_od : Nat) (u : Nat × Nat × Nat) : va_W := [(a_pl, .inr (6, [.ref a_la, .ref a_no, .ref a_od, .ref u.1, .ref u.2.1, .ref u.2.2])), (u.1, .inl (cy 2, 6, .inr (.inl (fun _ => 0)))), (u.2.1, .inl (cy 2, 384, .inr (.inl (fun _ => 0)))), (u.2.2, .inl (cy 1, 5, .inl (fun _ => 0)))]
set_option maxHeartbeats 4000000 in
set_option maxRecDepth 100000 in
theorem c_X6_init (l : Launch) (D : va_G) (cy : Nat → ClassId) (A : Nat → Prop) (X : va_W) (a_pl a_la a_no a_od : Nat) : Met l yX6_init wo_X6_init ({ frames := 1, cells := 3, slots := 395, locals := 12 }) (wrPc D cy A [.ref a_pl, .ref a_la, .ref a_no, .ref a_od] ([(a_pl, .inr (6, [.null, .null, .null, .null, .null, .null]))] ++ X)) (va_Qv (fun (_ : Nat × Nat × Nat) => True) (fun u t => va_P D vwCl (wz_X6_init cy a_pl a_la a_no a_od u ++ X) t.heap ∧ va_D A (wz_X6_init cy a_pl a_la a_no a_od u ++ X)) A) 3 395 A := by
  refine Met.ofW (cc := cX6_init) (maxL := 4) (ret := none) (by decide) rfl ?_
  intro p e s m args below meth c s₁ B hml hv
  obtain ⟨rfl, hP, hKN, hD, hA⟩ := hv
  have hK := hKN.1
  have hx := B.exec
  have hb := B.bytes
  have hr := B.returns
  have hts := wt_X6_init hKN.2.2 (([.ref a_pl, .ref a_la, .ref a_no, .ref a_od] : List Value).toArray)
  have hown : s.vm.findClass RX6 = some m.cls := findClass_of_methodNamed B.named
  have hlocks := B.notSynchronized
  have hin : meth.name = "<init>" := (name_of_methodNamed B.named B.method).1
  have hS : va_S A s.heap s.heap [] := va_S.rf
  have hX6 := wc_X6 hKN.2.2 (([.ref a_pl, .ref a_la, .ref a_no, .ref a_od] : List Value).toArray)
  have hl := lv_entry ([.ref a_pl, .ref a_la, .ref a_no, .ref a_od]) (n := 4) (Nat.le_of_ble_eq_true rfl)
  rw [lg_entry_eq]
  generalize (lg_sl ([.ref a_pl, .ref a_la, .ref a_no, .ref a_od]) ++ List.replicate (4 - (lg_sl ([.ref a_pl, .ref a_la, .ref a_no, .ref a_od])).length) Slot.unset).toArray = ls at hl ⊢
  have hl : lv_has ls 4 [(0, .ref a_pl), (1, .ref a_la), (2, .ref a_no), (3, .ref a_od)] := hl
  refine lv_aload_n hx hb dX6_init_0 rfl (lv_at hl 0 rfl) ?_
  refine W.objInit hx hb hown (hts (.methodLink RX6 3 objectInit) (by decide +kernel)) (hts (.instanceMethod objectInit) (by decide +kernel)) (hts (.code objectInit ⟨#[0xb1]⟩ 1 none) (by decide +kernel)) rfl (hl.1.trans hml.symm) rfl dX6_init_1 (Nat.le_of_ble_eq_true rfl) (Nat.le_of_ble_eq_true rfl) ?_
  refine W.eq (g2 := F0 m 4 ls []) rfl ?_
  refine lv_aload_n hx hb dX6_init_4 rfl (lv_at hl 0 rfl) ?_
  refine lv_bipush (v := 6) hx hb dX6_init_5 (by decide) ?_
  refine nAJ hx hb (hts (.arrayClass .long) (by decide +kernel)) hK hP hD hS hA 6 (by decide) (by decide) (by decide) (Nat.le_of_ble_eq_true rfl) (Nat.le_of_ble_eq_true rfl) dX6_init_7 (fun q1 H hP hD hS => ?_)
  have hP : va_P D vwCl ([(a_pl, .inr (6, [.null, .null, .null, .null, .null, .null])), (q1, .inl (cy 2, 6, .inr (.inl (fun _ => 0))))] ++ X) H := hP
  have hD : va_D A ([(a_pl, .inr (6, [.null, .null, .null, .null, .null, .null])), (q1, .inl (cy 2, 6, .inr (.inl (fun _ => 0))))] ++ X) := hD
  refine W.widen (k := 1) (n := 6) (Nat.le_of_ble_eq_true rfl) (Nat.le_of_ble_eq_true rfl) ?_
  refine va_putF (D := D) (ci := 6) (C := RX6) (T := TX6) (N := 6) (v := .ref q1) (ty := .array .long) hx hb hX6 (fun _ q => q) tyX6 tyX6_ok nmX6 hown hK hP hD hS 0 rfl rfl 3 (by decide) (hts (.fieldLink RX6 9 "ElephantLine$Placing" "worths" "[J") (by decide +kernel)) (fun _ h9 => h9) rfl hin rfl (tyX6_ok 3 (by decide)) rfl rfl (Nat.le_of_ble_eq_true rfl) dX6_init_9 (fun H locs hP hD hS => ?_)
  have hP : va_P D vwCl ([(a_pl, .inr (6, [.null, .null, .null, .ref q1, .null, .null])), (q1, .inl (cy 2, 6, .inr (.inl (fun _ => 0))))] ++ X) H := hP
  have hD : va_D A ([(a_pl, .inr (6, [.null, .null, .null, .ref q1, .null, .null])), (q1, .inl (cy 2, 6, .inr (.inl (fun _ => 0))))] ++ X) := hD
  refine lv_aload_n hx hb dX6_init_12 rfl (lv_at hl 0 rfl) ?_
  refine lv_sipush (v := 384) hx hb dX6_init_13 (by decide) ?_
  refine nAJ hx hb (hts (.arrayClass .long) (by decide +kernel)) hK hP hD hS hA 384 (by decide) (by decide) (by decide) (Nat.le_of_ble_eq_true rfl) (Nat.le_of_ble_eq_true rfl) dX6_init_16 (fun q2 H hP hD hS => ?_)
  have hP : va_P D vwCl ([(a_pl, .inr (6, [.null, .null, .null, .ref q1, .null, .null])), (q1, .inl (cy 2, 6, .inr (.inl (fun _ => 0)))), (q2, .inl (cy 2, 384, .inr (.inl (fun _ => 0))))] ++ X) H := hP
  have hD : va_D A ([(a_pl, .inr (6, [.null, .null, .null, .ref q1, .null, .null])), (q1, .inl (cy 2, 6, .inr (.inl (fun _ => 0)))), (q2, .inl (cy 2, 384, .inr (.inl (fun _ => 0))))] ++ X) := hD
  refine W.widen (k := 2) (n := 390) (Nat.le_of_ble_eq_true rfl) (Nat.le_of_ble_eq_true rfl) ?_
  refine va_putF (D := D) (ci := 6) (C := RX6) (T := TX6) (N := 6) (v := .ref q2) (ty := .array .long) hx hb hX6 (fun _ q => q) tyX6 tyX6_ok nmX6 hown hK hP hD hS 0 rfl rfl 4 (by decide) (hts (.fieldLink RX6 15 "ElephantLine$Placing" "most" "[J") (by decide +kernel)) (fun _ h9 => h9) rfl hin rfl (tyX6_ok 4 (by decide)) rfl rfl (Nat.le_of_ble_eq_true rfl) dX6_init_18 (fun H locs hP hD hS => ?_)
  have hP : va_P D vwCl ([(a_pl, .inr (6, [.null, .null, .null, .ref q1, .ref q2, .null])), (q1, .inl (cy 2, 6, .inr (.inl (fun _ => 0)))), (q2, .inl (cy 2, 384, .inr (.inl (fun _ => 0))))] ++ X) H := hP
  have hD : va_D A ([(a_pl, .inr (6, [.null, .null, .null, .ref q1, .ref q2, .null])), (q1, .inl (cy 2, 6, .inr (.inl (fun _ => 0)))), (q2, .inl (cy 2, 384, .inr (.inl (fun _ => 0))))] ++ X) := hD
  refine lv_aload_n hx hb dX6_init_21 rfl (lv_at hl 0 rfl) ?_
  refine lv_iconst (v := 5) hx hb dX6_init_22 (by decide) ?_
  refine nAI hx hb (hts (.arrayClass .int) (by decide +kernel)) hK hP hD hS hA 5 (by decide) (by decide) (by decide) (Nat.le_of_ble_eq_true rfl) (Nat.le_of_ble_eq_true rfl) dX6_init_23 (fun q3 H hP hD hS => ?_)
  have hP : va_P D vwCl ([(a_pl, .inr (6, [.null, .null, .null, .ref q1, .ref q2, .null])), (q1, .inl (cy 2, 6, .inr (.inl (fun _ => 0)))), (q2, .inl (cy 2, 384, .inr (.inl (fun _ => 0)))), (q3, .inl (cy 1, 5, .inl (fun _ => 0)))] ++ X) H := hP
  have hD : va_D A ([(a_pl, .inr (6, [.null, .null, .null, .ref q1, .ref q2, .null])), (q1, .inl (cy 2, 6, .inr (.inl (fun _ => 0)))), (q2, .inl (cy 2, 384, .inr (.inl (fun _ => 0)))), (q3, .inl (cy 1, 5, .inl (fun _ => 0)))] ++ X) := hD
  refine W.widen (k := 3) (n := 395) (Nat.le_of_ble_eq_true rfl) (Nat.le_of_ble_eq_true rfl) ?_
  refine va_putF (D := D) (ci := 6) (C := RX6) (T := TX6) (N := 6) (v := .ref q3) (ty := .array .int) hx hb hX6 (fun _ q => q) tyX6 tyX6_ok nmX6 hown hK hP hD hS 0 rfl rfl 5 (by decide) (hts (.fieldLink RX6 18 "ElephantLine$Placing" "lanes" "[I") (by decide +kernel)) (fun _ h9 => h9) rfl hin rfl (tyX6_ok 5 (by decide)) rfl rfl (Nat.le_of_ble_eq_true rfl) dX6_init_25 (fun H locs hP hD hS => ?_)
  have hP : va_P D vwCl ([(a_pl, .inr (6, [.null, .null, .null, .ref q1, .ref q2, .ref q3])), (q1, .inl (cy 2, 6, .inr (.inl (fun _ => 0)))), (q2, .inl (cy 2, 384, .inr (.inl (fun _ => 0)))), (q3, .inl (cy 1, 5, .inl (fun _ => 0)))] ++ X) H := hP
  have hD : va_D A ([(a_pl, .inr (6, [.null, .null, .null, .ref q1, .ref q2, .ref q3])), (q1, .inl (cy 2, 6, .inr (.inl (fun _ => 0)))), (q2, .inl (cy 2, 384, .inr (.inl (fun _ => 0)))), (q3, .inl (cy 1, 5, .inl (fun _ => 0)))] ++ X) := hD
  refine lv_aload_n hx hb dX6_init_28 rfl (lv_at hl 0 rfl) ?_
  refine lv_aload_n hx hb dX6_init_29 rfl (lv_at hl 1 rfl) ?_
  refine va_putF (D := D) (ci := 6) (C := RX6) (T := TX6) (N := 6) (v := .ref a_la) (ty := .object "ElephantLine$Land") hx hb hX6 (fun _ q => q) tyX6 tyX6_ok nmX6 hown hK hP hD hS 0 rfl rfl 0 (by decide) (hts (.fieldLink RX6 22 "ElephantLine$Placing" "land" "LElephantLine$Land;") (by decide +kernel)) (fun _ h9 => h9) rfl hin rfl (tyX6_ok 0 (by decide)) rfl rfl (Nat.le_of_ble_eq_true rfl) dX6_init_30 (fun H locs hP hD hS => ?_)
  have hP : va_P D vwCl ([(a_pl, .inr (6, [.ref a_la, .null, .null, .ref q1, .ref q2, .ref q3])), (q1, .inl (cy 2, 6, .inr (.inl (fun _ => 0)))), (q2, .inl (cy 2, 384, .inr (.inl (fun _ => 0)))), (q3, .inl (cy 1, 5, .inl (fun _ => 0)))] ++ X) H := hP
  have hD : va_D A ([(a_pl, .inr (6, [.ref a_la, .null, .null, .ref q1, .ref q2, .ref q3])), (q1, .inl (cy 2, 6, .inr (.inl (fun _ => 0)))), (q2, .inl (cy 2, 384, .inr (.inl (fun _ => 0)))), (q3, .inl (cy 1, 5, .inl (fun _ => 0)))] ++ X) := hD
  refine lv_aload_n hx hb dX6_init_33 rfl (lv_at hl 0 rfl) ?_
  refine lv_aload_n hx hb dX6_init_34 rfl (lv_at hl 2 rfl) ?_
  refine va_putF (D := D) (ci := 6) (C := RX6) (T := TX6) (N := 6) (v := .ref a_no) (ty := .object "ElephantLine$Stand") hx hb hX6 (fun _ q => q) tyX6 tyX6_ok nmX6 hown hK hP hD hS 0 rfl rfl 1 (by decide) (hts (.fieldLink RX6 26 "ElephantLine$Placing" "now" "LElephantLine$Stand;") (by decide +kernel)) (fun _ h9 => h9) rfl hin rfl (tyX6_ok 1 (by decide)) rfl rfl (Nat.le_of_ble_eq_true rfl) dX6_init_35 (fun H locs hP hD hS => ?_)
  have hP : va_P D vwCl ([(a_pl, .inr (6, [.ref a_la, .ref a_no, .null, .ref q1, .ref q2, .ref q3])), (q1, .inl (cy 2, 6, .inr (.inl (fun _ => 0)))), (q2, .inl (cy 2, 384, .inr (.inl (fun _ => 0)))), (q3, .inl (cy 1, 5, .inl (fun _ => 0)))] ++ X) H := hP
  have hD : va_D A ([(a_pl, .inr (6, [.ref a_la, .ref a_no, .null, .ref q1, .ref q2, .ref q3])), (q1, .inl (cy 2, 6, .inr (.inl (fun _ => 0)))), (q2, .inl (cy 2, 384, .inr (.inl (fun _ => 0)))), (q3, .inl (cy 1, 5, .inl (fun _ => 0)))] ++ X) := hD
  refine lv_aload_n hx hb dX6_init_38 rfl (lv_at hl 0 rfl) ?_
  refine lv_aload_n hx hb dX6_init_39 rfl (lv_at hl 3 rfl) ?_
  refine va_putF (D := D) (ci := 6) (C := RX6) (T := TX6) (N := 6) (v := .ref a_od) (ty := .object "ElephantLine$Odds") hx hb hX6 (fun _ q => q) tyX6 tyX6_ok nmX6 hown hK hP hD hS 0 rfl rfl 2 (by decide) (hts (.fieldLink RX6 30 "ElephantLine$Placing" "odds" "LElephantLine$Odds;") (by decide +kernel)) (fun _ h9 => h9) rfl hin rfl (tyX6_ok 2 (by decide)) rfl rfl (Nat.le_of_ble_eq_true rfl) dX6_init_40 (fun H locs hP hD hS => ?_)
  have hP : va_P D vwCl ([(a_pl, .inr (6, [.ref a_la, .ref a_no, .ref a_od, .ref q1, .ref q2, .ref q3])), (q1, .inl (cy 2, 6, .inr (.inl (fun _ => 0)))), (q2, .inl (cy 2, 384, .inr (.inl (fun _ => 0)))), (q3, .inl (cy 1, 5, .inl (fun _ => 0)))] ++ X) H := hP
  have hD : va_D A ([(a_pl, .inr (6, [.ref a_la, .ref a_no, .ref a_od, .ref q1, .ref q2, .ref q3])), (q1, .inl (cy 2, 6, .inr (.inl (fun _ => 0)))), (q2, .inl (cy 2, 384, .inr (.inl (fun _ => 0)))), (q3, .inl (cy 1, 5, .inl (fun _ => 0)))] ++ X) := hD
  exact W.vret hx hb hr (fun t ht _ => ⟨⟨(q1, q2, q3), rfl, trivial, by rw [ht]; exact hP, hD⟩, hS.F ht⟩) hS.2.2 dX6_init_43
theorem hd_X3_init : yX3_init.cls ≠ "java/lang/invoke/MethodHandle" ∧ yX3_init.cls ≠ "java/lang/invoke/VarHandle" ∧ (parseMethodDescriptor yX3_init.desc).map (fun d => d.parameters.length) = some 1 := by decide +kernel
def wz_X3_init (cy : Nat → ClassId) (a_ma a_la : Nat) (u : Nat × Nat) : va_W := [(a_ma, .inr (3, [.ref a_la, .ref u.1, .ref u.2, .int 0, .int 0])), (u.1, .inl (cy 1, 6, .inl (fun _ => 0))), (u.2, .inl (cy 1, 6, .inl (fun _ => 0)))]
set_option maxHeartbeats 4000000 in
set_option maxRecDepth 100000 in
theorem c_X3_init (l : Launch) (D : va_G) (cy : Nat → ClassId) (A : Nat → Prop) (X : va_W) (a_ma a_la : Nat) : Met l yX3_init wo_X3_init ({ frames := 1, cells := 2, slots := 12, locals := 12 }) (wrPc D cy A [.ref a_ma, .ref a_la] ([(a_ma, .inr (3, [.null, .null, .null, .int 0, .int 0]))] ++ X)) (va_Qv (fun (_ : Nat × Nat) => True) (fun u t => va_P D vwCl (wz_X3_init cy a_ma a_la u ++ X) t.heap ∧ va_D A (wz_X3_init cy a_ma a_la u ++ X)) A) 2 12 A := by
  refine Met.ofW (cc := cX3_init) (maxL := 2) (ret := none) (by decide) rfl ?_
  intro p e s m args below meth c s₁ B hml hv
  obtain ⟨rfl, hP, hKN, hD, hA⟩ := hv
  have hK := hKN.1
  have hx := B.exec
  have hb := B.bytes
  have hr := B.returns
  have hts := wt_X3_init hKN.2.2 (([.ref a_ma, .ref a_la] : List Value).toArray)
  have hown : s.vm.findClass RX3 = some m.cls := findClass_of_methodNamed B.named
  have hlocks := B.notSynchronized
  have hin : meth.name = "<init>" := (name_of_methodNamed B.named B.method).1
  have hS : va_S A s.heap s.heap [] := va_S.rf
  have hX3 := wc_X3 hKN.2.2 (([.ref a_ma, .ref a_la] : List Value).toArray)
  have hl := lv_entry ([.ref a_ma, .ref a_la]) (n := 2) (Nat.le_of_ble_eq_true rfl)
  rw [lg_entry_eq]
  generalize (lg_sl ([.ref a_ma, .ref a_la]) ++ List.replicate (2 - (lg_sl ([.ref a_ma, .ref a_la])).length) Slot.unset).toArray = ls at hl ⊢
  have hl : lv_has ls 2 [(0, .ref a_ma), (1, .ref a_la)] := hl
  refine lv_aload_n hx hb dX3_init_0 rfl (lv_at hl 0 rfl) ?_
  refine W.objInit hx hb hown (hts (.methodLink RX3 3 objectInit) (by decide +kernel)) (hts (.instanceMethod objectInit) (by decide +kernel)) (hts (.code objectInit ⟨#[0xb1]⟩ 1 none) (by decide +kernel)) rfl (hl.1.trans hml.symm) rfl dX3_init_1 (Nat.le_of_ble_eq_true rfl) (Nat.le_of_ble_eq_true rfl) ?_
  refine W.eq (g2 := F0 m 4 ls []) rfl ?_
  refine lv_aload_n hx hb dX3_init_4 rfl (lv_at hl 0 rfl) ?_
  refine lv_bipush (v := 6) hx hb dX3_init_5 (by decide) ?_
  refine nAI hx hb (hts (.arrayClass .int) (by decide +kernel)) hK hP hD hS hA 6 (by decide) (by decide) (by decide) (Nat.le_of_ble_eq_true rfl) (Nat.le_of_ble_eq_true rfl) dX3_init_7 (fun q1 H hP hD hS => ?_)
  have hP : va_P D vwCl ([(a_ma, .inr (3, [.null, .null, .null, .int 0, .int 0])), (q1, .inl (cy 1, 6, .inl (fun _ => 0)))] ++ X) H := hP
  have hD : va_D A ([(a_ma, .inr (3, [.null, .null, .null, .int 0, .int 0])), (q1, .inl (cy 1, 6, .inl (fun _ => 0)))] ++ X) := hD
  refine W.widen (k := 1) (n := 6) (Nat.le_of_ble_eq_true rfl) (Nat.le_of_ble_eq_true rfl) ?_
  refine va_putF (D := D) (ci := 3) (C := RX3) (T := TX3) (N := 5) (v := .ref q1) (ty := .array .int) hx hb hX3 (fun _ q => q) tyX3 tyX3_ok nmX3 hown hK hP hD hS 0 rfl rfl 1 (by decide) (hts (.fieldLink RX3 9 "ElephantLine$Marching" "walked" "[I") (by decide +kernel)) (fun _ h9 => h9) rfl hin rfl (tyX3_ok 1 (by decide)) rfl rfl (Nat.le_of_ble_eq_true rfl) dX3_init_9 (fun H locs hP hD hS => ?_)
  have hP : va_P D vwCl ([(a_ma, .inr (3, [.null, .ref q1, .null, .int 0, .int 0])), (q1, .inl (cy 1, 6, .inl (fun _ => 0)))] ++ X) H := hP
  have hD : va_D A ([(a_ma, .inr (3, [.null, .ref q1, .null, .int 0, .int 0])), (q1, .inl (cy 1, 6, .inl (fun _ => 0)))] ++ X) := hD
  refine lv_aload_n hx hb dX3_init_12 rfl (lv_at hl 0 rfl) ?_
  refine lv_bipush (v := 6) hx hb dX3_init_13 (by decide) ?_
  refine nAI hx hb (hts (.arrayClass .int) (by decide +kernel)) hK hP hD hS hA 6 (by decide) (by decide) (by decide) (Nat.le_of_ble_eq_true rfl) (Nat.le_of_ble_eq_true rfl) dX3_init_15 (fun q2 H hP hD hS => ?_)
  have hP : va_P D vwCl ([(a_ma, .inr (3, [.null, .ref q1, .null, .int 0, .int 0])), (q1, .inl (cy 1, 6, .inl (fun _ => 0))), (q2, .inl (cy 1, 6, .inl (fun _ => 0)))] ++ X) H := hP
  have hD : va_D A ([(a_ma, .inr (3, [.null, .ref q1, .null, .int 0, .int 0])), (q1, .inl (cy 1, 6, .inl (fun _ => 0))), (q2, .inl (cy 1, 6, .inl (fun _ => 0)))] ++ X) := hD
  refine W.widen (k := 2) (n := 12) (Nat.le_of_ble_eq_true rfl) (Nat.le_of_ble_eq_true rfl) ?_
  refine va_putF (D := D) (ci := 3) (C := RX3) (T := TX3) (N := 5) (v := .ref q2) (ty := .array .int) hx hb hX3 (fun _ q => q) tyX3 tyX3_ok nmX3 hown hK hP hD hS 0 rfl rfl 2 (by decide) (hts (.fieldLink RX3 15 "ElephantLine$Marching" "way" "[I") (by decide +kernel)) (fun _ h9 => h9) rfl hin rfl (tyX3_ok 2 (by decide)) rfl rfl (Nat.le_of_ble_eq_true rfl) dX3_init_17 (fun H locs hP hD hS => ?_)
  have hP : va_P D vwCl ([(a_ma, .inr (3, [.null, .ref q1, .ref q2, .int 0, .int 0])), (q1, .inl (cy 1, 6, .inl (fun _ => 0))), (q2, .inl (cy 1, 6, .inl (fun _ => 0)))] ++ X) H := hP
  have hD : va_D A ([(a_ma, .inr (3, [.null, .ref q1, .ref q2, .int 0, .int 0])), (q1, .inl (cy 1, 6, .inl (fun _ => 0))), (q2, .inl (cy 1, 6, .inl (fun _ => 0)))] ++ X) := hD
  refine lv_aload_n hx hb dX3_init_20 rfl (lv_at hl 0 rfl) ?_
  refine lv_aload_n hx hb dX3_init_21 rfl (lv_at hl 1 rfl) ?_
  refine va_putF (D := D) (ci := 3) (C := RX3) (T := TX3) (N := 5) (v := .ref a_la) (ty := .object "ElephantLine$Land") hx hb hX3 (fun _ q => q) tyX3 tyX3_ok nmX3 hown hK hP hD hS 0 rfl rfl 0 (by decide) (hts (.fieldLink RX3 18 "ElephantLine$Marching" "land" "LElephantLine$Land;") (by decide +kernel)) (fun _ h9 => h9) rfl hin rfl (tyX3_ok 0 (by decide)) rfl rfl (Nat.le_of_ble_eq_true rfl) dX3_init_22 (fun H locs hP hD hS => ?_)
  have hP : va_P D vwCl ([(a_ma, .inr (3, [.ref a_la, .ref q1, .ref q2, .int 0, .int 0])), (q1, .inl (cy 1, 6, .inl (fun _ => 0))), (q2, .inl (cy 1, 6, .inl (fun _ => 0)))] ++ X) H := hP
  have hD : va_D A ([(a_ma, .inr (3, [.ref a_la, .ref q1, .ref q2, .int 0, .int 0])), (q1, .inl (cy 1, 6, .inl (fun _ => 0))), (q2, .inl (cy 1, 6, .inl (fun _ => 0)))] ++ X) := hD
  exact W.vret hx hb hr (fun t ht _ => ⟨⟨(q1, q2), rfl, trivial, by rw [ht]; exact hP, hD⟩, hS.F ht⟩) hS.2.2 dX3_init_25
theorem hd_X10_init : yX10_init.cls ≠ "java/lang/invoke/MethodHandle" ∧ yX10_init.cls ≠ "java/lang/invoke/VarHandle" ∧ (parseMethodDescriptor yX10_init.desc).map (fun d => d.parameters.length) = some 3 := by decide +kernel
def wz_X10_init (cy : Nat → ClassId) (a_tr a_la a_no a_od : Nat) (u : Nat × Nat) : va_W := [(a_tr, .inr (10, [.ref a_la, .ref a_no, .ref a_od, .ref u.1, .ref u.2, .int 0, .int 0, .int 0])), (u.1, .inl (cy 1, 5, .inl (fun _ => 0))), (u.2, .inl (cy 1, 5, .inl (fun _ => 0)))]
set_option maxHeartbeats 4000000 in
set_option maxRecDepth 100000 in
theorem c_X10_init (l : Launch) (D : va_G) (cy : Nat → ClassId) (A : Nat → Prop) (X : va_W) (a_tr a_la a_no a_od : Nat) : Met l yX10_init wo_X10_init ({ frames := 1, cells := 2, slots := 10, locals := 12 }) (wrPc D cy A [.ref a_tr, .ref a_la, .ref a_no, .ref a_od] ([(a_tr, .inr (10, [.null, .null, .null, .null, .null, .int 0, .int 0, .int 0]))] ++ X)) (va_Qv (fun (_ : Nat × Nat) => True) (fun u t => va_P D vwCl (wz_X10_init cy a_tr a_la a_no a_od u ++ X) t.heap ∧ va_D A (wz_X10_init cy a_tr a_la a_no a_od u ++ X)) A) 2 10 A := by
  refine Met.ofW (cc := cX10_init) (maxL := 4) (ret := none) (by decide) rfl ?_
  intro p e s m args below meth c s₁ B hml hv
  obtain ⟨rfl, hP, hKN, hD, hA⟩ := hv
  have hK := hKN.1
  have hx := B.exec
  have hb := B.bytes
  have hr := B.returns
  have hts := wt_X10_init hKN.2.2 (([.ref a_tr, .ref a_la, .ref a_no, .ref a_od] : List Value).toArray)
  have hown : s.vm.findClass RX10 = some m.cls := findClass_of_methodNamed B.named
  have hlocks := B.notSynchronized
  have hin : meth.name = "<init>" := (name_of_methodNamed B.named B.method).1
  have hS : va_S A s.heap s.heap [] := va_S.rf
  have hX10 := wc_X10 hKN.2.2 (([.ref a_tr, .ref a_la, .ref a_no, .ref a_od] : List Value).toArray)
  have hl := lv_entry ([.ref a_tr, .ref a_la, .ref a_no, .ref a_od]) (n := 4) (Nat.le_of_ble_eq_true rfl)
  rw [lg_entry_eq]
  generalize (lg_sl ([.ref a_tr, .ref a_la, .ref a_no, .ref a_od]) ++ List.replicate (4 - (lg_sl ([.ref a_tr, .ref a_la, .ref a_no, .ref a_od])).length) Slot.unset).toArray = ls at hl ⊢
  have hl : lv_has ls 4 [(0, .ref a_tr), (1, .ref a_la), (2, .ref a_no), (3, .ref a_od)] := hl
  refine lv_aload_n hx hb dX10_init_0 rfl (lv_at hl 0 rfl) ?_
  refine W.objInit hx hb hown (hts (.methodLink RX10 3 objectInit) (by decide +kernel)) (hts (.instanceMethod objectInit) (by decide +kernel)) (hts (.code objectInit ⟨#[0xb1]⟩ 1 none) (by decide +kernel)) rfl (hl.1.trans hml.symm) rfl dX10_init_1 (Nat.le_of_ble_eq_true rfl) (Nat.le_of_ble_eq_true rfl) ?_
  refine W.eq (g2 := F0 m 4 ls []) rfl ?_
  refine lv_aload_n hx hb dX10_init_4 rfl (lv_at hl 0 rfl) ?_
  refine lv_iconst (v := 5) hx hb dX10_init_5 (by decide) ?_
  refine nAI hx hb (hts (.arrayClass .int) (by decide +kernel)) hK hP hD hS hA 5 (by decide) (by decide) (by decide) (Nat.le_of_ble_eq_true rfl) (Nat.le_of_ble_eq_true rfl) dX10_init_6 (fun q1 H hP hD hS => ?_)
  have hP : va_P D vwCl ([(a_tr, .inr (10, [.null, .null, .null, .null, .null, .int 0, .int 0, .int 0])), (q1, .inl (cy 1, 5, .inl (fun _ => 0)))] ++ X) H := hP
  have hD : va_D A ([(a_tr, .inr (10, [.null, .null, .null, .null, .null, .int 0, .int 0, .int 0])), (q1, .inl (cy 1, 5, .inl (fun _ => 0)))] ++ X) := hD
  refine W.widen (k := 1) (n := 5) (Nat.le_of_ble_eq_true rfl) (Nat.le_of_ble_eq_true rfl) ?_
  refine va_putF (D := D) (ci := 10) (C := RX10) (T := TX10) (N := 8) (v := .ref q1) (ty := .array .int) hx hb hX10 (fun _ q => q) tyX10 tyX10_ok nmX10 hown hK hP hD hS 0 rfl rfl 3 (by decide) (hts (.fieldLink RX10 9 "ElephantLine$Trumpets" "turns" "[I") (by decide +kernel)) (fun _ h9 => h9) rfl hin rfl (tyX10_ok 3 (by decide)) rfl rfl (Nat.le_of_ble_eq_true rfl) dX10_init_8 (fun H locs hP hD hS => ?_)
  have hP : va_P D vwCl ([(a_tr, .inr (10, [.null, .null, .null, .ref q1, .null, .int 0, .int 0, .int 0])), (q1, .inl (cy 1, 5, .inl (fun _ => 0)))] ++ X) H := hP
  have hD : va_D A ([(a_tr, .inr (10, [.null, .null, .null, .ref q1, .null, .int 0, .int 0, .int 0])), (q1, .inl (cy 1, 5, .inl (fun _ => 0)))] ++ X) := hD
  refine lv_aload_n hx hb dX10_init_11 rfl (lv_at hl 0 rfl) ?_
  refine lv_iconst (v := 5) hx hb dX10_init_12 (by decide) ?_
  refine nAI hx hb (hts (.arrayClass .int) (by decide +kernel)) hK hP hD hS hA 5 (by decide) (by decide) (by decide) (Nat.le_of_ble_eq_true rfl) (Nat.le_of_ble_eq_true rfl) dX10_init_13 (fun q2 H hP hD hS => ?_)
  have hP : va_P D vwCl ([(a_tr, .inr (10, [.null, .null, .null, .ref q1, .null, .int 0, .int 0, .int 0])), (q1, .inl (cy 1, 5, .inl (fun _ => 0))), (q2, .inl (cy 1, 5, .inl (fun _ => 0)))] ++ X) H := hP
  have hD : va_D A ([(a_tr, .inr (10, [.null, .null, .null, .ref q1, .null, .int 0, .int 0, .int 0])), (q1, .inl (cy 1, 5, .inl (fun _ => 0))), (q2, .inl (cy 1, 5, .inl (fun _ => 0)))] ++ X) := hD
  refine W.widen (k := 2) (n := 10) (Nat.le_of_ble_eq_true rfl) (Nat.le_of_ble_eq_true rfl) ?_
  refine va_putF (D := D) (ci := 10) (C := RX10) (T := TX10) (N := 8) (v := .ref q2) (ty := .array .int) hx hb hX10 (fun _ q => q) tyX10 tyX10_ok nmX10 hown hK hP hD hS 0 rfl rfl 4 (by decide) (hts (.fieldLink RX10 15 "ElephantLine$Trumpets" "setsWith" "[I") (by decide +kernel)) (fun _ h9 => h9) rfl hin rfl (tyX10_ok 4 (by decide)) rfl rfl (Nat.le_of_ble_eq_true rfl) dX10_init_15 (fun H locs hP hD hS => ?_)
  have hP : va_P D vwCl ([(a_tr, .inr (10, [.null, .null, .null, .ref q1, .ref q2, .int 0, .int 0, .int 0])), (q1, .inl (cy 1, 5, .inl (fun _ => 0))), (q2, .inl (cy 1, 5, .inl (fun _ => 0)))] ++ X) H := hP
  have hD : va_D A ([(a_tr, .inr (10, [.null, .null, .null, .ref q1, .ref q2, .int 0, .int 0, .int 0])), (q1, .inl (cy 1, 5, .inl (fun _ => 0))), (q2, .inl (cy 1, 5, .inl (fun _ => 0)))] ++ X) := hD
  refine lv_aload_n hx hb dX10_init_18 rfl (lv_at hl 0 rfl) ?_
  refine lv_aload_n hx hb dX10_init_19 rfl (lv_at hl 1 rfl) ?_
  refine va_putF (D := D) (ci := 10) (C := RX10) (T := TX10) (N := 8) (v := .ref a_la) (ty := .object "ElephantLine$Land") hx hb hX10 (fun _ q => q) tyX10 tyX10_ok nmX10 hown hK hP hD hS 0 rfl rfl 0 (by decide) (hts (.fieldLink RX10 18 "ElephantLine$Trumpets" "land" "LElephantLine$Land;") (by decide +kernel)) (fun _ h9 => h9) rfl hin rfl (tyX10_ok 0 (by decide)) rfl rfl (Nat.le_of_ble_eq_true rfl) dX10_init_20 (fun H locs hP hD hS => ?_)
  have hP : va_P D vwCl ([(a_tr, .inr (10, [.ref a_la, .null, .null, .ref q1, .ref q2, .int 0, .int 0, .int 0])), (q1, .inl (cy 1, 5, .inl (fun _ => 0))), (q2, .inl (cy 1, 5, .inl (fun _ => 0)))] ++ X) H := hP
  have hD : va_D A ([(a_tr, .inr (10, [.ref a_la, .null, .null, .ref q1, .ref q2, .int 0, .int 0, .int 0])), (q1, .inl (cy 1, 5, .inl (fun _ => 0))), (q2, .inl (cy 1, 5, .inl (fun _ => 0)))] ++ X) := hD
  refine lv_aload_n hx hb dX10_init_23 rfl (lv_at hl 0 rfl) ?_
  refine lv_aload_n hx hb dX10_init_24 rfl (lv_at hl 2 rfl) ?_
  refine va_putF (D := D) (ci := 10) (C := RX10) (T := TX10) (N := 8) (v := .ref a_no) (ty := .object "ElephantLine$Stand") hx hb hX10 (fun _ q => q) tyX10 tyX10_ok nmX10 hown hK hP hD hS 0 rfl rfl 1 (by decide) (hts (.fieldLink RX10 22 "ElephantLine$Trumpets" "now" "LElephantLine$Stand;") (by decide +kernel)) (fun _ h9 => h9) rfl hin rfl (tyX10_ok 1 (by decide)) rfl rfl (Nat.le_of_ble_eq_true rfl) dX10_init_25 (fun H locs hP hD hS => ?_)
  have hP : va_P D vwCl ([(a_tr, .inr (10, [.ref a_la, .ref a_no, .null, .ref q1, .ref q2, .int 0, .int 0, .int 0])), (q1, .inl (cy 1, 5, .inl (fun _ => 0))), (q2, .inl (cy 1, 5, .inl (fun _ => 0)))] ++ X) H := hP
  have hD : va_D A ([(a_tr, .inr (10, [.ref a_la, .ref a_no, .null, .ref q1, .ref q2, .int 0, .int 0, .int 0])), (q1, .inl (cy 1, 5, .inl (fun _ => 0))), (q2, .inl (cy 1, 5, .inl (fun _ => 0)))] ++ X) := hD
  refine lv_aload_n hx hb dX10_init_28 rfl (lv_at hl 0 rfl) ?_
  refine lv_aload_n hx hb dX10_init_29 rfl (lv_at hl 3 rfl) ?_
  refine va_putF (D := D) (ci := 10) (C := RX10) (T := TX10) (N := 8) (v := .ref a_od) (ty := .object "ElephantLine$Odds") hx hb hX10 (fun _ q => q) tyX10 tyX10_ok nmX10 hown hK hP hD hS 0 rfl rfl 2 (by decide) (hts (.fieldLink RX10 26 "ElephantLine$Trumpets" "odds" "LElephantLine$Odds;") (by decide +kernel)) (fun _ h9 => h9) rfl hin rfl (tyX10_ok 2 (by decide)) rfl rfl (Nat.le_of_ble_eq_true rfl) dX10_init_30 (fun H locs hP hD hS => ?_)
  have hP : va_P D vwCl ([(a_tr, .inr (10, [.ref a_la, .ref a_no, .ref a_od, .ref q1, .ref q2, .int 0, .int 0, .int 0])), (q1, .inl (cy 1, 5, .inl (fun _ => 0))), (q2, .inl (cy 1, 5, .inl (fun _ => 0)))] ++ X) H := hP
  have hD : va_D A ([(a_tr, .inr (10, [.ref a_la, .ref a_no, .ref a_od, .ref q1, .ref q2, .int 0, .int 0, .int 0])), (q1, .inl (cy 1, 5, .inl (fun _ => 0))), (q2, .inl (cy 1, 5, .inl (fun _ => 0)))] ++ X) := hD
  exact W.vret hx hb hr (fun t ht _ => ⟨⟨(q1, q2), rfl, trivial, by rw [ht]; exact hP, hD⟩, hS.F ht⟩) hS.2.2 dX10_init_33
theorem hd_X0_init : yX0_init.cls ≠ "java/lang/invoke/MethodHandle" ∧ yX0_init.cls ≠ "java/lang/invoke/VarHandle" ∧ (parseMethodDescriptor yX0_init.desc).map (fun d => d.parameters.length) = some 3 := by decide +kernel
def wz_X0_init (cy : Nat → ClassId) (a_fi a_la a_no a_od : Nat) (u : Nat × Nat) : va_W := [(a_fi, .inr (0, [.ref a_la, .ref a_no, .ref a_od, .ref u.1, .int 0, .int 0, .int 0, .int 0, .int 0, .int 0, .int 0, .ref u.2])), (u.1, .inl (cy 1, 6, .inl (fun _ => 0))), (u.2, .inl (cy 1, 5, .inl (fun _ => 0)))]
set_option maxHeartbeats 4000000 in
set_option maxRecDepth 100000 in
theorem c_X0_init (l : Launch) (D : va_G) (cy : Nat → ClassId) (A : Nat → Prop) (X : va_W) (a_fi a_la a_no a_od : Nat) : Met l yX0_init wo_X0_init ({ frames := 1, cells := 2, slots := 11, locals := 12 }) (wrPc D cy A [.ref a_fi, .ref a_la, .ref a_no, .ref a_od] ([(a_fi, .inr (0, [.null, .null, .null, .null, .int 0, .int 0, .int 0, .int 0, .int 0, .int 0, .int 0, .null]))] ++ X)) (va_Qv (fun (_ : Nat × Nat) => True) (fun u t => va_P D vwCl (wz_X0_init cy a_fi a_la a_no a_od u ++ X) t.heap ∧ va_D A (wz_X0_init cy a_fi a_la a_no a_od u ++ X)) A) 2 11 A := by
  refine Met.ofW (cc := cX0_init) (maxL := 4) (ret := none) (by decide) rfl ?_
  intro p e s m args below meth c s₁ B hml hv
  obtain ⟨rfl, hP, hKN, hD, hA⟩ := hv
  have hK := hKN.1
  have hx := B.exec
  have hb := B.bytes
  have hr := B.returns
  have hts := wt_X0_init hKN.2.2 (([.ref a_fi, .ref a_la, .ref a_no, .ref a_od] : List Value).toArray)
  have hown : s.vm.findClass RX0 = some m.cls := findClass_of_methodNamed B.named
  have hlocks := B.notSynchronized
  have hin : meth.name = "<init>" := (name_of_methodNamed B.named B.method).1
  have hS : va_S A s.heap s.heap [] := va_S.rf
  have hX0 := wc_X0 hKN.2.2 (([.ref a_fi, .ref a_la, .ref a_no, .ref a_od] : List Value).toArray)
  have hl := lv_entry ([.ref a_fi, .ref a_la, .ref a_no, .ref a_od]) (n := 4) (Nat.le_of_ble_eq_true rfl)
  rw [lg_entry_eq]
  generalize (lg_sl ([.ref a_fi, .ref a_la, .ref a_no, .ref a_od]) ++ List.replicate (4 - (lg_sl ([.ref a_fi, .ref a_la, .ref a_no, .ref a_od])).length) Slot.unset).toArray = ls at hl ⊢
  have hl : lv_has ls 4 [(0, .ref a_fi), (1, .ref a_la), (2, .ref a_no), (3, .ref a_od)] := hl
  refine lv_aload_n hx hb dX0_init_0 rfl (lv_at hl 0 rfl) ?_
  refine W.objInit hx hb hown (hts (.methodLink RX0 3 objectInit) (by decide +kernel)) (hts (.instanceMethod objectInit) (by decide +kernel)) (hts (.code objectInit ⟨#[0xb1]⟩ 1 none) (by decide +kernel)) rfl (hl.1.trans hml.symm) rfl dX0_init_1 (Nat.le_of_ble_eq_true rfl) (Nat.le_of_ble_eq_true rfl) ?_
  refine W.eq (g2 := F0 m 4 ls []) rfl ?_
  refine lv_aload_n hx hb dX0_init_4 rfl (lv_at hl 0 rfl) ?_
  refine lv_bipush (v := 6) hx hb dX0_init_5 (by decide) ?_
  refine nAI hx hb (hts (.arrayClass .int) (by decide +kernel)) hK hP hD hS hA 6 (by decide) (by decide) (by decide) (Nat.le_of_ble_eq_true rfl) (Nat.le_of_ble_eq_true rfl) dX0_init_7 (fun q1 H hP hD hS => ?_)
  have hP : va_P D vwCl ([(a_fi, .inr (0, [.null, .null, .null, .null, .int 0, .int 0, .int 0, .int 0, .int 0, .int 0, .int 0, .null])), (q1, .inl (cy 1, 6, .inl (fun _ => 0)))] ++ X) H := hP
  have hD : va_D A ([(a_fi, .inr (0, [.null, .null, .null, .null, .int 0, .int 0, .int 0, .int 0, .int 0, .int 0, .int 0, .null])), (q1, .inl (cy 1, 6, .inl (fun _ => 0)))] ++ X) := hD
  refine W.widen (k := 1) (n := 6) (Nat.le_of_ble_eq_true rfl) (Nat.le_of_ble_eq_true rfl) ?_
  refine va_putF (D := D) (ci := 0) (C := RX0) (T := TX0) (N := 12) (v := .ref q1) (ty := .array .int) hx hb hX0 (fun _ q => q) tyX0 tyX0_ok nmX0 hown hK hP hD hS 0 rfl rfl 3 (by decide) (hts (.fieldLink RX0 9 "ElephantLine$Fight" "left" "[I") (by decide +kernel)) (fun _ h9 => h9) rfl hin rfl (tyX0_ok 3 (by decide)) rfl rfl (Nat.le_of_ble_eq_true rfl) dX0_init_9 (fun H locs hP hD hS => ?_)
  have hP : va_P D vwCl ([(a_fi, .inr (0, [.null, .null, .null, .ref q1, .int 0, .int 0, .int 0, .int 0, .int 0, .int 0, .int 0, .null])), (q1, .inl (cy 1, 6, .inl (fun _ => 0)))] ++ X) H := hP
  have hD : va_D A ([(a_fi, .inr (0, [.null, .null, .null, .ref q1, .int 0, .int 0, .int 0, .int 0, .int 0, .int 0, .int 0, .null])), (q1, .inl (cy 1, 6, .inl (fun _ => 0)))] ++ X) := hD
  refine lv_aload_n hx hb dX0_init_12 rfl (lv_at hl 0 rfl) ?_
  refine lv_iconst (v := 5) hx hb dX0_init_13 (by decide) ?_
  refine nAI hx hb (hts (.arrayClass .int) (by decide +kernel)) hK hP hD hS hA 5 (by decide) (by decide) (by decide) (Nat.le_of_ble_eq_true rfl) (Nat.le_of_ble_eq_true rfl) dX0_init_14 (fun q2 H hP hD hS => ?_)
  have hP : va_P D vwCl ([(a_fi, .inr (0, [.null, .null, .null, .ref q1, .int 0, .int 0, .int 0, .int 0, .int 0, .int 0, .int 0, .null])), (q1, .inl (cy 1, 6, .inl (fun _ => 0))), (q2, .inl (cy 1, 5, .inl (fun _ => 0)))] ++ X) H := hP
  have hD : va_D A ([(a_fi, .inr (0, [.null, .null, .null, .ref q1, .int 0, .int 0, .int 0, .int 0, .int 0, .int 0, .int 0, .null])), (q1, .inl (cy 1, 6, .inl (fun _ => 0))), (q2, .inl (cy 1, 5, .inl (fun _ => 0)))] ++ X) := hD
  refine W.widen (k := 2) (n := 11) (Nat.le_of_ble_eq_true rfl) (Nat.le_of_ble_eq_true rfl) ?_
  refine va_putF (D := D) (ci := 0) (C := RX0) (T := TX0) (N := 12) (v := .ref q2) (ty := .array .int) hx hb hX0 (fun _ q => q) tyX0 tyX0_ok nmX0 hown hK hP hD hS 0 rfl rfl 11 (by decide) (hts (.fieldLink RX0 15 "ElephantLine$Fight" "crossings" "[I") (by decide +kernel)) (fun _ h9 => h9) rfl hin rfl (tyX0_ok 11 (by decide)) rfl rfl (Nat.le_of_ble_eq_true rfl) dX0_init_16 (fun H locs hP hD hS => ?_)
  have hP : va_P D vwCl ([(a_fi, .inr (0, [.null, .null, .null, .ref q1, .int 0, .int 0, .int 0, .int 0, .int 0, .int 0, .int 0, .ref q2])), (q1, .inl (cy 1, 6, .inl (fun _ => 0))), (q2, .inl (cy 1, 5, .inl (fun _ => 0)))] ++ X) H := hP
  have hD : va_D A ([(a_fi, .inr (0, [.null, .null, .null, .ref q1, .int 0, .int 0, .int 0, .int 0, .int 0, .int 0, .int 0, .ref q2])), (q1, .inl (cy 1, 6, .inl (fun _ => 0))), (q2, .inl (cy 1, 5, .inl (fun _ => 0)))] ++ X) := hD
  refine lv_aload_n hx hb dX0_init_19 rfl (lv_at hl 0 rfl) ?_
  refine lv_aload_n hx hb dX0_init_20 rfl (lv_at hl 1 rfl) ?_
  refine va_putF (D := D) (ci := 0) (C := RX0) (T := TX0) (N := 12) (v := .ref a_la) (ty := .object "ElephantLine$Land") hx hb hX0 (fun _ q => q) tyX0 tyX0_ok nmX0 hown hK hP hD hS 0 rfl rfl 0 (by decide) (hts (.fieldLink RX0 18 "ElephantLine$Fight" "land" "LElephantLine$Land;") (by decide +kernel)) (fun _ h9 => h9) rfl hin rfl (tyX0_ok 0 (by decide)) rfl rfl (Nat.le_of_ble_eq_true rfl) dX0_init_21 (fun H locs hP hD hS => ?_)
  have hP : va_P D vwCl ([(a_fi, .inr (0, [.ref a_la, .null, .null, .ref q1, .int 0, .int 0, .int 0, .int 0, .int 0, .int 0, .int 0, .ref q2])), (q1, .inl (cy 1, 6, .inl (fun _ => 0))), (q2, .inl (cy 1, 5, .inl (fun _ => 0)))] ++ X) H := hP
  have hD : va_D A ([(a_fi, .inr (0, [.ref a_la, .null, .null, .ref q1, .int 0, .int 0, .int 0, .int 0, .int 0, .int 0, .int 0, .ref q2])), (q1, .inl (cy 1, 6, .inl (fun _ => 0))), (q2, .inl (cy 1, 5, .inl (fun _ => 0)))] ++ X) := hD
  refine lv_aload_n hx hb dX0_init_24 rfl (lv_at hl 0 rfl) ?_
  refine lv_aload_n hx hb dX0_init_25 rfl (lv_at hl 2 rfl) ?_
  refine va_putF (D := D) (ci := 0) (C := RX0) (T := TX0) (N := 12) (v := .ref a_no) (ty := .object "ElephantLine$Stand") hx hb hX0 (fun _ q => q) tyX0 tyX0_ok nmX0 hown hK hP hD hS 0 rfl rfl 1 (by decide) (hts (.fieldLink RX0 22 "ElephantLine$Fight" "now" "LElephantLine$Stand;") (by decide +kernel)) (fun _ h9 => h9) rfl hin rfl (tyX0_ok 1 (by decide)) rfl rfl (Nat.le_of_ble_eq_true rfl) dX0_init_26 (fun H locs hP hD hS => ?_)
  have hP : va_P D vwCl ([(a_fi, .inr (0, [.ref a_la, .ref a_no, .null, .ref q1, .int 0, .int 0, .int 0, .int 0, .int 0, .int 0, .int 0, .ref q2])), (q1, .inl (cy 1, 6, .inl (fun _ => 0))), (q2, .inl (cy 1, 5, .inl (fun _ => 0)))] ++ X) H := hP
  have hD : va_D A ([(a_fi, .inr (0, [.ref a_la, .ref a_no, .null, .ref q1, .int 0, .int 0, .int 0, .int 0, .int 0, .int 0, .int 0, .ref q2])), (q1, .inl (cy 1, 6, .inl (fun _ => 0))), (q2, .inl (cy 1, 5, .inl (fun _ => 0)))] ++ X) := hD
  refine lv_aload_n hx hb dX0_init_29 rfl (lv_at hl 0 rfl) ?_
  refine lv_aload_n hx hb dX0_init_30 rfl (lv_at hl 3 rfl) ?_
  refine va_putF (D := D) (ci := 0) (C := RX0) (T := TX0) (N := 12) (v := .ref a_od) (ty := .object "ElephantLine$Odds") hx hb hX0 (fun _ q => q) tyX0 tyX0_ok nmX0 hown hK hP hD hS 0 rfl rfl 2 (by decide) (hts (.fieldLink RX0 26 "ElephantLine$Fight" "odds" "LElephantLine$Odds;") (by decide +kernel)) (fun _ h9 => h9) rfl hin rfl (tyX0_ok 2 (by decide)) rfl rfl (Nat.le_of_ble_eq_true rfl) dX0_init_31 (fun H locs hP hD hS => ?_)
  have hP : va_P D vwCl ([(a_fi, .inr (0, [.ref a_la, .ref a_no, .ref a_od, .ref q1, .int 0, .int 0, .int 0, .int 0, .int 0, .int 0, .int 0, .ref q2])), (q1, .inl (cy 1, 6, .inl (fun _ => 0))), (q2, .inl (cy 1, 5, .inl (fun _ => 0)))] ++ X) H := hP
  have hD : va_D A ([(a_fi, .inr (0, [.ref a_la, .ref a_no, .ref a_od, .ref q1, .int 0, .int 0, .int 0, .int 0, .int 0, .int 0, .int 0, .ref q2])), (q1, .inl (cy 1, 6, .inl (fun _ => 0))), (q2, .inl (cy 1, 5, .inl (fun _ => 0)))] ++ X) := hD
  exact W.vret hx hb hr (fun t ht _ => ⟨⟨(q1, q2), rfl, trivial, by rw [ht]; exact hP, hD⟩, hS.F ht⟩) hS.2.2 dX0_init_34
theorem hd_X9_init : yX9_init.cls ≠ "java/lang/invoke/MethodHandle" ∧ yX9_init.cls ≠ "java/lang/invoke/VarHandle" ∧ (parseMethodDescriptor yX9_init.desc).map (fun d => d.parameters.length) = some 1 := by decide +kernel
def wz_X9_init (cy : Nat → ClassId) (a_tk a_tape : Nat) (u : Unit) : va_W := [(a_tk, .inr (9, [.ref a_tape, .int 0, .int 0, .int 0, .int 0]))]
set_option maxHeartbeats 4000000 in
set_option maxRecDepth 100000 in
theorem c_X9_init (l : Launch) (D : va_G) (cy : Nat → ClassId) (A : Nat → Prop) (X : va_W) (a_tk a_tape : Nat) : Met l yX9_init wo_X9_init ({ frames := 1, cells := 0, slots := 0, locals := 12 }) (wrPc D cy A [.ref a_tk, .ref a_tape] ([(a_tk, .inr (9, [.null, .int 0, .int 0, .int 0, .int 0]))] ++ X)) (va_Qv (fun (_ : Unit) => True) (fun u t => va_P D vwCl (wz_X9_init cy a_tk a_tape u ++ X) t.heap ∧ va_D A (wz_X9_init cy a_tk a_tape u ++ X)) A) 0 0 A := by
  refine Met.ofW (cc := cX9_init) (maxL := 2) (ret := none) (by decide) rfl ?_
  intro p e s m args below meth c s₁ B hml hv
  obtain ⟨rfl, hP, hKN, hD, hA⟩ := hv
  have hK := hKN.1
  have hx := B.exec
  have hb := B.bytes
  have hr := B.returns
  have hts := wt_X9_init hKN.2.2 (([.ref a_tk, .ref a_tape] : List Value).toArray)
  have hown : s.vm.findClass RX9 = some m.cls := findClass_of_methodNamed B.named
  have hlocks := B.notSynchronized
  have hin : meth.name = "<init>" := (name_of_methodNamed B.named B.method).1
  have hS : va_S A s.heap s.heap [] := va_S.rf
  have hX9 := wc_X9 hKN.2.2 (([.ref a_tk, .ref a_tape] : List Value).toArray)
  have hl := lv_entry ([.ref a_tk, .ref a_tape]) (n := 2) (Nat.le_of_ble_eq_true rfl)
  rw [lg_entry_eq]
  generalize (lg_sl ([.ref a_tk, .ref a_tape]) ++ List.replicate (2 - (lg_sl ([.ref a_tk, .ref a_tape])).length) Slot.unset).toArray = ls at hl ⊢
  have hl : lv_has ls 2 [(0, .ref a_tk), (1, .ref a_tape)] := hl
  refine lv_aload_n hx hb dX9_init_0 rfl (lv_at hl 0 rfl) ?_
  refine W.objInit hx hb hown (hts (.methodLink RX9 1 objectInit) (by decide +kernel)) (hts (.instanceMethod objectInit) (by decide +kernel)) (hts (.code objectInit ⟨#[0xb1]⟩ 1 none) (by decide +kernel)) rfl (hl.1.trans hml.symm) rfl dX9_init_1 (Nat.le_of_ble_eq_true rfl) (Nat.le_of_ble_eq_true rfl) ?_
  refine W.eq (g2 := F0 m 4 ls []) rfl ?_
  refine lv_aload_n hx hb dX9_init_4 rfl (lv_at hl 0 rfl) ?_
  refine lv_aload_n hx hb dX9_init_5 rfl (lv_at hl 1 rfl) ?_
  refine va_putF (D := D) (ci := 9) (C := RX9) (T := TX9) (N := 5) (v := .ref a_tape) (ty := .array .byte) hx hb hX9 (fun _ q => q) tyX9 tyX9_ok nmX9 hown hK hP hD hS 0 rfl rfl 0 (by decide) (hts (.fieldLink RX9 7 "ElephantLine$Tokens" "tape" "[B") (by decide +kernel)) (fun _ h9 => h9) rfl hin rfl (tyX9_ok 0 (by decide)) rfl rfl (Nat.le_of_ble_eq_true rfl) dX9_init_6 (fun H locs hP hD hS => ?_)
  have hP : va_P D vwCl ([(a_tk, .inr (9, [.ref a_tape, .int 0, .int 0, .int 0, .int 0]))] ++ X) H := hP
  have hD : va_D A ([(a_tk, .inr (9, [.ref a_tape, .int 0, .int 0, .int 0, .int 0]))] ++ X) := hD
  exact W.vret hx hb hr (fun t ht _ => ⟨⟨(), rfl, trivial, by rw [ht]; exact hP, hD⟩, hS.F ht⟩) hS.2.2 dX9_init_9
theorem hd_X12_init : yX12_init.cls ≠ "java/lang/invoke/MethodHandle" ∧ yX12_init.cls ≠ "java/lang/invoke/VarHandle" ∧ (parseMethodDescriptor yX12_init.desc).map (fun d => d.parameters.length) = some 0 := by decide +kernel
def wz_X12_init (cy : Nat → ClassId) (a_re : Nat) (u : Nat × Nat × Nat × Nat × Nat × Nat × Nat × Nat × Nat × Nat) : va_W := [(a_re, .inr (12, [.int 0, .int 0, .int 0, .int 0, .int 0, .int 0, .int 0, .int 0, .ref u.1, .ref u.2.1, .ref u.2.2.1, .ref u.2.2.2.1, .ref u.2.2.2.2.1, .ref u.2.2.2.2.2.1, .ref u.2.2.2.2.2.2.1, .ref u.2.2.2.2.2.2.2.1, .ref u.2.2.2.2.2.2.2.2.1, .ref u.2.2.2.2.2.2.2.2.2])), (u.1, .inl (cy 1, 6, .inl (fun _ => 0))), (u.2.1, .inl (cy 1, 6, .inl (fun _ => 0))), (u.2.2.1, .inl (cy 1, 5, .inl (fun _ => 0))), (u.2.2.2.1, .inl (cy 1, 5, .inl (fun _ => 0))), (u.2.2.2.2.1, .inl (cy 1, 5, .inl (fun _ => 0))), (u.2.2.2.2.2.1, .inl (cy 1, 5, .inl (fun _ => 0))), (u.2.2.2.2.2.2.1, .inl (cy 1, 36, .inl (fun _ => 0))), (u.2.2.2.2.2.2.2.1, .inl (cy 2, 11, .inr (.inl (fun _ => 0)))), (u.2.2.2.2.2.2.2.2.1, .inl (cy 1, 11, .inl (fun _ => 0))), (u.2.2.2.2.2.2.2.2.2, .inl (cy 1, 11, .inl (fun _ => 0)))]
set_option maxHeartbeats 4000000 in
set_option maxRecDepth 100000 in
theorem c_X12_init (l : Launch) (D : va_G) (cy : Nat → ClassId) (A : Nat → Prop) (X : va_W) (a_re : Nat) : Met l yX12_init wo_X12_init ({ frames := 1, cells := 10, slots := 101, locals := 12 }) (wrPc D cy A [.ref a_re] ([(a_re, .inr (12, [.int 0, .int 0, .int 0, .int 0, .int 0, .int 0, .int 0, .int 0, .null, .null, .null, .null, .null, .null, .null, .null, .null, .null]))] ++ X)) (va_Qv (fun (_ : Nat × Nat × Nat × Nat × Nat × Nat × Nat × Nat × Nat × Nat) => True) (fun u t => va_P D vwCl (wz_X12_init cy a_re u ++ X) t.heap ∧ va_D A (wz_X12_init cy a_re u ++ X)) A) 10 101 A := by
  refine Met.ofW (cc := cX12_init) (maxL := 1) (ret := none) (by decide) rfl ?_
  intro p e s m args below meth c s₁ B hml hv
  obtain ⟨rfl, hP, hKN, hD, hA⟩ := hv
  have hK := hKN.1
  have hx := B.exec
  have hb := B.bytes
  have hr := B.returns
  have hts := wt_X12_init hKN.2.2 (([.ref a_re] : List Value).toArray)
  have hown : s.vm.findClass RX12 = some m.cls := findClass_of_methodNamed B.named
  have hlocks := B.notSynchronized
  have hin : meth.name = "<init>" := (name_of_methodNamed B.named B.method).1
  have hS : va_S A s.heap s.heap [] := va_S.rf
  have hX12 := wc_X12 hKN.2.2 (([.ref a_re] : List Value).toArray)
  have hl := lv_entry ([.ref a_re]) (n := 1) (Nat.le_of_ble_eq_true rfl)
  rw [lg_entry_eq]
  generalize (lg_sl ([.ref a_re]) ++ List.replicate (1 - (lg_sl ([.ref a_re])).length) Slot.unset).toArray = ls at hl ⊢
  have hl : lv_has ls 1 [(0, .ref a_re)] := hl
  refine lv_aload_n hx hb dX12_init_0 rfl (lv_at hl 0 rfl) ?_
  refine W.objInit hx hb hown (hts (.methodLink RX12 3 objectInit) (by decide +kernel)) (hts (.instanceMethod objectInit) (by decide +kernel)) (hts (.code objectInit ⟨#[0xb1]⟩ 1 none) (by decide +kernel)) rfl (hl.1.trans hml.symm) rfl dX12_init_1 (Nat.le_of_ble_eq_true rfl) (Nat.le_of_ble_eq_true rfl) ?_
  refine W.eq (g2 := F0 m 4 ls []) rfl ?_
  refine lv_aload_n hx hb dX12_init_4 rfl (lv_at hl 0 rfl) ?_
  refine lv_bipush (v := 6) hx hb dX12_init_5 (by decide) ?_
  refine nAI hx hb (hts (.arrayClass .int) (by decide +kernel)) hK hP hD hS hA 6 (by decide) (by decide) (by decide) (Nat.le_of_ble_eq_true rfl) (Nat.le_of_ble_eq_true rfl) dX12_init_7 (fun q1 H hP hD hS => ?_)
  have hP : va_P D vwCl ([(a_re, .inr (12, [.int 0, .int 0, .int 0, .int 0, .int 0, .int 0, .int 0, .int 0, .null, .null, .null, .null, .null, .null, .null, .null, .null, .null])), (q1, .inl (cy 1, 6, .inl (fun _ => 0)))] ++ X) H := hP
  have hD : va_D A ([(a_re, .inr (12, [.int 0, .int 0, .int 0, .int 0, .int 0, .int 0, .int 0, .int 0, .null, .null, .null, .null, .null, .null, .null, .null, .null, .null])), (q1, .inl (cy 1, 6, .inl (fun _ => 0)))] ++ X) := hD
  refine W.widen (k := 1) (n := 6) (Nat.le_of_ble_eq_true rfl) (Nat.le_of_ble_eq_true rfl) ?_
  refine va_putF (D := D) (ci := 12) (C := RX12) (T := TX12) (N := 18) (v := .ref q1) (ty := .array .int) hx hb hX12 (fun _ q => q) tyX12 tyX12_ok nmX12 hown hK hP hD hS 0 rfl rfl 8 (by decide) (hts (.fieldLink RX12 9 "ElephantLineModel$War" "who" "[I") (by decide +kernel)) (fun _ h9 => h9) rfl hin rfl (tyX12_ok 8 (by decide)) rfl rfl (Nat.le_of_ble_eq_true rfl) dX12_init_9 (fun H locs hP hD hS => ?_)
  have hP : va_P D vwCl ([(a_re, .inr (12, [.int 0, .int 0, .int 0, .int 0, .int 0, .int 0, .int 0, .int 0, .ref q1, .null, .null, .null, .null, .null, .null, .null, .null, .null])), (q1, .inl (cy 1, 6, .inl (fun _ => 0)))] ++ X) H := hP
  have hD : va_D A ([(a_re, .inr (12, [.int 0, .int 0, .int 0, .int 0, .int 0, .int 0, .int 0, .int 0, .ref q1, .null, .null, .null, .null, .null, .null, .null, .null, .null])), (q1, .inl (cy 1, 6, .inl (fun _ => 0)))] ++ X) := hD
  refine lv_aload_n hx hb dX12_init_12 rfl (lv_at hl 0 rfl) ?_
  refine lv_bipush (v := 6) hx hb dX12_init_13 (by decide) ?_
  refine nAI hx hb (hts (.arrayClass .int) (by decide +kernel)) hK hP hD hS hA 6 (by decide) (by decide) (by decide) (Nat.le_of_ble_eq_true rfl) (Nat.le_of_ble_eq_true rfl) dX12_init_15 (fun q2 H hP hD hS => ?_)
  have hP : va_P D vwCl ([(a_re, .inr (12, [.int 0, .int 0, .int 0, .int 0, .int 0, .int 0, .int 0, .int 0, .ref q1, .null, .null, .null, .null, .null, .null, .null, .null, .null])), (q1, .inl (cy 1, 6, .inl (fun _ => 0))), (q2, .inl (cy 1, 6, .inl (fun _ => 0)))] ++ X) H := hP
  have hD : va_D A ([(a_re, .inr (12, [.int 0, .int 0, .int 0, .int 0, .int 0, .int 0, .int 0, .int 0, .ref q1, .null, .null, .null, .null, .null, .null, .null, .null, .null])), (q1, .inl (cy 1, 6, .inl (fun _ => 0))), (q2, .inl (cy 1, 6, .inl (fun _ => 0)))] ++ X) := hD
  refine W.widen (k := 2) (n := 12) (Nat.le_of_ble_eq_true rfl) (Nat.le_of_ble_eq_true rfl) ?_
  refine va_putF (D := D) (ci := 12) (C := RX12) (T := TX12) (N := 18) (v := .ref q2) (ty := .array .int) hx hb hX12 (fun _ q => q) tyX12 tyX12_ok nmX12 hown hK hP hD hS 0 rfl rfl 9 (by decide) (hts (.fieldLink RX12 15 "ElephantLineModel$War" "strong" "[I") (by decide +kernel)) (fun _ h9 => h9) rfl hin rfl (tyX12_ok 9 (by decide)) rfl rfl (Nat.le_of_ble_eq_true rfl) dX12_init_17 (fun H locs hP hD hS => ?_)
  have hP : va_P D vwCl ([(a_re, .inr (12, [.int 0, .int 0, .int 0, .int 0, .int 0, .int 0, .int 0, .int 0, .ref q1, .ref q2, .null, .null, .null, .null, .null, .null, .null, .null])), (q1, .inl (cy 1, 6, .inl (fun _ => 0))), (q2, .inl (cy 1, 6, .inl (fun _ => 0)))] ++ X) H := hP
  have hD : va_D A ([(a_re, .inr (12, [.int 0, .int 0, .int 0, .int 0, .int 0, .int 0, .int 0, .int 0, .ref q1, .ref q2, .null, .null, .null, .null, .null, .null, .null, .null])), (q1, .inl (cy 1, 6, .inl (fun _ => 0))), (q2, .inl (cy 1, 6, .inl (fun _ => 0)))] ++ X) := hD
  refine lv_aload_n hx hb dX12_init_20 rfl (lv_at hl 0 rfl) ?_
  refine lv_iconst (v := 5) hx hb dX12_init_21 (by decide) ?_
  refine nAI hx hb (hts (.arrayClass .int) (by decide +kernel)) hK hP hD hS hA 5 (by decide) (by decide) (by decide) (Nat.le_of_ble_eq_true rfl) (Nat.le_of_ble_eq_true rfl) dX12_init_22 (fun q3 H hP hD hS => ?_)
  have hP : va_P D vwCl ([(a_re, .inr (12, [.int 0, .int 0, .int 0, .int 0, .int 0, .int 0, .int 0, .int 0, .ref q1, .ref q2, .null, .null, .null, .null, .null, .null, .null, .null])), (q1, .inl (cy 1, 6, .inl (fun _ => 0))), (q2, .inl (cy 1, 6, .inl (fun _ => 0))), (q3, .inl (cy 1, 5, .inl (fun _ => 0)))] ++ X) H := hP
  have hD : va_D A ([(a_re, .inr (12, [.int 0, .int 0, .int 0, .int 0, .int 0, .int 0, .int 0, .int 0, .ref q1, .ref q2, .null, .null, .null, .null, .null, .null, .null, .null])), (q1, .inl (cy 1, 6, .inl (fun _ => 0))), (q2, .inl (cy 1, 6, .inl (fun _ => 0))), (q3, .inl (cy 1, 5, .inl (fun _ => 0)))] ++ X) := hD
  refine W.widen (k := 3) (n := 17) (Nat.le_of_ble_eq_true rfl) (Nat.le_of_ble_eq_true rfl) ?_
  refine va_putF (D := D) (ci := 12) (C := RX12) (T := TX12) (N := 18) (v := .ref q3) (ty := .array .int) hx hb hX12 (fun _ q => q) tyX12 tyX12_ok nmX12 hown hK hP hD hS 0 rfl rfl 10 (by decide) (hts (.fieldLink RX12 18 "ElephantLineModel$War" "kind" "[I") (by decide +kernel)) (fun _ h9 => h9) rfl hin rfl (tyX12_ok 10 (by decide)) rfl rfl (Nat.le_of_ble_eq_true rfl) dX12_init_24 (fun H locs hP hD hS => ?_)
  have hP : va_P D vwCl ([(a_re, .inr (12, [.int 0, .int 0, .int 0, .int 0, .int 0, .int 0, .int 0, .int 0, .ref q1, .ref q2, .ref q3, .null, .null, .null, .null, .null, .null, .null])), (q1, .inl (cy 1, 6, .inl (fun _ => 0))), (q2, .inl (cy 1, 6, .inl (fun _ => 0))), (q3, .inl (cy 1, 5, .inl (fun _ => 0)))] ++ X) H := hP
  have hD : va_D A ([(a_re, .inr (12, [.int 0, .int 0, .int 0, .int 0, .int 0, .int 0, .int 0, .int 0, .ref q1, .ref q2, .ref q3, .null, .null, .null, .null, .null, .null, .null])), (q1, .inl (cy 1, 6, .inl (fun _ => 0))), (q2, .inl (cy 1, 6, .inl (fun _ => 0))), (q3, .inl (cy 1, 5, .inl (fun _ => 0)))] ++ X) := hD
  refine lv_aload_n hx hb dX12_init_27 rfl (lv_at hl 0 rfl) ?_
  refine lv_iconst (v := 5) hx hb dX12_init_28 (by decide) ?_
  refine nAI hx hb (hts (.arrayClass .int) (by decide +kernel)) hK hP hD hS hA 5 (by decide) (by decide) (by decide) (Nat.le_of_ble_eq_true rfl) (Nat.le_of_ble_eq_true rfl) dX12_init_29 (fun q4 H hP hD hS => ?_)
  have hP : va_P D vwCl ([(a_re, .inr (12, [.int 0, .int 0, .int 0, .int 0, .int 0, .int 0, .int 0, .int 0, .ref q1, .ref q2, .ref q3, .null, .null, .null, .null, .null, .null, .null])), (q1, .inl (cy 1, 6, .inl (fun _ => 0))), (q2, .inl (cy 1, 6, .inl (fun _ => 0))), (q3, .inl (cy 1, 5, .inl (fun _ => 0))), (q4, .inl (cy 1, 5, .inl (fun _ => 0)))] ++ X) H := hP
  have hD : va_D A ([(a_re, .inr (12, [.int 0, .int 0, .int 0, .int 0, .int 0, .int 0, .int 0, .int 0, .ref q1, .ref q2, .ref q3, .null, .null, .null, .null, .null, .null, .null])), (q1, .inl (cy 1, 6, .inl (fun _ => 0))), (q2, .inl (cy 1, 6, .inl (fun _ => 0))), (q3, .inl (cy 1, 5, .inl (fun _ => 0))), (q4, .inl (cy 1, 5, .inl (fun _ => 0)))] ++ X) := hD
  refine W.widen (k := 4) (n := 22) (Nat.le_of_ble_eq_true rfl) (Nat.le_of_ble_eq_true rfl) ?_
  refine va_putF (D := D) (ci := 12) (C := RX12) (T := TX12) (N := 18) (v := .ref q4) (ty := .array .int) hx hb hX12 (fun _ q => q) tyX12 tyX12_ok nmX12 hown hK hP hD hS 0 rfl rfl 11 (by decide) (hts (.fieldLink RX12 21 "ElephantLineModel$War" "lane" "[I") (by decide +kernel)) (fun _ h9 => h9) rfl hin rfl (tyX12_ok 11 (by decide)) rfl rfl (Nat.le_of_ble_eq_true rfl) dX12_init_31 (fun H locs hP hD hS => ?_)
  have hP : va_P D vwCl ([(a_re, .inr (12, [.int 0, .int 0, .int 0, .int 0, .int 0, .int 0, .int 0, .int 0, .ref q1, .ref q2, .ref q3, .ref q4, .null, .null, .null, .null, .null, .null])), (q1, .inl (cy 1, 6, .inl (fun _ => 0))), (q2, .inl (cy 1, 6, .inl (fun _ => 0))), (q3, .inl (cy 1, 5, .inl (fun _ => 0))), (q4, .inl (cy 1, 5, .inl (fun _ => 0)))] ++ X) H := hP
  have hD : va_D A ([(a_re, .inr (12, [.int 0, .int 0, .int 0, .int 0, .int 0, .int 0, .int 0, .int 0, .ref q1, .ref q2, .ref q3, .ref q4, .null, .null, .null, .null, .null, .null])), (q1, .inl (cy 1, 6, .inl (fun _ => 0))), (q2, .inl (cy 1, 6, .inl (fun _ => 0))), (q3, .inl (cy 1, 5, .inl (fun _ => 0))), (q4, .inl (cy 1, 5, .inl (fun _ => 0)))] ++ X) := hD
  refine lv_aload_n hx hb dX12_init_34 rfl (lv_at hl 0 rfl) ?_
  refine lv_iconst (v := 5) hx hb dX12_init_35 (by decide) ?_
  refine nAI hx hb (hts (.arrayClass .int) (by decide +kernel)) hK hP hD hS hA 5 (by decide) (by decide) (by decide) (Nat.le_of_ble_eq_true rfl) (Nat.le_of_ble_eq_true rfl) dX12_init_36 (fun q5 H hP hD hS => ?_)
  have hP : va_P D vwCl ([(a_re, .inr (12, [.int 0, .int 0, .int 0, .int 0, .int 0, .int 0, .int 0, .int 0, .ref q1, .ref q2, .ref q3, .ref q4, .null, .null, .null, .null, .null, .null])), (q1, .inl (cy 1, 6, .inl (fun _ => 0))), (q2, .inl (cy 1, 6, .inl (fun _ => 0))), (q3, .inl (cy 1, 5, .inl (fun _ => 0))), (q4, .inl (cy 1, 5, .inl (fun _ => 0))), (q5, .inl (cy 1, 5, .inl (fun _ => 0)))] ++ X) H := hP
  have hD : va_D A ([(a_re, .inr (12, [.int 0, .int 0, .int 0, .int 0, .int 0, .int 0, .int 0, .int 0, .ref q1, .ref q2, .ref q3, .ref q4, .null, .null, .null, .null, .null, .null])), (q1, .inl (cy 1, 6, .inl (fun _ => 0))), (q2, .inl (cy 1, 6, .inl (fun _ => 0))), (q3, .inl (cy 1, 5, .inl (fun _ => 0))), (q4, .inl (cy 1, 5, .inl (fun _ => 0))), (q5, .inl (cy 1, 5, .inl (fun _ => 0)))] ++ X) := hD
  refine W.widen (k := 5) (n := 27) (Nat.le_of_ble_eq_true rfl) (Nat.le_of_ble_eq_true rfl) ?_
  refine va_putF (D := D) (ci := 12) (C := RX12) (T := TX12) (N := 18) (v := .ref q5) (ty := .array .int) hx hb hX12 (fun _ q => q) tyX12 tyX12_ok nmX12 hown hK hP hD hS 0 rfl rfl 12 (by decide) (hts (.fieldLink RX12 24 "ElephantLineModel$War" "mood" "[I") (by decide +kernel)) (fun _ h9 => h9) rfl hin rfl (tyX12_ok 12 (by decide)) rfl rfl (Nat.le_of_ble_eq_true rfl) dX12_init_38 (fun H locs hP hD hS => ?_)
  have hP : va_P D vwCl ([(a_re, .inr (12, [.int 0, .int 0, .int 0, .int 0, .int 0, .int 0, .int 0, .int 0, .ref q1, .ref q2, .ref q3, .ref q4, .ref q5, .null, .null, .null, .null, .null])), (q1, .inl (cy 1, 6, .inl (fun _ => 0))), (q2, .inl (cy 1, 6, .inl (fun _ => 0))), (q3, .inl (cy 1, 5, .inl (fun _ => 0))), (q4, .inl (cy 1, 5, .inl (fun _ => 0))), (q5, .inl (cy 1, 5, .inl (fun _ => 0)))] ++ X) H := hP
  have hD : va_D A ([(a_re, .inr (12, [.int 0, .int 0, .int 0, .int 0, .int 0, .int 0, .int 0, .int 0, .ref q1, .ref q2, .ref q3, .ref q4, .ref q5, .null, .null, .null, .null, .null])), (q1, .inl (cy 1, 6, .inl (fun _ => 0))), (q2, .inl (cy 1, 6, .inl (fun _ => 0))), (q3, .inl (cy 1, 5, .inl (fun _ => 0))), (q4, .inl (cy 1, 5, .inl (fun _ => 0))), (q5, .inl (cy 1, 5, .inl (fun _ => 0)))] ++ X) := hD
  refine lv_aload_n hx hb dX12_init_41 rfl (lv_at hl 0 rfl) ?_
  refine lv_iconst (v := 5) hx hb dX12_init_42 (by decide) ?_
  refine nAI hx hb (hts (.arrayClass .int) (by decide +kernel)) hK hP hD hS hA 5 (by decide) (by decide) (by decide) (Nat.le_of_ble_eq_true rfl) (Nat.le_of_ble_eq_true rfl) dX12_init_43 (fun q6 H hP hD hS => ?_)
  have hP : va_P D vwCl ([(a_re, .inr (12, [.int 0, .int 0, .int 0, .int 0, .int 0, .int 0, .int 0, .int 0, .ref q1, .ref q2, .ref q3, .ref q4, .ref q5, .null, .null, .null, .null, .null])), (q1, .inl (cy 1, 6, .inl (fun _ => 0))), (q2, .inl (cy 1, 6, .inl (fun _ => 0))), (q3, .inl (cy 1, 5, .inl (fun _ => 0))), (q4, .inl (cy 1, 5, .inl (fun _ => 0))), (q5, .inl (cy 1, 5, .inl (fun _ => 0))), (q6, .inl (cy 1, 5, .inl (fun _ => 0)))] ++ X) H := hP
  have hD : va_D A ([(a_re, .inr (12, [.int 0, .int 0, .int 0, .int 0, .int 0, .int 0, .int 0, .int 0, .ref q1, .ref q2, .ref q3, .ref q4, .ref q5, .null, .null, .null, .null, .null])), (q1, .inl (cy 1, 6, .inl (fun _ => 0))), (q2, .inl (cy 1, 6, .inl (fun _ => 0))), (q3, .inl (cy 1, 5, .inl (fun _ => 0))), (q4, .inl (cy 1, 5, .inl (fun _ => 0))), (q5, .inl (cy 1, 5, .inl (fun _ => 0))), (q6, .inl (cy 1, 5, .inl (fun _ => 0)))] ++ X) := hD
  refine W.widen (k := 6) (n := 32) (Nat.le_of_ble_eq_true rfl) (Nat.le_of_ble_eq_true rfl) ?_
  refine va_putF (D := D) (ci := 12) (C := RX12) (T := TX12) (N := 18) (v := .ref q6) (ty := .array .int) hx hb hX12 (fun _ q => q) tyX12 tyX12_ok nmX12 hown hK hP hD hS 0 rfl rfl 13 (by decide) (hts (.fieldLink RX12 27 "ElephantLineModel$War" "price" "[I") (by decide +kernel)) (fun _ h9 => h9) rfl hin rfl (tyX12_ok 13 (by decide)) rfl rfl (Nat.le_of_ble_eq_true rfl) dX12_init_45 (fun H locs hP hD hS => ?_)
  have hP : va_P D vwCl ([(a_re, .inr (12, [.int 0, .int 0, .int 0, .int 0, .int 0, .int 0, .int 0, .int 0, .ref q1, .ref q2, .ref q3, .ref q4, .ref q5, .ref q6, .null, .null, .null, .null])), (q1, .inl (cy 1, 6, .inl (fun _ => 0))), (q2, .inl (cy 1, 6, .inl (fun _ => 0))), (q3, .inl (cy 1, 5, .inl (fun _ => 0))), (q4, .inl (cy 1, 5, .inl (fun _ => 0))), (q5, .inl (cy 1, 5, .inl (fun _ => 0))), (q6, .inl (cy 1, 5, .inl (fun _ => 0)))] ++ X) H := hP
  have hD : va_D A ([(a_re, .inr (12, [.int 0, .int 0, .int 0, .int 0, .int 0, .int 0, .int 0, .int 0, .ref q1, .ref q2, .ref q3, .ref q4, .ref q5, .ref q6, .null, .null, .null, .null])), (q1, .inl (cy 1, 6, .inl (fun _ => 0))), (q2, .inl (cy 1, 6, .inl (fun _ => 0))), (q3, .inl (cy 1, 5, .inl (fun _ => 0))), (q4, .inl (cy 1, 5, .inl (fun _ => 0))), (q5, .inl (cy 1, 5, .inl (fun _ => 0))), (q6, .inl (cy 1, 5, .inl (fun _ => 0)))] ++ X) := hD
  refine lv_aload_n hx hb dX12_init_48 rfl (lv_at hl 0 rfl) ?_
  refine lv_bipush (v := 36) hx hb dX12_init_49 (by decide) ?_
  refine nAI hx hb (hts (.arrayClass .int) (by decide +kernel)) hK hP hD hS hA 36 (by decide) (by decide) (by decide) (Nat.le_of_ble_eq_true rfl) (Nat.le_of_ble_eq_true rfl) dX12_init_51 (fun q7 H hP hD hS => ?_)
  have hP : va_P D vwCl ([(a_re, .inr (12, [.int 0, .int 0, .int 0, .int 0, .int 0, .int 0, .int 0, .int 0, .ref q1, .ref q2, .ref q3, .ref q4, .ref q5, .ref q6, .null, .null, .null, .null])), (q1, .inl (cy 1, 6, .inl (fun _ => 0))), (q2, .inl (cy 1, 6, .inl (fun _ => 0))), (q3, .inl (cy 1, 5, .inl (fun _ => 0))), (q4, .inl (cy 1, 5, .inl (fun _ => 0))), (q5, .inl (cy 1, 5, .inl (fun _ => 0))), (q6, .inl (cy 1, 5, .inl (fun _ => 0))), (q7, .inl (cy 1, 36, .inl (fun _ => 0)))] ++ X) H := hP
  have hD : va_D A ([(a_re, .inr (12, [.int 0, .int 0, .int 0, .int 0, .int 0, .int 0, .int 0, .int 0, .ref q1, .ref q2, .ref q3, .ref q4, .ref q5, .ref q6, .null, .null, .null, .null])), (q1, .inl (cy 1, 6, .inl (fun _ => 0))), (q2, .inl (cy 1, 6, .inl (fun _ => 0))), (q3, .inl (cy 1, 5, .inl (fun _ => 0))), (q4, .inl (cy 1, 5, .inl (fun _ => 0))), (q5, .inl (cy 1, 5, .inl (fun _ => 0))), (q6, .inl (cy 1, 5, .inl (fun _ => 0))), (q7, .inl (cy 1, 36, .inl (fun _ => 0)))] ++ X) := hD
  refine W.widen (k := 7) (n := 68) (Nat.le_of_ble_eq_true rfl) (Nat.le_of_ble_eq_true rfl) ?_
  refine va_putF (D := D) (ci := 12) (C := RX12) (T := TX12) (N := 18) (v := .ref q7) (ty := .array .int) hx hb hX12 (fun _ q => q) tyX12 tyX12_ok nmX12 hown hK hP hD hS 0 rfl rfl 14 (by decide) (hts (.fieldLink RX12 30 "ElephantLineModel$War" "loses" "[I") (by decide +kernel)) (fun _ h9 => h9) rfl hin rfl (tyX12_ok 14 (by decide)) rfl rfl (Nat.le_of_ble_eq_true rfl) dX12_init_53 (fun H locs hP hD hS => ?_)
  have hP : va_P D vwCl ([(a_re, .inr (12, [.int 0, .int 0, .int 0, .int 0, .int 0, .int 0, .int 0, .int 0, .ref q1, .ref q2, .ref q3, .ref q4, .ref q5, .ref q6, .ref q7, .null, .null, .null])), (q1, .inl (cy 1, 6, .inl (fun _ => 0))), (q2, .inl (cy 1, 6, .inl (fun _ => 0))), (q3, .inl (cy 1, 5, .inl (fun _ => 0))), (q4, .inl (cy 1, 5, .inl (fun _ => 0))), (q5, .inl (cy 1, 5, .inl (fun _ => 0))), (q6, .inl (cy 1, 5, .inl (fun _ => 0))), (q7, .inl (cy 1, 36, .inl (fun _ => 0)))] ++ X) H := hP
  have hD : va_D A ([(a_re, .inr (12, [.int 0, .int 0, .int 0, .int 0, .int 0, .int 0, .int 0, .int 0, .ref q1, .ref q2, .ref q3, .ref q4, .ref q5, .ref q6, .ref q7, .null, .null, .null])), (q1, .inl (cy 1, 6, .inl (fun _ => 0))), (q2, .inl (cy 1, 6, .inl (fun _ => 0))), (q3, .inl (cy 1, 5, .inl (fun _ => 0))), (q4, .inl (cy 1, 5, .inl (fun _ => 0))), (q5, .inl (cy 1, 5, .inl (fun _ => 0))), (q6, .inl (cy 1, 5, .inl (fun _ => 0))), (q7, .inl (cy 1, 36, .inl (fun _ => 0)))] ++ X) := hD
  refine lv_aload_n hx hb dX12_init_56 rfl (lv_at hl 0 rfl) ?_
  refine lv_bipush (v := 11) hx hb dX12_init_57 (by decide) ?_
  refine nAJ hx hb (hts (.arrayClass .long) (by decide +kernel)) hK hP hD hS hA 11 (by decide) (by decide) (by decide) (Nat.le_of_ble_eq_true rfl) (Nat.le_of_ble_eq_true rfl) dX12_init_59 (fun q8 H hP hD hS => ?_)
  have hP : va_P D vwCl ([(a_re, .inr (12, [.int 0, .int 0, .int 0, .int 0, .int 0, .int 0, .int 0, .int 0, .ref q1, .ref q2, .ref q3, .ref q4, .ref q5, .ref q6, .ref q7, .null, .null, .null])), (q1, .inl (cy 1, 6, .inl (fun _ => 0))), (q2, .inl (cy 1, 6, .inl (fun _ => 0))), (q3, .inl (cy 1, 5, .inl (fun _ => 0))), (q4, .inl (cy 1, 5, .inl (fun _ => 0))), (q5, .inl (cy 1, 5, .inl (fun _ => 0))), (q6, .inl (cy 1, 5, .inl (fun _ => 0))), (q7, .inl (cy 1, 36, .inl (fun _ => 0))), (q8, .inl (cy 2, 11, .inr (.inl (fun _ => 0))))] ++ X) H := hP
  have hD : va_D A ([(a_re, .inr (12, [.int 0, .int 0, .int 0, .int 0, .int 0, .int 0, .int 0, .int 0, .ref q1, .ref q2, .ref q3, .ref q4, .ref q5, .ref q6, .ref q7, .null, .null, .null])), (q1, .inl (cy 1, 6, .inl (fun _ => 0))), (q2, .inl (cy 1, 6, .inl (fun _ => 0))), (q3, .inl (cy 1, 5, .inl (fun _ => 0))), (q4, .inl (cy 1, 5, .inl (fun _ => 0))), (q5, .inl (cy 1, 5, .inl (fun _ => 0))), (q6, .inl (cy 1, 5, .inl (fun _ => 0))), (q7, .inl (cy 1, 36, .inl (fun _ => 0))), (q8, .inl (cy 2, 11, .inr (.inl (fun _ => 0))))] ++ X) := hD
  refine W.widen (k := 8) (n := 79) (Nat.le_of_ble_eq_true rfl) (Nat.le_of_ble_eq_true rfl) ?_
  refine va_putF (D := D) (ci := 12) (C := RX12) (T := TX12) (N := 18) (v := .ref q8) (ty := .array .long) hx hb hX12 (fun _ q => q) tyX12 tyX12_ok nmX12 hown hK hP hD hS 0 rfl rfl 15 (by decide) (hts (.fieldLink RX12 33 "ElephantLineModel$War" "name" "[J") (by decide +kernel)) (fun _ h9 => h9) rfl hin rfl (tyX12_ok 15 (by decide)) rfl rfl (Nat.le_of_ble_eq_true rfl) dX12_init_61 (fun H locs hP hD hS => ?_)
  have hP : va_P D vwCl ([(a_re, .inr (12, [.int 0, .int 0, .int 0, .int 0, .int 0, .int 0, .int 0, .int 0, .ref q1, .ref q2, .ref q3, .ref q4, .ref q5, .ref q6, .ref q7, .ref q8, .null, .null])), (q1, .inl (cy 1, 6, .inl (fun _ => 0))), (q2, .inl (cy 1, 6, .inl (fun _ => 0))), (q3, .inl (cy 1, 5, .inl (fun _ => 0))), (q4, .inl (cy 1, 5, .inl (fun _ => 0))), (q5, .inl (cy 1, 5, .inl (fun _ => 0))), (q6, .inl (cy 1, 5, .inl (fun _ => 0))), (q7, .inl (cy 1, 36, .inl (fun _ => 0))), (q8, .inl (cy 2, 11, .inr (.inl (fun _ => 0))))] ++ X) H := hP
  have hD : va_D A ([(a_re, .inr (12, [.int 0, .int 0, .int 0, .int 0, .int 0, .int 0, .int 0, .int 0, .ref q1, .ref q2, .ref q3, .ref q4, .ref q5, .ref q6, .ref q7, .ref q8, .null, .null])), (q1, .inl (cy 1, 6, .inl (fun _ => 0))), (q2, .inl (cy 1, 6, .inl (fun _ => 0))), (q3, .inl (cy 1, 5, .inl (fun _ => 0))), (q4, .inl (cy 1, 5, .inl (fun _ => 0))), (q5, .inl (cy 1, 5, .inl (fun _ => 0))), (q6, .inl (cy 1, 5, .inl (fun _ => 0))), (q7, .inl (cy 1, 36, .inl (fun _ => 0))), (q8, .inl (cy 2, 11, .inr (.inl (fun _ => 0))))] ++ X) := hD
  refine lv_aload_n hx hb dX12_init_64 rfl (lv_at hl 0 rfl) ?_
  refine lv_bipush (v := 11) hx hb dX12_init_65 (by decide) ?_
  refine nAI hx hb (hts (.arrayClass .int) (by decide +kernel)) hK hP hD hS hA 11 (by decide) (by decide) (by decide) (Nat.le_of_ble_eq_true rfl) (Nat.le_of_ble_eq_true rfl) dX12_init_67 (fun q9 H hP hD hS => ?_)
  have hP : va_P D vwCl ([(a_re, .inr (12, [.int 0, .int 0, .int 0, .int 0, .int 0, .int 0, .int 0, .int 0, .ref q1, .ref q2, .ref q3, .ref q4, .ref q5, .ref q6, .ref q7, .ref q8, .null, .null])), (q1, .inl (cy 1, 6, .inl (fun _ => 0))), (q2, .inl (cy 1, 6, .inl (fun _ => 0))), (q3, .inl (cy 1, 5, .inl (fun _ => 0))), (q4, .inl (cy 1, 5, .inl (fun _ => 0))), (q5, .inl (cy 1, 5, .inl (fun _ => 0))), (q6, .inl (cy 1, 5, .inl (fun _ => 0))), (q7, .inl (cy 1, 36, .inl (fun _ => 0))), (q8, .inl (cy 2, 11, .inr (.inl (fun _ => 0)))), (q9, .inl (cy 1, 11, .inl (fun _ => 0)))] ++ X) H := hP
  have hD : va_D A ([(a_re, .inr (12, [.int 0, .int 0, .int 0, .int 0, .int 0, .int 0, .int 0, .int 0, .ref q1, .ref q2, .ref q3, .ref q4, .ref q5, .ref q6, .ref q7, .ref q8, .null, .null])), (q1, .inl (cy 1, 6, .inl (fun _ => 0))), (q2, .inl (cy 1, 6, .inl (fun _ => 0))), (q3, .inl (cy 1, 5, .inl (fun _ => 0))), (q4, .inl (cy 1, 5, .inl (fun _ => 0))), (q5, .inl (cy 1, 5, .inl (fun _ => 0))), (q6, .inl (cy 1, 5, .inl (fun _ => 0))), (q7, .inl (cy 1, 36, .inl (fun _ => 0))), (q8, .inl (cy 2, 11, .inr (.inl (fun _ => 0)))), (q9, .inl (cy 1, 11, .inl (fun _ => 0)))] ++ X) := hD
  refine W.widen (k := 9) (n := 90) (Nat.le_of_ble_eq_true rfl) (Nat.le_of_ble_eq_true rfl) ?_
  refine va_putF (D := D) (ci := 12) (C := RX12) (T := TX12) (N := 18) (v := .ref q9) (ty := .array .int) hx hb hX12 (fun _ q => q) tyX12 tyX12_ok nmX12 hown hK hP hD hS 0 rfl rfl 16 (by decide) (hts (.fieldLink RX12 37 "ElephantLineModel$War" "nameSort" "[I") (by decide +kernel)) (fun _ h9 => h9) rfl hin rfl (tyX12_ok 16 (by decide)) rfl rfl (Nat.le_of_ble_eq_true rfl) dX12_init_69 (fun H locs hP hD hS => ?_)
  have hP : va_P D vwCl ([(a_re, .inr (12, [.int 0, .int 0, .int 0, .int 0, .int 0, .int 0, .int 0, .int 0, .ref q1, .ref q2, .ref q3, .ref q4, .ref q5, .ref q6, .ref q7, .ref q8, .ref q9, .null])), (q1, .inl (cy 1, 6, .inl (fun _ => 0))), (q2, .inl (cy 1, 6, .inl (fun _ => 0))), (q3, .inl (cy 1, 5, .inl (fun _ => 0))), (q4, .inl (cy 1, 5, .inl (fun _ => 0))), (q5, .inl (cy 1, 5, .inl (fun _ => 0))), (q6, .inl (cy 1, 5, .inl (fun _ => 0))), (q7, .inl (cy 1, 36, .inl (fun _ => 0))), (q8, .inl (cy 2, 11, .inr (.inl (fun _ => 0)))), (q9, .inl (cy 1, 11, .inl (fun _ => 0)))] ++ X) H := hP
  have hD : va_D A ([(a_re, .inr (12, [.int 0, .int 0, .int 0, .int 0, .int 0, .int 0, .int 0, .int 0, .ref q1, .ref q2, .ref q3, .ref q4, .ref q5, .ref q6, .ref q7, .ref q8, .ref q9, .null])), (q1, .inl (cy 1, 6, .inl (fun _ => 0))), (q2, .inl (cy 1, 6, .inl (fun _ => 0))), (q3, .inl (cy 1, 5, .inl (fun _ => 0))), (q4, .inl (cy 1, 5, .inl (fun _ => 0))), (q5, .inl (cy 1, 5, .inl (fun _ => 0))), (q6, .inl (cy 1, 5, .inl (fun _ => 0))), (q7, .inl (cy 1, 36, .inl (fun _ => 0))), (q8, .inl (cy 2, 11, .inr (.inl (fun _ => 0)))), (q9, .inl (cy 1, 11, .inl (fun _ => 0)))] ++ X) := hD
  refine lv_aload_n hx hb dX12_init_72 rfl (lv_at hl 0 rfl) ?_
  refine lv_bipush (v := 11) hx hb dX12_init_73 (by decide) ?_
  refine nAI hx hb (hts (.arrayClass .int) (by decide +kernel)) hK hP hD hS hA 11 (by decide) (by decide) (by decide) (Nat.le_of_ble_eq_true rfl) (Nat.le_of_ble_eq_true rfl) dX12_init_75 (fun q10 H hP hD hS => ?_)
  have hP : va_P D vwCl ([(a_re, .inr (12, [.int 0, .int 0, .int 0, .int 0, .int 0, .int 0, .int 0, .int 0, .ref q1, .ref q2, .ref q3, .ref q4, .ref q5, .ref q6, .ref q7, .ref q8, .ref q9, .null])), (q1, .inl (cy 1, 6, .inl (fun _ => 0))), (q2, .inl (cy 1, 6, .inl (fun _ => 0))), (q3, .inl (cy 1, 5, .inl (fun _ => 0))), (q4, .inl (cy 1, 5, .inl (fun _ => 0))), (q5, .inl (cy 1, 5, .inl (fun _ => 0))), (q6, .inl (cy 1, 5, .inl (fun _ => 0))), (q7, .inl (cy 1, 36, .inl (fun _ => 0))), (q8, .inl (cy 2, 11, .inr (.inl (fun _ => 0)))), (q9, .inl (cy 1, 11, .inl (fun _ => 0))), (q10, .inl (cy 1, 11, .inl (fun _ => 0)))] ++ X) H := hP
  have hD : va_D A ([(a_re, .inr (12, [.int 0, .int 0, .int 0, .int 0, .int 0, .int 0, .int 0, .int 0, .ref q1, .ref q2, .ref q3, .ref q4, .ref q5, .ref q6, .ref q7, .ref q8, .ref q9, .null])), (q1, .inl (cy 1, 6, .inl (fun _ => 0))), (q2, .inl (cy 1, 6, .inl (fun _ => 0))), (q3, .inl (cy 1, 5, .inl (fun _ => 0))), (q4, .inl (cy 1, 5, .inl (fun _ => 0))), (q5, .inl (cy 1, 5, .inl (fun _ => 0))), (q6, .inl (cy 1, 5, .inl (fun _ => 0))), (q7, .inl (cy 1, 36, .inl (fun _ => 0))), (q8, .inl (cy 2, 11, .inr (.inl (fun _ => 0)))), (q9, .inl (cy 1, 11, .inl (fun _ => 0))), (q10, .inl (cy 1, 11, .inl (fun _ => 0)))] ++ X) := hD
  refine W.widen (k := 10) (n := 101) (Nat.le_of_ble_eq_true rfl) (Nat.le_of_ble_eq_true rfl) ?_
  refine va_putF (D := D) (ci := 12) (C := RX12) (T := TX12) (N := 18) (v := .ref q10) (ty := .array .int) hx hb hX12 (fun _ q => q) tyX12 tyX12_ok nmX12 hown hK hP hD hS 0 rfl rfl 17 (by decide) (hts (.fieldLink RX12 40 "ElephantLineModel$War" "numberOf" "[I") (by decide +kernel)) (fun _ h9 => h9) rfl hin rfl (tyX12_ok 17 (by decide)) rfl rfl (Nat.le_of_ble_eq_true rfl) dX12_init_77 (fun H locs hP hD hS => ?_)
  have hP : va_P D vwCl ([(a_re, .inr (12, [.int 0, .int 0, .int 0, .int 0, .int 0, .int 0, .int 0, .int 0, .ref q1, .ref q2, .ref q3, .ref q4, .ref q5, .ref q6, .ref q7, .ref q8, .ref q9, .ref q10])), (q1, .inl (cy 1, 6, .inl (fun _ => 0))), (q2, .inl (cy 1, 6, .inl (fun _ => 0))), (q3, .inl (cy 1, 5, .inl (fun _ => 0))), (q4, .inl (cy 1, 5, .inl (fun _ => 0))), (q5, .inl (cy 1, 5, .inl (fun _ => 0))), (q6, .inl (cy 1, 5, .inl (fun _ => 0))), (q7, .inl (cy 1, 36, .inl (fun _ => 0))), (q8, .inl (cy 2, 11, .inr (.inl (fun _ => 0)))), (q9, .inl (cy 1, 11, .inl (fun _ => 0))), (q10, .inl (cy 1, 11, .inl (fun _ => 0)))] ++ X) H := hP
  have hD : va_D A ([(a_re, .inr (12, [.int 0, .int 0, .int 0, .int 0, .int 0, .int 0, .int 0, .int 0, .ref q1, .ref q2, .ref q3, .ref q4, .ref q5, .ref q6, .ref q7, .ref q8, .ref q9, .ref q10])), (q1, .inl (cy 1, 6, .inl (fun _ => 0))), (q2, .inl (cy 1, 6, .inl (fun _ => 0))), (q3, .inl (cy 1, 5, .inl (fun _ => 0))), (q4, .inl (cy 1, 5, .inl (fun _ => 0))), (q5, .inl (cy 1, 5, .inl (fun _ => 0))), (q6, .inl (cy 1, 5, .inl (fun _ => 0))), (q7, .inl (cy 1, 36, .inl (fun _ => 0))), (q8, .inl (cy 2, 11, .inr (.inl (fun _ => 0)))), (q9, .inl (cy 1, 11, .inl (fun _ => 0))), (q10, .inl (cy 1, 11, .inl (fun _ => 0)))] ++ X) := hD
  exact W.vret hx hb hr (fun t ht _ => ⟨⟨(q1, q2, q3, q4, q5, q6, q7, q8, q9, q10), rfl, trivial, by rw [ht]; exact hP, hD⟩, hS.F ht⟩) hS.2.2 dX12_init_80
theorem hd_X13_init : yX13_init.cls ≠ "java/lang/invoke/MethodHandle" ∧ yX13_init.cls ≠ "java/lang/invoke/VarHandle" ∧ (parseMethodDescriptor yX13_init.desc).map (fun d => d.parameters.length) = some 0 := by decide +kernel
def wz_X13_init (cy : Nat → ClassId) (a_mo : Nat) (u : Nat × Nat × Nat × Nat × Nat × Nat × Nat × Nat × Nat × Nat × Nat) : va_W := [(a_mo, .inr (13, [.int 0, .int 0, .int (-1), .null, .null, .ref u.1, .int 0, .int 0, .int 0, .int 0, .int 0, .int 0, .int 0, .int 0, .int 0, .long 0, .ref u.2.1, .ref u.2.2.1, .ref u.2.2.2.1, .ref u.2.2.2.2.1, .int 0, .int 0, .ref u.2.2.2.2.2.1, .ref u.2.2.2.2.2.2.1, .long 0, .ref u.2.2.2.2.2.2.2.1, .ref u.2.2.2.2.2.2.2.2.1, .ref u.2.2.2.2.2.2.2.2.2.1, .int 0, .int 0, .ref u.2.2.2.2.2.2.2.2.2.2, .int 0, .int 0, .int 0, .int 0, .int 0, .int 0, .int 0, .int 0])), (u.1, .inl (cy 0, 900, .inl (fun _ => 0))), (u.2.1, .inl (cy 1, 19, .inl (fun _ => 0))), (u.2.2.1, .inl (cy 1, 19, .inl (fun _ => 0))), (u.2.2.2.1, .inl (cy 1, 304, .inl (fun _ => 0))), (u.2.2.2.2.1, .inl (cy 1, 57, .inl (fun _ => 0))), (u.2.2.2.2.2.1, .inl (cy 1, 5, .inl (fun _ => 0))), (u.2.2.2.2.2.2.1, .inl (cy 1, 5, .inl (fun _ => 0))), (u.2.2.2.2.2.2.2.1, .inl (cy 1, 6, .inl (fun _ => 0))), (u.2.2.2.2.2.2.2.2.1, .inl (cy 1, 6, .inl (fun _ => 0))), (u.2.2.2.2.2.2.2.2.2.1, .inl (cy 1, 6, .inl (fun _ => 0))), (u.2.2.2.2.2.2.2.2.2.2, .inl (cy 1, 5, .inl (fun _ => 0)))]
set_option maxHeartbeats 4000000 in
set_option maxRecDepth 100000 in
theorem c_X13_init (l : Launch) (D : va_G) (cy : Nat → ClassId) (A : Nat → Prop) (X : va_W) (a_mo : Nat) : Met l yX13_init wo_X13_init ({ frames := 1, cells := 11, slots := 1332, locals := 12 }) (wrPc D cy A [.ref a_mo] ([(a_mo, .inr (13, [.int 0, .int 0, .int 0, .null, .null, .null, .int 0, .int 0, .int 0, .int 0, .int 0, .int 0, .int 0, .int 0, .int 0, .long 0, .null, .null, .null, .null, .int 0, .int 0, .null, .null, .long 0, .null, .null, .null, .int 0, .int 0, .null, .int 0, .int 0, .int 0, .int 0, .int 0, .int 0, .int 0, .int 0]))] ++ X)) (va_Qv (fun (_ : Nat × Nat × Nat × Nat × Nat × Nat × Nat × Nat × Nat × Nat × Nat) => True) (fun u t => va_P D vwCl (wz_X13_init cy a_mo u ++ X) t.heap ∧ va_D A (wz_X13_init cy a_mo u ++ X)) A) 11 1332 A := by
  refine Met.ofW (cc := cX13_init) (maxL := 1) (ret := none) (by decide) rfl ?_
  intro p e s m args below meth c s₁ B hml hv
  obtain ⟨rfl, hP, hKN, hD, hA⟩ := hv
  have hK := hKN.1
  have hx := B.exec
  have hb := B.bytes
  have hr := B.returns
  have hts := wt_X13_init hKN.2.2 (([.ref a_mo] : List Value).toArray)
  have hown : s.vm.findClass RX13 = some m.cls := findClass_of_methodNamed B.named
  have hlocks := B.notSynchronized
  have hin : meth.name = "<init>" := (name_of_methodNamed B.named B.method).1
  have hS : va_S A s.heap s.heap [] := va_S.rf
  have hX13 := wc_X13 hKN.2.2 (([.ref a_mo] : List Value).toArray)
  have hl := lv_entry ([.ref a_mo]) (n := 1) (Nat.le_of_ble_eq_true rfl)
  rw [lg_entry_eq]
  generalize (lg_sl ([.ref a_mo]) ++ List.replicate (1 - (lg_sl ([.ref a_mo])).length) Slot.unset).toArray = ls at hl ⊢
  have hl : lv_has ls 1 [(0, .ref a_mo)] := hl
  refine lv_aload_n hx hb dX13_init_0 rfl (lv_at hl 0 rfl) ?_
  refine W.objInit hx hb hown (hts (.methodLink RX13 3 objectInit) (by decide +kernel)) (hts (.instanceMethod objectInit) (by decide +kernel)) (hts (.code objectInit ⟨#[0xb1]⟩ 1 none) (by decide +kernel)) rfl (hl.1.trans hml.symm) rfl dX13_init_1 (Nat.le_of_ble_eq_true rfl) (Nat.le_of_ble_eq_true rfl) ?_
  refine W.eq (g2 := F0 m 4 ls []) rfl ?_
  refine lv_aload_n hx hb dX13_init_4 rfl (lv_at hl 0 rfl) ?_
  refine lv_iconst (v := (-1)) hx hb dX13_init_5 (by decide) ?_
  refine va_put (D := D) (ci := 13) (C := RX13) (T := TX13) (N := 39) (v := .int (-1)) (ty := .int) hx hb hX13 (fun _ q => q) tyX13 tyX13_ok nmX13 hown hK hP hD hS 0 rfl rfl 2 (by decide) (hts (.fieldLink RX13 9 "ElephantLineModel" "where" "I") (by decide +kernel)) (fun _ h9 => h9) rfl (tyX13_ok 2 (by decide)) rfl rfl (Nat.le_of_ble_eq_true rfl) dX13_init_6 (fun H locs hP hD hS => ?_)
  have hP : va_P D vwCl ([(a_mo, .inr (13, [.int 0, .int 0, .int (-1), .null, .null, .null, .int 0, .int 0, .int 0, .int 0, .int 0, .int 0, .int 0, .int 0, .int 0, .long 0, .null, .null, .null, .null, .int 0, .int 0, .null, .null, .long 0, .null, .null, .null, .int 0, .int 0, .null, .int 0, .int 0, .int 0, .int 0, .int 0, .int 0, .int 0, .int 0]))] ++ X) H := hP
  have hD : va_D A ([(a_mo, .inr (13, [.int 0, .int 0, .int (-1), .null, .null, .null, .int 0, .int 0, .int 0, .int 0, .int 0, .int 0, .int 0, .int 0, .int 0, .long 0, .null, .null, .null, .null, .int 0, .int 0, .null, .null, .long 0, .null, .null, .null, .int 0, .int 0, .null, .int 0, .int 0, .int 0, .int 0, .int 0, .int 0, .int 0, .int 0]))] ++ X) := hD
  refine lv_aload_n hx hb dX13_init_9 rfl (lv_at hl 0 rfl) ?_
  refine lv_sipush (v := 900) hx hb dX13_init_10 (by decide) ?_
  refine nAB hx hb (hts (.arrayClass .byte) (by decide +kernel)) hK hP hD hS hA 900 (by decide) (by decide) (by decide) (Nat.le_of_ble_eq_true rfl) (Nat.le_of_ble_eq_true rfl) dX13_init_13 (fun q1 H hP hD hS => ?_)
  have hP : va_P D vwCl ([(a_mo, .inr (13, [.int 0, .int 0, .int (-1), .null, .null, .null, .int 0, .int 0, .int 0, .int 0, .int 0, .int 0, .int 0, .int 0, .int 0, .long 0, .null, .null, .null, .null, .int 0, .int 0, .null, .null, .long 0, .null, .null, .null, .int 0, .int 0, .null, .int 0, .int 0, .int 0, .int 0, .int 0, .int 0, .int 0, .int 0])), (q1, .inl (cy 0, 900, .inl (fun _ => 0)))] ++ X) H := hP
  have hD : va_D A ([(a_mo, .inr (13, [.int 0, .int 0, .int (-1), .null, .null, .null, .int 0, .int 0, .int 0, .int 0, .int 0, .int 0, .int 0, .int 0, .int 0, .long 0, .null, .null, .null, .null, .int 0, .int 0, .null, .null, .long 0, .null, .null, .null, .int 0, .int 0, .null, .int 0, .int 0, .int 0, .int 0, .int 0, .int 0, .int 0, .int 0])), (q1, .inl (cy 0, 900, .inl (fun _ => 0)))] ++ X) := hD
  refine W.widen (k := 1) (n := 900) (Nat.le_of_ble_eq_true rfl) (Nat.le_of_ble_eq_true rfl) ?_
  refine va_putF (D := D) (ci := 13) (C := RX13) (T := TX13) (N := 39) (v := .ref q1) (ty := .array .byte) hx hb hX13 (fun _ q => q) tyX13 tyX13_ok nmX13 hown hK hP hD hS 0 rfl rfl 5 (by decide) (hts (.fieldLink RX13 13 "ElephantLineModel" "tape" "[B") (by decide +kernel)) (fun _ h9 => h9) rfl hin rfl (tyX13_ok 5 (by decide)) rfl rfl (Nat.le_of_ble_eq_true rfl) dX13_init_15 (fun H locs hP hD hS => ?_)
  have hP : va_P D vwCl ([(a_mo, .inr (13, [.int 0, .int 0, .int (-1), .null, .null, .ref q1, .int 0, .int 0, .int 0, .int 0, .int 0, .int 0, .int 0, .int 0, .int 0, .long 0, .null, .null, .null, .null, .int 0, .int 0, .null, .null, .long 0, .null, .null, .null, .int 0, .int 0, .null, .int 0, .int 0, .int 0, .int 0, .int 0, .int 0, .int 0, .int 0])), (q1, .inl (cy 0, 900, .inl (fun _ => 0)))] ++ X) H := hP
  have hD : va_D A ([(a_mo, .inr (13, [.int 0, .int 0, .int (-1), .null, .null, .ref q1, .int 0, .int 0, .int 0, .int 0, .int 0, .int 0, .int 0, .int 0, .int 0, .long 0, .null, .null, .null, .null, .int 0, .int 0, .null, .null, .long 0, .null, .null, .null, .int 0, .int 0, .null, .int 0, .int 0, .int 0, .int 0, .int 0, .int 0, .int 0, .int 0])), (q1, .inl (cy 0, 900, .inl (fun _ => 0)))] ++ X) := hD
  refine lv_aload_n hx hb dX13_init_18 rfl (lv_at hl 0 rfl) ?_
  refine lv_bipush (v := 19) hx hb dX13_init_19 (by decide) ?_
  refine nAI hx hb (hts (.arrayClass .int) (by decide +kernel)) hK hP hD hS hA 19 (by decide) (by decide) (by decide) (Nat.le_of_ble_eq_true rfl) (Nat.le_of_ble_eq_true rfl) dX13_init_21 (fun q2 H hP hD hS => ?_)
  have hP : va_P D vwCl ([(a_mo, .inr (13, [.int 0, .int 0, .int (-1), .null, .null, .ref q1, .int 0, .int 0, .int 0, .int 0, .int 0, .int 0, .int 0, .int 0, .int 0, .long 0, .null, .null, .null, .null, .int 0, .int 0, .null, .null, .long 0, .null, .null, .null, .int 0, .int 0, .null, .int 0, .int 0, .int 0, .int 0, .int 0, .int 0, .int 0, .int 0])), (q1, .inl (cy 0, 900, .inl (fun _ => 0))), (q2, .inl (cy 1, 19, .inl (fun _ => 0)))] ++ X) H := hP
  have hD : va_D A ([(a_mo, .inr (13, [.int 0, .int 0, .int (-1), .null, .null, .ref q1, .int 0, .int 0, .int 0, .int 0, .int 0, .int 0, .int 0, .int 0, .int 0, .long 0, .null, .null, .null, .null, .int 0, .int 0, .null, .null, .long 0, .null, .null, .null, .int 0, .int 0, .null, .int 0, .int 0, .int 0, .int 0, .int 0, .int 0, .int 0, .int 0])), (q1, .inl (cy 0, 900, .inl (fun _ => 0))), (q2, .inl (cy 1, 19, .inl (fun _ => 0)))] ++ X) := hD
  refine W.widen (k := 2) (n := 919) (Nat.le_of_ble_eq_true rfl) (Nat.le_of_ble_eq_true rfl) ?_
  refine va_putF (D := D) (ci := 13) (C := RX13) (T := TX13) (N := 39) (v := .ref q2) (ty := .array .int) hx hb hX13 (fun _ q => q) tyX13 tyX13_ok nmX13 hown hK hP hD hS 0 rfl rfl 16 (by decide) (hts (.fieldLink RX13 17 "ElephantLineModel" "v" "[I") (by decide +kernel)) (fun _ h9 => h9) rfl hin rfl (tyX13_ok 16 (by decide)) rfl rfl (Nat.le_of_ble_eq_true rfl) dX13_init_23 (fun H locs hP hD hS => ?_)
  have hP : va_P D vwCl ([(a_mo, .inr (13, [.int 0, .int 0, .int (-1), .null, .null, .ref q1, .int 0, .int 0, .int 0, .int 0, .int 0, .int 0, .int 0, .int 0, .int 0, .long 0, .ref q2, .null, .null, .null, .int 0, .int 0, .null, .null, .long 0, .null, .null, .null, .int 0, .int 0, .null, .int 0, .int 0, .int 0, .int 0, .int 0, .int 0, .int 0, .int 0])), (q1, .inl (cy 0, 900, .inl (fun _ => 0))), (q2, .inl (cy 1, 19, .inl (fun _ => 0)))] ++ X) H := hP
  have hD : va_D A ([(a_mo, .inr (13, [.int 0, .int 0, .int (-1), .null, .null, .ref q1, .int 0, .int 0, .int 0, .int 0, .int 0, .int 0, .int 0, .int 0, .int 0, .long 0, .ref q2, .null, .null, .null, .int 0, .int 0, .null, .null, .long 0, .null, .null, .null, .int 0, .int 0, .null, .int 0, .int 0, .int 0, .int 0, .int 0, .int 0, .int 0, .int 0])), (q1, .inl (cy 0, 900, .inl (fun _ => 0))), (q2, .inl (cy 1, 19, .inl (fun _ => 0)))] ++ X) := hD
  refine lv_aload_n hx hb dX13_init_26 rfl (lv_at hl 0 rfl) ?_
  refine lv_bipush (v := 19) hx hb dX13_init_27 (by decide) ?_
  refine nAI hx hb (hts (.arrayClass .int) (by decide +kernel)) hK hP hD hS hA 19 (by decide) (by decide) (by decide) (Nat.le_of_ble_eq_true rfl) (Nat.le_of_ble_eq_true rfl) dX13_init_29 (fun q3 H hP hD hS => ?_)
  have hP : va_P D vwCl ([(a_mo, .inr (13, [.int 0, .int 0, .int (-1), .null, .null, .ref q1, .int 0, .int 0, .int 0, .int 0, .int 0, .int 0, .int 0, .int 0, .int 0, .long 0, .ref q2, .null, .null, .null, .int 0, .int 0, .null, .null, .long 0, .null, .null, .null, .int 0, .int 0, .null, .int 0, .int 0, .int 0, .int 0, .int 0, .int 0, .int 0, .int 0])), (q1, .inl (cy 0, 900, .inl (fun _ => 0))), (q2, .inl (cy 1, 19, .inl (fun _ => 0))), (q3, .inl (cy 1, 19, .inl (fun _ => 0)))] ++ X) H := hP
  have hD : va_D A ([(a_mo, .inr (13, [.int 0, .int 0, .int (-1), .null, .null, .ref q1, .int 0, .int 0, .int 0, .int 0, .int 0, .int 0, .int 0, .int 0, .int 0, .long 0, .ref q2, .null, .null, .null, .int 0, .int 0, .null, .null, .long 0, .null, .null, .null, .int 0, .int 0, .null, .int 0, .int 0, .int 0, .int 0, .int 0, .int 0, .int 0, .int 0])), (q1, .inl (cy 0, 900, .inl (fun _ => 0))), (q2, .inl (cy 1, 19, .inl (fun _ => 0))), (q3, .inl (cy 1, 19, .inl (fun _ => 0)))] ++ X) := hD
  refine W.widen (k := 3) (n := 938) (Nat.le_of_ble_eq_true rfl) (Nat.le_of_ble_eq_true rfl) ?_
  refine va_putF (D := D) (ci := 13) (C := RX13) (T := TX13) (N := 39) (v := .ref q3) (ty := .array .int) hx hb hX13 (fun _ q => q) tyX13 tyX13_ok nmX13 hown hK hP hD hS 0 rfl rfl 17 (by decide) (hts (.fieldLink RX13 21 "ElephantLineModel" "x" "[I") (by decide +kernel)) (fun _ h9 => h9) rfl hin rfl (tyX13_ok 17 (by decide)) rfl rfl (Nat.le_of_ble_eq_true rfl) dX13_init_31 (fun H locs hP hD hS => ?_)
  have hP : va_P D vwCl ([(a_mo, .inr (13, [.int 0, .int 0, .int (-1), .null, .null, .ref q1, .int 0, .int 0, .int 0, .int 0, .int 0, .int 0, .int 0, .int 0, .int 0, .long 0, .ref q2, .ref q3, .null, .null, .int 0, .int 0, .null, .null, .long 0, .null, .null, .null, .int 0, .int 0, .null, .int 0, .int 0, .int 0, .int 0, .int 0, .int 0, .int 0, .int 0])), (q1, .inl (cy 0, 900, .inl (fun _ => 0))), (q2, .inl (cy 1, 19, .inl (fun _ => 0))), (q3, .inl (cy 1, 19, .inl (fun _ => 0)))] ++ X) H := hP
  have hD : va_D A ([(a_mo, .inr (13, [.int 0, .int 0, .int (-1), .null, .null, .ref q1, .int 0, .int 0, .int 0, .int 0, .int 0, .int 0, .int 0, .int 0, .int 0, .long 0, .ref q2, .ref q3, .null, .null, .int 0, .int 0, .null, .null, .long 0, .null, .null, .null, .int 0, .int 0, .null, .int 0, .int 0, .int 0, .int 0, .int 0, .int 0, .int 0, .int 0])), (q1, .inl (cy 0, 900, .inl (fun _ => 0))), (q2, .inl (cy 1, 19, .inl (fun _ => 0))), (q3, .inl (cy 1, 19, .inl (fun _ => 0)))] ++ X) := hD
  refine lv_aload_n hx hb dX13_init_34 rfl (lv_at hl 0 rfl) ?_
  refine lv_sipush (v := 304) hx hb dX13_init_35 (by decide) ?_
  refine nAI hx hb (hts (.arrayClass .int) (by decide +kernel)) hK hP hD hS hA 304 (by decide) (by decide) (by decide) (Nat.le_of_ble_eq_true rfl) (Nat.le_of_ble_eq_true rfl) dX13_init_38 (fun q4 H hP hD hS => ?_)
  have hP : va_P D vwCl ([(a_mo, .inr (13, [.int 0, .int 0, .int (-1), .null, .null, .ref q1, .int 0, .int 0, .int 0, .int 0, .int 0, .int 0, .int 0, .int 0, .int 0, .long 0, .ref q2, .ref q3, .null, .null, .int 0, .int 0, .null, .null, .long 0, .null, .null, .null, .int 0, .int 0, .null, .int 0, .int 0, .int 0, .int 0, .int 0, .int 0, .int 0, .int 0])), (q1, .inl (cy 0, 900, .inl (fun _ => 0))), (q2, .inl (cy 1, 19, .inl (fun _ => 0))), (q3, .inl (cy 1, 19, .inl (fun _ => 0))), (q4, .inl (cy 1, 304, .inl (fun _ => 0)))] ++ X) H := hP
  have hD : va_D A ([(a_mo, .inr (13, [.int 0, .int 0, .int (-1), .null, .null, .ref q1, .int 0, .int 0, .int 0, .int 0, .int 0, .int 0, .int 0, .int 0, .int 0, .long 0, .ref q2, .ref q3, .null, .null, .int 0, .int 0, .null, .null, .long 0, .null, .null, .null, .int 0, .int 0, .null, .int 0, .int 0, .int 0, .int 0, .int 0, .int 0, .int 0, .int 0])), (q1, .inl (cy 0, 900, .inl (fun _ => 0))), (q2, .inl (cy 1, 19, .inl (fun _ => 0))), (q3, .inl (cy 1, 19, .inl (fun _ => 0))), (q4, .inl (cy 1, 304, .inl (fun _ => 0)))] ++ X) := hD
  refine W.widen (k := 4) (n := 1242) (Nat.le_of_ble_eq_true rfl) (Nat.le_of_ble_eq_true rfl) ?_
  refine va_putF (D := D) (ci := 13) (C := RX13) (T := TX13) (N := 39) (v := .ref q4) (ty := .array .int) hx hb hX13 (fun _ q => q) tyX13 tyX13_ok nmX13 hown hK hP hD hS 0 rfl rfl 18 (by decide) (hts (.fieldLink RX13 24 "ElephantLineModel" "past" "[I") (by decide +kernel)) (fun _ h9 => h9) rfl hin rfl (tyX13_ok 18 (by decide)) rfl rfl (Nat.le_of_ble_eq_true rfl) dX13_init_40 (fun H locs hP hD hS => ?_)
  have hP : va_P D vwCl ([(a_mo, .inr (13, [.int 0, .int 0, .int (-1), .null, .null, .ref q1, .int 0, .int 0, .int 0, .int 0, .int 0, .int 0, .int 0, .int 0, .int 0, .long 0, .ref q2, .ref q3, .ref q4, .null, .int 0, .int 0, .null, .null, .long 0, .null, .null, .null, .int 0, .int 0, .null, .int 0, .int 0, .int 0, .int 0, .int 0, .int 0, .int 0, .int 0])), (q1, .inl (cy 0, 900, .inl (fun _ => 0))), (q2, .inl (cy 1, 19, .inl (fun _ => 0))), (q3, .inl (cy 1, 19, .inl (fun _ => 0))), (q4, .inl (cy 1, 304, .inl (fun _ => 0)))] ++ X) H := hP
  have hD : va_D A ([(a_mo, .inr (13, [.int 0, .int 0, .int (-1), .null, .null, .ref q1, .int 0, .int 0, .int 0, .int 0, .int 0, .int 0, .int 0, .int 0, .int 0, .long 0, .ref q2, .ref q3, .ref q4, .null, .int 0, .int 0, .null, .null, .long 0, .null, .null, .null, .int 0, .int 0, .null, .int 0, .int 0, .int 0, .int 0, .int 0, .int 0, .int 0, .int 0])), (q1, .inl (cy 0, 900, .inl (fun _ => 0))), (q2, .inl (cy 1, 19, .inl (fun _ => 0))), (q3, .inl (cy 1, 19, .inl (fun _ => 0))), (q4, .inl (cy 1, 304, .inl (fun _ => 0)))] ++ X) := hD
  refine lv_aload_n hx hb dX13_init_43 rfl (lv_at hl 0 rfl) ?_
  refine lv_bipush (v := 57) hx hb dX13_init_44 (by decide) ?_
  refine nAI hx hb (hts (.arrayClass .int) (by decide +kernel)) hK hP hD hS hA 57 (by decide) (by decide) (by decide) (Nat.le_of_ble_eq_true rfl) (Nat.le_of_ble_eq_true rfl) dX13_init_46 (fun q5 H hP hD hS => ?_)
  have hP : va_P D vwCl ([(a_mo, .inr (13, [.int 0, .int 0, .int (-1), .null, .null, .ref q1, .int 0, .int 0, .int 0, .int 0, .int 0, .int 0, .int 0, .int 0, .int 0, .long 0, .ref q2, .ref q3, .ref q4, .null, .int 0, .int 0, .null, .null, .long 0, .null, .null, .null, .int 0, .int 0, .null, .int 0, .int 0, .int 0, .int 0, .int 0, .int 0, .int 0, .int 0])), (q1, .inl (cy 0, 900, .inl (fun _ => 0))), (q2, .inl (cy 1, 19, .inl (fun _ => 0))), (q3, .inl (cy 1, 19, .inl (fun _ => 0))), (q4, .inl (cy 1, 304, .inl (fun _ => 0))), (q5, .inl (cy 1, 57, .inl (fun _ => 0)))] ++ X) H := hP
  have hD : va_D A ([(a_mo, .inr (13, [.int 0, .int 0, .int (-1), .null, .null, .ref q1, .int 0, .int 0, .int 0, .int 0, .int 0, .int 0, .int 0, .int 0, .int 0, .long 0, .ref q2, .ref q3, .ref q4, .null, .int 0, .int 0, .null, .null, .long 0, .null, .null, .null, .int 0, .int 0, .null, .int 0, .int 0, .int 0, .int 0, .int 0, .int 0, .int 0, .int 0])), (q1, .inl (cy 0, 900, .inl (fun _ => 0))), (q2, .inl (cy 1, 19, .inl (fun _ => 0))), (q3, .inl (cy 1, 19, .inl (fun _ => 0))), (q4, .inl (cy 1, 304, .inl (fun _ => 0))), (q5, .inl (cy 1, 57, .inl (fun _ => 0)))] ++ X) := hD
  refine W.widen (k := 5) (n := 1299) (Nat.le_of_ble_eq_true rfl) (Nat.le_of_ble_eq_true rfl) ?_
  refine va_putF (D := D) (ci := 13) (C := RX13) (T := TX13) (N := 39) (v := .ref q5) (ty := .array .int) hx hb hX13 (fun _ q => q) tyX13 tyX13_ok nmX13 hown hK hP hD hS 0 rfl rfl 19 (by decide) (hts (.fieldLink RX13 27 "ElephantLineModel" "kept" "[I") (by decide +kernel)) (fun _ h9 => h9) rfl hin rfl (tyX13_ok 19 (by decide)) rfl rfl (Nat.le_of_ble_eq_true rfl) dX13_init_48 (fun H locs hP hD hS => ?_)
  have hP : va_P D vwCl ([(a_mo, .inr (13, [.int 0, .int 0, .int (-1), .null, .null, .ref q1, .int 0, .int 0, .int 0, .int 0, .int 0, .int 0, .int 0, .int 0, .int 0, .long 0, .ref q2, .ref q3, .ref q4, .ref q5, .int 0, .int 0, .null, .null, .long 0, .null, .null, .null, .int 0, .int 0, .null, .int 0, .int 0, .int 0, .int 0, .int 0, .int 0, .int 0, .int 0])), (q1, .inl (cy 0, 900, .inl (fun _ => 0))), (q2, .inl (cy 1, 19, .inl (fun _ => 0))), (q3, .inl (cy 1, 19, .inl (fun _ => 0))), (q4, .inl (cy 1, 304, .inl (fun _ => 0))), (q5, .inl (cy 1, 57, .inl (fun _ => 0)))] ++ X) H := hP
  have hD : va_D A ([(a_mo, .inr (13, [.int 0, .int 0, .int (-1), .null, .null, .ref q1, .int 0, .int 0, .int 0, .int 0, .int 0, .int 0, .int 0, .int 0, .int 0, .long 0, .ref q2, .ref q3, .ref q4, .ref q5, .int 0, .int 0, .null, .null, .long 0, .null, .null, .null, .int 0, .int 0, .null, .int 0, .int 0, .int 0, .int 0, .int 0, .int 0, .int 0, .int 0])), (q1, .inl (cy 0, 900, .inl (fun _ => 0))), (q2, .inl (cy 1, 19, .inl (fun _ => 0))), (q3, .inl (cy 1, 19, .inl (fun _ => 0))), (q4, .inl (cy 1, 304, .inl (fun _ => 0))), (q5, .inl (cy 1, 57, .inl (fun _ => 0)))] ++ X) := hD
  refine lv_aload_n hx hb dX13_init_51 rfl (lv_at hl 0 rfl) ?_
  refine lv_iconst (v := 5) hx hb dX13_init_52 (by decide) ?_
  refine nAI hx hb (hts (.arrayClass .int) (by decide +kernel)) hK hP hD hS hA 5 (by decide) (by decide) (by decide) (Nat.le_of_ble_eq_true rfl) (Nat.le_of_ble_eq_true rfl) dX13_init_53 (fun q6 H hP hD hS => ?_)
  have hP : va_P D vwCl ([(a_mo, .inr (13, [.int 0, .int 0, .int (-1), .null, .null, .ref q1, .int 0, .int 0, .int 0, .int 0, .int 0, .int 0, .int 0, .int 0, .int 0, .long 0, .ref q2, .ref q3, .ref q4, .ref q5, .int 0, .int 0, .null, .null, .long 0, .null, .null, .null, .int 0, .int 0, .null, .int 0, .int 0, .int 0, .int 0, .int 0, .int 0, .int 0, .int 0])), (q1, .inl (cy 0, 900, .inl (fun _ => 0))), (q2, .inl (cy 1, 19, .inl (fun _ => 0))), (q3, .inl (cy 1, 19, .inl (fun _ => 0))), (q4, .inl (cy 1, 304, .inl (fun _ => 0))), (q5, .inl (cy 1, 57, .inl (fun _ => 0))), (q6, .inl (cy 1, 5, .inl (fun _ => 0)))] ++ X) H := hP
  have hD : va_D A ([(a_mo, .inr (13, [.int 0, .int 0, .int (-1), .null, .null, .ref q1, .int 0, .int 0, .int 0, .int 0, .int 0, .int 0, .int 0, .int 0, .int 0, .long 0, .ref q2, .ref q3, .ref q4, .ref q5, .int 0, .int 0, .null, .null, .long 0, .null, .null, .null, .int 0, .int 0, .null, .int 0, .int 0, .int 0, .int 0, .int 0, .int 0, .int 0, .int 0])), (q1, .inl (cy 0, 900, .inl (fun _ => 0))), (q2, .inl (cy 1, 19, .inl (fun _ => 0))), (q3, .inl (cy 1, 19, .inl (fun _ => 0))), (q4, .inl (cy 1, 304, .inl (fun _ => 0))), (q5, .inl (cy 1, 57, .inl (fun _ => 0))), (q6, .inl (cy 1, 5, .inl (fun _ => 0)))] ++ X) := hD
  refine W.widen (k := 6) (n := 1304) (Nat.le_of_ble_eq_true rfl) (Nat.le_of_ble_eq_true rfl) ?_
  refine va_putF (D := D) (ci := 13) (C := RX13) (T := TX13) (N := 39) (v := .ref q6) (ty := .array .int) hx hb hX13 (fun _ q => q) tyX13 tyX13_ok nmX13 hown hK hP hD hS 0 rfl rfl 22 (by decide) (hts (.fieldLink RX13 30 "ElephantLineModel" "put" "[I") (by decide +kernel)) (fun _ h9 => h9) rfl hin rfl (tyX13_ok 22 (by decide)) rfl rfl (Nat.le_of_ble_eq_true rfl) dX13_init_55 (fun H locs hP hD hS => ?_)
  have hP : va_P D vwCl ([(a_mo, .inr (13, [.int 0, .int 0, .int (-1), .null, .null, .ref q1, .int 0, .int 0, .int 0, .int 0, .int 0, .int 0, .int 0, .int 0, .int 0, .long 0, .ref q2, .ref q3, .ref q4, .ref q5, .int 0, .int 0, .ref q6, .null, .long 0, .null, .null, .null, .int 0, .int 0, .null, .int 0, .int 0, .int 0, .int 0, .int 0, .int 0, .int 0, .int 0])), (q1, .inl (cy 0, 900, .inl (fun _ => 0))), (q2, .inl (cy 1, 19, .inl (fun _ => 0))), (q3, .inl (cy 1, 19, .inl (fun _ => 0))), (q4, .inl (cy 1, 304, .inl (fun _ => 0))), (q5, .inl (cy 1, 57, .inl (fun _ => 0))), (q6, .inl (cy 1, 5, .inl (fun _ => 0)))] ++ X) H := hP
  have hD : va_D A ([(a_mo, .inr (13, [.int 0, .int 0, .int (-1), .null, .null, .ref q1, .int 0, .int 0, .int 0, .int 0, .int 0, .int 0, .int 0, .int 0, .int 0, .long 0, .ref q2, .ref q3, .ref q4, .ref q5, .int 0, .int 0, .ref q6, .null, .long 0, .null, .null, .null, .int 0, .int 0, .null, .int 0, .int 0, .int 0, .int 0, .int 0, .int 0, .int 0, .int 0])), (q1, .inl (cy 0, 900, .inl (fun _ => 0))), (q2, .inl (cy 1, 19, .inl (fun _ => 0))), (q3, .inl (cy 1, 19, .inl (fun _ => 0))), (q4, .inl (cy 1, 304, .inl (fun _ => 0))), (q5, .inl (cy 1, 57, .inl (fun _ => 0))), (q6, .inl (cy 1, 5, .inl (fun _ => 0)))] ++ X) := hD
  refine lv_aload_n hx hb dX13_init_58 rfl (lv_at hl 0 rfl) ?_
  refine lv_iconst (v := 5) hx hb dX13_init_59 (by decide) ?_
  refine nAI hx hb (hts (.arrayClass .int) (by decide +kernel)) hK hP hD hS hA 5 (by decide) (by decide) (by decide) (Nat.le_of_ble_eq_true rfl) (Nat.le_of_ble_eq_true rfl) dX13_init_60 (fun q7 H hP hD hS => ?_)
  have hP : va_P D vwCl ([(a_mo, .inr (13, [.int 0, .int 0, .int (-1), .null, .null, .ref q1, .int 0, .int 0, .int 0, .int 0, .int 0, .int 0, .int 0, .int 0, .int 0, .long 0, .ref q2, .ref q3, .ref q4, .ref q5, .int 0, .int 0, .ref q6, .null, .long 0, .null, .null, .null, .int 0, .int 0, .null, .int 0, .int 0, .int 0, .int 0, .int 0, .int 0, .int 0, .int 0])), (q1, .inl (cy 0, 900, .inl (fun _ => 0))), (q2, .inl (cy 1, 19, .inl (fun _ => 0))), (q3, .inl (cy 1, 19, .inl (fun _ => 0))), (q4, .inl (cy 1, 304, .inl (fun _ => 0))), (q5, .inl (cy 1, 57, .inl (fun _ => 0))), (q6, .inl (cy 1, 5, .inl (fun _ => 0))), (q7, .inl (cy 1, 5, .inl (fun _ => 0)))] ++ X) H := hP
  have hD : va_D A ([(a_mo, .inr (13, [.int 0, .int 0, .int (-1), .null, .null, .ref q1, .int 0, .int 0, .int 0, .int 0, .int 0, .int 0, .int 0, .int 0, .int 0, .long 0, .ref q2, .ref q3, .ref q4, .ref q5, .int 0, .int 0, .ref q6, .null, .long 0, .null, .null, .null, .int 0, .int 0, .null, .int 0, .int 0, .int 0, .int 0, .int 0, .int 0, .int 0, .int 0])), (q1, .inl (cy 0, 900, .inl (fun _ => 0))), (q2, .inl (cy 1, 19, .inl (fun _ => 0))), (q3, .inl (cy 1, 19, .inl (fun _ => 0))), (q4, .inl (cy 1, 304, .inl (fun _ => 0))), (q5, .inl (cy 1, 57, .inl (fun _ => 0))), (q6, .inl (cy 1, 5, .inl (fun _ => 0))), (q7, .inl (cy 1, 5, .inl (fun _ => 0)))] ++ X) := hD
  refine W.widen (k := 7) (n := 1309) (Nat.le_of_ble_eq_true rfl) (Nat.le_of_ble_eq_true rfl) ?_
  refine va_putF (D := D) (ci := 13) (C := RX13) (T := TX13) (N := 39) (v := .ref q7) (ty := .array .int) hx hb hX13 (fun _ q => q) tyX13 tyX13_ok nmX13 hown hK hP hD hS 0 rfl rfl 23 (by decide) (hts (.fieldLink RX13 33 "ElephantLineModel" "bestPut" "[I") (by decide +kernel)) (fun _ h9 => h9) rfl hin rfl (tyX13_ok 23 (by decide)) rfl rfl (Nat.le_of_ble_eq_true rfl) dX13_init_62 (fun H locs hP hD hS => ?_)
  have hP : va_P D vwCl ([(a_mo, .inr (13, [.int 0, .int 0, .int (-1), .null, .null, .ref q1, .int 0, .int 0, .int 0, .int 0, .int 0, .int 0, .int 0, .int 0, .int 0, .long 0, .ref q2, .ref q3, .ref q4, .ref q5, .int 0, .int 0, .ref q6, .ref q7, .long 0, .null, .null, .null, .int 0, .int 0, .null, .int 0, .int 0, .int 0, .int 0, .int 0, .int 0, .int 0, .int 0])), (q1, .inl (cy 0, 900, .inl (fun _ => 0))), (q2, .inl (cy 1, 19, .inl (fun _ => 0))), (q3, .inl (cy 1, 19, .inl (fun _ => 0))), (q4, .inl (cy 1, 304, .inl (fun _ => 0))), (q5, .inl (cy 1, 57, .inl (fun _ => 0))), (q6, .inl (cy 1, 5, .inl (fun _ => 0))), (q7, .inl (cy 1, 5, .inl (fun _ => 0)))] ++ X) H := hP
  have hD : va_D A ([(a_mo, .inr (13, [.int 0, .int 0, .int (-1), .null, .null, .ref q1, .int 0, .int 0, .int 0, .int 0, .int 0, .int 0, .int 0, .int 0, .int 0, .long 0, .ref q2, .ref q3, .ref q4, .ref q5, .int 0, .int 0, .ref q6, .ref q7, .long 0, .null, .null, .null, .int 0, .int 0, .null, .int 0, .int 0, .int 0, .int 0, .int 0, .int 0, .int 0, .int 0])), (q1, .inl (cy 0, 900, .inl (fun _ => 0))), (q2, .inl (cy 1, 19, .inl (fun _ => 0))), (q3, .inl (cy 1, 19, .inl (fun _ => 0))), (q4, .inl (cy 1, 304, .inl (fun _ => 0))), (q5, .inl (cy 1, 57, .inl (fun _ => 0))), (q6, .inl (cy 1, 5, .inl (fun _ => 0))), (q7, .inl (cy 1, 5, .inl (fun _ => 0)))] ++ X) := hD
  refine lv_aload_n hx hb dX13_init_65 rfl (lv_at hl 0 rfl) ?_
  refine lv_bipush (v := 6) hx hb dX13_init_66 (by decide) ?_
  refine nAI hx hb (hts (.arrayClass .int) (by decide +kernel)) hK hP hD hS hA 6 (by decide) (by decide) (by decide) (Nat.le_of_ble_eq_true rfl) (Nat.le_of_ble_eq_true rfl) dX13_init_68 (fun q8 H hP hD hS => ?_)
  have hP : va_P D vwCl ([(a_mo, .inr (13, [.int 0, .int 0, .int (-1), .null, .null, .ref q1, .int 0, .int 0, .int 0, .int 0, .int 0, .int 0, .int 0, .int 0, .int 0, .long 0, .ref q2, .ref q3, .ref q4, .ref q5, .int 0, .int 0, .ref q6, .ref q7, .long 0, .null, .null, .null, .int 0, .int 0, .null, .int 0, .int 0, .int 0, .int 0, .int 0, .int 0, .int 0, .int 0])), (q1, .inl (cy 0, 900, .inl (fun _ => 0))), (q2, .inl (cy 1, 19, .inl (fun _ => 0))), (q3, .inl (cy 1, 19, .inl (fun _ => 0))), (q4, .inl (cy 1, 304, .inl (fun _ => 0))), (q5, .inl (cy 1, 57, .inl (fun _ => 0))), (q6, .inl (cy 1, 5, .inl (fun _ => 0))), (q7, .inl (cy 1, 5, .inl (fun _ => 0))), (q8, .inl (cy 1, 6, .inl (fun _ => 0)))] ++ X) H := hP
  have hD : va_D A ([(a_mo, .inr (13, [.int 0, .int 0, .int (-1), .null, .null, .ref q1, .int 0, .int 0, .int 0, .int 0, .int 0, .int 0, .int 0, .int 0, .int 0, .long 0, .ref q2, .ref q3, .ref q4, .ref q5, .int 0, .int 0, .ref q6, .ref q7, .long 0, .null, .null, .null, .int 0, .int 0, .null, .int 0, .int 0, .int 0, .int 0, .int 0, .int 0, .int 0, .int 0])), (q1, .inl (cy 0, 900, .inl (fun _ => 0))), (q2, .inl (cy 1, 19, .inl (fun _ => 0))), (q3, .inl (cy 1, 19, .inl (fun _ => 0))), (q4, .inl (cy 1, 304, .inl (fun _ => 0))), (q5, .inl (cy 1, 57, .inl (fun _ => 0))), (q6, .inl (cy 1, 5, .inl (fun _ => 0))), (q7, .inl (cy 1, 5, .inl (fun _ => 0))), (q8, .inl (cy 1, 6, .inl (fun _ => 0)))] ++ X) := hD
  refine W.widen (k := 8) (n := 1315) (Nat.le_of_ble_eq_true rfl) (Nat.le_of_ble_eq_true rfl) ?_
  refine va_putF (D := D) (ci := 13) (C := RX13) (T := TX13) (N := 39) (v := .ref q8) (ty := .array .int) hx hb hX13 (fun _ q => q) tyX13 tyX13_ok nmX13 hown hK hP hD hS 0 rfl rfl 25 (by decide) (hts (.fieldLink RX13 36 "ElephantLineModel" "row" "[I") (by decide +kernel)) (fun _ h9 => h9) rfl hin rfl (tyX13_ok 25 (by decide)) rfl rfl (Nat.le_of_ble_eq_true rfl) dX13_init_70 (fun H locs hP hD hS => ?_)
  have hP : va_P D vwCl ([(a_mo, .inr (13, [.int 0, .int 0, .int (-1), .null, .null, .ref q1, .int 0, .int 0, .int 0, .int 0, .int 0, .int 0, .int 0, .int 0, .int 0, .long 0, .ref q2, .ref q3, .ref q4, .ref q5, .int 0, .int 0, .ref q6, .ref q7, .long 0, .ref q8, .null, .null, .int 0, .int 0, .null, .int 0, .int 0, .int 0, .int 0, .int 0, .int 0, .int 0, .int 0])), (q1, .inl (cy 0, 900, .inl (fun _ => 0))), (q2, .inl (cy 1, 19, .inl (fun _ => 0))), (q3, .inl (cy 1, 19, .inl (fun _ => 0))), (q4, .inl (cy 1, 304, .inl (fun _ => 0))), (q5, .inl (cy 1, 57, .inl (fun _ => 0))), (q6, .inl (cy 1, 5, .inl (fun _ => 0))), (q7, .inl (cy 1, 5, .inl (fun _ => 0))), (q8, .inl (cy 1, 6, .inl (fun _ => 0)))] ++ X) H := hP
  have hD : va_D A ([(a_mo, .inr (13, [.int 0, .int 0, .int (-1), .null, .null, .ref q1, .int 0, .int 0, .int 0, .int 0, .int 0, .int 0, .int 0, .int 0, .int 0, .long 0, .ref q2, .ref q3, .ref q4, .ref q5, .int 0, .int 0, .ref q6, .ref q7, .long 0, .ref q8, .null, .null, .int 0, .int 0, .null, .int 0, .int 0, .int 0, .int 0, .int 0, .int 0, .int 0, .int 0])), (q1, .inl (cy 0, 900, .inl (fun _ => 0))), (q2, .inl (cy 1, 19, .inl (fun _ => 0))), (q3, .inl (cy 1, 19, .inl (fun _ => 0))), (q4, .inl (cy 1, 304, .inl (fun _ => 0))), (q5, .inl (cy 1, 57, .inl (fun _ => 0))), (q6, .inl (cy 1, 5, .inl (fun _ => 0))), (q7, .inl (cy 1, 5, .inl (fun _ => 0))), (q8, .inl (cy 1, 6, .inl (fun _ => 0)))] ++ X) := hD
  refine lv_aload_n hx hb dX13_init_73 rfl (lv_at hl 0 rfl) ?_
  refine lv_bipush (v := 6) hx hb dX13_init_74 (by decide) ?_
  refine nAI hx hb (hts (.arrayClass .int) (by decide +kernel)) hK hP hD hS hA 6 (by decide) (by decide) (by decide) (Nat.le_of_ble_eq_true rfl) (Nat.le_of_ble_eq_true rfl) dX13_init_76 (fun q9 H hP hD hS => ?_)
  have hP : va_P D vwCl ([(a_mo, .inr (13, [.int 0, .int 0, .int (-1), .null, .null, .ref q1, .int 0, .int 0, .int 0, .int 0, .int 0, .int 0, .int 0, .int 0, .int 0, .long 0, .ref q2, .ref q3, .ref q4, .ref q5, .int 0, .int 0, .ref q6, .ref q7, .long 0, .ref q8, .null, .null, .int 0, .int 0, .null, .int 0, .int 0, .int 0, .int 0, .int 0, .int 0, .int 0, .int 0])), (q1, .inl (cy 0, 900, .inl (fun _ => 0))), (q2, .inl (cy 1, 19, .inl (fun _ => 0))), (q3, .inl (cy 1, 19, .inl (fun _ => 0))), (q4, .inl (cy 1, 304, .inl (fun _ => 0))), (q5, .inl (cy 1, 57, .inl (fun _ => 0))), (q6, .inl (cy 1, 5, .inl (fun _ => 0))), (q7, .inl (cy 1, 5, .inl (fun _ => 0))), (q8, .inl (cy 1, 6, .inl (fun _ => 0))), (q9, .inl (cy 1, 6, .inl (fun _ => 0)))] ++ X) H := hP
  have hD : va_D A ([(a_mo, .inr (13, [.int 0, .int 0, .int (-1), .null, .null, .ref q1, .int 0, .int 0, .int 0, .int 0, .int 0, .int 0, .int 0, .int 0, .int 0, .long 0, .ref q2, .ref q3, .ref q4, .ref q5, .int 0, .int 0, .ref q6, .ref q7, .long 0, .ref q8, .null, .null, .int 0, .int 0, .null, .int 0, .int 0, .int 0, .int 0, .int 0, .int 0, .int 0, .int 0])), (q1, .inl (cy 0, 900, .inl (fun _ => 0))), (q2, .inl (cy 1, 19, .inl (fun _ => 0))), (q3, .inl (cy 1, 19, .inl (fun _ => 0))), (q4, .inl (cy 1, 304, .inl (fun _ => 0))), (q5, .inl (cy 1, 57, .inl (fun _ => 0))), (q6, .inl (cy 1, 5, .inl (fun _ => 0))), (q7, .inl (cy 1, 5, .inl (fun _ => 0))), (q8, .inl (cy 1, 6, .inl (fun _ => 0))), (q9, .inl (cy 1, 6, .inl (fun _ => 0)))] ++ X) := hD
  refine W.widen (k := 9) (n := 1321) (Nat.le_of_ble_eq_true rfl) (Nat.le_of_ble_eq_true rfl) ?_
  refine va_putF (D := D) (ci := 13) (C := RX13) (T := TX13) (N := 39) (v := .ref q9) (ty := .array .int) hx hb hX13 (fun _ q => q) tyX13 tyX13_ok nmX13 hown hK hP hD hS 0 rfl rfl 26 (by decide) (hts (.fieldLink RX13 39 "ElephantLineModel" "best" "[I") (by decide +kernel)) (fun _ h9 => h9) rfl hin rfl (tyX13_ok 26 (by decide)) rfl rfl (Nat.le_of_ble_eq_true rfl) dX13_init_78 (fun H locs hP hD hS => ?_)
  have hP : va_P D vwCl ([(a_mo, .inr (13, [.int 0, .int 0, .int (-1), .null, .null, .ref q1, .int 0, .int 0, .int 0, .int 0, .int 0, .int 0, .int 0, .int 0, .int 0, .long 0, .ref q2, .ref q3, .ref q4, .ref q5, .int 0, .int 0, .ref q6, .ref q7, .long 0, .ref q8, .ref q9, .null, .int 0, .int 0, .null, .int 0, .int 0, .int 0, .int 0, .int 0, .int 0, .int 0, .int 0])), (q1, .inl (cy 0, 900, .inl (fun _ => 0))), (q2, .inl (cy 1, 19, .inl (fun _ => 0))), (q3, .inl (cy 1, 19, .inl (fun _ => 0))), (q4, .inl (cy 1, 304, .inl (fun _ => 0))), (q5, .inl (cy 1, 57, .inl (fun _ => 0))), (q6, .inl (cy 1, 5, .inl (fun _ => 0))), (q7, .inl (cy 1, 5, .inl (fun _ => 0))), (q8, .inl (cy 1, 6, .inl (fun _ => 0))), (q9, .inl (cy 1, 6, .inl (fun _ => 0)))] ++ X) H := hP
  have hD : va_D A ([(a_mo, .inr (13, [.int 0, .int 0, .int (-1), .null, .null, .ref q1, .int 0, .int 0, .int 0, .int 0, .int 0, .int 0, .int 0, .int 0, .int 0, .long 0, .ref q2, .ref q3, .ref q4, .ref q5, .int 0, .int 0, .ref q6, .ref q7, .long 0, .ref q8, .ref q9, .null, .int 0, .int 0, .null, .int 0, .int 0, .int 0, .int 0, .int 0, .int 0, .int 0, .int 0])), (q1, .inl (cy 0, 900, .inl (fun _ => 0))), (q2, .inl (cy 1, 19, .inl (fun _ => 0))), (q3, .inl (cy 1, 19, .inl (fun _ => 0))), (q4, .inl (cy 1, 304, .inl (fun _ => 0))), (q5, .inl (cy 1, 57, .inl (fun _ => 0))), (q6, .inl (cy 1, 5, .inl (fun _ => 0))), (q7, .inl (cy 1, 5, .inl (fun _ => 0))), (q8, .inl (cy 1, 6, .inl (fun _ => 0))), (q9, .inl (cy 1, 6, .inl (fun _ => 0)))] ++ X) := hD
  refine lv_aload_n hx hb dX13_init_81 rfl (lv_at hl 0 rfl) ?_
  refine lv_bipush (v := 6) hx hb dX13_init_82 (by decide) ?_
  refine nAI hx hb (hts (.arrayClass .int) (by decide +kernel)) hK hP hD hS hA 6 (by decide) (by decide) (by decide) (Nat.le_of_ble_eq_true rfl) (Nat.le_of_ble_eq_true rfl) dX13_init_84 (fun q10 H hP hD hS => ?_)
  have hP : va_P D vwCl ([(a_mo, .inr (13, [.int 0, .int 0, .int (-1), .null, .null, .ref q1, .int 0, .int 0, .int 0, .int 0, .int 0, .int 0, .int 0, .int 0, .int 0, .long 0, .ref q2, .ref q3, .ref q4, .ref q5, .int 0, .int 0, .ref q6, .ref q7, .long 0, .ref q8, .ref q9, .null, .int 0, .int 0, .null, .int 0, .int 0, .int 0, .int 0, .int 0, .int 0, .int 0, .int 0])), (q1, .inl (cy 0, 900, .inl (fun _ => 0))), (q2, .inl (cy 1, 19, .inl (fun _ => 0))), (q3, .inl (cy 1, 19, .inl (fun _ => 0))), (q4, .inl (cy 1, 304, .inl (fun _ => 0))), (q5, .inl (cy 1, 57, .inl (fun _ => 0))), (q6, .inl (cy 1, 5, .inl (fun _ => 0))), (q7, .inl (cy 1, 5, .inl (fun _ => 0))), (q8, .inl (cy 1, 6, .inl (fun _ => 0))), (q9, .inl (cy 1, 6, .inl (fun _ => 0))), (q10, .inl (cy 1, 6, .inl (fun _ => 0)))] ++ X) H := hP
  have hD : va_D A ([(a_mo, .inr (13, [.int 0, .int 0, .int (-1), .null, .null, .ref q1, .int 0, .int 0, .int 0, .int 0, .int 0, .int 0, .int 0, .int 0, .int 0, .long 0, .ref q2, .ref q3, .ref q4, .ref q5, .int 0, .int 0, .ref q6, .ref q7, .long 0, .ref q8, .ref q9, .null, .int 0, .int 0, .null, .int 0, .int 0, .int 0, .int 0, .int 0, .int 0, .int 0, .int 0])), (q1, .inl (cy 0, 900, .inl (fun _ => 0))), (q2, .inl (cy 1, 19, .inl (fun _ => 0))), (q3, .inl (cy 1, 19, .inl (fun _ => 0))), (q4, .inl (cy 1, 304, .inl (fun _ => 0))), (q5, .inl (cy 1, 57, .inl (fun _ => 0))), (q6, .inl (cy 1, 5, .inl (fun _ => 0))), (q7, .inl (cy 1, 5, .inl (fun _ => 0))), (q8, .inl (cy 1, 6, .inl (fun _ => 0))), (q9, .inl (cy 1, 6, .inl (fun _ => 0))), (q10, .inl (cy 1, 6, .inl (fun _ => 0)))] ++ X) := hD
  refine W.widen (k := 10) (n := 1327) (Nat.le_of_ble_eq_true rfl) (Nat.le_of_ble_eq_true rfl) ?_
  refine va_putF (D := D) (ci := 13) (C := RX13) (T := TX13) (N := 39) (v := .ref q10) (ty := .array .int) hx hb hX13 (fun _ q => q) tyX13 tyX13_ok nmX13 hown hK hP hD hS 0 rfl rfl 27 (by decide) (hts (.fieldLink RX13 42 "ElephantLineModel" "left" "[I") (by decide +kernel)) (fun _ h9 => h9) rfl hin rfl (tyX13_ok 27 (by decide)) rfl rfl (Nat.le_of_ble_eq_true rfl) dX13_init_86 (fun H locs hP hD hS => ?_)
  have hP : va_P D vwCl ([(a_mo, .inr (13, [.int 0, .int 0, .int (-1), .null, .null, .ref q1, .int 0, .int 0, .int 0, .int 0, .int 0, .int 0, .int 0, .int 0, .int 0, .long 0, .ref q2, .ref q3, .ref q4, .ref q5, .int 0, .int 0, .ref q6, .ref q7, .long 0, .ref q8, .ref q9, .ref q10, .int 0, .int 0, .null, .int 0, .int 0, .int 0, .int 0, .int 0, .int 0, .int 0, .int 0])), (q1, .inl (cy 0, 900, .inl (fun _ => 0))), (q2, .inl (cy 1, 19, .inl (fun _ => 0))), (q3, .inl (cy 1, 19, .inl (fun _ => 0))), (q4, .inl (cy 1, 304, .inl (fun _ => 0))), (q5, .inl (cy 1, 57, .inl (fun _ => 0))), (q6, .inl (cy 1, 5, .inl (fun _ => 0))), (q7, .inl (cy 1, 5, .inl (fun _ => 0))), (q8, .inl (cy 1, 6, .inl (fun _ => 0))), (q9, .inl (cy 1, 6, .inl (fun _ => 0))), (q10, .inl (cy 1, 6, .inl (fun _ => 0)))] ++ X) H := hP
  have hD : va_D A ([(a_mo, .inr (13, [.int 0, .int 0, .int (-1), .null, .null, .ref q1, .int 0, .int 0, .int 0, .int 0, .int 0, .int 0, .int 0, .int 0, .int 0, .long 0, .ref q2, .ref q3, .ref q4, .ref q5, .int 0, .int 0, .ref q6, .ref q7, .long 0, .ref q8, .ref q9, .ref q10, .int 0, .int 0, .null, .int 0, .int 0, .int 0, .int 0, .int 0, .int 0, .int 0, .int 0])), (q1, .inl (cy 0, 900, .inl (fun _ => 0))), (q2, .inl (cy 1, 19, .inl (fun _ => 0))), (q3, .inl (cy 1, 19, .inl (fun _ => 0))), (q4, .inl (cy 1, 304, .inl (fun _ => 0))), (q5, .inl (cy 1, 57, .inl (fun _ => 0))), (q6, .inl (cy 1, 5, .inl (fun _ => 0))), (q7, .inl (cy 1, 5, .inl (fun _ => 0))), (q8, .inl (cy 1, 6, .inl (fun _ => 0))), (q9, .inl (cy 1, 6, .inl (fun _ => 0))), (q10, .inl (cy 1, 6, .inl (fun _ => 0)))] ++ X) := hD
  refine lv_aload_n hx hb dX13_init_89 rfl (lv_at hl 0 rfl) ?_
  refine lv_iconst (v := 5) hx hb dX13_init_90 (by decide) ?_
  refine nAI hx hb (hts (.arrayClass .int) (by decide +kernel)) hK hP hD hS hA 5 (by decide) (by decide) (by decide) (Nat.le_of_ble_eq_true rfl) (Nat.le_of_ble_eq_true rfl) dX13_init_91 (fun q11 H hP hD hS => ?_)
  have hP : va_P D vwCl ([(a_mo, .inr (13, [.int 0, .int 0, .int (-1), .null, .null, .ref q1, .int 0, .int 0, .int 0, .int 0, .int 0, .int 0, .int 0, .int 0, .int 0, .long 0, .ref q2, .ref q3, .ref q4, .ref q5, .int 0, .int 0, .ref q6, .ref q7, .long 0, .ref q8, .ref q9, .ref q10, .int 0, .int 0, .null, .int 0, .int 0, .int 0, .int 0, .int 0, .int 0, .int 0, .int 0])), (q1, .inl (cy 0, 900, .inl (fun _ => 0))), (q2, .inl (cy 1, 19, .inl (fun _ => 0))), (q3, .inl (cy 1, 19, .inl (fun _ => 0))), (q4, .inl (cy 1, 304, .inl (fun _ => 0))), (q5, .inl (cy 1, 57, .inl (fun _ => 0))), (q6, .inl (cy 1, 5, .inl (fun _ => 0))), (q7, .inl (cy 1, 5, .inl (fun _ => 0))), (q8, .inl (cy 1, 6, .inl (fun _ => 0))), (q9, .inl (cy 1, 6, .inl (fun _ => 0))), (q10, .inl (cy 1, 6, .inl (fun _ => 0))), (q11, .inl (cy 1, 5, .inl (fun _ => 0)))] ++ X) H := hP
  have hD : va_D A ([(a_mo, .inr (13, [.int 0, .int 0, .int (-1), .null, .null, .ref q1, .int 0, .int 0, .int 0, .int 0, .int 0, .int 0, .int 0, .int 0, .int 0, .long 0, .ref q2, .ref q3, .ref q4, .ref q5, .int 0, .int 0, .ref q6, .ref q7, .long 0, .ref q8, .ref q9, .ref q10, .int 0, .int 0, .null, .int 0, .int 0, .int 0, .int 0, .int 0, .int 0, .int 0, .int 0])), (q1, .inl (cy 0, 900, .inl (fun _ => 0))), (q2, .inl (cy 1, 19, .inl (fun _ => 0))), (q3, .inl (cy 1, 19, .inl (fun _ => 0))), (q4, .inl (cy 1, 304, .inl (fun _ => 0))), (q5, .inl (cy 1, 57, .inl (fun _ => 0))), (q6, .inl (cy 1, 5, .inl (fun _ => 0))), (q7, .inl (cy 1, 5, .inl (fun _ => 0))), (q8, .inl (cy 1, 6, .inl (fun _ => 0))), (q9, .inl (cy 1, 6, .inl (fun _ => 0))), (q10, .inl (cy 1, 6, .inl (fun _ => 0))), (q11, .inl (cy 1, 5, .inl (fun _ => 0)))] ++ X) := hD
  refine W.widen (k := 11) (n := 1332) (Nat.le_of_ble_eq_true rfl) (Nat.le_of_ble_eq_true rfl) ?_
  refine va_putF (D := D) (ci := 13) (C := RX13) (T := TX13) (N := 39) (v := .ref q11) (ty := .array .int) hx hb hX13 (fun _ q => q) tyX13 tyX13_ok nmX13 hown hK hP hD hS 0 rfl rfl 30 (by decide) (hts (.fieldLink RX13 45 "ElephantLineModel" "counts" "[I") (by decide +kernel)) (fun _ h9 => h9) rfl hin rfl (tyX13_ok 30 (by decide)) rfl rfl (Nat.le_of_ble_eq_true rfl) dX13_init_93 (fun H locs hP hD hS => ?_)
  have hP : va_P D vwCl ([(a_mo, .inr (13, [.int 0, .int 0, .int (-1), .null, .null, .ref q1, .int 0, .int 0, .int 0, .int 0, .int 0, .int 0, .int 0, .int 0, .int 0, .long 0, .ref q2, .ref q3, .ref q4, .ref q5, .int 0, .int 0, .ref q6, .ref q7, .long 0, .ref q8, .ref q9, .ref q10, .int 0, .int 0, .ref q11, .int 0, .int 0, .int 0, .int 0, .int 0, .int 0, .int 0, .int 0])), (q1, .inl (cy 0, 900, .inl (fun _ => 0))), (q2, .inl (cy 1, 19, .inl (fun _ => 0))), (q3, .inl (cy 1, 19, .inl (fun _ => 0))), (q4, .inl (cy 1, 304, .inl (fun _ => 0))), (q5, .inl (cy 1, 57, .inl (fun _ => 0))), (q6, .inl (cy 1, 5, .inl (fun _ => 0))), (q7, .inl (cy 1, 5, .inl (fun _ => 0))), (q8, .inl (cy 1, 6, .inl (fun _ => 0))), (q9, .inl (cy 1, 6, .inl (fun _ => 0))), (q10, .inl (cy 1, 6, .inl (fun _ => 0))), (q11, .inl (cy 1, 5, .inl (fun _ => 0)))] ++ X) H := hP
  have hD : va_D A ([(a_mo, .inr (13, [.int 0, .int 0, .int (-1), .null, .null, .ref q1, .int 0, .int 0, .int 0, .int 0, .int 0, .int 0, .int 0, .int 0, .int 0, .long 0, .ref q2, .ref q3, .ref q4, .ref q5, .int 0, .int 0, .ref q6, .ref q7, .long 0, .ref q8, .ref q9, .ref q10, .int 0, .int 0, .ref q11, .int 0, .int 0, .int 0, .int 0, .int 0, .int 0, .int 0, .int 0])), (q1, .inl (cy 0, 900, .inl (fun _ => 0))), (q2, .inl (cy 1, 19, .inl (fun _ => 0))), (q3, .inl (cy 1, 19, .inl (fun _ => 0))), (q4, .inl (cy 1, 304, .inl (fun _ => 0))), (q5, .inl (cy 1, 57, .inl (fun _ => 0))), (q6, .inl (cy 1, 5, .inl (fun _ => 0))), (q7, .inl (cy 1, 5, .inl (fun _ => 0))), (q8, .inl (cy 1, 6, .inl (fun _ => 0))), (q9, .inl (cy 1, 6, .inl (fun _ => 0))), (q10, .inl (cy 1, 6, .inl (fun _ => 0))), (q11, .inl (cy 1, 5, .inl (fun _ => 0)))] ++ X) := hD
  exact W.vret hx hb hr (fun t ht _ => ⟨⟨(q1, q2, q3, q4, q5, q6, q7, q8, q9, q10, q11), rfl, trivial, by rw [ht]; exact hP, hD⟩, hS.F ht⟩) hS.2.2 dX13_init_96
