noncomputable def f_X5_forget (pa_acts : Int32) (pa_marks : Int32) : Option (Int32 × Int32) :=
  some (0, 0)
theorem hd_X5_forget : yX5_forget.cls = RX5 ∧ yX5_forget.cls ≠ "java/lang/invoke/MethodHandle" ∧ yX5_forget.cls ≠ "java/lang/invoke/VarHandle" ∧ (parseMethodDescriptor yX5_forget.desc).map (fun d => d.parameters.length) = some 0 := by decide +kernel
set_option maxHeartbeats 4000000 in
set_option maxRecDepth 100000 in
theorem c_X5_forget (l : Launch) (D : va_G) (cy : Nat → ClassId) (A : Nat → Prop) (X : va_W) (a_pa : Nat) (pa_kept : Value) (pa_marked : Value) (pa_latest : Int32) (pa_acts : Int32) (pa_marks : Int32) (pa_acts' : Int32) (pa_marks' : Int32) (h : f_X5_forget pa_acts pa_marks = some (pa_acts', pa_marks')) : Met l yX5_forget wo_X5_forget ({ frames := 0, cells := 0, slots := 0, locals := 0 }) (wrPc D cy A [.ref a_pa] ([(a_pa, .inr (5, [pa_kept, pa_marked, .int pa_latest, .int pa_acts, .int pa_marks]))] ++ X)) (va_Qv (fun (_ : Unit) => True) (wB D A ([(a_pa, .inr (5, [pa_kept, pa_marked, .int pa_latest, .int pa_acts', .int pa_marks']))] ++ X)) A) 0 0 A := by
  refine Met.ofW (cc := cX5_forget) (maxL := 1) (ret := none) (by decide) rfl ?_
  intro p e s m args below meth c s₁ B hml hv
  obtain ⟨rfl, hP, hKN, hD, hA⟩ := hv
  have hK := hKN.1
  have hx := B.exec
  have hb := B.bytes
  have hr := B.returns
  have hts := wt_X5_forget hKN.2.2 (([.ref a_pa] : List Value).toArray)
  have hown : s.vm.findClass RX5 = some m.cls := findClass_of_methodNamed B.named
  have hlocks := B.notSynchronized
  have hS : va_S A s.heap s.heap [] := va_S.rf
  have hX5 := wc_X5 hKN.2.2 (([.ref a_pa] : List Value).toArray)
  have hl := lv_entry ([.ref a_pa]) (n := 1) (Nat.le_of_ble_eq_true rfl)
  rw [lg_entry_eq]
  generalize (lg_sl ([.ref a_pa]) ++ List.replicate (1 - (lg_sl ([.ref a_pa])).length) Slot.unset).toArray = ls at hl ⊢
  have hl : lv_has ls 1 [(0, .ref a_pa)] := hl
  unfold f_X5_forget at h
  refine lv_aload_n hx hb dX5_forget_0 rfl (lv_at hl 0 rfl) ?_
  refine lv_iconst (v := 0) hx hb dX5_forget_1 (by decide) ?_
  refine va_put (D := D) (ci := 5) (C := RX5) (T := TX5) (N := 5) (v := .int 0) (ty := .int) hx hb hX5 (fun _ q => q) tyX5 tyX5_ok nmX5 hown hK hP hD hS 0 rfl rfl 3 (by decide) (hts (.fieldLink RX5 21 "ElephantLine$Past" "acts" "I") (by decide +kernel)) (fun _ h9 => h9) rfl (tyX5_ok 3 (by decide)) rfl rfl (Nat.le_of_ble_eq_true rfl) dX5_forget_2 (fun H locs hP hD hS => ?_)
  refine lv_aload_n hx hb dX5_forget_5 rfl (lv_at hl 0 rfl) ?_
  refine lv_iconst (v := 0) hx hb dX5_forget_6 (by decide) ?_
  refine va_put (D := D) (ci := 5) (C := RX5) (T := TX5) (N := 5) (v := .int 0) (ty := .int) hx hb hX5 (fun _ q => q) tyX5 tyX5_ok nmX5 hown hK hP hD hS 0 rfl rfl 4 (by decide) (hts (.fieldLink RX5 25 "ElephantLine$Past" "marks" "I") (by decide +kernel)) (fun _ h9 => h9) rfl (tyX5_ok 4 (by decide)) rfl rfl (Nat.le_of_ble_eq_true rfl) dX5_forget_7 (fun H locs hP hD hS => ?_)
  cases h
  exact W.vret hx hb hr (fun t ht _ => ⟨⟨(), rfl, trivial, by rw [ht]; exact hP, hD⟩, hS.F ht⟩) hS.2.2 dX5_forget_10
