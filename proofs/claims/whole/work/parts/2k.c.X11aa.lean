theorem hd_X11_outside : yX11_outside.cls ≠ "java/lang/invoke/MethodHandle" ∧ yX11_outside.cls ≠ "java/lang/invoke/VarHandle" ∧ (parseMethodDescriptor yX11_outside.desc).map (fun d => d.parameters.length) = some 3 := by decide +kernel
set_option maxHeartbeats 4000000 in
set_option maxRecDepth 100000 in
theorem c_X11_outside (l : Launch) (D : va_G) (cy : Nat → ClassId) (p0 : Int32) (p1 : Int32) (p2 : Int32) (res : Int32) (h : f_X11_outside  p0 p1 p2 = some (res)) : Met l yX11_outside wo_X11_outside ({ frames := 0, cells := 0, slots := 0, locals := 0 }) (roPc D cy [.int p0, .int p1, .int p2] []) (vp_Si (fun r => r = res ∧ nbv r)) 0 0 (fun _ => False) := by
  refine Met.ofW (cc := cX11_outside) (maxL := 3) (ret := (some .boolean)) (by decide) rfl ?_
  intro p e s m args below meth c s₁ B hml hv
  obtain ⟨rfl, hP, hKN⟩ := hv
  have hK := hKN.1
  have hx := B.exec
  have hb := B.bytes
  have hr := B.returns
  have hts := wt_X11_outside hKN.2.2 (([.int p0, .int p1, .int p2] : List Value).toArray)
  have hown : s.vm.findClass RX11 = some m.cls := findClass_of_methodNamed B.named
  have hlocks := B.notSynchronized
  have hl := lv_entry ([.int p0, .int p1, .int p2]) (n := 3) (Nat.le_of_ble_eq_true rfl)
  rw [lg_entry_eq]
  generalize (lg_sl ([.int p0, .int p1, .int p2]) ++ List.replicate (3 - (lg_sl ([.int p0, .int p1, .int p2])).length) Slot.unset).toArray = ls at hl ⊢
  have hl : lv_has ls 3 [(0, .int p0), (1, .int p1), (2, .int p2)] := hl
  unfold f_X11_outside at h
  refine lv_iload_n hx hb dX11_outside_0 rfl (lv_at hl 0 rfl) ?_
  refine lv_iload_n hx hb dX11_outside_1 rfl (lv_at hl 1 rfl) ?_
  have jn10 : f_X11_outside_B10 = some (res) → ∀ ls : Array Slot, lv_has ls 3 [] → W p l e (headSpec wo_X11_outside ({ frames := 0, cells := 0, slots := 0, locals := 0 })).room s m (([.int p0, .int p1, .int p2] : List Value).toArray) below meth c s.heap [] 0 0 (MQ below (vp_Si (fun r => r = res ∧ nbv r)) (([.int p0, .int p1, .int p2] : List Value).toArray) s 0 0 (fun _ => False)) (F0 m 10 ls []) := by
    intro h ls hl
    unfold f_X11_outside_B10 at h
    refine lv_iconst (v := 1) hx hb dX11_outside_10 (by decide) ?_
    refine lv_goto (tgt := 15) hx hb dX11_outside_11 (by decide) ?_
    exact W.zret (ty := .boolean) (v := 1) hx hb hr (nbv.n nbv_1) (fun t ht _ => ⟨_, rfl, ⟨Option.some.inj h, nbv_1⟩, ht⟩) (fun _ q => by cases q) dX11_outside_15
  refine lv_icmp_lt (tgt := 10) hx hb dX11_outside_2 (by decide) (fun cd => ?_) (fun cd => ?_)
  · have h := ifT cd h
    exact jn10 h _ (lv_sub hl [] rfl)
  · have h := ifF cd h
    refine lv_iload_n hx hb dX11_outside_5 rfl (lv_at hl 0 rfl) ?_
    refine lv_iload_n hx hb dX11_outside_6 rfl (lv_at hl 2 rfl) ?_
    refine lv_icmp_le (tgt := 14) hx hb dX11_outside_7 (by decide) (fun cd => ?_) (fun cd => ?_)
    · have h := ifT cd h
      refine lv_iconst (v := 0) hx hb dX11_outside_14 (by decide) ?_
      exact W.zret (ty := .boolean) (v := 0) hx hb hr (nbv.n nbv_0) (fun t ht _ => ⟨_, rfl, ⟨Option.some.inj h, nbv_0⟩, ht⟩) (fun _ q => by cases q) dX11_outside_15
    · have h := ifF cd h
      exact jn10 h _ (lv_sub hl [] rfl)
