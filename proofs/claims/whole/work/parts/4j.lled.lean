def wl_Ll : List Cond := [.methodLink RL 7 yX11_led, .instanceMethod yX11_led, .selects RX11 yX11_led yX11_led, .initialized RX11, .code yX11_led cX11_led 4 (some .int), .classLink RL 13 "java/util/NoSuchElementException"]
theorem gLl : GoodIn wl_Ll (wsV RL 7 RX11 yX11_led [.code yX11_led cX11_led 4 (some .int)]) := goodIn_r _ [0, 1, 2, 3, 4] rfl (by decide +kernel)
theorem wl_Ll_g : ∀ w ∈ wl_Ll, goodWord w = true := by decide +kernel
theorem hd_X11_led : yX11_led.cls = RX11 ∧ yX11_led.cls ≠ "java/lang/invoke/MethodHandle" ∧ yX11_led.cls ≠ "java/lang/invoke/VarHandle" ∧ (parseMethodDescriptor yX11_led.desc).map (fun d => d.parameters.length) = some 1 := by decide +kernel
def ledK (o : Option Nat) : Int32 := match o with
  | some _ => 0
  | none => 1
def ledO (o : Option Nat) (ow : Nat → Int64) : Nat → Int64 := match o with
  | some j => vp_updL ow ((0 : Int32).toNatClampNeg) (nI j).toInt64
  | none => ow
set_option maxHeartbeats 4000000 in
set_option maxRecDepth 100000 in
theorem c_L_led (l : Launch) (hlt : l.stackTraces = false) (D : va_G) (cy : Nat → ClassId) (sa sv : Nat → Nat) (A : Nat → Prop) (X : va_W) (a_el a_la a_no ao : Nat) (v : Nat → Value) (i : Nat → Int32) (n : Nat) (hn : n ≤ 5) (d p1 : Int32) (ow : Nat → Int64) : vx_Met l yL_led [.codeWith yL_led cL_led 4 (some .int) [(0, 9, 12, 13)]] ({ frames := 8, cells := 1, slots := 6, locals := 160 }) (va_Pc [.ref a_el, .int p1, .ref ao] (fun U => va_P D vwCl ([ledE a_el a_la a_no v i, ledL a_la v i (nI n), ledN a_no v i d, (ao, .inl (cy 2, 1, .inr (.inl ow)))] ++ X) U.heap ∧ SK D cy U ∧ va_D A ([ledE a_el a_la a_no v i, ledL a_la v i (nI n), ledN a_no v i d, (ao, .inl (cy 2, 1, .inr (.inl ow)))] ++ X) ∧ (∀ q, U.heap.size ≤ q → A q) ∧ SS sa sv A U U.heap ∧ EX A U U.heap ∧ ∀ w ∈ wl_Ll, w.before #[] U = true)) (va_Qi (fun (r : Int32) (_ : Unit) => r = ledK (ledS d p1 n 0 0)) (fun _ t => va_P D vwCl ([ledE a_el a_la a_no v i, ledL a_la v i (nI n), ledN a_no v i d, (ao, .inl (cy 2, 1, .inr (.inl (ledO (ledS d p1 n 0 0) ow))))] ++ X) t.heap ∧ va_D A ([ledE a_el a_la a_no v i, ledL a_la v i (nI n), ledN a_no v i d, (ao, .inl (cy 2, 1, .inr (.inl (ledO (ledS d p1 n 0 0) ow))))] ++ X)) A) (vx_X (fun (_ : Unit) => False) (fun _ _ _ => True) (fun _ => False)) 1 6 A := by
  refine vx_ofWH (cc := cL_led) (maxL := 4) (ret := (some .int)) (by decide) rfl ?_
  intro p e s m args below meth c s₁ B hml hv
  obtain ⟨rfl, hP, hKN, hD, hA, hSS, hE, hw⟩ := hv
  have htab := vx_table (x := yL_led) B (atoms_spec (ws := [.codeWith yL_led cL_led 4 (some .int) [(0, 9, 12, 13)]]) B.pre _ List.mem_cons_self)
  have hK := hKN.1
  have hx := B.exec
  have hb := B.bytes
  have hr := B.returns
  have hown : s.vm.findClass RL = some m.cls := findClass_of_methodNamed B.named
  have hlocks := B.notSynchronized
  have hS : va_S A s.heap s.heap [] := va_S.rf
  have hts : ∀ w ∈ wl_Ll, w.before (([.ref a_el, .int p1, .ref ao] : List Value).toArray) s = true := fun w hw9 => word_at (State.WarmedH.refl s) (good_of_word (wl_Ll_g w hw9)) (hw w hw9)
  have hl := lv_entry ([.ref a_el, .int p1, .ref ao]) (n := 4) (Nat.le_of_ble_eq_true rfl)
  rw [lg_entry_eq]
  generalize (lg_sl ([.ref a_el, .int p1, .ref ao]) ++ List.replicate (4 - (lg_sl ([.ref a_el, .int p1, .ref ao])).length) Slot.unset).toArray = ls at hl ⊢
  have hl : lv_has ls 4 [(0, .ref a_el), (1, .int p1), (2, .ref ao)] := hl
  refine lv_aload_n hx hb dL_led_0 rfl (lv_at hl 2 rfl) ?_
  refine lv_iconst (v := 0) hx hb dL_led_1 (by decide) ?_
  refine lv_aload_n hx hb dL_led_2 rfl (lv_at hl 0 rfl) ?_
  refine lv_iload_n hx hb dL_led_3 rfl (lv_at hl 1 rfl) ?_
  have hPc : va_P D vwCl [ledE a_el a_la a_no v i, ledL a_la v i (nI n), ledN a_no v i d] s.heap := pXc hP [0, 1, 2] rfl
  refine vx_calli (vx_runV (As := [.int p1]) (rest := [.int 0, .ref ao]) ⟨hx, hb, hml, hown, hts⟩ (c_X11_led l hlt D cy sa sv A a_el a_la a_no v i n hn d p1) (cwV 1 hts gLl rfl rfl rfl hd_X11_led ⟨Nat.le_of_ble_eq_true rfl, Nat.le_of_ble_eq_true rfl⟩) ⟨fun a U g mk q => ⟨q.1, q.2.1, q.2.2.1.calling, q.2.2.2.1.calling, q.2.2.2.2.calling⟩, va_recv hK hPc (ci := 11) (q0 := 0) rfl rfl, fun U hU hW => ⟨rfl, by rw [hU]; exact hPc, hKN.warm hW, by rw [hU]; exact hSS.warm hW, by rw [hU]; exact hE.warm hW⟩⟩ rfl rfl hl.1 rfl (lv_room (Nat.le_of_ble_eq_true rfl)) dL_led_4 ⟨Nat.le_of_ble_eq_true rfl, Nat.le_of_ble_eq_true rfl⟩) hS (fun q _ h => h.elim) (fun q h => h.elim) (fun q _ h => h.elim) (fun E ce q9 u t H1 locs1 ht hvm hpx hbx hz hk hS hce hcv hcl => ?_) (fun r u t H1 locs1 ht hvm hp hB hz hk hS => ?_)
  · have hbx : E = "java/util/NoSuchElementException" := hbx
    subst hbx
    have hpx : ledS d p1 n 0 0 = none := hpx
    have hP : va_P D vwCl ([ledE a_el a_la a_no v i, ledL a_la v i (nI n), ledN a_no v i d, (ao, .inl (cy 2, 1, .inr (.inl ow)))] ++ X) H1 := hP.kept (fun k x hx9 => hk x.1 ((hP k x hx9).lt) (fun q => q))
    refine cx_catch (own := RL) (name := "java/util/NoSuchElementException") hown ⟨0, 9, 12, 13⟩ [] (by rw [htab]; rfl) (by decide) (by decide) (hts (.classLink RL 13 "java/util/NoSuchElementException") (List.mem_of_getElem? (i := 5) rfl)) (vx_ot_at (State.WarmedH.refl s) rfl (nsW_ot _ (List.mem_of_getElem? (i := 17) rfl)) (hE.2.2.1 _ (List.mem_of_getElem? (i := 17) rfl))) hce hcv hcl ?_
    refine lv_astore_n (lv' := [(3, .ref q9), (0, .ref a_el), (1, .int p1), (2, .ref ao)]) hx hb dL_led_12 rfl hl (by decide) rfl (fun ls hl => ?_)
    refine lv_iconst (v := 1) hx hb dL_led_13 (by decide) ?_
    refine vx_ret ?_
    exact W.iret hx hb hr (fun t ht _ => ⟨⟨_, (), rfl, by rw [hpx]; rfl, by rw [ht, hpx]; exact hP, by rw [hpx]; exact hD⟩, hS.F ht⟩) hS.2.2 dL_led_14
  · obtain ⟨j, hj, rfl⟩ := hp
    have hP : va_P D vwCl ([ledE a_el a_la a_no v i, ledL a_la v i (nI n), ledN a_no v i d, (ao, .inl (cy 2, 1, .inr (.inl ow)))] ++ X) H1 := hP.kept (fun k x hx9 => hk x.1 ((hP k x hx9).lt) (fun q => q))
    refine lv_i2l (v := (nI j).toInt64) hx hb dL_led_7 rfl ?_
    refine va_last hx hb hK hP hD hS 3 2 rfl rfl (vpc (by decide)) dL_led_8 (fun H locs hP hD hS => ?_)
    refine lv_goto (tgt := 15) hx hb dL_led_9 (by decide) ?_
    refine lv_iconst (v := 0) hx hb dL_led_15 (by decide) ?_
    refine vx_ret ?_
    exact W.iret hx hb hr (fun t ht _ => ⟨⟨_, (), rfl, by rw [hj]; rfl, by rw [ht, hj]; exact hP, by rw [hj]; exact hD⟩, hS.F ht⟩) hS.2.2 dL_led_16
