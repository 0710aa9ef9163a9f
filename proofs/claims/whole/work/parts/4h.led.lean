def wl_led : List Cond := [.fieldLink RX11 25 "ElephantLine" "land" "LElephantLine$Land;", .fieldLink RX11 32 "ElephantLine" "now" "LElephantLine$Stand;", .methodLink RX11 176 yX8_isDead, .instanceMethod yX8_isDead, .selects RX8 yX8_isDead yX8_isDead, .initialized RX8, .code yX8_isDead cX8_isDead 2 (some .boolean)]
def nsW : List Cond := Cond.classLink RX11 395 "java/util/NoSuchElementException" :: Cond.initialized "java/util/NoSuchElementException" :: (nsA RX11 399).filter vx_no
def EX (A : Nat → Prop) (U : State) (H : Heap) : Prop := vx_Zq Bundle.tN "UNASSIGNED_STACK" Bundle.steD A U H ∧ vx_Zq Bundle.tN "SUPPRESSED_SENTINEL" Bundle.listD A U H ∧ (∀ w ∈ nsW, w.before #[] U = true) ∧ ∀ w ∈ wl_led, w.before #[] U = true
theorem nsW_ot : ∀ w ∈ nsW, vx_ot w = true := by decide +kernel
theorem wl_led_g : ∀ w ∈ wl_led, goodWord w = true := by decide +kernel
theorem gled_isDead : GoodIn wl_led (wsV RX11 176 RX8 yX8_isDead wo_X8_isDead) := goodIn_r _ [2, 3, 4, 5, 6] rfl (by decide +kernel)
abbrev ledE (a_el a_la a_no : Nat) (v : Nat → Value) (i : Nat → Int32) : Nat × va_E := (a_el, .inr (11, [v 0, .int (i 0), v 1, .ref a_la, .ref a_no, v 2, v 3, v 4, v 5, v 6, v 7, v 8, .int (i 1), .int (i 2), .int (i 3)]))
abbrev ledL (a_la : Nat) (v : Nat → Value) (i : Nat → Int32) (n : Int32) : Nat × va_E := (a_la, .inr (2, [.int (i 4), .int (i 5), .int (i 6), v 9, v 10, .int n, v 11, v 12, v 13, v 14, .int (i 7), .int (i 8), v 15, .int (i 9)]))
abbrev ledN (a_no : Nat) (v : Nat → Value) (i : Nat → Int32) (d : Int32) : Nat × va_E := (a_no, .inr (8, [v 16, v 17, v 18, .int d, .int (i 10), .int (i 11)]))
set_option maxHeartbeats 4000000 in
set_option maxRecDepth 100000 in
theorem c_X11_led (l : Launch) (hlt : l.stackTraces = false) (D : va_G) (cy : Nat → ClassId) (sa sv : Nat → Nat) (A : Nat → Prop) (a_el a_la a_no : Nat) (v : Nat → Value) (i : Nat → Int32) (n : Nat) (hn : n ≤ 5) (d p1 : Int32) : vx_Met l yX11_led [.code yX11_led cX11_led 4 (some .int)] ({ frames := 6, cells := 1, slots := 6, locals := 120 }) (va_Pc [.ref a_el, .int p1] (fun U => va_P D vwCl [ledE a_el a_la a_no v i, ledL a_la v i (nI n), ledN a_no v i d] U.heap ∧ SK D cy U ∧ SS sa sv A U U.heap ∧ EX A U U.heap)) (va_Qi (fun (r : Int32) (_ : Unit) => ∃ j, ledS d p1 n 0 0 = some j ∧ r = nI j) (fun _ _ => True) (fun _ => False)) (vx_X (fun (_ : Unit) => ledS d p1 n 0 0 = none) (fun E _ _ => E = "java/util/NoSuchElementException") (fun _ => False)) 1 6 (fun _ => False) := by
  refine vx_ofW (cc := cX11_led) (maxL := 4) (ret := (some .int)) (by decide) rfl ?_
  intro p e s m args below meth c s₁ B hml hno hv
  obtain ⟨rfl, hP, hKN, hSS, hE1, hE2, hE3, hE4⟩ := hv
  have hK := hKN.1
  have hx := B.exec
  have hb := B.bytes
  have hr := B.returns
  have hown : s.vm.findClass RX11 = some m.cls := findClass_of_methodNamed B.named
  have hlocks := B.notSynchronized
  have hts : ∀ w ∈ wl_led, w.before (([.ref a_el, .int p1] : List Value).toArray) s = true := fun w hw => word_at (State.WarmedH.refl s) (good_of_word (wl_led_g w hw)) (hE4 w hw)
  have hns : ∀ w ∈ nsW, w.before (([.ref a_el, .int p1] : List Value).toArray) s = true := fun w hw => vx_ot_at (State.WarmedH.refl s) rfl (nsW_ot w hw) (hE3 w hw)
  have hX11 := wc_X11 hKN.2.2 (([.ref a_el, .int p1] : List Value).toArray)
  have hX2 := wc_X2 hKN.2.2 (([.ref a_el, .int p1] : List Value).toArray)
  have hl := lv_entry ([.ref a_el, .int p1]) (n := 4) (Nat.le_of_ble_eq_true rfl)
  rw [lg_entry_eq]
  generalize (lg_sl ([.ref a_el, .int p1]) ++ List.replicate (4 - (lg_sl ([.ref a_el, .int p1])).length) Slot.unset).toArray = ls at hl ⊢
  have hl : lv_has ls 4 [(0, .ref a_el), (1, .int p1)] := hl
  refine lv_iconst (v := 0) hx hb dX11_led_0 (by decide) ?_
  refine lv_istore_n (lv' := [(2, .int 0), (0, .ref a_el), (1, .int p1)]) hx hb dX11_led_1 rfl hl (by decide) rfl (fun ls hl => ?_)
  refine lv_iconst (v := 0) hx hb dX11_led_2 (by decide) ?_
  refine lv_istore_n (lv' := [(3, .int 0), (2, .int 0), (0, .ref a_el), (1, .int p1)]) hx hb dX11_led_3 rfl hl (by decide) rfl (fun ls hl => ?_)
  have lp : ∀ (k j : Nat) (cnt : Int32), j + k = n → ledS d p1 n 0 0 = ledS d p1 k j cnt → ∀ ls : Array Slot, lv_has ls 4 [(0, .ref a_el), (1, .int p1), (2, .int cnt), (3, .int (nI j))] → W p l e (headSpec [.code yX11_led cX11_led 4 (some .int)] ({ frames := 6, cells := 1, slots := 6, locals := 120 })).room s m (([.ref a_el, .int p1] : List Value).toArray) below meth c s.heap [] 0 0 (vx_MQ below (va_Qi (fun (r : Int32) (_ : Unit) => ∃ j, ledS d p1 n 0 0 = some j ∧ r = nI j) (fun _ _ => True) (fun _ => False)) (vx_X (fun (_ : Unit) => ledS d p1 n 0 0 = none) (fun E _ _ => E = "java/util/NoSuchElementException") (fun _ => False)) (([.ref a_el, .int p1] : List Value).toArray) s 1 6 (fun _ => False)) (F0 m 4 ls []) := by
    intro k
    induction k with
    | zero =>
      intro j cnt hj hS ls hl
      refine lv_iload_n hx hb dX11_led_4 rfl (lv_at hl 3 rfl) ?_
      refine lv_aload_n hx hb dX11_led_5 rfl (lv_at hl 0 rfl) ?_
      refine va_get (D := D) (ci := 11) (C := RX11) (T := TX11) (N := 15) (v := .ref a_la) hx hb hX11 (fun _ q => q) hown hK hP 0 rfl rfl 3 (by decide) (hts (.fieldLink RX11 25 "ElephantLine" "land" "LElephantLine$Land;") (List.mem_of_getElem? (i := 0) rfl)) (fun _ h9 => h9) rfl dX11_led_6 ?_
      refine va_getN (D := D) (ci := 2) (C := RX2) (T := TX2) (N := 14) (v := .int (nI n)) hx hb hX2 (fun _ q => q) hown hK hP 1 rfl rfl 5 (by decide) (va_Nw.use rfl (hKN.2.1.1 ("ElephantLine", 132, "ElephantLine$Land", "beasts", "I", "ElephantLine") (List.mem_of_getElem? (i := 19) rfl))) (fun _ h9 => h9) rfl dX11_led_9 ?_
      refine lv_icmp_ge (tgt := 42) hx hb dX11_led_12 (by decide) (fun _ => ?_) (fun cd => absurd ((nI_leI (by omega) (by omega)).mpr (by omega)) cd)
      refine nsThrow (A := A) hx hb hlt hown (hns _ (List.mem_cons_self)) (hns _ (List.mem_cons_of_mem _ List.mem_cons_self)) (hSS.2.2.2 ("ElephantLine", 397, "no such dead beast", 0) (List.mem_of_getElem? (i := 0) rfl)) (fun w hw => hns w (List.mem_cons_of_mem _ (List.mem_cons_of_mem _ hw))) nsW_ot hE1 hE2 va_S.rf (hl.1.trans hml.symm) dX11_led_42 dX11_led_45 dX11_led_46 dX11_led_49 dX11_led_52 (fun x hx => absurd (hno x hx) (fun q => q)) (Nat.le_of_ble_eq_true rfl) (Nat.le_of_ble_eq_true rfl) (Nat.le_of_ble_eq_true rfl) (Nat.le_of_ble_eq_true rfl) hlocks (fun t _ hz hq => ⟨(), hS, rfl, hz, fun q h _ => hq q h⟩) (fun _ q => by cases q) (Nat.le_refl _) (Nat.le_refl _)
    | succ k ih =>
      intro j cnt hj hS ls hl
      refine lv_iload_n hx hb dX11_led_4 rfl (lv_at hl 3 rfl) ?_
      refine lv_aload_n hx hb dX11_led_5 rfl (lv_at hl 0 rfl) ?_
      refine va_get (D := D) (ci := 11) (C := RX11) (T := TX11) (N := 15) (v := .ref a_la) hx hb hX11 (fun _ q => q) hown hK hP 0 rfl rfl 3 (by decide) (hts (.fieldLink RX11 25 "ElephantLine" "land" "LElephantLine$Land;") (List.mem_of_getElem? (i := 0) rfl)) (fun _ h9 => h9) rfl dX11_led_6 ?_
      refine va_getN (D := D) (ci := 2) (C := RX2) (T := TX2) (N := 14) (v := .int (nI n)) hx hb hX2 (fun _ q => q) hown hK hP 1 rfl rfl 5 (by decide) (va_Nw.use rfl (hKN.2.1.1 ("ElephantLine", 132, "ElephantLine$Land", "beasts", "I", "ElephantLine") (List.mem_of_getElem? (i := 19) rfl))) (fun _ h9 => h9) rfl dX11_led_9 ?_
      refine lv_icmp_ge (tgt := 42) hx hb dX11_led_12 (by decide) (fun cd => absurd cd (nI_ge (by omega) (by omega))) (fun _ => ?_)
      refine lv_aload_n hx hb dX11_led_15 rfl (lv_at hl 0 rfl) ?_
      refine va_get (D := D) (ci := 11) (C := RX11) (T := TX11) (N := 15) (v := .ref a_no) hx hb hX11 (fun _ q => q) hown hK hP 0 rfl rfl 4 (by decide) (hts (.fieldLink RX11 32 "ElephantLine" "now" "LElephantLine$Stand;") (List.mem_of_getElem? (i := 1) rfl)) (fun _ h9 => h9) rfl dX11_led_16 ?_
      refine lv_iload_n hx hb dX11_led_19 rfl (lv_at hl 3 rfl) ?_
      have e0 : f_X8_isDead d (nI j) = some (if ((d >>> (nI j &&& 31)) &&& 1) = 1 then 1 else 0) := by
        unfold f_X8_isDead
        by_cases q : ((d >>> (nI j &&& 31)) &&& 1) = 1
        · rw [if_pos q, if_pos q]
        · rw [if_neg q, if_neg q]
      refine kVb [.int (nI j)] [] ⟨hx, hb, hml, hown, hts⟩ (c_X8_isDead l D cy a_no (v 16) (v 17) (v 18) d (i 10) (i 11) (nI j) _ e0) gled_isDead rfl hd_X8_isDead ⟨Nat.le_of_ble_eq_true rfl, Nat.le_of_ble_eq_true rfl⟩ rfl rfl hKN (hP.sub [2] rfl) 8 0 rfl rfl rfl hl.1 rfl (Nat.le_of_ble_eq_true rfl) dX11_led_20 ⟨Nat.le_of_ble_eq_true rfl, Nat.le_of_ble_eq_true rfl⟩ (fun _ => ?_)
      have hS : ledS d p1 n 0 0 = (if ((d >>> (nI j &&& 31)) &&& 1) = 1 then (if cnt = p1 then some j else ledS d p1 k (j + 1) (cnt + 1)) else ledS d p1 k (j + 1) cnt) := hS
      have inc : ∀ (cnt : Int32), ledS d p1 n 0 0 = ledS d p1 k (j + 1) cnt → ∀ ls : Array Slot, lv_has ls 4 [(0, .ref a_el), (1, .int p1), (2, .int cnt), (3, .int (nI j))] → W p l e (headSpec [.code yX11_led cX11_led 4 (some .int)] ({ frames := 6, cells := 1, slots := 6, locals := 120 })).room s m (([.ref a_el, .int p1] : List Value).toArray) below meth c s.heap [] 0 0 (vx_MQ below (va_Qi (fun (r : Int32) (_ : Unit) => ∃ j, ledS d p1 n 0 0 = some j ∧ r = nI j) (fun _ _ => True) (fun _ => False)) (vx_X (fun (_ : Unit) => ledS d p1 n 0 0 = none) (fun E _ _ => E = "java/util/NoSuchElementException") (fun _ => False)) (([.ref a_el, .int p1] : List Value).toArray) s 1 6 (fun _ => False)) (F0 m 36 ls []) := by
        intro cnt hS ls hl
        refine lv_iinc (v := nI (j + 1)) (lv' := [(3, .int (nI (j + 1))), (0, .ref a_el), (1, .int p1), (2, .int cnt)]) hx hb dX11_led_36 hl (k := 3) rfl (nI_1 j) (by decide) rfl (fun ls hl => ?_)
        refine lv_goto (tgt := 4) hx hb dX11_led_39 (by decide) ?_
        exact ih (j + 1) cnt (by omega) hS ls (lv_sub hl [1, 2, 3, 0] rfl)
      by_cases q : ((d >>> (nI j &&& 31)) &&& 1) = 1
      · rw [if_pos q] at hS ⊢
        refine lv_if_eq (tgt := 36) hx hb dX11_led_23 (by decide) (fun cd => absurd cd (by decide)) (fun _ => ?_)
        refine lv_iload_n hx hb dX11_led_26 rfl (lv_at hl 2 rfl) ?_
        refine lv_iload_n hx hb dX11_led_27 rfl (lv_at hl 1 rfl) ?_
        refine lv_icmp_ne (tgt := 33) hx hb dX11_led_28 (by decide) (fun cd => ?_) (fun cd => ?_)
        · rw [if_neg cd] at hS
          refine lv_iinc (v := cnt + 1) (lv' := [(2, .int (cnt + 1)), (0, .ref a_el), (1, .int p1), (3, .int (nI j))]) hx hb dX11_led_33 hl (k := 2) rfl rfl (by decide) rfl (fun ls hl => ?_)
          exact inc (cnt + 1) hS ls (lv_sub hl [1, 2, 0, 3] rfl)
        · rw [if_pos cd] at hS
          refine lv_iload_n hx hb dX11_led_31 rfl (lv_at hl 3 rfl) ?_
          refine W.widen (k := 1) (n := 6) (by decide) (by decide) ?_
          refine vx_ret ?_
          exact W.iret hx hb hr (fun t ht _ => ⟨⟨_, (), rfl, ⟨j, hS, rfl⟩, trivial⟩, (va_S.rf (A := fun _ => False)).F ht⟩) (fun _ q => by cases q) dX11_led_32
      · rw [if_neg q] at hS ⊢
        refine lv_if_eq (tgt := 36) hx hb dX11_led_23 (by decide) (fun _ => ?_) (fun cd => absurd rfl cd)
        exact inc cnt hS ls hl
  exact lp n 0 0 (by omega) rfl ls (lv_sub hl [2, 3, 1, 0] rfl)
