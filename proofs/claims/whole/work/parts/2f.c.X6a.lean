theorem hd_X6_findWorths : yX6_findWorths.cls = RX6 ∧ yX6_findWorths.cls ≠ "java/lang/invoke/MethodHandle" ∧ yX6_findWorths.cls ≠ "java/lang/invoke/VarHandle" ∧ (parseMethodDescriptor yX6_findWorths.desc).map (fun d => d.parameters.length) = some 1 := by decide +kernel
set_option maxHeartbeats 4000000 in
set_option maxRecDepth 100000 in
theorem c_X6_findWorths (l : Launch) (D : va_G) (cy : Nat → ClassId) (A : Nat → Prop) (X : va_W) (a_la a_la_who a_la_kind a_la_mood a_no a_no_strong a_no_wounds a_od a_pl a_pl_worths : Nat) (la_lanes : Int32) (la_deep : Int32) (la_lanesTold : Int32) (la_firstStrong : Value) (la_beasts : Int32) (la_firstLane : Value) (la_price : Value) (la_cities : Int32) (la_passes : Int32) (la_passBetween : Value) (la_turned : Int32) (la_who : Nat → Int32) (la_kind : Nat → Int32) (la_mood : Nat → Int32) (no_at : Value) (no_dead : Int32) (no_wet : Int32) (no_drawn : Int32) (no_strong : Nat → Int32) (no_wounds : Nat → Int32) (pl_now : Value) (pl_most : Value) (pl_lanes : Value) (pl_worths : Nat → Int64) (p1 : Int32) (pl_worths' : Nat → Int64) (h : f_X6_findWorths la_lanes la_deep la_who la_kind la_mood no_dead no_wet no_strong no_wounds pl_worths p1 = some (pl_worths')) : Met l yX6_findWorths wo_X6_findWorths ({ frames := 4, cells := 0, slots := 0, locals := 95 }) (wrPc D cy A [.ref a_pl, .int p1] ([(a_la, .inr (2, [.int la_lanes, .int la_deep, .int la_lanesTold, .ref a_la_who, la_firstStrong, .int la_beasts, .ref a_la_kind, la_firstLane, .ref a_la_mood, la_price, .int la_cities, .int la_passes, la_passBetween, .int la_turned])), (a_la_who, .inl (cy 1, 6, .inl la_who)), (a_la_kind, .inl (cy 1, 5, .inl la_kind)), (a_la_mood, .inl (cy 1, 5, .inl la_mood)), (a_no, .inr (8, [.ref a_no_strong, no_at, .ref a_no_wounds, .int no_dead, .int no_wet, .int no_drawn])), (a_no_strong, .inl (cy 1, 6, .inl no_strong)), (a_no_wounds, .inl (cy 1, 5, .inl no_wounds)), (a_od, .inr (4, [.ref a_la, .ref a_no])), (a_pl, .inr (6, [.ref a_la, pl_now, .ref a_od, .ref a_pl_worths, pl_most, pl_lanes])), (a_pl_worths, .inl (cy 2, 6, .inr (.inl pl_worths)))] ++ X)) (va_Qv (fun (_ : Unit) => True) (wB D A ([(a_la, .inr (2, [.int la_lanes, .int la_deep, .int la_lanesTold, .ref a_la_who, la_firstStrong, .int la_beasts, .ref a_la_kind, la_firstLane, .ref a_la_mood, la_price, .int la_cities, .int la_passes, la_passBetween, .int la_turned])), (a_la_who, .inl (cy 1, 6, .inl la_who)), (a_la_kind, .inl (cy 1, 5, .inl la_kind)), (a_la_mood, .inl (cy 1, 5, .inl la_mood)), (a_no, .inr (8, [.ref a_no_strong, no_at, .ref a_no_wounds, .int no_dead, .int no_wet, .int no_drawn])), (a_no_strong, .inl (cy 1, 6, .inl no_strong)), (a_no_wounds, .inl (cy 1, 5, .inl no_wounds)), (a_od, .inr (4, [.ref a_la, .ref a_no])), (a_pl, .inr (6, [.ref a_la, pl_now, .ref a_od, .ref a_pl_worths, pl_most, pl_lanes])), (a_pl_worths, .inl (cy 2, 6, .inr (.inl pl_worths')))] ++ X)) A) 0 0 A := by
  refine Met.ofW (cc := cX6_findWorths) (maxL := 3) (ret := none) (by decide) rfl ?_
  intro p e s m args below meth c s₁ B hml hv
  obtain ⟨rfl, hP, hKN, hD, hA⟩ := hv
  have hK := hKN.1
  have hx := B.exec
  have hb := B.bytes
  have hr := B.returns
  have hts := wt_X6_findWorths hKN.2.2 (([.ref a_pl, .int p1] : List Value).toArray)
  have hown : s.vm.findClass RX6 = some m.cls := findClass_of_methodNamed B.named
  have hlocks := B.notSynchronized
  have hS : va_S A s.heap s.heap [] := va_S.rf
  have hX2 := wc_X2 hKN.2.2 (([.ref a_pl, .int p1] : List Value).toArray)
  have hX6 := wc_X6 hKN.2.2 (([.ref a_pl, .int p1] : List Value).toArray)
  have hl := lv_entry ([.ref a_pl, .int p1]) (n := 3) (Nat.le_of_ble_eq_true rfl)
  rw [lg_entry_eq]
  generalize (lg_sl ([.ref a_pl, .int p1]) ++ List.replicate (3 - (lg_sl ([.ref a_pl, .int p1])).length) Slot.unset).toArray = ls at hl ⊢
  have hl : lv_has ls 3 [(0, .ref a_pl), (1, .int p1)] := hl
  unfold f_X6_findWorths at h
  refine lv_iconst (v := 0) hx hb dX6_findWorths_0 (by decide) ?_
  refine lv_istore_n (lv' := [(2, .int 0), (0, .ref a_pl), (1, .int p1)]) hx hb dX6_findWorths_1 rfl hl (by decide) rfl (fun ls hl => ?_)
  have lp2 : ∀ (n2 : Nat) (x2_1 : Int32) (pl_worths_2 : Nat → Int64), f_X6_findWorths_L2 la_lanes la_deep la_who la_kind la_mood no_dead no_wet no_strong no_wounds p1 n2 x2_1 pl_worths_2 = some (pl_worths') → ∀ (H : Heap) (locs : List Loc), va_P D vwCl ([(a_la, .inr (2, [.int la_lanes, .int la_deep, .int la_lanesTold, .ref a_la_who, la_firstStrong, .int la_beasts, .ref a_la_kind, la_firstLane, .ref a_la_mood, la_price, .int la_cities, .int la_passes, la_passBetween, .int la_turned])), (a_la_who, .inl (cy 1, 6, .inl la_who)), (a_la_kind, .inl (cy 1, 5, .inl la_kind)), (a_la_mood, .inl (cy 1, 5, .inl la_mood)), (a_no, .inr (8, [.ref a_no_strong, no_at, .ref a_no_wounds, .int no_dead, .int no_wet, .int no_drawn])), (a_no_strong, .inl (cy 1, 6, .inl no_strong)), (a_no_wounds, .inl (cy 1, 5, .inl no_wounds)), (a_od, .inr (4, [.ref a_la, .ref a_no])), (a_pl, .inr (6, [.ref a_la, pl_now, .ref a_od, .ref a_pl_worths, pl_most, pl_lanes])), (a_pl_worths, .inl (cy 2, 6, .inr (.inl pl_worths_2)))] ++ X) H → va_D A ([(a_la, .inr (2, [.int la_lanes, .int la_deep, .int la_lanesTold, .ref a_la_who, la_firstStrong, .int la_beasts, .ref a_la_kind, la_firstLane, .ref a_la_mood, la_price, .int la_cities, .int la_passes, la_passBetween, .int la_turned])), (a_la_who, .inl (cy 1, 6, .inl la_who)), (a_la_kind, .inl (cy 1, 5, .inl la_kind)), (a_la_mood, .inl (cy 1, 5, .inl la_mood)), (a_no, .inr (8, [.ref a_no_strong, no_at, .ref a_no_wounds, .int no_dead, .int no_wet, .int no_drawn])), (a_no_strong, .inl (cy 1, 6, .inl no_strong)), (a_no_wounds, .inl (cy 1, 5, .inl no_wounds)), (a_od, .inr (4, [.ref a_la, .ref a_no])), (a_pl, .inr (6, [.ref a_la, pl_now, .ref a_od, .ref a_pl_worths, pl_most, pl_lanes])), (a_pl_worths, .inl (cy 2, 6, .inr (.inl pl_worths_2)))] ++ X) → va_S A s.heap H locs → ∀ ls : Array Slot, lv_has ls 3 [(0, .ref a_pl), (1, .int p1), (2, .int x2_1)] → W p l e (headSpec wo_X6_findWorths ({ frames := 4, cells := 0, slots := 0, locals := 95 })).room s m (([.ref a_pl, .int p1] : List Value).toArray) below meth c H locs 0 0 (MQ below (va_Qv (fun (_ : Unit) => True) (wB D A ([(a_la, .inr (2, [.int la_lanes, .int la_deep, .int la_lanesTold, .ref a_la_who, la_firstStrong, .int la_beasts, .ref a_la_kind, la_firstLane, .ref a_la_mood, la_price, .int la_cities, .int la_passes, la_passBetween, .int la_turned])), (a_la_who, .inl (cy 1, 6, .inl la_who)), (a_la_kind, .inl (cy 1, 5, .inl la_kind)), (a_la_mood, .inl (cy 1, 5, .inl la_mood)), (a_no, .inr (8, [.ref a_no_strong, no_at, .ref a_no_wounds, .int no_dead, .int no_wet, .int no_drawn])), (a_no_strong, .inl (cy 1, 6, .inl no_strong)), (a_no_wounds, .inl (cy 1, 5, .inl no_wounds)), (a_od, .inr (4, [.ref a_la, .ref a_no])), (a_pl, .inr (6, [.ref a_la, pl_now, .ref a_od, .ref a_pl_worths, pl_most, pl_lanes])), (a_pl_worths, .inl (cy 2, 6, .inr (.inl pl_worths')))] ++ X)) A) (([.ref a_pl, .int p1] : List Value).toArray) s 0 0 A) (F0 m 2 ls []) := by
    intro n2
    induction n2 with
    | zero => intro x2_1 pl_worths_2 h; exact absurd (show (none : Option ((Nat → Int64))) = some _ from h) (by intro q; cases q)
    | succ n2 ih2 =>
      intro x2_1 pl_worths_2 h H locs hP hD hS ls hl
      have h : f_X6_findWorths_b2 la_lanes la_deep la_who la_kind la_mood no_dead no_wet no_strong no_wounds p1 (f_X6_findWorths_L2 la_lanes la_deep la_who la_kind la_mood no_dead no_wet no_strong no_wounds p1 n2) x2_1 pl_worths_2 = some (pl_worths') := h
      unfold f_X6_findWorths_b2 at h
      refine lv_iload_n hx hb dX6_findWorths_2 rfl (lv_at hl 2 rfl) ?_
      refine lv_aload_n hx hb dX6_findWorths_3 rfl (lv_at hl 0 rfl) ?_
      refine va_get (D := D) (ci := 6) (C := RX6) (T := TX6) (N := 6) (v := .ref a_la) hx hb hX6 (fun _ q => q) hown hK hP 8 rfl rfl 0 (by decide) (hts (.fieldLink RX6 22 "ElephantLine$Placing" "land" "LElephantLine$Land;") (by decide +kernel)) (fun _ h9 => h9) rfl dX6_findWorths_4 ?_
      refine va_getN (D := D) (ci := 2) (C := RX2) (T := TX2) (N := 14) (v := .int la_lanes) hx hb hX2 (fun _ q => q) hown hK hP 0 rfl rfl 0 (by decide) (va_Nw.use rfl (hKN.2.1.1 ("ElephantLine$Placing", 34, "ElephantLine$Land", "lanes", "I", "ElephantLine") (List.mem_of_getElem? (i := 0) rfl))) (fun _ h9 => h9) rfl dX6_findWorths_7 ?_
      refine lv_icmp_ge (tgt := 34) hx hb dX6_findWorths_10 (by decide) (fun cd => ?_) (fun cd => ?_)
      · have h := ifT cd h
        cases h
        exact W.vret hx hb hr (fun t ht _ => ⟨⟨(), rfl, trivial, by rw [ht]; exact hP, hD⟩, hS.F ht⟩) hS.2.2 dX6_findWorths_34
      · have h := ifF cd h
        refine lv_aload_n hx hb dX6_findWorths_13 rfl (lv_at hl 0 rfl) ?_
        refine va_get (D := D) (ci := 6) (C := RX6) (T := TX6) (N := 6) (v := .ref a_pl_worths) hx hb hX6 (fun _ q => q) hown hK hP 8 rfl rfl 3 (by decide) (hts (.fieldLink RX6 9 "ElephantLine$Placing" "worths" "[J") (by decide +kernel)) (fun _ h9 => h9) rfl dX6_findWorths_14 ?_
        refine lv_iload_n hx hb dX6_findWorths_17 rfl (lv_at hl 2 rfl) ?_
        refine lv_aload_n hx hb dX6_findWorths_18 rfl (lv_at hl 0 rfl) ?_
        refine va_get (D := D) (ci := 6) (C := RX6) (T := TX6) (N := 6) (v := .ref a_od) hx hb hX6 (fun _ q => q) hown hK hP 8 rfl rfl 2 (by decide) (hts (.fieldLink RX6 30 "ElephantLine$Placing" "odds" "LElephantLine$Odds;") (by decide +kernel)) (fun _ h9 => h9) rfl dX6_findWorths_19 ?_
        refine lv_iload_n hx hb dX6_findWorths_22 rfl (lv_at hl 1 rfl) ?_
        refine lv_iload_n hx hb dX6_findWorths_23 rfl (lv_at hl 2 rfl) ?_
        obtain ⟨r_3, hc_4, h⟩ := bd1_some h
        refine kVl [.int p1, .int x2_1] [.int x2_1, .ref a_pl_worths] ⟨hx, hb, hml, hown, hts⟩ (c_X4_worthIn l D cy a_la a_la_who a_la_kind a_la_mood a_no a_no_strong a_no_wounds a_od la_lanes la_deep la_lanesTold (la_firstStrong) la_beasts (la_firstLane) (la_price) la_cities la_passes (la_passBetween) la_turned la_who la_kind la_mood (no_at) no_dead no_wet no_drawn no_strong no_wounds p1 x2_1 r_3 hc_4) gX6_findWorths_X4_worthIn rfl hd_X4_worthIn ⟨Nat.le_of_ble_eq_true rfl, Nat.le_of_ble_eq_true rfl⟩ rfl rfl hKN (pXc hP [0, 1, 2, 3, 4, 5, 6, 7] rfl) 4 7 rfl rfl rfl hl.1 rfl (Nat.le_of_ble_eq_true rfl) dX6_findWorths_24 ⟨Nat.le_of_ble_eq_true rfl, Nat.le_of_ble_eq_true rfl⟩ ?_
        obtain ⟨i_5, h⟩ := gIn_some h
        refine va_last hx hb hK hP hD hS 9 2 rfl rfl i_5 dX6_findWorths_27 (fun H locs hP hD hS => ?_)
        refine lv_iinc (v := x2_1 + 1) (lv' := [(2, .int (x2_1 + 1)), (0, .ref a_pl), (1, .int p1)]) hx hb dX6_findWorths_28 hl (k := 2) rfl (by first | rfl | decide) (by decide) rfl (fun ls hl => ?_)
        refine lv_goto (tgt := 2) hx hb dX6_findWorths_31 (by decide) ?_
        exact ih2 (x2_1 + 1) (vp_updL pl_worths_2 x2_1.toNatClampNeg r_3) h _ _ hP hD hS _ (lv_sub hl [1, 2, 0] rfl)
  exact lp2 fuelN (0 : Int32) pl_worths h _ _ hP hD hS _ (lv_sub hl [1, 2, 0] rfl)
theorem hd_X6_isFree : yX6_isFree.cls = RX6 ∧ yX6_isFree.cls ≠ "java/lang/invoke/MethodHandle" ∧ yX6_isFree.cls ≠ "java/lang/invoke/VarHandle" ∧ (parseMethodDescriptor yX6_isFree.desc).map (fun d => d.parameters.length) = some 3 := by decide +kernel
set_option maxHeartbeats 4000000 in
set_option maxRecDepth 100000 in
theorem c_X6_isFree (l : Launch) (D : va_G) (cy : Nat → ClassId) (a_no a_pl : Nat) (no_strong : Value) (no_at : Value) (no_wounds : Value) (no_dead : Int32) (no_wet : Int32) (no_drawn : Int32) (pl_land : Value) (pl_odds : Value) (pl_worths : Value) (pl_most : Value) (pl_lanes : Value) (p1 : Int32) (p2 : Int32) (p3 : Int32) (res : Int32) (h : f_X6_isFree no_dead p1 p2 p3 = some (res)) : Met l yX6_isFree wo_X6_isFree ({ frames := 1, cells := 0, slots := 0, locals := 21 }) (roPc D cy [.ref a_pl, .int p1, .int p2, .int p3] [(a_no, .inr (8, [no_strong, no_at, no_wounds, .int no_dead, .int no_wet, .int no_drawn])), (a_pl, .inr (6, [pl_land, .ref a_no, pl_odds, pl_worths, pl_most, pl_lanes]))]) (vp_Si (fun r => r = res ∧ nbv r)) 0 0 (fun _ => False) := by
  refine Met.ofW (cc := cX6_isFree) (maxL := 4) (ret := (some .boolean)) (by decide) rfl ?_
  intro p e s m args below meth c s₁ B hml hv
  obtain ⟨rfl, hP, hKN⟩ := hv
  have hK := hKN.1
  have hx := B.exec
  have hb := B.bytes
  have hr := B.returns
  have hts := wt_X6_isFree hKN.2.2 (([.ref a_pl, .int p1, .int p2, .int p3] : List Value).toArray)
  have hown : s.vm.findClass RX6 = some m.cls := findClass_of_methodNamed B.named
  have hlocks := B.notSynchronized
  have hX6 := wc_X6 hKN.2.2 (([.ref a_pl, .int p1, .int p2, .int p3] : List Value).toArray)
  have hl := lv_entry ([.ref a_pl, .int p1, .int p2, .int p3]) (n := 4) (Nat.le_of_ble_eq_true rfl)
  rw [lg_entry_eq]
  generalize (lg_sl ([.ref a_pl, .int p1, .int p2, .int p3]) ++ List.replicate (4 - (lg_sl ([.ref a_pl, .int p1, .int p2, .int p3])).length) Slot.unset).toArray = ls at hl ⊢
  have hl : lv_has ls 4 [(0, .ref a_pl), (1, .int p1), (2, .int p2), (3, .int p3)] := hl
  unfold f_X6_isFree at h
  refine lv_aload_n hx hb dX6_isFree_0 rfl (lv_at hl 0 rfl) ?_
  refine va_get (D := D) (ci := 6) (C := RX6) (T := TX6) (N := 6) (v := .ref a_no) hx hb hX6 (fun _ q => q) hown hK hP 1 rfl rfl 1 (by decide) (hts (.fieldLink RX6 26 "ElephantLine$Placing" "now" "LElephantLine$Stand;") (by decide +kernel)) (fun _ h9 => h9) rfl dX6_isFree_1 ?_
  refine lv_iload_n hx hb dX6_isFree_4 rfl (lv_at hl 1 rfl) ?_
  obtain ⟨r_1, hc_2, h⟩ := bd1_some h
  refine kVb [.int p1] [] ⟨hx, hb, hml, hown, hts⟩ (c_X8_isDead l D cy a_no (no_strong) (no_at) (no_wounds) no_dead no_wet no_drawn p1 r_1 hc_2) gX6_isFree_X8_isDead rfl hd_X8_isDead ⟨Nat.le_of_ble_eq_true rfl, Nat.le_of_ble_eq_true rfl⟩ rfl rfl hKN (hP.sub [0] rfl) 8 0 rfl rfl rfl hl.1 rfl (Nat.le_of_ble_eq_true rfl) dX6_isFree_5 ⟨Nat.le_of_ble_eq_true rfl, Nat.le_of_ble_eq_true rfl⟩ (fun nb_3 => ?_)
  refine lv_if_ne (tgt := 23) hx hb dX6_isFree_8 (by decide) (fun cd => ?_) (fun cd => ?_)
  · have h := ifF cd h
    refine lv_iconst (v := 0) hx hb dX6_isFree_23 (by decide) ?_
    exact W.zret (ty := .boolean) (v := 0) hx hb hr (nbv.n nbv_0) (fun t ht _ => ⟨_, rfl, ⟨Option.some.inj h, nbv_0⟩, ht⟩) (fun _ q => by cases q) dX6_isFree_24
  · have h := ifT cd h
    refine lv_iload_n hx hb dX6_isFree_11 rfl (lv_at hl 3 rfl) ?_
    refine lv_iload_n hx hb dX6_isFree_12 rfl (lv_at hl 2 rfl) ?_
    refine lv_ishr hx hb dX6_isFree_13 ?_
    refine lv_iconst (v := 1) hx hb dX6_isFree_14 (by decide) ?_
    refine lv_iand hx hb dX6_isFree_15 ?_
    refine lv_if_ne (tgt := 23) hx hb dX6_isFree_16 (by decide) (fun cd => ?_) (fun cd => ?_)
    · have h := ifF cd h
      refine lv_iconst (v := 0) hx hb dX6_isFree_23 (by decide) ?_
      exact W.zret (ty := .boolean) (v := 0) hx hb hr (nbv.n nbv_0) (fun t ht _ => ⟨_, rfl, ⟨Option.some.inj h, nbv_0⟩, ht⟩) (fun _ q => by cases q) dX6_isFree_24
    · have h := ifT cd h
      refine lv_iconst (v := 1) hx hb dX6_isFree_19 (by decide) ?_
      refine lv_goto (tgt := 24) hx hb dX6_isFree_20 (by decide) ?_
      exact W.zret (ty := .boolean) (v := 1) hx hb hr (nbv.n nbv_1) (fun t ht _ => ⟨_, rfl, ⟨Option.some.inj h, nbv_1⟩, ht⟩) (fun _ q => by cases q) dX6_isFree_24
theorem hd_X6_withLane : yX6_withLane.cls = RX6 ∧ yX6_withLane.cls ≠ "java/lang/invoke/MethodHandle" ∧ yX6_withLane.cls ≠ "java/lang/invoke/VarHandle" ∧ (parseMethodDescriptor yX6_withLane.desc).map (fun d => d.parameters.length) = some 3 := by decide +kernel
set_option maxHeartbeats 4000000 in
set_option maxRecDepth 100000 in
theorem c_X6_withLane (l : Launch) (D : va_G) (cy : Nat → ClassId) (a_pl a_pl_worths a_pl_most : Nat) (pl_land : Value) (pl_now : Value) (pl_odds : Value) (pl_lanes : Value) (pl_worths : Nat → Int64) (pl_most : Nat → Int64) (p1 : Int32) (p2 : Int32) (p3 : Int32) (res : Int64) (h : f_X6_withLane pl_worths pl_most p1 p2 p3 = some (res)) : Met l yX6_withLane wo_X6_withLane ({ frames := 0, cells := 0, slots := 0, locals := 0 }) (roPc D cy [.ref a_pl, .int p1, .int p2, .int p3] [(a_pl, .inr (6, [pl_land, pl_now, pl_odds, .ref a_pl_worths, .ref a_pl_most, pl_lanes])), (a_pl_worths, .inl (cy 2, 6, .inr (.inl pl_worths))), (a_pl_most, .inl (cy 2, 384, .inr (.inl pl_most)))]) (vp_Sl (fun r => r = res)) 0 0 (fun _ => False) := by
  refine Met.ofW (cc := cX6_withLane) (maxL := 4) (ret := (some .long)) (by decide) rfl ?_
  intro p e s m args below meth c s₁ B hml hv
  obtain ⟨rfl, hP, hKN⟩ := hv
  have hK := hKN.1
  have hx := B.exec
  have hb := B.bytes
  have hr := B.returns
  have hts := wt_X6_withLane hKN.2.2 (([.ref a_pl, .int p1, .int p2, .int p3] : List Value).toArray)
  have hown : s.vm.findClass RX6 = some m.cls := findClass_of_methodNamed B.named
  have hlocks := B.notSynchronized
  have hX6 := wc_X6 hKN.2.2 (([.ref a_pl, .int p1, .int p2, .int p3] : List Value).toArray)
  have hl := lv_entry ([.ref a_pl, .int p1, .int p2, .int p3]) (n := 4) (Nat.le_of_ble_eq_true rfl)
  rw [lg_entry_eq]
  generalize (lg_sl ([.ref a_pl, .int p1, .int p2, .int p3]) ++ List.replicate (4 - (lg_sl ([.ref a_pl, .int p1, .int p2, .int p3])).length) Slot.unset).toArray = ls at hl ⊢
  have hl : lv_has ls 4 [(0, .ref a_pl), (1, .int p1), (2, .int p2), (3, .int p3)] := hl
  unfold f_X6_withLane at h
  refine lv_aload_n hx hb dX6_withLane_0 rfl (lv_at hl 0 rfl) ?_
  refine va_get (D := D) (ci := 6) (C := RX6) (T := TX6) (N := 6) (v := .ref a_pl_worths) hx hb hX6 (fun _ q => q) hown hK hP 0 rfl rfl 3 (by decide) (hts (.fieldLink RX6 9 "ElephantLine$Placing" "worths" "[J") (by decide +kernel)) (fun _ h9 => h9) rfl dX6_withLane_1 ?_
  refine lv_iload_n hx hb dX6_withLane_4 rfl (lv_at hl 2 rfl) ?_
  obtain ⟨i_1, h⟩ := gIn_some h
  refine va_lald hx hb hK hP 1 2 rfl rfl i_1 dX6_withLane_5 ?_
  refine lv_aload_n hx hb dX6_withLane_6 rfl (lv_at hl 0 rfl) ?_
  refine va_get (D := D) (ci := 6) (C := RX6) (T := TX6) (N := 6) (v := .ref a_pl_most) hx hb hX6 (fun _ q => q) hown hK hP 0 rfl rfl 4 (by decide) (hts (.fieldLink RX6 15 "ElephantLine$Placing" "most" "[J") (by decide +kernel)) (fun _ h9 => h9) rfl dX6_withLane_7 ?_
  refine lv_iload_n hx hb dX6_withLane_10 rfl (lv_at hl 1 rfl) ?_
  refine lv_iconst (v := 1) hx hb dX6_withLane_11 (by decide) ?_
  refine lv_iadd hx hb dX6_withLane_12 ?_
  refine lv_bipush (v := 64) hx hb dX6_withLane_13 (by decide) ?_
  refine lv_imul hx hb dX6_withLane_15 ?_
  refine lv_iload_n hx hb dX6_withLane_16 rfl (lv_at hl 3 rfl) ?_
  refine lv_iconst (v := 1) hx hb dX6_withLane_17 (by decide) ?_
  refine lv_iload_n hx hb dX6_withLane_18 rfl (lv_at hl 2 rfl) ?_
  refine lv_ishl hx hb dX6_withLane_19 ?_
  refine lv_ior hx hb dX6_withLane_20 ?_
  refine lv_iadd hx hb dX6_withLane_21 ?_
  obtain ⟨i_2, h⟩ := gIn_some h
  refine va_lald hx hb hK hP 2 2 rfl rfl i_2 dX6_withLane_22 ?_
  refine lv_ladd hx hb dX6_withLane_23 ?_
  exact W.lret (v := (pl_worths p2.toNatClampNeg) + (pl_most (((p1 + 1) * 64) + (p3 ||| ((1 : Int32) <<< (p2 &&& 31)))).toNatClampNeg)) hx hb hr (fun t ht _ => ⟨_, rfl, Option.some.inj h, ht⟩) (fun _ q => by cases q) dX6_withLane_24
theorem hd_X6_mostFrom : yX6_mostFrom.cls = RX6 ∧ yX6_mostFrom.cls ≠ "java/lang/invoke/MethodHandle" ∧ yX6_mostFrom.cls ≠ "java/lang/invoke/VarHandle" ∧ (parseMethodDescriptor yX6_mostFrom.desc).map (fun d => d.parameters.length) = some 2 := by decide +kernel
set_option maxHeartbeats 4000000 in
set_option maxRecDepth 100000 in
theorem c_X6_mostFrom (l : Launch) (D : va_G) (cy : Nat → ClassId) (a_la a_no a_pl a_pl_worths a_pl_most : Nat) (la_lanes : Int32) (la_deep : Int32) (la_lanesTold : Int32) (la_who : Value) (la_firstStrong : Value) (la_beasts : Int32) (la_kind : Value) (la_firstLane : Value) (la_mood : Value) (la_price : Value) (la_cities : Int32) (la_passes : Int32) (la_passBetween : Value) (la_turned : Int32) (no_strong : Value) (no_at : Value) (no_wounds : Value) (no_dead : Int32) (no_wet : Int32) (no_drawn : Int32) (pl_odds : Value) (pl_lanes : Value) (pl_worths : Nat → Int64) (pl_most : Nat → Int64) (p1 : Int32) (p2 : Int32) (res : Int64) (h : f_X6_mostFrom la_lanes no_dead pl_worths pl_most p1 p2 = some (res)) : Met l yX6_mostFrom wo_X6_mostFrom ({ frames := 2, cells := 0, slots := 0, locals := 44 }) (roPc D cy [.ref a_pl, .int p1, .int p2] [(a_la, .inr (2, [.int la_lanes, .int la_deep, .int la_lanesTold, la_who, la_firstStrong, .int la_beasts, la_kind, la_firstLane, la_mood, la_price, .int la_cities, .int la_passes, la_passBetween, .int la_turned])), (a_no, .inr (8, [no_strong, no_at, no_wounds, .int no_dead, .int no_wet, .int no_drawn])), (a_pl, .inr (6, [.ref a_la, .ref a_no, pl_odds, .ref a_pl_worths, .ref a_pl_most, pl_lanes])), (a_pl_worths, .inl (cy 2, 6, .inr (.inl pl_worths))), (a_pl_most, .inl (cy 2, 384, .inr (.inl pl_most)))]) (vp_Sl (fun r => r = res)) 0 0 (fun _ => False) := by
  refine Met.ofW (cc := cX6_mostFrom) (maxL := 6) (ret := (some .long)) (by decide) rfl ?_
  intro p e s m args below meth c s₁ B hml hv
  obtain ⟨rfl, hP, hKN⟩ := hv
  have hK := hKN.1
  have hx := B.exec
  have hb := B.bytes
  have hr := B.returns
  have hts := wt_X6_mostFrom hKN.2.2 (([.ref a_pl, .int p1, .int p2] : List Value).toArray)
  have hown : s.vm.findClass RX6 = some m.cls := findClass_of_methodNamed B.named
  have hlocks := B.notSynchronized
  have hX2 := wc_X2 hKN.2.2 (([.ref a_pl, .int p1, .int p2] : List Value).toArray)
  have hX6 := wc_X6 hKN.2.2 (([.ref a_pl, .int p1, .int p2] : List Value).toArray)
  have hl := lv_entry ([.ref a_pl, .int p1, .int p2]) (n := 6) (Nat.le_of_ble_eq_true rfl)
  rw [lg_entry_eq]
  generalize (lg_sl ([.ref a_pl, .int p1, .int p2]) ++ List.replicate (6 - (lg_sl ([.ref a_pl, .int p1, .int p2])).length) Slot.unset).toArray = ls at hl ⊢
  have hl : lv_has ls 6 [(0, .ref a_pl), (1, .int p1), (2, .int p2)] := hl
  unfold f_X6_mostFrom at h
  refine lv_aload_n hx hb dX6_mostFrom_0 rfl (lv_at hl 0 rfl) ?_
  refine va_get (D := D) (ci := 6) (C := RX6) (T := TX6) (N := 6) (v := .ref a_pl_most) hx hb hX6 (fun _ q => q) hown hK hP 2 rfl rfl 4 (by decide) (hts (.fieldLink RX6 15 "ElephantLine$Placing" "most" "[J") (by decide +kernel)) (fun _ h9 => h9) rfl dX6_mostFrom_1 ?_
  refine lv_iload_n hx hb dX6_mostFrom_4 rfl (lv_at hl 1 rfl) ?_
  refine lv_iconst (v := 1) hx hb dX6_mostFrom_5 (by decide) ?_
  refine lv_iadd hx hb dX6_mostFrom_6 ?_
  refine lv_bipush (v := 64) hx hb dX6_mostFrom_7 (by decide) ?_
  refine lv_imul hx hb dX6_mostFrom_9 ?_
  refine lv_iload_n hx hb dX6_mostFrom_10 rfl (lv_at hl 2 rfl) ?_
  refine lv_iadd hx hb dX6_mostFrom_11 ?_
  obtain ⟨i_1, h⟩ := gIn_some h
  refine va_lald hx hb hK hP 4 2 rfl rfl i_1 dX6_mostFrom_12 ?_
  refine lv_lstore_n (lv' := [(3, .long (pl_most (((p1 + 1) * 64) + p2).toNatClampNeg)), (0, .ref a_pl), (1, .int p1), (2, .int p2)]) hx hb dX6_mostFrom_13 rfl hl (by decide) rfl (fun ls hl => ?_)
  refine lv_iconst (v := 0) hx hb dX6_mostFrom_14 (by decide) ?_
  refine lv_istore (lv' := [(5, .int 0), (3, .long (pl_most (((p1 + 1) * 64) + p2).toNatClampNeg)), (0, .ref a_pl), (1, .int p1), (2, .int p2)]) hx hb dX6_mostFrom_15 hl (by decide) rfl (fun ls hl => ?_)
  have lp17 : ∀ (n17 : Nat) (x3_2 : Int64) (x5_3 : Int32), f_X6_mostFrom_L17 la_lanes no_dead pl_worths pl_most p1 p2 n17 x3_2 x5_3 = some (res) → ∀ ls : Array Slot, lv_has ls 6 [(0, .ref a_pl), (1, .int p1), (2, .int p2), (3, .long x3_2), (5, .int x5_3)] → W p l e (headSpec wo_X6_mostFrom ({ frames := 2, cells := 0, slots := 0, locals := 44 })).room s m (([.ref a_pl, .int p1, .int p2] : List Value).toArray) below meth c s.heap [] 0 0 (MQ below (vp_Sl (fun r => r = res)) (([.ref a_pl, .int p1, .int p2] : List Value).toArray) s 0 0 (fun _ => False)) (F0 m 17 ls []) := by
    intro n17
    induction n17 with
    | zero => intro x3_2 x5_3 h; exact absurd (show (none : Option (Int64)) = some _ from h) (by intro q; cases q)
    | succ n17 ih17 =>
      intro x3_2 x5_3 h ls hl
      have h : f_X6_mostFrom_b17 la_lanes no_dead pl_worths pl_most p1 p2 (f_X6_mostFrom_L17 la_lanes no_dead pl_worths pl_most p1 p2 n17) x3_2 x5_3 = some (res) := h
      unfold f_X6_mostFrom_b17 at h
      refine lv_iload hx hb dX6_mostFrom_17 (lv_at hl 4 rfl) ?_
      refine lv_aload_n hx hb dX6_mostFrom_19 rfl (lv_at hl 0 rfl) ?_
      refine va_get (D := D) (ci := 6) (C := RX6) (T := TX6) (N := 6) (v := .ref a_la) hx hb hX6 (fun _ q => q) hown hK hP 2 rfl rfl 0 (by decide) (hts (.fieldLink RX6 22 "ElephantLine$Placing" "land" "LElephantLine$Land;") (by decide +kernel)) (fun _ h9 => h9) rfl dX6_mostFrom_20 ?_
      refine va_getN (D := D) (ci := 2) (C := RX2) (T := TX2) (N := 14) (v := .int la_lanes) hx hb hX2 (fun _ q => q) hown hK hP 0 rfl rfl 0 (by decide) (va_Nw.use rfl (hKN.2.1.1 ("ElephantLine$Placing", 34, "ElephantLine$Land", "lanes", "I", "ElephantLine") (List.mem_of_getElem? (i := 0) rfl))) (fun _ h9 => h9) rfl dX6_mostFrom_23 ?_
      refine lv_icmp_ge (tgt := 59) hx hb dX6_mostFrom_26 (by decide) (fun cd => ?_) (fun cd => ?_)
      · have h := ifT cd h
        refine lv_lload_n hx hb dX6_mostFrom_59 rfl (lv_at hl 3 rfl) ?_
        exact W.lret (v := x3_2) hx hb hr (fun t ht _ => ⟨_, rfl, Option.some.inj h, ht⟩) (fun _ q => by cases q) dX6_mostFrom_60
      · have h := ifF cd h
        refine lv_aload_n hx hb dX6_mostFrom_29 rfl (lv_at hl 0 rfl) ?_
        refine lv_iload_n hx hb dX6_mostFrom_30 rfl (lv_at hl 1 rfl) ?_
        refine lv_iload hx hb dX6_mostFrom_31 (lv_at hl 4 rfl) ?_
        refine lv_iload_n hx hb dX6_mostFrom_33 rfl (lv_at hl 2 rfl) ?_
        obtain ⟨r_4, hc_5, h⟩ := bd1_some h
        refine kVb [.int p1, .int x5_3, .int p2] [] ⟨hx, hb, hml, hown, hts⟩ (c_X6_isFree l D cy a_no a_pl (no_strong) (no_at) (no_wounds) no_dead no_wet no_drawn (.ref a_la) (pl_odds) (.ref a_pl_worths) (.ref a_pl_most) (pl_lanes) p1 x5_3 p2 r_4 hc_5) gX6_mostFrom_X6_isFree rfl hd_X6_isFree ⟨Nat.le_of_ble_eq_true rfl, Nat.le_of_ble_eq_true rfl⟩ rfl rfl hKN (hP.sub [1, 2] rfl) 6 1 rfl rfl rfl hl.1 rfl (Nat.le_of_ble_eq_true rfl) dX6_mostFrom_34 ⟨Nat.le_of_ble_eq_true rfl, Nat.le_of_ble_eq_true rfl⟩ (fun nb_6 => ?_)
        have jn53 : ∀ (x3_7 : Int64), f_X6_mostFrom_B53 (f_X6_mostFrom_L17 la_lanes no_dead pl_worths pl_most p1 p2 n17) la_lanes no_dead pl_worths pl_most p1 p2 x3_7 x5_3 = some (res) → ∀ ls : Array Slot, lv_has ls 6 [(0, .ref a_pl), (1, .int p1), (2, .int p2), (3, .long x3_7), (5, .int x5_3)] → W p l e (headSpec wo_X6_mostFrom ({ frames := 2, cells := 0, slots := 0, locals := 44 })).room s m (([.ref a_pl, .int p1, .int p2] : List Value).toArray) below meth c s.heap [] 0 0 (MQ below (vp_Sl (fun r => r = res)) (([.ref a_pl, .int p1, .int p2] : List Value).toArray) s 0 0 (fun _ => False)) (F0 m 53 ls []) := by
          intro x3_7 h ls hl
          unfold f_X6_mostFrom_B53 at h
          refine lv_iinc (v := x5_3 + 1) (lv' := [(5, .int (x5_3 + 1)), (0, .ref a_pl), (1, .int p1), (2, .int p2), (3, .long x3_7)]) hx hb dX6_mostFrom_53 hl (k := 4) rfl (by first | rfl | decide) (by decide) rfl (fun ls hl => ?_)
          refine lv_goto (tgt := 17) hx hb dX6_mostFrom_56 (by decide) ?_
          exact ih17 x3_7 (x5_3 + 1) h _ (lv_sub hl [1, 2, 3, 4, 0] rfl)
        refine lv_if_eq (tgt := 53) hx hb dX6_mostFrom_37 (by decide) (fun cd => ?_) (fun cd => ?_)
        · have h := ifT cd h
          exact jn53 x3_2 h _ (lv_sub hl [0, 1, 2, 3, 4] rfl)
        · have h := ifF cd h
          refine lv_lload_n hx hb dX6_mostFrom_40 rfl (lv_at hl 3 rfl) ?_
          refine lv_aload_n hx hb dX6_mostFrom_41 rfl (lv_at hl 0 rfl) ?_
          refine lv_iload_n hx hb dX6_mostFrom_42 rfl (lv_at hl 1 rfl) ?_
          refine lv_iload hx hb dX6_mostFrom_43 (lv_at hl 4 rfl) ?_
          refine lv_iload_n hx hb dX6_mostFrom_45 rfl (lv_at hl 2 rfl) ?_
          obtain ⟨r_8, hc_9, h⟩ := bd1_some h
          refine kVl [.int p1, .int x5_3, .int p2] [.long x3_2] ⟨hx, hb, hml, hown, hts⟩ (c_X6_withLane l D cy a_pl a_pl_worths a_pl_most (.ref a_la) (.ref a_no) (pl_odds) (pl_lanes) pl_worths pl_most p1 x5_3 p2 r_8 hc_9) gX6_mostFrom_X6_withLane rfl hd_X6_withLane ⟨Nat.le_of_ble_eq_true rfl, Nat.le_of_ble_eq_true rfl⟩ rfl rfl hKN (hP.sub [2, 3, 4] rfl) 6 0 rfl rfl rfl hl.1 rfl (Nat.le_of_ble_eq_true rfl) dX6_mostFrom_46 ⟨Nat.le_of_ble_eq_true rfl, Nat.le_of_ble_eq_true rfl⟩ ?_
          refine va_mmax_long hx hb (hml.trans hl.1.symm) hown (hts (.methodLink RX6 73 Lib.MathLoose.max_long.x) (by decide +kernel)) (hts (.static Lib.MathLoose.max_long.x) (by decide +kernel)) (hts (.initialized "java/lang/Math") (by decide +kernel)) (hts (.code Lib.MathLoose.max_long.x Lib.MathLoose.max_long.code 4 (some .long)) (by decide +kernel)) (Nat.le_of_ble_eq_true rfl) (Nat.le_of_ble_eq_true rfl) (Nat.le_of_ble_eq_true rfl) (Nat.le_of_ble_eq_true rfl) dX6_mostFrom_49 ?_
          refine lv_lstore_n (lv' := [(3, .long (if r_8 < x3_2 then x3_2 else r_8)), (0, .ref a_pl), (1, .int p1), (2, .int p2), (5, .int x5_3)]) hx hb dX6_mostFrom_52 rfl hl (by decide) rfl (fun ls hl => ?_)
          exact jn53 (if r_8 < x3_2 then x3_2 else r_8) h _ (lv_sub hl [1, 2, 3, 0, 4] rfl)
  exact lp17 fuelN (pl_most (((p1 + 1) * 64) + p2).toNatClampNeg) (0 : Int32) h _ (lv_sub hl [2, 3, 4, 1, 0] rfl)
theorem hd_X6_firstLaneFor : yX6_firstLaneFor.cls = RX6 ∧ yX6_firstLaneFor.cls ≠ "java/lang/invoke/MethodHandle" ∧ yX6_firstLaneFor.cls ≠ "java/lang/invoke/VarHandle" ∧ (parseMethodDescriptor yX6_firstLaneFor.desc).map (fun d => d.parameters.length) = some 2 := by decide +kernel
set_option maxHeartbeats 4000000 in
set_option maxRecDepth 100000 in
theorem c_X6_firstLaneFor (l : Launch) (D : va_G) (cy : Nat → ClassId) (a_la a_no a_pl a_pl_worths a_pl_most : Nat) (la_lanes : Int32) (la_deep : Int32) (la_lanesTold : Int32) (la_who : Value) (la_firstStrong : Value) (la_beasts : Int32) (la_kind : Value) (la_firstLane : Value) (la_mood : Value) (la_price : Value) (la_cities : Int32) (la_passes : Int32) (la_passBetween : Value) (la_turned : Int32) (no_strong : Value) (no_at : Value) (no_wounds : Value) (no_dead : Int32) (no_wet : Int32) (no_drawn : Int32) (pl_odds : Value) (pl_lanes : Value) (pl_worths : Nat → Int64) (pl_most : Nat → Int64) (p1 : Int32) (p2 : Int32) (res : Int32) (h : f_X6_firstLaneFor la_lanes no_dead pl_worths pl_most p1 p2 = some (res)) : Met l yX6_firstLaneFor wo_X6_firstLaneFor ({ frames := 2, cells := 0, slots := 0, locals := 44 }) (roPc D cy [.ref a_pl, .int p1, .int p2] [(a_la, .inr (2, [.int la_lanes, .int la_deep, .int la_lanesTold, la_who, la_firstStrong, .int la_beasts, la_kind, la_firstLane, la_mood, la_price, .int la_cities, .int la_passes, la_passBetween, .int la_turned])), (a_no, .inr (8, [no_strong, no_at, no_wounds, .int no_dead, .int no_wet, .int no_drawn])), (a_pl, .inr (6, [.ref a_la, .ref a_no, pl_odds, .ref a_pl_worths, .ref a_pl_most, pl_lanes])), (a_pl_worths, .inl (cy 2, 6, .inr (.inl pl_worths))), (a_pl_most, .inl (cy 2, 384, .inr (.inl pl_most)))]) (vp_Si (fun r => r = res)) 0 0 (fun _ => False) := by
  refine Met.ofW (cc := cX6_firstLaneFor) (maxL := 4) (ret := (some .int)) (by decide) rfl ?_
  intro p e s m args below meth c s₁ B hml hv
  obtain ⟨rfl, hP, hKN⟩ := hv
  have hK := hKN.1
  have hx := B.exec
  have hb := B.bytes
  have hr := B.returns
  have hts := wt_X6_firstLaneFor hKN.2.2 (([.ref a_pl, .int p1, .int p2] : List Value).toArray)
  have hown : s.vm.findClass RX6 = some m.cls := findClass_of_methodNamed B.named
  have hlocks := B.notSynchronized
  have hX2 := wc_X2 hKN.2.2 (([.ref a_pl, .int p1, .int p2] : List Value).toArray)
  have hX6 := wc_X6 hKN.2.2 (([.ref a_pl, .int p1, .int p2] : List Value).toArray)
  have hl := lv_entry ([.ref a_pl, .int p1, .int p2]) (n := 4) (Nat.le_of_ble_eq_true rfl)
  rw [lg_entry_eq]
  generalize (lg_sl ([.ref a_pl, .int p1, .int p2]) ++ List.replicate (4 - (lg_sl ([.ref a_pl, .int p1, .int p2])).length) Slot.unset).toArray = ls at hl ⊢
  have hl : lv_has ls 4 [(0, .ref a_pl), (1, .int p1), (2, .int p2)] := hl
  unfold f_X6_firstLaneFor at h
  refine lv_iconst (v := 0) hx hb dX6_firstLaneFor_0 (by decide) ?_
  refine lv_istore_n (lv' := [(3, .int 0), (0, .ref a_pl), (1, .int p1), (2, .int p2)]) hx hb dX6_firstLaneFor_1 rfl hl (by decide) rfl (fun ls hl => ?_)
  have lp2 : ∀ (n2 : Nat) (x3_1 : Int32), f_X6_firstLaneFor_L2 la_lanes no_dead pl_worths pl_most p1 p2 n2 x3_1 = some (res) → ∀ ls : Array Slot, lv_has ls 4 [(0, .ref a_pl), (1, .int p1), (2, .int p2), (3, .int x3_1)] → W p l e (headSpec wo_X6_firstLaneFor ({ frames := 2, cells := 0, slots := 0, locals := 44 })).room s m (([.ref a_pl, .int p1, .int p2] : List Value).toArray) below meth c s.heap [] 0 0 (MQ below (vp_Si (fun r => r = res)) (([.ref a_pl, .int p1, .int p2] : List Value).toArray) s 0 0 (fun _ => False)) (F0 m 2 ls []) := by
    intro n2
    induction n2 with
    | zero => intro x3_1 h; exact absurd (show (none : Option (Int32)) = some _ from h) (by intro q; cases q)
    | succ n2 ih2 =>
      intro x3_1 h ls hl
      have h : f_X6_firstLaneFor_b2 la_lanes no_dead pl_worths pl_most p1 p2 (f_X6_firstLaneFor_L2 la_lanes no_dead pl_worths pl_most p1 p2 n2) x3_1 = some (res) := h
      unfold f_X6_firstLaneFor_b2 at h
      refine lv_iload_n hx hb dX6_firstLaneFor_2 rfl (lv_at hl 3 rfl) ?_
      refine lv_aload_n hx hb dX6_firstLaneFor_3 rfl (lv_at hl 0 rfl) ?_
      refine va_get (D := D) (ci := 6) (C := RX6) (T := TX6) (N := 6) (v := .ref a_la) hx hb hX6 (fun _ q => q) hown hK hP 2 rfl rfl 0 (by decide) (hts (.fieldLink RX6 22 "ElephantLine$Placing" "land" "LElephantLine$Land;") (by decide +kernel)) (fun _ h9 => h9) rfl dX6_firstLaneFor_4 ?_
      refine va_getN (D := D) (ci := 2) (C := RX2) (T := TX2) (N := 14) (v := .int la_lanes) hx hb hX2 (fun _ q => q) hown hK hP 0 rfl rfl 0 (by decide) (va_Nw.use rfl (hKN.2.1.1 ("ElephantLine$Placing", 34, "ElephantLine$Land", "lanes", "I", "ElephantLine") (List.mem_of_getElem? (i := 0) rfl))) (fun _ h9 => h9) rfl dX6_firstLaneFor_7 ?_
      refine lv_icmp_ge (tgt := 53) hx hb dX6_firstLaneFor_10 (by decide) (fun cd => ?_) (fun cd => ?_)
      · have h := ifT cd h
        refine lv_bipush (v := (-2)) hx hb dX6_firstLaneFor_53 (by decide) ?_
        exact W.iret (v := (-2)) hx hb hr (fun t ht _ => ⟨_, rfl, Option.some.inj h, ht⟩) (fun _ q => by cases q) dX6_firstLaneFor_55
      · have h := ifF cd h
        refine lv_aload_n hx hb dX6_firstLaneFor_13 rfl (lv_at hl 0 rfl) ?_
        refine lv_iload_n hx hb dX6_firstLaneFor_14 rfl (lv_at hl 1 rfl) ?_
        refine lv_iload_n hx hb dX6_firstLaneFor_15 rfl (lv_at hl 3 rfl) ?_
        refine lv_iload_n hx hb dX6_firstLaneFor_16 rfl (lv_at hl 2 rfl) ?_
        obtain ⟨r_2, hc_3, h⟩ := bd1_some h
        refine kVb [.int p1, .int x3_1, .int p2] [] ⟨hx, hb, hml, hown, hts⟩ (c_X6_isFree l D cy a_no a_pl (no_strong) (no_at) (no_wounds) no_dead no_wet no_drawn (.ref a_la) (pl_odds) (.ref a_pl_worths) (.ref a_pl_most) (pl_lanes) p1 x3_1 p2 r_2 hc_3) gX6_firstLaneFor_X6_isFree rfl hd_X6_isFree ⟨Nat.le_of_ble_eq_true rfl, Nat.le_of_ble_eq_true rfl⟩ rfl rfl hKN (hP.sub [1, 2] rfl) 6 1 rfl rfl rfl hl.1 rfl (Nat.le_of_ble_eq_true rfl) dX6_firstLaneFor_17 ⟨Nat.le_of_ble_eq_true rfl, Nat.le_of_ble_eq_true rfl⟩ (fun nb_4 => ?_)
        have jn47 : f_X6_firstLaneFor_B47 (f_X6_firstLaneFor_L2 la_lanes no_dead pl_worths pl_most p1 p2 n2) la_lanes no_dead pl_worths pl_most p1 p2 x3_1 = some (res) → ∀ ls : Array Slot, lv_has ls 4 [(0, .ref a_pl), (1, .int p1), (2, .int p2), (3, .int x3_1)] → W p l e (headSpec wo_X6_firstLaneFor ({ frames := 2, cells := 0, slots := 0, locals := 44 })).room s m (([.ref a_pl, .int p1, .int p2] : List Value).toArray) below meth c s.heap [] 0 0 (MQ below (vp_Si (fun r => r = res)) (([.ref a_pl, .int p1, .int p2] : List Value).toArray) s 0 0 (fun _ => False)) (F0 m 47 ls []) := by
          intro h ls hl
          unfold f_X6_firstLaneFor_B47 at h
          refine lv_iinc (v := x3_1 + 1) (lv' := [(3, .int (x3_1 + 1)), (0, .ref a_pl), (1, .int p1), (2, .int p2)]) hx hb dX6_firstLaneFor_47 hl (k := 3) rfl (by first | rfl | decide) (by decide) rfl (fun ls hl => ?_)
          refine lv_goto (tgt := 2) hx hb dX6_firstLaneFor_50 (by decide) ?_
          exact ih2 (x3_1 + 1) h _ (lv_sub hl [1, 2, 3, 0] rfl)
        refine lv_if_eq (tgt := 47) hx hb dX6_firstLaneFor_20 (by decide) (fun cd => ?_) (fun cd => ?_)
        · have h := ifT cd h
          exact jn47 h _ (lv_sub hl [0, 1, 2, 3] rfl)
        · have h := ifF cd h
          refine lv_aload_n hx hb dX6_firstLaneFor_23 rfl (lv_at hl 0 rfl) ?_
          refine lv_iload_n hx hb dX6_firstLaneFor_24 rfl (lv_at hl 1 rfl) ?_
          refine lv_iload_n hx hb dX6_firstLaneFor_25 rfl (lv_at hl 3 rfl) ?_
          refine lv_iload_n hx hb dX6_firstLaneFor_26 rfl (lv_at hl 2 rfl) ?_
          obtain ⟨r_5, hc_6, h⟩ := bd1_some h
          refine kVl [.int p1, .int x3_1, .int p2] [] ⟨hx, hb, hml, hown, hts⟩ (c_X6_withLane l D cy a_pl a_pl_worths a_pl_most (.ref a_la) (.ref a_no) (pl_odds) (pl_lanes) pl_worths pl_most p1 x3_1 p2 r_5 hc_6) gX6_firstLaneFor_X6_withLane rfl hd_X6_withLane ⟨Nat.le_of_ble_eq_true rfl, Nat.le_of_ble_eq_true rfl⟩ rfl rfl hKN (hP.sub [2, 3, 4] rfl) 6 0 rfl rfl rfl hl.1 rfl (Nat.le_of_ble_eq_true rfl) dX6_firstLaneFor_27 ⟨Nat.le_of_ble_eq_true rfl, Nat.le_of_ble_eq_true rfl⟩ ?_
          refine lv_aload_n hx hb dX6_firstLaneFor_30 rfl (lv_at hl 0 rfl) ?_
          refine va_get (D := D) (ci := 6) (C := RX6) (T := TX6) (N := 6) (v := .ref a_pl_most) hx hb hX6 (fun _ q => q) hown hK hP 2 rfl rfl 4 (by decide) (hts (.fieldLink RX6 15 "ElephantLine$Placing" "most" "[J") (by decide +kernel)) (fun _ h9 => h9) rfl dX6_firstLaneFor_31 ?_
          refine lv_iload_n hx hb dX6_firstLaneFor_34 rfl (lv_at hl 1 rfl) ?_
          refine lv_bipush (v := 64) hx hb dX6_firstLaneFor_35 (by decide) ?_
          refine lv_imul hx hb dX6_firstLaneFor_37 ?_
          refine lv_iload_n hx hb dX6_firstLaneFor_38 rfl (lv_at hl 2 rfl) ?_
          refine lv_iadd hx hb dX6_firstLaneFor_39 ?_
          obtain ⟨i_7, h⟩ := gIn_some h
          refine va_lald hx hb hK hP 4 2 rfl rfl i_7 dX6_firstLaneFor_40 ?_
          refine W.lcmp hx hb dX6_firstLaneFor_41 ?_
          refine lv_if_ne (tgt := 47) hx hb dX6_firstLaneFor_42 (by decide) (fun cd => ?_) (fun cd => ?_)
          · have cd := fun q => cd ((lgc_eq _ _).mpr q)
            have h := ifF cd h
            exact jn47 h _ (lv_sub hl [0, 1, 2, 3] rfl)
          · have cd := (lgc_eq _ _).mp cd
            have h := ifT cd h
            refine lv_iload_n hx hb dX6_firstLaneFor_45 rfl (lv_at hl 3 rfl) ?_
            exact W.iret (v := x3_1) hx hb hr (fun t ht _ => ⟨_, rfl, Option.some.inj h, ht⟩) (fun _ q => by cases q) dX6_firstLaneFor_46
  exact lp2 fuelN (0 : Int32) h _ (lv_sub hl [1, 2, 3, 0] rfl)
theorem hd_X6_laneFor : yX6_laneFor.cls = RX6 ∧ yX6_laneFor.cls ≠ "java/lang/invoke/MethodHandle" ∧ yX6_laneFor.cls ≠ "java/lang/invoke/VarHandle" ∧ (parseMethodDescriptor yX6_laneFor.desc).map (fun d => d.parameters.length) = some 1 := by decide +kernel
set_option maxHeartbeats 4000000 in
set_option maxRecDepth 100000 in
theorem c_X6_laneFor (l : Launch) (D : va_G) (cy : Nat → ClassId) (a_la a_pl a_pl_lanes : Nat) (la_lanes : Int32) (la_deep : Int32) (la_lanesTold : Int32) (la_who : Value) (la_firstStrong : Value) (la_beasts : Int32) (la_kind : Value) (la_firstLane : Value) (la_mood : Value) (la_price : Value) (la_cities : Int32) (la_passes : Int32) (la_passBetween : Value) (la_turned : Int32) (pl_now : Value) (pl_odds : Value) (pl_worths : Value) (pl_most : Value) (pl_lanes : Nat → Int32) (p1 : Int32) (res : Int32) (h : f_X6_laneFor la_beasts pl_lanes p1 = some (res)) : Met l yX6_laneFor wo_X6_laneFor ({ frames := 1, cells := 0, slots := 0, locals := 21 }) (roPc D cy [.ref a_pl, .int p1] [(a_la, .inr (2, [.int la_lanes, .int la_deep, .int la_lanesTold, la_who, la_firstStrong, .int la_beasts, la_kind, la_firstLane, la_mood, la_price, .int la_cities, .int la_passes, la_passBetween, .int la_turned])), (a_pl, .inr (6, [.ref a_la, pl_now, pl_odds, pl_worths, pl_most, .ref a_pl_lanes])), (a_pl_lanes, .inl (cy 1, 5, .inl pl_lanes))]) (vp_Si (fun r => r = res)) 0 0 (fun _ => False) := by
  refine Met.ofW (cc := cX6_laneFor) (maxL := 2) (ret := (some .int)) (by decide) rfl ?_
  intro p e s m args below meth c s₁ B hml hv
  obtain ⟨rfl, hP, hKN⟩ := hv
  have hK := hKN.1
  have hx := B.exec
  have hb := B.bytes
  have hr := B.returns
  have hts := wt_X6_laneFor hKN.2.2 (([.ref a_pl, .int p1] : List Value).toArray)
  have hown : s.vm.findClass RX6 = some m.cls := findClass_of_methodNamed B.named
  have hlocks := B.notSynchronized
  have hX6 := wc_X6 hKN.2.2 (([.ref a_pl, .int p1] : List Value).toArray)
  have hl := lv_entry ([.ref a_pl, .int p1]) (n := 2) (Nat.le_of_ble_eq_true rfl)
  rw [lg_entry_eq]
  generalize (lg_sl ([.ref a_pl, .int p1]) ++ List.replicate (2 - (lg_sl ([.ref a_pl, .int p1])).length) Slot.unset).toArray = ls at hl ⊢
  have hl : lv_has ls 2 [(0, .ref a_pl), (1, .int p1)] := hl
  unfold f_X6_laneFor at h
  refine lv_aload_n hx hb dX6_laneFor_0 rfl (lv_at hl 0 rfl) ?_
  refine va_get (D := D) (ci := 6) (C := RX6) (T := TX6) (N := 6) (v := .ref a_la) hx hb hX6 (fun _ q => q) hown hK hP 1 rfl rfl 0 (by decide) (hts (.fieldLink RX6 22 "ElephantLine$Placing" "land" "LElephantLine$Land;") (by decide +kernel)) (fun _ h9 => h9) rfl dX6_laneFor_1 ?_
  refine lv_iload_n hx hb dX6_laneFor_4 rfl (lv_at hl 1 rfl) ?_
  obtain ⟨r_1, hc_2, h⟩ := bd1_some h
  refine kVb [.int p1] [] ⟨hx, hb, hml, hown, hts⟩ (c_X2_hasBeast l D cy a_la la_lanes la_deep la_lanesTold (la_who) (la_firstStrong) la_beasts (la_kind) (la_firstLane) (la_mood) (la_price) la_cities la_passes (la_passBetween) la_turned p1 r_1 hc_2) gX6_laneFor_X2_hasBeast rfl hd_X2_hasBeast ⟨Nat.le_of_ble_eq_true rfl, Nat.le_of_ble_eq_true rfl⟩ rfl rfl hKN (hP.sub [0] rfl) 2 0 rfl rfl rfl hl.1 rfl (Nat.le_of_ble_eq_true rfl) dX6_laneFor_5 ⟨Nat.le_of_ble_eq_true rfl, Nat.le_of_ble_eq_true rfl⟩ (fun nb_3 => ?_)
  refine lv_if_eq (tgt := 20) hx hb dX6_laneFor_8 (by decide) (fun cd => ?_) (fun cd => ?_)
  · have h := ifT cd h
    refine lv_bipush (v := (-2)) hx hb dX6_laneFor_20 (by decide) ?_
    exact W.iret (v := (-2)) hx hb hr (fun t ht _ => ⟨_, rfl, Option.some.inj h, ht⟩) (fun _ q => by cases q) dX6_laneFor_22
  · have h := ifF cd h
    refine lv_aload_n hx hb dX6_laneFor_11 rfl (lv_at hl 0 rfl) ?_
    refine va_get (D := D) (ci := 6) (C := RX6) (T := TX6) (N := 6) (v := .ref a_pl_lanes) hx hb hX6 (fun _ q => q) hown hK hP 1 rfl rfl 5 (by decide) (hts (.fieldLink RX6 18 "ElephantLine$Placing" "lanes" "[I") (by decide +kernel)) (fun _ h9 => h9) rfl dX6_laneFor_12 ?_
    refine lv_iload_n hx hb dX6_laneFor_15 rfl (lv_at hl 1 rfl) ?_
    obtain ⟨i_4, h⟩ := gIn_some h
    refine va_iald hx hb hK hP 2 1 rfl rfl i_4 dX6_laneFor_16 ?_
    refine lv_goto (tgt := 22) hx hb dX6_laneFor_17 (by decide) ?_
    exact W.iret (v := pl_lanes p1.toNatClampNeg) hx hb hr (fun t ht _ => ⟨_, rfl, Option.some.inj h, ht⟩) (fun _ q => by cases q) dX6_laneFor_22
theorem hd_X6_greatestSum : yX6_greatestSum.cls = RX6 ∧ yX6_greatestSum.cls ≠ "java/lang/invoke/MethodHandle" ∧ yX6_greatestSum.cls ≠ "java/lang/invoke/VarHandle" ∧ (parseMethodDescriptor yX6_greatestSum.desc).map (fun d => d.parameters.length) = some 0 := by decide +kernel
set_option maxHeartbeats 4000000 in
set_option maxRecDepth 100000 in
theorem c_X6_greatestSum (l : Launch) (D : va_G) (cy : Nat → ClassId) (a_pl a_pl_most : Nat) (pl_land : Value) (pl_now : Value) (pl_odds : Value) (pl_worths : Value) (pl_lanes : Value) (pl_most : Nat → Int64) (res : Int64) (h : f_X6_greatestSum pl_most = some (res)) : Met l yX6_greatestSum wo_X6_greatestSum ({ frames := 0, cells := 0, slots := 0, locals := 0 }) (roPc D cy [.ref a_pl] [(a_pl, .inr (6, [pl_land, pl_now, pl_odds, pl_worths, .ref a_pl_most, pl_lanes])), (a_pl_most, .inl (cy 2, 384, .inr (.inl pl_most)))]) (vp_Sl (fun r => r = res)) 0 0 (fun _ => False) := by
  refine Met.ofW (cc := cX6_greatestSum) (maxL := 1) (ret := (some .long)) (by decide) rfl ?_
  intro p e s m args below meth c s₁ B hml hv
  obtain ⟨rfl, hP, hKN⟩ := hv
  have hK := hKN.1
  have hx := B.exec
  have hb := B.bytes
  have hr := B.returns
  have hts := wt_X6_greatestSum hKN.2.2 (([.ref a_pl] : List Value).toArray)
  have hown : s.vm.findClass RX6 = some m.cls := findClass_of_methodNamed B.named
  have hlocks := B.notSynchronized
  have hX6 := wc_X6 hKN.2.2 (([.ref a_pl] : List Value).toArray)
  have hl := lv_entry ([.ref a_pl]) (n := 1) (Nat.le_of_ble_eq_true rfl)
  rw [lg_entry_eq]
  generalize (lg_sl ([.ref a_pl]) ++ List.replicate (1 - (lg_sl ([.ref a_pl])).length) Slot.unset).toArray = ls at hl ⊢
  have hl : lv_has ls 1 [(0, .ref a_pl)] := hl
  unfold f_X6_greatestSum at h
  refine lv_aload_n hx hb dX6_greatestSum_0 rfl (lv_at hl 0 rfl) ?_
  refine va_get (D := D) (ci := 6) (C := RX6) (T := TX6) (N := 6) (v := .ref a_pl_most) hx hb hX6 (fun _ q => q) hown hK hP 0 rfl rfl 4 (by decide) (hts (.fieldLink RX6 15 "ElephantLine$Placing" "most" "[J") (by decide +kernel)) (fun _ h9 => h9) rfl dX6_greatestSum_1 ?_
  refine lv_iconst (v := 0) hx hb dX6_greatestSum_4 (by decide) ?_
  refine va_lald hx hb hK hP 1 2 rfl rfl (vpc (by decide)) dX6_greatestSum_5 ?_
  exact W.lret (v := pl_most (0 : Int32).toNatClampNeg) hx hb hr (fun t ht _ => ⟨_, rfl, Option.some.inj h, ht⟩) (fun _ q => by cases q) dX6_greatestSum_6
theorem hd_X6_livingLeftOut : yX6_livingLeftOut.cls = RX6 ∧ yX6_livingLeftOut.cls ≠ "java/lang/invoke/MethodHandle" ∧ yX6_livingLeftOut.cls ≠ "java/lang/invoke/VarHandle" ∧ (parseMethodDescriptor yX6_livingLeftOut.desc).map (fun d => d.parameters.length) = some 0 := by decide +kernel
set_option maxHeartbeats 4000000 in
set_option maxRecDepth 100000 in
theorem c_X6_livingLeftOut (l : Launch) (D : va_G) (cy : Nat → ClassId) (a_la a_no a_pl a_pl_lanes : Nat) (la_lanes : Int32) (la_deep : Int32) (la_lanesTold : Int32) (la_who : Value) (la_firstStrong : Value) (la_beasts : Int32) (la_kind : Value) (la_firstLane : Value) (la_mood : Value) (la_price : Value) (la_cities : Int32) (la_passes : Int32) (la_passBetween : Value) (la_turned : Int32) (no_strong : Value) (no_at : Value) (no_wounds : Value) (no_dead : Int32) (no_wet : Int32) (no_drawn : Int32) (pl_odds : Value) (pl_worths : Value) (pl_most : Value) (pl_lanes : Nat → Int32) (res : Int32) (h : f_X6_livingLeftOut la_beasts no_dead pl_lanes = some (res)) : Met l yX6_livingLeftOut wo_X6_livingLeftOut ({ frames := 1, cells := 0, slots := 0, locals := 21 }) (roPc D cy [.ref a_pl] [(a_la, .inr (2, [.int la_lanes, .int la_deep, .int la_lanesTold, la_who, la_firstStrong, .int la_beasts, la_kind, la_firstLane, la_mood, la_price, .int la_cities, .int la_passes, la_passBetween, .int la_turned])), (a_no, .inr (8, [no_strong, no_at, no_wounds, .int no_dead, .int no_wet, .int no_drawn])), (a_pl, .inr (6, [.ref a_la, .ref a_no, pl_odds, pl_worths, pl_most, .ref a_pl_lanes])), (a_pl_lanes, .inl (cy 1, 5, .inl pl_lanes))]) (vp_Si (fun r => r = res)) 0 0 (fun _ => False) := by
  refine Met.ofW (cc := cX6_livingLeftOut) (maxL := 3) (ret := (some .int)) (by decide) rfl ?_
  intro p e s m args below meth c s₁ B hml hv
  obtain ⟨rfl, hP, hKN⟩ := hv
  have hK := hKN.1
  have hx := B.exec
  have hb := B.bytes
  have hr := B.returns
  have hts := wt_X6_livingLeftOut hKN.2.2 (([.ref a_pl] : List Value).toArray)
  have hown : s.vm.findClass RX6 = some m.cls := findClass_of_methodNamed B.named
  have hlocks := B.notSynchronized
  have hX2 := wc_X2 hKN.2.2 (([.ref a_pl] : List Value).toArray)
  have hX6 := wc_X6 hKN.2.2 (([.ref a_pl] : List Value).toArray)
  have hl := lv_entry ([.ref a_pl]) (n := 3) (Nat.le_of_ble_eq_true rfl)
  rw [lg_entry_eq]
  generalize (lg_sl ([.ref a_pl]) ++ List.replicate (3 - (lg_sl ([.ref a_pl])).length) Slot.unset).toArray = ls at hl ⊢
  have hl : lv_has ls 3 [(0, .ref a_pl)] := hl
  unfold f_X6_livingLeftOut at h
  refine lv_iconst (v := 0) hx hb dX6_livingLeftOut_0 (by decide) ?_
  refine lv_istore_n (lv' := [(1, .int 0), (0, .ref a_pl)]) hx hb dX6_livingLeftOut_1 rfl hl (by decide) rfl (fun ls hl => ?_)
  refine lv_iconst (v := 0) hx hb dX6_livingLeftOut_2 (by decide) ?_
  refine lv_istore_n (lv' := [(2, .int 0), (1, .int 0), (0, .ref a_pl)]) hx hb dX6_livingLeftOut_3 rfl hl (by decide) rfl (fun ls hl => ?_)
  have lp4 : ∀ (n4 : Nat) (x1_1 : Int32) (x2_2 : Int32), f_X6_livingLeftOut_L4 la_beasts no_dead pl_lanes n4 x1_1 x2_2 = some (res) → ∀ ls : Array Slot, lv_has ls 3 [(0, .ref a_pl), (1, .int x1_1), (2, .int x2_2)] → W p l e (headSpec wo_X6_livingLeftOut ({ frames := 1, cells := 0, slots := 0, locals := 21 })).room s m (([.ref a_pl] : List Value).toArray) below meth c s.heap [] 0 0 (MQ below (vp_Si (fun r => r = res)) (([.ref a_pl] : List Value).toArray) s 0 0 (fun _ => False)) (F0 m 4 ls []) := by
    intro n4
    induction n4 with
    | zero => intro x1_1 x2_2 h; exact absurd (show (none : Option (Int32)) = some _ from h) (by intro q; cases q)
    | succ n4 ih4 =>
      intro x1_1 x2_2 h ls hl
      have h : f_X6_livingLeftOut_b4 la_beasts no_dead pl_lanes (f_X6_livingLeftOut_L4 la_beasts no_dead pl_lanes n4) x1_1 x2_2 = some (res) := h
      unfold f_X6_livingLeftOut_b4 at h
      refine lv_iload_n hx hb dX6_livingLeftOut_4 rfl (lv_at hl 2 rfl) ?_
      refine lv_aload_n hx hb dX6_livingLeftOut_5 rfl (lv_at hl 0 rfl) ?_
      refine va_get (D := D) (ci := 6) (C := RX6) (T := TX6) (N := 6) (v := .ref a_la) hx hb hX6 (fun _ q => q) hown hK hP 2 rfl rfl 0 (by decide) (hts (.fieldLink RX6 22 "ElephantLine$Placing" "land" "LElephantLine$Land;") (by decide +kernel)) (fun _ h9 => h9) rfl dX6_livingLeftOut_6 ?_
      refine va_getN (D := D) (ci := 2) (C := RX2) (T := TX2) (N := 14) (v := .int la_beasts) hx hb hX2 (fun _ q => q) hown hK hP 0 rfl rfl 5 (by decide) (va_Nw.use rfl (hKN.2.1.1 ("ElephantLine$Placing", 39, "ElephantLine$Land", "beasts", "I", "ElephantLine") (List.mem_of_getElem? (i := 16) rfl))) (fun _ h9 => h9) rfl dX6_livingLeftOut_9 ?_
      refine lv_icmp_ge (tgt := 51) hx hb dX6_livingLeftOut_12 (by decide) (fun cd => ?_) (fun cd => ?_)
      · have h := ifT cd h
        refine lv_iload_n hx hb dX6_livingLeftOut_51 rfl (lv_at hl 1 rfl) ?_
        exact W.iret (v := x1_1) hx hb hr (fun t ht _ => ⟨_, rfl, Option.some.inj h, ht⟩) (fun _ q => by cases q) dX6_livingLeftOut_52
      · have h := ifF cd h
        refine lv_iload_n hx hb dX6_livingLeftOut_15 rfl (lv_at hl 1 rfl) ?_
        refine lv_aload_n hx hb dX6_livingLeftOut_16 rfl (lv_at hl 0 rfl) ?_
        refine va_get (D := D) (ci := 6) (C := RX6) (T := TX6) (N := 6) (v := .ref a_pl_lanes) hx hb hX6 (fun _ q => q) hown hK hP 2 rfl rfl 5 (by decide) (hts (.fieldLink RX6 18 "ElephantLine$Placing" "lanes" "[I") (by decide +kernel)) (fun _ h9 => h9) rfl dX6_livingLeftOut_17 ?_
        refine lv_iload_n hx hb dX6_livingLeftOut_20 rfl (lv_at hl 2 rfl) ?_
        obtain ⟨i_3, h⟩ := gIn_some h
        refine va_iald hx hb hK hP 3 1 rfl rfl i_3 dX6_livingLeftOut_21 ?_
        refine lv_bipush (v := (-2)) hx hb dX6_livingLeftOut_22 (by decide) ?_
        have jn43 : ∀ (t1_4 : Int32), nbv t1_4 → f_X6_livingLeftOut_B43 (f_X6_livingLeftOut_L4 la_beasts no_dead pl_lanes n4) la_beasts no_dead pl_lanes x2_2 x1_1 t1_4 = some (res) → ∀ ls : Array Slot, lv_has ls 3 [(0, .ref a_pl), (2, .int x2_2)] → W p l e (headSpec wo_X6_livingLeftOut ({ frames := 1, cells := 0, slots := 0, locals := 21 })).room s m (([.ref a_pl] : List Value).toArray) below meth c s.heap [] 0 0 (MQ below (vp_Si (fun r => r = res)) (([.ref a_pl] : List Value).toArray) s 0 0 (fun _ => False)) (F0 m 43 ls [.int t1_4, .int x1_1]) := by
          intro t1_4 hnb_t1_4 h ls hl
          unfold f_X6_livingLeftOut_B43 at h
          refine lv_iadd hx hb dX6_livingLeftOut_43 ?_
          refine lv_istore_n (lv' := [(1, .int (x1_1 + t1_4)), (0, .ref a_pl), (2, .int x2_2)]) hx hb dX6_livingLeftOut_44 rfl hl (by decide) rfl (fun ls hl => ?_)
          refine lv_iinc (v := x2_2 + 1) (lv' := [(2, .int (x2_2 + 1)), (1, .int (x1_1 + t1_4)), (0, .ref a_pl)]) hx hb dX6_livingLeftOut_45 hl (k := 2) rfl (by first | rfl | decide) (by decide) rfl (fun ls hl => ?_)
          refine lv_goto (tgt := 4) hx hb dX6_livingLeftOut_48 (by decide) ?_
          exact ih4 (x1_1 + t1_4) (x2_2 + 1) h _ (lv_sub hl [2, 1, 0] rfl)
        have jn42 : f_X6_livingLeftOut_B42 (f_X6_livingLeftOut_L4 la_beasts no_dead pl_lanes n4) la_beasts no_dead pl_lanes x2_2 x1_1 = some (res) → ∀ ls : Array Slot, lv_has ls 3 [(0, .ref a_pl), (2, .int x2_2)] → W p l e (headSpec wo_X6_livingLeftOut ({ frames := 1, cells := 0, slots := 0, locals := 21 })).room s m (([.ref a_pl] : List Value).toArray) below meth c s.heap [] 0 0 (MQ below (vp_Si (fun r => r = res)) (([.ref a_pl] : List Value).toArray) s 0 0 (fun _ => False)) (F0 m 42 ls [.int x1_1]) := by
          intro h ls hl
          unfold f_X6_livingLeftOut_B42 at h
          refine lv_iconst (v := 0) hx hb dX6_livingLeftOut_42 (by decide) ?_
          exact jn43 (0 : Int32) nbv_0 h _ (lv_sub hl [0, 1] rfl)
        refine lv_icmp_ne (tgt := 42) hx hb dX6_livingLeftOut_24 (by decide) (fun cd => ?_) (fun cd => ?_)
        · have h := ifF cd h
          exact jn42 h _ (lv_sub hl [0, 2] rfl)
        · have h := ifT cd h
          refine lv_aload_n hx hb dX6_livingLeftOut_27 rfl (lv_at hl 0 rfl) ?_
          refine va_get (D := D) (ci := 6) (C := RX6) (T := TX6) (N := 6) (v := .ref a_no) hx hb hX6 (fun _ q => q) hown hK hP 2 rfl rfl 1 (by decide) (hts (.fieldLink RX6 26 "ElephantLine$Placing" "now" "LElephantLine$Stand;") (by decide +kernel)) (fun _ h9 => h9) rfl dX6_livingLeftOut_28 ?_
          refine lv_iload_n hx hb dX6_livingLeftOut_31 rfl (lv_at hl 2 rfl) ?_
          obtain ⟨r_5, hc_6, h⟩ := bd1_some h
          refine kVb [.int x2_2] [.int x1_1] ⟨hx, hb, hml, hown, hts⟩ (c_X8_isDead l D cy a_no (no_strong) (no_at) (no_wounds) no_dead no_wet no_drawn x2_2 r_5 hc_6) gX6_livingLeftOut_X8_isDead rfl hd_X8_isDead ⟨Nat.le_of_ble_eq_true rfl, Nat.le_of_ble_eq_true rfl⟩ rfl rfl hKN (hP.sub [1] rfl) 8 0 rfl rfl rfl hl.1 rfl (Nat.le_of_ble_eq_true rfl) dX6_livingLeftOut_32 ⟨Nat.le_of_ble_eq_true rfl, Nat.le_of_ble_eq_true rfl⟩ (fun nb_7 => ?_)
          refine lv_if_ne (tgt := 42) hx hb dX6_livingLeftOut_35 (by decide) (fun cd => ?_) (fun cd => ?_)
          · have h := ifF cd h
            exact jn42 h _ (lv_sub hl [0, 2] rfl)
          · have h := ifT cd h
            refine lv_iconst (v := 1) hx hb dX6_livingLeftOut_38 (by decide) ?_
            refine lv_goto (tgt := 43) hx hb dX6_livingLeftOut_39 (by decide) ?_
            exact jn43 (1 : Int32) nbv_1 h _ (lv_sub hl [0, 2] rfl)
  exact lp4 fuelN (0 : Int32) (0 : Int32) h _ (lv_sub hl [2, 1, 0] rfl)
theorem hd_X6_settle : yX6_settle.cls = RX6 ∧ yX6_settle.cls ≠ "java/lang/invoke/MethodHandle" ∧ yX6_settle.cls ≠ "java/lang/invoke/VarHandle" ∧ (parseMethodDescriptor yX6_settle.desc).map (fun d => d.parameters.length) = some 0 := by decide +kernel
set_option maxHeartbeats 4000000 in
set_option maxRecDepth 100000 in
theorem c_X6_settle (l : Launch) (D : va_G) (cy : Nat → ClassId) (A : Nat → Prop) (X : va_W) (a_la a_la_who a_la_kind a_la_mood a_no a_no_strong a_no_wounds a_od a_pl a_pl_worths a_pl_most a_pl_lanes : Nat) (la_lanes : Int32) (la_deep : Int32) (la_lanesTold : Int32) (la_firstStrong : Value) (la_beasts : Int32) (la_firstLane : Value) (la_price : Value) (la_cities : Int32) (la_passes : Int32) (la_passBetween : Value) (la_turned : Int32) (la_who : Nat → Int32) (la_kind : Nat → Int32) (la_mood : Nat → Int32) (no_at : Value) (no_dead : Int32) (no_wet : Int32) (no_drawn : Int32) (no_strong : Nat → Int32) (no_wounds : Nat → Int32) (pl_worths : Nat → Int64) (pl_most : Nat → Int64) (pl_lanes : Nat → Int32) (pl_worths' : Nat → Int64) (pl_most' : Nat → Int64) (pl_lanes' : Nat → Int32) (h : f_X6_settle la_lanes la_deep la_beasts la_who la_kind la_mood no_dead no_wet no_strong no_wounds pl_worths pl_most pl_lanes = some (pl_worths', pl_most', pl_lanes')) : Met l yX6_settle wo_X6_settle ({ frames := 5, cells := 0, slots := 0, locals := 117 }) (wrPc D cy A [.ref a_pl] ([(a_la, .inr (2, [.int la_lanes, .int la_deep, .int la_lanesTold, .ref a_la_who, la_firstStrong, .int la_beasts, .ref a_la_kind, la_firstLane, .ref a_la_mood, la_price, .int la_cities, .int la_passes, la_passBetween, .int la_turned])), (a_la_who, .inl (cy 1, 6, .inl la_who)), (a_la_kind, .inl (cy 1, 5, .inl la_kind)), (a_la_mood, .inl (cy 1, 5, .inl la_mood)), (a_no, .inr (8, [.ref a_no_strong, no_at, .ref a_no_wounds, .int no_dead, .int no_wet, .int no_drawn])), (a_no_strong, .inl (cy 1, 6, .inl no_strong)), (a_no_wounds, .inl (cy 1, 5, .inl no_wounds)), (a_od, .inr (4, [.ref a_la, .ref a_no])), (a_pl, .inr (6, [.ref a_la, .ref a_no, .ref a_od, .ref a_pl_worths, .ref a_pl_most, .ref a_pl_lanes])), (a_pl_worths, .inl (cy 2, 6, .inr (.inl pl_worths))), (a_pl_most, .inl (cy 2, 384, .inr (.inl pl_most))), (a_pl_lanes, .inl (cy 1, 5, .inl pl_lanes))] ++ X)) (va_Qv (fun (_ : Unit) => True) (wB D A ([(a_la, .inr (2, [.int la_lanes, .int la_deep, .int la_lanesTold, .ref a_la_who, la_firstStrong, .int la_beasts, .ref a_la_kind, la_firstLane, .ref a_la_mood, la_price, .int la_cities, .int la_passes, la_passBetween, .int la_turned])), (a_la_who, .inl (cy 1, 6, .inl la_who)), (a_la_kind, .inl (cy 1, 5, .inl la_kind)), (a_la_mood, .inl (cy 1, 5, .inl la_mood)), (a_no, .inr (8, [.ref a_no_strong, no_at, .ref a_no_wounds, .int no_dead, .int no_wet, .int no_drawn])), (a_no_strong, .inl (cy 1, 6, .inl no_strong)), (a_no_wounds, .inl (cy 1, 5, .inl no_wounds)), (a_od, .inr (4, [.ref a_la, .ref a_no])), (a_pl, .inr (6, [.ref a_la, .ref a_no, .ref a_od, .ref a_pl_worths, .ref a_pl_most, .ref a_pl_lanes])), (a_pl_worths, .inl (cy 2, 6, .inr (.inl pl_worths'))), (a_pl_most, .inl (cy 2, 384, .inr (.inl pl_most'))), (a_pl_lanes, .inl (cy 1, 5, .inl pl_lanes'))] ++ X)) A) 0 0 A := by
  refine Met.ofW (cc := cX6_settle) (maxL := 4) (ret := none) (by decide) rfl ?_
  intro p e s m args below meth c s₁ B hml hv
  obtain ⟨rfl, hP, hKN, hD, hA⟩ := hv
  have hK := hKN.1
  have hx := B.exec
  have hb := B.bytes
  have hr := B.returns
  have hts := wt_X6_settle hKN.2.2 (([.ref a_pl] : List Value).toArray)
  have hown : s.vm.findClass RX6 = some m.cls := findClass_of_methodNamed B.named
  have hlocks := B.notSynchronized
  have hS : va_S A s.heap s.heap [] := va_S.rf
  have hX2 := wc_X2 hKN.2.2 (([.ref a_pl] : List Value).toArray)
  have hX6 := wc_X6 hKN.2.2 (([.ref a_pl] : List Value).toArray)
  have hl := lv_entry ([.ref a_pl]) (n := 4) (Nat.le_of_ble_eq_true rfl)
  rw [lg_entry_eq]
  generalize (lg_sl ([.ref a_pl]) ++ List.replicate (4 - (lg_sl ([.ref a_pl])).length) Slot.unset).toArray = ls at hl ⊢
  have hl : lv_has ls 4 [(0, .ref a_pl)] := hl
  unfold f_X6_settle at h
  refine lv_iconst (v := 1) hx hb dX6_settle_0 (by decide) ?_
  refine lv_aload_n hx hb dX6_settle_1 rfl (lv_at hl 0 rfl) ?_
  refine va_get (D := D) (ci := 6) (C := RX6) (T := TX6) (N := 6) (v := .ref a_la) hx hb hX6 (fun _ q => q) hown hK hP 8 rfl rfl 0 (by decide) (hts (.fieldLink RX6 22 "ElephantLine$Placing" "land" "LElephantLine$Land;") (by decide +kernel)) (fun _ h9 => h9) rfl dX6_settle_2 ?_
  refine va_getN (D := D) (ci := 2) (C := RX2) (T := TX2) (N := 14) (v := .int la_lanes) hx hb hX2 (fun _ q => q) hown hK hP 0 rfl rfl 0 (by decide) (va_Nw.use rfl (hKN.2.1.1 ("ElephantLine$Placing", 34, "ElephantLine$Land", "lanes", "I", "ElephantLine") (List.mem_of_getElem? (i := 0) rfl))) (fun _ h9 => h9) rfl dX6_settle_5 ?_
  refine lv_ishl hx hb dX6_settle_8 ?_
  refine lv_istore_n (lv' := [(1, .int ((1 : Int32) <<< (la_lanes &&& 31))), (0, .ref a_pl)]) hx hb dX6_settle_9 rfl hl (by decide) rfl (fun ls hl => ?_)
  refine lv_iconst (v := 0) hx hb dX6_settle_10 (by decide) ?_
  refine lv_istore_n (lv' := [(2, .int 0), (1, .int ((1 : Int32) <<< (la_lanes &&& 31))), (0, .ref a_pl)]) hx hb dX6_settle_11 rfl hl (by decide) rfl (fun ls hl => ?_)
  have jn41 : ∀ (pl_most_1 : Nat → Int64), f_X6_settle_B41 la_lanes la_deep la_beasts la_who la_kind la_mood no_dead no_wet no_strong no_wounds ((1 : Int32) <<< (la_lanes &&& 31)) pl_worths pl_most_1 pl_lanes = some (pl_worths', pl_most', pl_lanes') → ∀ (H : Heap) (locs : List Loc), va_P D vwCl ([(a_la, .inr (2, [.int la_lanes, .int la_deep, .int la_lanesTold, .ref a_la_who, la_firstStrong, .int la_beasts, .ref a_la_kind, la_firstLane, .ref a_la_mood, la_price, .int la_cities, .int la_passes, la_passBetween, .int la_turned])), (a_la_who, .inl (cy 1, 6, .inl la_who)), (a_la_kind, .inl (cy 1, 5, .inl la_kind)), (a_la_mood, .inl (cy 1, 5, .inl la_mood)), (a_no, .inr (8, [.ref a_no_strong, no_at, .ref a_no_wounds, .int no_dead, .int no_wet, .int no_drawn])), (a_no_strong, .inl (cy 1, 6, .inl no_strong)), (a_no_wounds, .inl (cy 1, 5, .inl no_wounds)), (a_od, .inr (4, [.ref a_la, .ref a_no])), (a_pl, .inr (6, [.ref a_la, .ref a_no, .ref a_od, .ref a_pl_worths, .ref a_pl_most, .ref a_pl_lanes])), (a_pl_worths, .inl (cy 2, 6, .inr (.inl pl_worths))), (a_pl_most, .inl (cy 2, 384, .inr (.inl pl_most_1))), (a_pl_lanes, .inl (cy 1, 5, .inl pl_lanes))] ++ X) H → va_D A ([(a_la, .inr (2, [.int la_lanes, .int la_deep, .int la_lanesTold, .ref a_la_who, la_firstStrong, .int la_beasts, .ref a_la_kind, la_firstLane, .ref a_la_mood, la_price, .int la_cities, .int la_passes, la_passBetween, .int la_turned])), (a_la_who, .inl (cy 1, 6, .inl la_who)), (a_la_kind, .inl (cy 1, 5, .inl la_kind)), (a_la_mood, .inl (cy 1, 5, .inl la_mood)), (a_no, .inr (8, [.ref a_no_strong, no_at, .ref a_no_wounds, .int no_dead, .int no_wet, .int no_drawn])), (a_no_strong, .inl (cy 1, 6, .inl no_strong)), (a_no_wounds, .inl (cy 1, 5, .inl no_wounds)), (a_od, .inr (4, [.ref a_la, .ref a_no])), (a_pl, .inr (6, [.ref a_la, .ref a_no, .ref a_od, .ref a_pl_worths, .ref a_pl_most, .ref a_pl_lanes])), (a_pl_worths, .inl (cy 2, 6, .inr (.inl pl_worths))), (a_pl_most, .inl (cy 2, 384, .inr (.inl pl_most_1))), (a_pl_lanes, .inl (cy 1, 5, .inl pl_lanes))] ++ X) → va_S A s.heap H locs → ∀ ls : Array Slot, lv_has ls 4 [(0, .ref a_pl), (1, .int ((1 : Int32) <<< (la_lanes &&& 31)))] → W p l e (headSpec wo_X6_settle ({ frames := 5, cells := 0, slots := 0, locals := 117 })).room s m (([.ref a_pl] : List Value).toArray) below meth c H locs 0 0 (MQ below (va_Qv (fun (_ : Unit) => True) (wB D A ([(a_la, .inr (2, [.int la_lanes, .int la_deep, .int la_lanesTold, .ref a_la_who, la_firstStrong, .int la_beasts, .ref a_la_kind, la_firstLane, .ref a_la_mood, la_price, .int la_cities, .int la_passes, la_passBetween, .int la_turned])), (a_la_who, .inl (cy 1, 6, .inl la_who)), (a_la_kind, .inl (cy 1, 5, .inl la_kind)), (a_la_mood, .inl (cy 1, 5, .inl la_mood)), (a_no, .inr (8, [.ref a_no_strong, no_at, .ref a_no_wounds, .int no_dead, .int no_wet, .int no_drawn])), (a_no_strong, .inl (cy 1, 6, .inl no_strong)), (a_no_wounds, .inl (cy 1, 5, .inl no_wounds)), (a_od, .inr (4, [.ref a_la, .ref a_no])), (a_pl, .inr (6, [.ref a_la, .ref a_no, .ref a_od, .ref a_pl_worths, .ref a_pl_most, .ref a_pl_lanes])), (a_pl_worths, .inl (cy 2, 6, .inr (.inl pl_worths'))), (a_pl_most, .inl (cy 2, 384, .inr (.inl pl_most'))), (a_pl_lanes, .inl (cy 1, 5, .inl pl_lanes'))] ++ X)) A) (([.ref a_pl] : List Value).toArray) s 0 0 A) (F0 m 41 ls []) := by
    intro pl_most_1 h H locs hP hD hS ls hl
    unfold f_X6_settle_B41 at h
    refine lv_aload_n hx hb dX6_settle_41 rfl (lv_at hl 0 rfl) ?_
    refine va_get (D := D) (ci := 6) (C := RX6) (T := TX6) (N := 6) (v := .ref a_la) hx hb hX6 (fun _ q => q) hown hK hP 8 rfl rfl 0 (by decide) (hts (.fieldLink RX6 22 "ElephantLine$Placing" "land" "LElephantLine$Land;") (by decide +kernel)) (fun _ h9 => h9) rfl dX6_settle_42 ?_
    refine va_getN (D := D) (ci := 2) (C := RX2) (T := TX2) (N := 14) (v := .int la_beasts) hx hb hX2 (fun _ q => q) hown hK hP 0 rfl rfl 5 (by decide) (va_Nw.use rfl (hKN.2.1.1 ("ElephantLine$Placing", 39, "ElephantLine$Land", "beasts", "I", "ElephantLine") (List.mem_of_getElem? (i := 16) rfl))) (fun _ h9 => h9) rfl dX6_settle_45 ?_
    refine lv_iconst (v := 1) hx hb dX6_settle_48 (by decide) ?_
    refine lv_isub hx hb dX6_settle_49 ?_
    refine lv_istore_n (lv' := [(2, .int (la_beasts - 1)), (0, .ref a_pl), (1, .int ((1 : Int32) <<< (la_lanes &&& 31)))]) hx hb dX6_settle_50 rfl hl (by decide) rfl (fun ls hl => ?_)
    have jn96 : ∀ (pl_worths_2 : Nat → Int64) (pl_most_3 : Nat → Int64), f_X6_settle_B96 la_lanes la_deep la_beasts la_who la_kind la_mood no_dead no_wet no_strong no_wounds pl_worths_2 pl_most_3 pl_lanes = some (pl_worths', pl_most', pl_lanes') → ∀ (H : Heap) (locs : List Loc), va_P D vwCl ([(a_la, .inr (2, [.int la_lanes, .int la_deep, .int la_lanesTold, .ref a_la_who, la_firstStrong, .int la_beasts, .ref a_la_kind, la_firstLane, .ref a_la_mood, la_price, .int la_cities, .int la_passes, la_passBetween, .int la_turned])), (a_la_who, .inl (cy 1, 6, .inl la_who)), (a_la_kind, .inl (cy 1, 5, .inl la_kind)), (a_la_mood, .inl (cy 1, 5, .inl la_mood)), (a_no, .inr (8, [.ref a_no_strong, no_at, .ref a_no_wounds, .int no_dead, .int no_wet, .int no_drawn])), (a_no_strong, .inl (cy 1, 6, .inl no_strong)), (a_no_wounds, .inl (cy 1, 5, .inl no_wounds)), (a_od, .inr (4, [.ref a_la, .ref a_no])), (a_pl, .inr (6, [.ref a_la, .ref a_no, .ref a_od, .ref a_pl_worths, .ref a_pl_most, .ref a_pl_lanes])), (a_pl_worths, .inl (cy 2, 6, .inr (.inl pl_worths_2))), (a_pl_most, .inl (cy 2, 384, .inr (.inl pl_most_3))), (a_pl_lanes, .inl (cy 1, 5, .inl pl_lanes))] ++ X) H → va_D A ([(a_la, .inr (2, [.int la_lanes, .int la_deep, .int la_lanesTold, .ref a_la_who, la_firstStrong, .int la_beasts, .ref a_la_kind, la_firstLane, .ref a_la_mood, la_price, .int la_cities, .int la_passes, la_passBetween, .int la_turned])), (a_la_who, .inl (cy 1, 6, .inl la_who)), (a_la_kind, .inl (cy 1, 5, .inl la_kind)), (a_la_mood, .inl (cy 1, 5, .inl la_mood)), (a_no, .inr (8, [.ref a_no_strong, no_at, .ref a_no_wounds, .int no_dead, .int no_wet, .int no_drawn])), (a_no_strong, .inl (cy 1, 6, .inl no_strong)), (a_no_wounds, .inl (cy 1, 5, .inl no_wounds)), (a_od, .inr (4, [.ref a_la, .ref a_no])), (a_pl, .inr (6, [.ref a_la, .ref a_no, .ref a_od, .ref a_pl_worths, .ref a_pl_most, .ref a_pl_lanes])), (a_pl_worths, .inl (cy 2, 6, .inr (.inl pl_worths_2))), (a_pl_most, .inl (cy 2, 384, .inr (.inl pl_most_3))), (a_pl_lanes, .inl (cy 1, 5, .inl pl_lanes))] ++ X) → va_S A s.heap H locs → ∀ ls : Array Slot, lv_has ls 4 [(0, .ref a_pl)] → W p l e (headSpec wo_X6_settle ({ frames := 5, cells := 0, slots := 0, locals := 117 })).room s m (([.ref a_pl] : List Value).toArray) below meth c H locs 0 0 (MQ below (va_Qv (fun (_ : Unit) => True) (wB D A ([(a_la, .inr (2, [.int la_lanes, .int la_deep, .int la_lanesTold, .ref a_la_who, la_firstStrong, .int la_beasts, .ref a_la_kind, la_firstLane, .ref a_la_mood, la_price, .int la_cities, .int la_passes, la_passBetween, .int la_turned])), (a_la_who, .inl (cy 1, 6, .inl la_who)), (a_la_kind, .inl (cy 1, 5, .inl la_kind)), (a_la_mood, .inl (cy 1, 5, .inl la_mood)), (a_no, .inr (8, [.ref a_no_strong, no_at, .ref a_no_wounds, .int no_dead, .int no_wet, .int no_drawn])), (a_no_strong, .inl (cy 1, 6, .inl no_strong)), (a_no_wounds, .inl (cy 1, 5, .inl no_wounds)), (a_od, .inr (4, [.ref a_la, .ref a_no])), (a_pl, .inr (6, [.ref a_la, .ref a_no, .ref a_od, .ref a_pl_worths, .ref a_pl_most, .ref a_pl_lanes])), (a_pl_worths, .inl (cy 2, 6, .inr (.inl pl_worths'))), (a_pl_most, .inl (cy 2, 384, .inr (.inl pl_most'))), (a_pl_lanes, .inl (cy 1, 5, .inl pl_lanes'))] ++ X)) A) (([.ref a_pl] : List Value).toArray) s 0 0 A) (F0 m 96 ls []) := by
      intro pl_worths_2 pl_most_3 h H locs hP hD hS ls hl
      unfold f_X6_settle_B96 at h
      refine lv_iconst (v := 0) hx hb dX6_settle_96 (by decide) ?_
      refine lv_istore_n (lv' := [(2, .int 0), (0, .ref a_pl)]) hx hb dX6_settle_97 rfl hl (by decide) rfl (fun ls hl => ?_)
      refine lv_iconst (v := 0) hx hb dX6_settle_98 (by decide) ?_
      refine lv_istore_n (lv' := [(3, .int 0), (2, .int 0), (0, .ref a_pl)]) hx hb dX6_settle_99 rfl hl (by decide) rfl (fun ls hl => ?_)
      have lp100 : ∀ (n100 : Nat) (x2_4 : Int32) (x3_5 : Int32) (pl_worths_6 : Nat → Int64) (pl_lanes_7 : Nat → Int32), f_X6_settle_L100 la_lanes la_deep la_beasts la_who la_kind la_mood no_dead no_wet no_strong no_wounds pl_most_3 n100 x2_4 x3_5 pl_worths_6 pl_lanes_7 = some (pl_worths', pl_most', pl_lanes') → ∀ (H : Heap) (locs : List Loc), va_P D vwCl ([(a_la, .inr (2, [.int la_lanes, .int la_deep, .int la_lanesTold, .ref a_la_who, la_firstStrong, .int la_beasts, .ref a_la_kind, la_firstLane, .ref a_la_mood, la_price, .int la_cities, .int la_passes, la_passBetween, .int la_turned])), (a_la_who, .inl (cy 1, 6, .inl la_who)), (a_la_kind, .inl (cy 1, 5, .inl la_kind)), (a_la_mood, .inl (cy 1, 5, .inl la_mood)), (a_no, .inr (8, [.ref a_no_strong, no_at, .ref a_no_wounds, .int no_dead, .int no_wet, .int no_drawn])), (a_no_strong, .inl (cy 1, 6, .inl no_strong)), (a_no_wounds, .inl (cy 1, 5, .inl no_wounds)), (a_od, .inr (4, [.ref a_la, .ref a_no])), (a_pl, .inr (6, [.ref a_la, .ref a_no, .ref a_od, .ref a_pl_worths, .ref a_pl_most, .ref a_pl_lanes])), (a_pl_worths, .inl (cy 2, 6, .inr (.inl pl_worths_6))), (a_pl_most, .inl (cy 2, 384, .inr (.inl pl_most_3))), (a_pl_lanes, .inl (cy 1, 5, .inl pl_lanes_7))] ++ X) H → va_D A ([(a_la, .inr (2, [.int la_lanes, .int la_deep, .int la_lanesTold, .ref a_la_who, la_firstStrong, .int la_beasts, .ref a_la_kind, la_firstLane, .ref a_la_mood, la_price, .int la_cities, .int la_passes, la_passBetween, .int la_turned])), (a_la_who, .inl (cy 1, 6, .inl la_who)), (a_la_kind, .inl (cy 1, 5, .inl la_kind)), (a_la_mood, .inl (cy 1, 5, .inl la_mood)), (a_no, .inr (8, [.ref a_no_strong, no_at, .ref a_no_wounds, .int no_dead, .int no_wet, .int no_drawn])), (a_no_strong, .inl (cy 1, 6, .inl no_strong)), (a_no_wounds, .inl (cy 1, 5, .inl no_wounds)), (a_od, .inr (4, [.ref a_la, .ref a_no])), (a_pl, .inr (6, [.ref a_la, .ref a_no, .ref a_od, .ref a_pl_worths, .ref a_pl_most, .ref a_pl_lanes])), (a_pl_worths, .inl (cy 2, 6, .inr (.inl pl_worths_6))), (a_pl_most, .inl (cy 2, 384, .inr (.inl pl_most_3))), (a_pl_lanes, .inl (cy 1, 5, .inl pl_lanes_7))] ++ X) → va_S A s.heap H locs → ∀ ls : Array Slot, lv_has ls 4 [(0, .ref a_pl), (2, .int x2_4), (3, .int x3_5)] → W p l e (headSpec wo_X6_settle ({ frames := 5, cells := 0, slots := 0, locals := 117 })).room s m (([.ref a_pl] : List Value).toArray) below meth c H locs 0 0 (MQ below (va_Qv (fun (_ : Unit) => True) (wB D A ([(a_la, .inr (2, [.int la_lanes, .int la_deep, .int la_lanesTold, .ref a_la_who, la_firstStrong, .int la_beasts, .ref a_la_kind, la_firstLane, .ref a_la_mood, la_price, .int la_cities, .int la_passes, la_passBetween, .int la_turned])), (a_la_who, .inl (cy 1, 6, .inl la_who)), (a_la_kind, .inl (cy 1, 5, .inl la_kind)), (a_la_mood, .inl (cy 1, 5, .inl la_mood)), (a_no, .inr (8, [.ref a_no_strong, no_at, .ref a_no_wounds, .int no_dead, .int no_wet, .int no_drawn])), (a_no_strong, .inl (cy 1, 6, .inl no_strong)), (a_no_wounds, .inl (cy 1, 5, .inl no_wounds)), (a_od, .inr (4, [.ref a_la, .ref a_no])), (a_pl, .inr (6, [.ref a_la, .ref a_no, .ref a_od, .ref a_pl_worths, .ref a_pl_most, .ref a_pl_lanes])), (a_pl_worths, .inl (cy 2, 6, .inr (.inl pl_worths'))), (a_pl_most, .inl (cy 2, 384, .inr (.inl pl_most'))), (a_pl_lanes, .inl (cy 1, 5, .inl pl_lanes'))] ++ X)) A) (([.ref a_pl] : List Value).toArray) s 0 0 A) (F0 m 100 ls []) := by
        intro n100
        induction n100 with
        | zero => intro x2_4 x3_5 pl_worths_6 pl_lanes_7 h; exact absurd (show (none : Option ((Nat → Int64) × (Nat → Int64) × (Nat → Int32))) = some _ from h) (by intro q; cases q)
        | succ n100 ih100 =>
          intro x2_4 x3_5 pl_worths_6 pl_lanes_7 h H locs hP hD hS ls hl
          have h : f_X6_settle_b100 la_lanes la_deep la_beasts la_who la_kind la_mood no_dead no_wet no_strong no_wounds pl_most_3 (f_X6_settle_L100 la_lanes la_deep la_beasts la_who la_kind la_mood no_dead no_wet no_strong no_wounds pl_most_3 n100) x2_4 x3_5 pl_worths_6 pl_lanes_7 = some (pl_worths', pl_most', pl_lanes') := h
          unfold f_X6_settle_b100 at h
          refine lv_iload_n hx hb dX6_settle_100 rfl (lv_at hl 2 rfl) ?_
          refine lv_aload_n hx hb dX6_settle_101 rfl (lv_at hl 0 rfl) ?_
          refine va_get (D := D) (ci := 6) (C := RX6) (T := TX6) (N := 6) (v := .ref a_la) hx hb hX6 (fun _ q => q) hown hK hP 8 rfl rfl 0 (by decide) (hts (.fieldLink RX6 22 "ElephantLine$Placing" "land" "LElephantLine$Land;") (by decide +kernel)) (fun _ h9 => h9) rfl dX6_settle_102 ?_
          refine va_getN (D := D) (ci := 2) (C := RX2) (T := TX2) (N := 14) (v := .int la_beasts) hx hb hX2 (fun _ q => q) hown hK hP 0 rfl rfl 5 (by decide) (va_Nw.use rfl (hKN.2.1.1 ("ElephantLine$Placing", 39, "ElephantLine$Land", "beasts", "I", "ElephantLine") (List.mem_of_getElem? (i := 16) rfl))) (fun _ h9 => h9) rfl dX6_settle_105 ?_
          refine lv_icmp_ge (tgt := 160) hx hb dX6_settle_108 (by decide) (fun cd => ?_) (fun cd => ?_)
          · have h := ifT cd h
            cases h
            exact W.vret hx hb hr (fun t ht _ => ⟨⟨(), rfl, trivial, by rw [ht]; exact hP, hD⟩, hS.F ht⟩) hS.2.2 dX6_settle_160
          · have h := ifF cd h
            refine lv_aload_n hx hb dX6_settle_111 rfl (lv_at hl 0 rfl) ?_
            refine lv_iload_n hx hb dX6_settle_112 rfl (lv_at hl 2 rfl) ?_
            obtain ⟨pl_worths_8, hc_9, h⟩ := bd1_some h
            refine wVv [.int x3_5] [] ⟨hx, hb, hml, hown, hts⟩ (c_X6_findWorths l D cy A ([(a_pl_most, .inl (cy 2, 384, .inr (.inl pl_most_3))), (a_pl_lanes, .inl (cy 1, 5, .inl pl_lanes_7))] ++ X) a_la a_la_who a_la_kind a_la_mood a_no a_no_strong a_no_wounds a_od a_pl a_pl_worths la_lanes la_deep la_lanesTold (la_firstStrong) la_beasts (la_firstLane) (la_price) la_cities la_passes (la_passBetween) la_turned la_who la_kind la_mood (no_at) no_dead no_wet no_drawn no_strong no_wounds (.ref a_no) (.ref a_pl_most) (.ref a_pl_lanes) pl_worths_6 x3_5 pl_worths_8 hc_9) gX6_settle_X6_findWorths rfl hd_X6_findWorths ⟨Nat.le_of_ble_eq_true rfl, Nat.le_of_ble_eq_true rfl⟩ rfl rfl hKN (pX3 hP [0, 1, 2, 3, 4, 5, 6, 7, 8, 9, 10, 11] rfl) (dX3 hD [0, 1, 2, 3, 4, 5, 6, 7, 8, 9, 10, 11] rfl rfl) hS hA 6 8 rfl rfl rfl hl.1 rfl (Nat.le_of_ble_eq_true rfl) dX6_settle_113 ⟨Nat.le_of_ble_eq_true rfl, Nat.le_of_ble_eq_true rfl⟩ (fun H locs hP hD hS => ?_)
            have hP := pX4 (L1 := [(a_la, .inr (2, [.int la_lanes, .int la_deep, .int la_lanesTold, .ref a_la_who, la_firstStrong, .int la_beasts, .ref a_la_kind, la_firstLane, .ref a_la_mood, la_price, .int la_cities, .int la_passes, la_passBetween, .int la_turned])), (a_la_who, .inl (cy 1, 6, .inl la_who)), (a_la_kind, .inl (cy 1, 5, .inl la_kind)), (a_la_mood, .inl (cy 1, 5, .inl la_mood)), (a_no, .inr (8, [.ref a_no_strong, no_at, .ref a_no_wounds, .int no_dead, .int no_wet, .int no_drawn])), (a_no_strong, .inl (cy 1, 6, .inl no_strong)), (a_no_wounds, .inl (cy 1, 5, .inl no_wounds)), (a_od, .inr (4, [.ref a_la, .ref a_no])), (a_pl, .inr (6, [.ref a_la, .ref a_no, .ref a_od, .ref a_pl_worths, .ref a_pl_most, .ref a_pl_lanes])), (a_pl_worths, .inl (cy 2, 6, .inr (.inl pl_worths_8))), (a_pl_most, .inl (cy 2, 384, .inr (.inl pl_most_3))), (a_pl_lanes, .inl (cy 1, 5, .inl pl_lanes_7))]) hP [0, 1, 2, 3, 4, 5, 6, 7, 8, 9, 10, 11] rfl
            have hD := dX4 (L1 := [(a_la, .inr (2, [.int la_lanes, .int la_deep, .int la_lanesTold, .ref a_la_who, la_firstStrong, .int la_beasts, .ref a_la_kind, la_firstLane, .ref a_la_mood, la_price, .int la_cities, .int la_passes, la_passBetween, .int la_turned])), (a_la_who, .inl (cy 1, 6, .inl la_who)), (a_la_kind, .inl (cy 1, 5, .inl la_kind)), (a_la_mood, .inl (cy 1, 5, .inl la_mood)), (a_no, .inr (8, [.ref a_no_strong, no_at, .ref a_no_wounds, .int no_dead, .int no_wet, .int no_drawn])), (a_no_strong, .inl (cy 1, 6, .inl no_strong)), (a_no_wounds, .inl (cy 1, 5, .inl no_wounds)), (a_od, .inr (4, [.ref a_la, .ref a_no])), (a_pl, .inr (6, [.ref a_la, .ref a_no, .ref a_od, .ref a_pl_worths, .ref a_pl_most, .ref a_pl_lanes])), (a_pl_worths, .inl (cy 2, 6, .inr (.inl pl_worths_8))), (a_pl_most, .inl (cy 2, 384, .inr (.inl pl_most_3))), (a_pl_lanes, .inl (cy 1, 5, .inl pl_lanes_7))]) hD [0, 1, 2, 3, 4, 5, 6, 7, 8, 9, 10, 11] rfl rfl
            refine lv_aload_n hx hb dX6_settle_116 rfl (lv_at hl 0 rfl) ?_
            refine va_get (D := D) (ci := 6) (C := RX6) (T := TX6) (N := 6) (v := .ref a_pl_lanes) hx hb hX6 (fun _ q => q) hown hK hP 8 rfl rfl 5 (by decide) (hts (.fieldLink RX6 18 "ElephantLine$Placing" "lanes" "[I") (by decide +kernel)) (fun _ h9 => h9) rfl dX6_settle_117 ?_
            refine lv_iload_n hx hb dX6_settle_120 rfl (lv_at hl 2 rfl) ?_
            refine lv_aload_n hx hb dX6_settle_121 rfl (lv_at hl 0 rfl) ?_
            refine lv_iload_n hx hb dX6_settle_122 rfl (lv_at hl 2 rfl) ?_
            refine lv_iload_n hx hb dX6_settle_123 rfl (lv_at hl 1 rfl) ?_
            obtain ⟨r_10, hc_11, h⟩ := bd1_some h
            refine kVi [.int x3_5, .int x2_4] [.int x3_5, .ref a_pl_lanes] ⟨hx, hb, hml, hown, hts⟩ (c_X6_firstLaneFor l D cy a_la a_no a_pl a_pl_worths a_pl_most la_lanes la_deep la_lanesTold (.ref a_la_who) (la_firstStrong) la_beasts (.ref a_la_kind) (la_firstLane) (.ref a_la_mood) (la_price) la_cities la_passes (la_passBetween) la_turned (.ref a_no_strong) (no_at) (.ref a_no_wounds) no_dead no_wet no_drawn (.ref a_od) (.ref a_pl_lanes) pl_worths_8 pl_most_3 x3_5 x2_4 r_10 hc_11) gX6_settle_X6_firstLaneFor rfl hd_X6_firstLaneFor ⟨Nat.le_of_ble_eq_true rfl, Nat.le_of_ble_eq_true rfl⟩ rfl rfl hKN (pXc hP [0, 4, 8, 9, 10] rfl) 6 2 rfl rfl rfl hl.1 rfl (Nat.le_of_ble_eq_true rfl) dX6_settle_124 ⟨Nat.le_of_ble_eq_true rfl, Nat.le_of_ble_eq_true rfl⟩ ?_
            obtain ⟨i_12, h⟩ := gIn_some h
            refine va_iast hx hb hK hP hD hS 11 1 rfl rfl i_12 dX6_settle_127 (fun H locs hP hD hS => ?_)
            refine lv_iload_n hx hb dX6_settle_128 rfl (lv_at hl 1 rfl) ?_
            refine lv_aload_n hx hb dX6_settle_129 rfl (lv_at hl 0 rfl) ?_
            refine va_get (D := D) (ci := 6) (C := RX6) (T := TX6) (N := 6) (v := .ref a_pl_lanes) hx hb hX6 (fun _ q => q) hown hK hP 8 rfl rfl 5 (by decide) (hts (.fieldLink RX6 18 "ElephantLine$Placing" "lanes" "[I") (by decide +kernel)) (fun _ h9 => h9) rfl dX6_settle_130 ?_
            refine lv_iload_n hx hb dX6_settle_133 rfl (lv_at hl 2 rfl) ?_
            obtain ⟨i_13, h⟩ := gIn_some h
            refine va_iald hx hb hK hP 11 1 rfl rfl i_13 dX6_settle_134 ?_
            refine lv_bipush (v := (-2)) hx hb dX6_settle_135 (by decide) ?_
            have jn152 : ∀ (t1_14 : Int32), f_X6_settle_B152 (f_X6_settle_L100 la_lanes la_deep la_beasts la_who la_kind la_mood no_dead no_wet no_strong no_wounds pl_most_3 n100) la_lanes la_deep la_beasts la_who la_kind la_mood no_dead no_wet no_strong no_wounds x3_5 x2_4 t1_14 pl_worths_8 pl_most_3 (upd pl_lanes_7 x3_5.toNatClampNeg r_10) = some (pl_worths', pl_most', pl_lanes') → ∀ (H : Heap) (locs : List Loc), va_P D vwCl ([(a_la, .inr (2, [.int la_lanes, .int la_deep, .int la_lanesTold, .ref a_la_who, la_firstStrong, .int la_beasts, .ref a_la_kind, la_firstLane, .ref a_la_mood, la_price, .int la_cities, .int la_passes, la_passBetween, .int la_turned])), (a_la_who, .inl (cy 1, 6, .inl la_who)), (a_la_kind, .inl (cy 1, 5, .inl la_kind)), (a_la_mood, .inl (cy 1, 5, .inl la_mood)), (a_no, .inr (8, [.ref a_no_strong, no_at, .ref a_no_wounds, .int no_dead, .int no_wet, .int no_drawn])), (a_no_strong, .inl (cy 1, 6, .inl no_strong)), (a_no_wounds, .inl (cy 1, 5, .inl no_wounds)), (a_od, .inr (4, [.ref a_la, .ref a_no])), (a_pl, .inr (6, [.ref a_la, .ref a_no, .ref a_od, .ref a_pl_worths, .ref a_pl_most, .ref a_pl_lanes])), (a_pl_worths, .inl (cy 2, 6, .inr (.inl pl_worths_8))), (a_pl_most, .inl (cy 2, 384, .inr (.inl pl_most_3))), (a_pl_lanes, .inl (cy 1, 5, .inl (upd pl_lanes_7 x3_5.toNatClampNeg r_10)))] ++ X) H → va_D A ([(a_la, .inr (2, [.int la_lanes, .int la_deep, .int la_lanesTold, .ref a_la_who, la_firstStrong, .int la_beasts, .ref a_la_kind, la_firstLane, .ref a_la_mood, la_price, .int la_cities, .int la_passes, la_passBetween, .int la_turned])), (a_la_who, .inl (cy 1, 6, .inl la_who)), (a_la_kind, .inl (cy 1, 5, .inl la_kind)), (a_la_mood, .inl (cy 1, 5, .inl la_mood)), (a_no, .inr (8, [.ref a_no_strong, no_at, .ref a_no_wounds, .int no_dead, .int no_wet, .int no_drawn])), (a_no_strong, .inl (cy 1, 6, .inl no_strong)), (a_no_wounds, .inl (cy 1, 5, .inl no_wounds)), (a_od, .inr (4, [.ref a_la, .ref a_no])), (a_pl, .inr (6, [.ref a_la, .ref a_no, .ref a_od, .ref a_pl_worths, .ref a_pl_most, .ref a_pl_lanes])), (a_pl_worths, .inl (cy 2, 6, .inr (.inl pl_worths_8))), (a_pl_most, .inl (cy 2, 384, .inr (.inl pl_most_3))), (a_pl_lanes, .inl (cy 1, 5, .inl (upd pl_lanes_7 x3_5.toNatClampNeg r_10)))] ++ X) → va_S A s.heap H locs → ∀ ls : Array Slot, lv_has ls 4 [(0, .ref a_pl), (3, .int x3_5)] → W p l e (headSpec wo_X6_settle ({ frames := 5, cells := 0, slots := 0, locals := 117 })).room s m (([.ref a_pl] : List Value).toArray) below meth c H locs 0 0 (MQ below (va_Qv (fun (_ : Unit) => True) (wB D A ([(a_la, .inr (2, [.int la_lanes, .int la_deep, .int la_lanesTold, .ref a_la_who, la_firstStrong, .int la_beasts, .ref a_la_kind, la_firstLane, .ref a_la_mood, la_price, .int la_cities, .int la_passes, la_passBetween, .int la_turned])), (a_la_who, .inl (cy 1, 6, .inl la_who)), (a_la_kind, .inl (cy 1, 5, .inl la_kind)), (a_la_mood, .inl (cy 1, 5, .inl la_mood)), (a_no, .inr (8, [.ref a_no_strong, no_at, .ref a_no_wounds, .int no_dead, .int no_wet, .int no_drawn])), (a_no_strong, .inl (cy 1, 6, .inl no_strong)), (a_no_wounds, .inl (cy 1, 5, .inl no_wounds)), (a_od, .inr (4, [.ref a_la, .ref a_no])), (a_pl, .inr (6, [.ref a_la, .ref a_no, .ref a_od, .ref a_pl_worths, .ref a_pl_most, .ref a_pl_lanes])), (a_pl_worths, .inl (cy 2, 6, .inr (.inl pl_worths'))), (a_pl_most, .inl (cy 2, 384, .inr (.inl pl_most'))), (a_pl_lanes, .inl (cy 1, 5, .inl pl_lanes'))] ++ X)) A) (([.ref a_pl] : List Value).toArray) s 0 0 A) (F0 m 152 ls [.int t1_14, .int x2_4]) := by
              intro t1_14 h H locs hP hD hS ls hl
              unfold f_X6_settle_B152 at h
              refine lv_ior hx hb dX6_settle_152 ?_
              refine lv_istore_n (lv' := [(2, .int (x2_4 ||| t1_14)), (0, .ref a_pl), (3, .int x3_5)]) hx hb dX6_settle_153 rfl hl (by decide) rfl (fun ls hl => ?_)
              refine lv_iinc (v := x3_5 + 1) (lv' := [(3, .int (x3_5 + 1)), (2, .int (x2_4 ||| t1_14)), (0, .ref a_pl)]) hx hb dX6_settle_154 hl (k := 2) rfl (by first | rfl | decide) (by decide) rfl (fun ls hl => ?_)
              refine lv_goto (tgt := 100) hx hb dX6_settle_157 (by decide) ?_
              exact ih100 (x2_4 ||| t1_14) (x3_5 + 1) pl_worths_8 (upd pl_lanes_7 x3_5.toNatClampNeg r_10) h _ _ hP hD hS _ (lv_sub hl [2, 1, 0] rfl)
            refine lv_icmp_ne (tgt := 144) hx hb dX6_settle_137 (by decide) (fun cd => ?_) (fun cd => ?_)
            · have h := ifF cd h
              refine lv_iconst (v := 1) hx hb dX6_settle_144 (by decide) ?_
              refine lv_aload_n hx hb dX6_settle_145 rfl (lv_at hl 0 rfl) ?_
              refine va_get (D := D) (ci := 6) (C := RX6) (T := TX6) (N := 6) (v := .ref a_pl_lanes) hx hb hX6 (fun _ q => q) hown hK hP 8 rfl rfl 5 (by decide) (hts (.fieldLink RX6 18 "ElephantLine$Placing" "lanes" "[I") (by decide +kernel)) (fun _ h9 => h9) rfl dX6_settle_146 ?_
              refine lv_iload_n hx hb dX6_settle_149 rfl (lv_at hl 2 rfl) ?_
              obtain ⟨i_15, h⟩ := gIn_some h
              refine va_iald hx hb hK hP 11 1 rfl rfl i_15 dX6_settle_150 ?_
              refine lv_ishl hx hb dX6_settle_151 ?_
              exact jn152 ((1 : Int32) <<< (((upd pl_lanes_7 x3_5.toNatClampNeg r_10) x3_5.toNatClampNeg) &&& 31)) h _ _ hP hD hS _ (lv_sub hl [0, 2] rfl)
            · have h := ifT cd h
              refine lv_iconst (v := 0) hx hb dX6_settle_140 (by decide) ?_
              refine lv_goto (tgt := 152) hx hb dX6_settle_141 (by decide) ?_
              exact jn152 (0 : Int32) h _ _ hP hD hS _ (lv_sub hl [0, 2] rfl)
      exact lp100 fuelN (0 : Int32) (0 : Int32) pl_worths_2 pl_lanes h _ _ hP hD hS _ (lv_sub hl [2, 1, 0] rfl)
    have lp51 : ∀ (n51 : Nat) (x2_16 : Int32) (pl_worths_17 : Nat → Int64) (pl_most_18 : Nat → Int64), f_X6_settle_L51 la_lanes la_deep la_beasts la_who la_kind la_mood no_dead no_wet no_strong no_wounds ((1 : Int32) <<< (la_lanes &&& 31)) pl_lanes n51 x2_16 pl_worths_17 pl_most_18 = some (pl_worths', pl_most', pl_lanes') → ∀ (H : Heap) (locs : List Loc), va_P D vwCl ([(a_la, .inr (2, [.int la_lanes, .int la_deep, .int la_lanesTold, .ref a_la_who, la_firstStrong, .int la_beasts, .ref a_la_kind, la_firstLane, .ref a_la_mood, la_price, .int la_cities, .int la_passes, la_passBetween, .int la_turned])), (a_la_who, .inl (cy 1, 6, .inl la_who)), (a_la_kind, .inl (cy 1, 5, .inl la_kind)), (a_la_mood, .inl (cy 1, 5, .inl la_mood)), (a_no, .inr (8, [.ref a_no_strong, no_at, .ref a_no_wounds, .int no_dead, .int no_wet, .int no_drawn])), (a_no_strong, .inl (cy 1, 6, .inl no_strong)), (a_no_wounds, .inl (cy 1, 5, .inl no_wounds)), (a_od, .inr (4, [.ref a_la, .ref a_no])), (a_pl, .inr (6, [.ref a_la, .ref a_no, .ref a_od, .ref a_pl_worths, .ref a_pl_most, .ref a_pl_lanes])), (a_pl_worths, .inl (cy 2, 6, .inr (.inl pl_worths_17))), (a_pl_most, .inl (cy 2, 384, .inr (.inl pl_most_18))), (a_pl_lanes, .inl (cy 1, 5, .inl pl_lanes))] ++ X) H → va_D A ([(a_la, .inr (2, [.int la_lanes, .int la_deep, .int la_lanesTold, .ref a_la_who, la_firstStrong, .int la_beasts, .ref a_la_kind, la_firstLane, .ref a_la_mood, la_price, .int la_cities, .int la_passes, la_passBetween, .int la_turned])), (a_la_who, .inl (cy 1, 6, .inl la_who)), (a_la_kind, .inl (cy 1, 5, .inl la_kind)), (a_la_mood, .inl (cy 1, 5, .inl la_mood)), (a_no, .inr (8, [.ref a_no_strong, no_at, .ref a_no_wounds, .int no_dead, .int no_wet, .int no_drawn])), (a_no_strong, .inl (cy 1, 6, .inl no_strong)), (a_no_wounds, .inl (cy 1, 5, .inl no_wounds)), (a_od, .inr (4, [.ref a_la, .ref a_no])), (a_pl, .inr (6, [.ref a_la, .ref a_no, .ref a_od, .ref a_pl_worths, .ref a_pl_most, .ref a_pl_lanes])), (a_pl_worths, .inl (cy 2, 6, .inr (.inl pl_worths_17))), (a_pl_most, .inl (cy 2, 384, .inr (.inl pl_most_18))), (a_pl_lanes, .inl (cy 1, 5, .inl pl_lanes))] ++ X) → va_S A s.heap H locs → ∀ ls : Array Slot, lv_has ls 4 [(0, .ref a_pl), (1, .int ((1 : Int32) <<< (la_lanes &&& 31))), (2, .int x2_16)] → W p l e (headSpec wo_X6_settle ({ frames := 5, cells := 0, slots := 0, locals := 117 })).room s m (([.ref a_pl] : List Value).toArray) below meth c H locs 0 0 (MQ below (va_Qv (fun (_ : Unit) => True) (wB D A ([(a_la, .inr (2, [.int la_lanes, .int la_deep, .int la_lanesTold, .ref a_la_who, la_firstStrong, .int la_beasts, .ref a_la_kind, la_firstLane, .ref a_la_mood, la_price, .int la_cities, .int la_passes, la_passBetween, .int la_turned])), (a_la_who, .inl (cy 1, 6, .inl la_who)), (a_la_kind, .inl (cy 1, 5, .inl la_kind)), (a_la_mood, .inl (cy 1, 5, .inl la_mood)), (a_no, .inr (8, [.ref a_no_strong, no_at, .ref a_no_wounds, .int no_dead, .int no_wet, .int no_drawn])), (a_no_strong, .inl (cy 1, 6, .inl no_strong)), (a_no_wounds, .inl (cy 1, 5, .inl no_wounds)), (a_od, .inr (4, [.ref a_la, .ref a_no])), (a_pl, .inr (6, [.ref a_la, .ref a_no, .ref a_od, .ref a_pl_worths, .ref a_pl_most, .ref a_pl_lanes])), (a_pl_worths, .inl (cy 2, 6, .inr (.inl pl_worths'))), (a_pl_most, .inl (cy 2, 384, .inr (.inl pl_most'))), (a_pl_lanes, .inl (cy 1, 5, .inl pl_lanes'))] ++ X)) A) (([.ref a_pl] : List Value).toArray) s 0 0 A) (F0 m 51 ls []) := by
      intro n51
      induction n51 with
      | zero => intro x2_16 pl_worths_17 pl_most_18 h; exact absurd (show (none : Option ((Nat → Int64) × (Nat → Int64) × (Nat → Int32))) = some _ from h) (by intro q; cases q)
      | succ n51 ih51 =>
        intro x2_16 pl_worths_17 pl_most_18 h H locs hP hD hS ls hl
        have h : f_X6_settle_b51 la_lanes la_deep la_beasts la_who la_kind la_mood no_dead no_wet no_strong no_wounds ((1 : Int32) <<< (la_lanes &&& 31)) pl_lanes (f_X6_settle_L51 la_lanes la_deep la_beasts la_who la_kind la_mood no_dead no_wet no_strong no_wounds ((1 : Int32) <<< (la_lanes &&& 31)) pl_lanes n51) x2_16 pl_worths_17 pl_most_18 = some (pl_worths', pl_most', pl_lanes') := h
        unfold f_X6_settle_b51 at h
        refine lv_iload_n hx hb dX6_settle_51 rfl (lv_at hl 2 rfl) ?_
        refine lv_if_lt (tgt := 96) hx hb dX6_settle_52 (by decide) (fun cd => ?_) (fun cd => ?_)
        · have h := ifT cd h
          exact jn96 pl_worths_17 pl_most_18 h _ _ hP hD hS _ (lv_sub hl [0] rfl)
        · have h := ifF cd h
          refine lv_aload_n hx hb dX6_settle_55 rfl (lv_at hl 0 rfl) ?_
          refine lv_iload_n hx hb dX6_settle_56 rfl (lv_at hl 2 rfl) ?_
          obtain ⟨pl_worths_19, hc_20, h⟩ := bd1_some h
          refine wVv [.int x2_16] [] ⟨hx, hb, hml, hown, hts⟩ (c_X6_findWorths l D cy A ([(a_pl_most, .inl (cy 2, 384, .inr (.inl pl_most_18))), (a_pl_lanes, .inl (cy 1, 5, .inl pl_lanes))] ++ X) a_la a_la_who a_la_kind a_la_mood a_no a_no_strong a_no_wounds a_od a_pl a_pl_worths la_lanes la_deep la_lanesTold (la_firstStrong) la_beasts (la_firstLane) (la_price) la_cities la_passes (la_passBetween) la_turned la_who la_kind la_mood (no_at) no_dead no_wet no_drawn no_strong no_wounds (.ref a_no) (.ref a_pl_most) (.ref a_pl_lanes) pl_worths_17 x2_16 pl_worths_19 hc_20) gX6_settle_X6_findWorths rfl hd_X6_findWorths ⟨Nat.le_of_ble_eq_true rfl, Nat.le_of_ble_eq_true rfl⟩ rfl rfl hKN (pX3 hP [0, 1, 2, 3, 4, 5, 6, 7, 8, 9, 10, 11] rfl) (dX3 hD [0, 1, 2, 3, 4, 5, 6, 7, 8, 9, 10, 11] rfl rfl) hS hA 6 8 rfl rfl rfl hl.1 rfl (Nat.le_of_ble_eq_true rfl) dX6_settle_57 ⟨Nat.le_of_ble_eq_true rfl, Nat.le_of_ble_eq_true rfl⟩ (fun H locs hP hD hS => ?_)
          have hP := pX4 (L1 := [(a_la, .inr (2, [.int la_lanes, .int la_deep, .int la_lanesTold, .ref a_la_who, la_firstStrong, .int la_beasts, .ref a_la_kind, la_firstLane, .ref a_la_mood, la_price, .int la_cities, .int la_passes, la_passBetween, .int la_turned])), (a_la_who, .inl (cy 1, 6, .inl la_who)), (a_la_kind, .inl (cy 1, 5, .inl la_kind)), (a_la_mood, .inl (cy 1, 5, .inl la_mood)), (a_no, .inr (8, [.ref a_no_strong, no_at, .ref a_no_wounds, .int no_dead, .int no_wet, .int no_drawn])), (a_no_strong, .inl (cy 1, 6, .inl no_strong)), (a_no_wounds, .inl (cy 1, 5, .inl no_wounds)), (a_od, .inr (4, [.ref a_la, .ref a_no])), (a_pl, .inr (6, [.ref a_la, .ref a_no, .ref a_od, .ref a_pl_worths, .ref a_pl_most, .ref a_pl_lanes])), (a_pl_worths, .inl (cy 2, 6, .inr (.inl pl_worths_19))), (a_pl_most, .inl (cy 2, 384, .inr (.inl pl_most_18))), (a_pl_lanes, .inl (cy 1, 5, .inl pl_lanes))]) hP [0, 1, 2, 3, 4, 5, 6, 7, 8, 9, 10, 11] rfl
          have hD := dX4 (L1 := [(a_la, .inr (2, [.int la_lanes, .int la_deep, .int la_lanesTold, .ref a_la_who, la_firstStrong, .int la_beasts, .ref a_la_kind, la_firstLane, .ref a_la_mood, la_price, .int la_cities, .int la_passes, la_passBetween, .int la_turned])), (a_la_who, .inl (cy 1, 6, .inl la_who)), (a_la_kind, .inl (cy 1, 5, .inl la_kind)), (a_la_mood, .inl (cy 1, 5, .inl la_mood)), (a_no, .inr (8, [.ref a_no_strong, no_at, .ref a_no_wounds, .int no_dead, .int no_wet, .int no_drawn])), (a_no_strong, .inl (cy 1, 6, .inl no_strong)), (a_no_wounds, .inl (cy 1, 5, .inl no_wounds)), (a_od, .inr (4, [.ref a_la, .ref a_no])), (a_pl, .inr (6, [.ref a_la, .ref a_no, .ref a_od, .ref a_pl_worths, .ref a_pl_most, .ref a_pl_lanes])), (a_pl_worths, .inl (cy 2, 6, .inr (.inl pl_worths_19))), (a_pl_most, .inl (cy 2, 384, .inr (.inl pl_most_18))), (a_pl_lanes, .inl (cy 1, 5, .inl pl_lanes))]) hD [0, 1, 2, 3, 4, 5, 6, 7, 8, 9, 10, 11] rfl rfl
          refine lv_iconst (v := 0) hx hb dX6_settle_60 (by decide) ?_
          refine lv_istore_n (lv' := [(3, .int 0), (0, .ref a_pl), (1, .int ((1 : Int32) <<< (la_lanes &&& 31))), (2, .int x2_16)]) hx hb dX6_settle_61 rfl hl (by decide) rfl (fun ls hl => ?_)
          have jn90 : ∀ (pl_most_21 : Nat → Int64), f_X6_settle_B90 (f_X6_settle_L51 la_lanes la_deep la_beasts la_who la_kind la_mood no_dead no_wet no_strong no_wounds ((1 : Int32) <<< (la_lanes &&& 31)) pl_lanes n51) la_lanes la_deep la_beasts la_who la_kind la_mood no_dead no_wet no_strong no_wounds ((1 : Int32) <<< (la_lanes &&& 31)) x2_16 pl_worths_19 pl_most_21 pl_lanes = some (pl_worths', pl_most', pl_lanes') → ∀ (H : Heap) (locs : List Loc), va_P D vwCl ([(a_la, .inr (2, [.int la_lanes, .int la_deep, .int la_lanesTold, .ref a_la_who, la_firstStrong, .int la_beasts, .ref a_la_kind, la_firstLane, .ref a_la_mood, la_price, .int la_cities, .int la_passes, la_passBetween, .int la_turned])), (a_la_who, .inl (cy 1, 6, .inl la_who)), (a_la_kind, .inl (cy 1, 5, .inl la_kind)), (a_la_mood, .inl (cy 1, 5, .inl la_mood)), (a_no, .inr (8, [.ref a_no_strong, no_at, .ref a_no_wounds, .int no_dead, .int no_wet, .int no_drawn])), (a_no_strong, .inl (cy 1, 6, .inl no_strong)), (a_no_wounds, .inl (cy 1, 5, .inl no_wounds)), (a_od, .inr (4, [.ref a_la, .ref a_no])), (a_pl, .inr (6, [.ref a_la, .ref a_no, .ref a_od, .ref a_pl_worths, .ref a_pl_most, .ref a_pl_lanes])), (a_pl_worths, .inl (cy 2, 6, .inr (.inl pl_worths_19))), (a_pl_most, .inl (cy 2, 384, .inr (.inl pl_most_21))), (a_pl_lanes, .inl (cy 1, 5, .inl pl_lanes))] ++ X) H → va_D A ([(a_la, .inr (2, [.int la_lanes, .int la_deep, .int la_lanesTold, .ref a_la_who, la_firstStrong, .int la_beasts, .ref a_la_kind, la_firstLane, .ref a_la_mood, la_price, .int la_cities, .int la_passes, la_passBetween, .int la_turned])), (a_la_who, .inl (cy 1, 6, .inl la_who)), (a_la_kind, .inl (cy 1, 5, .inl la_kind)), (a_la_mood, .inl (cy 1, 5, .inl la_mood)), (a_no, .inr (8, [.ref a_no_strong, no_at, .ref a_no_wounds, .int no_dead, .int no_wet, .int no_drawn])), (a_no_strong, .inl (cy 1, 6, .inl no_strong)), (a_no_wounds, .inl (cy 1, 5, .inl no_wounds)), (a_od, .inr (4, [.ref a_la, .ref a_no])), (a_pl, .inr (6, [.ref a_la, .ref a_no, .ref a_od, .ref a_pl_worths, .ref a_pl_most, .ref a_pl_lanes])), (a_pl_worths, .inl (cy 2, 6, .inr (.inl pl_worths_19))), (a_pl_most, .inl (cy 2, 384, .inr (.inl pl_most_21))), (a_pl_lanes, .inl (cy 1, 5, .inl pl_lanes))] ++ X) → va_S A s.heap H locs → ∀ ls : Array Slot, lv_has ls 4 [(0, .ref a_pl), (1, .int ((1 : Int32) <<< (la_lanes &&& 31))), (2, .int x2_16)] → W p l e (headSpec wo_X6_settle ({ frames := 5, cells := 0, slots := 0, locals := 117 })).room s m (([.ref a_pl] : List Value).toArray) below meth c H locs 0 0 (MQ below (va_Qv (fun (_ : Unit) => True) (wB D A ([(a_la, .inr (2, [.int la_lanes, .int la_deep, .int la_lanesTold, .ref a_la_who, la_firstStrong, .int la_beasts, .ref a_la_kind, la_firstLane, .ref a_la_mood, la_price, .int la_cities, .int la_passes, la_passBetween, .int la_turned])), (a_la_who, .inl (cy 1, 6, .inl la_who)), (a_la_kind, .inl (cy 1, 5, .inl la_kind)), (a_la_mood, .inl (cy 1, 5, .inl la_mood)), (a_no, .inr (8, [.ref a_no_strong, no_at, .ref a_no_wounds, .int no_dead, .int no_wet, .int no_drawn])), (a_no_strong, .inl (cy 1, 6, .inl no_strong)), (a_no_wounds, .inl (cy 1, 5, .inl no_wounds)), (a_od, .inr (4, [.ref a_la, .ref a_no])), (a_pl, .inr (6, [.ref a_la, .ref a_no, .ref a_od, .ref a_pl_worths, .ref a_pl_most, .ref a_pl_lanes])), (a_pl_worths, .inl (cy 2, 6, .inr (.inl pl_worths'))), (a_pl_most, .inl (cy 2, 384, .inr (.inl pl_most'))), (a_pl_lanes, .inl (cy 1, 5, .inl pl_lanes'))] ++ X)) A) (([.ref a_pl] : List Value).toArray) s 0 0 A) (F0 m 90 ls []) := by
            intro pl_most_21 h H locs hP hD hS ls hl
            unfold f_X6_settle_B90 at h
            refine lv_iinc (v := x2_16 + (-1)) (lv' := [(2, .int (x2_16 + (-1))), (0, .ref a_pl), (1, .int ((1 : Int32) <<< (la_lanes &&& 31)))]) hx hb dX6_settle_90 hl (k := 2) rfl (by first | rfl | decide) (by decide) rfl (fun ls hl => ?_)
            refine lv_goto (tgt := 51) hx hb dX6_settle_93 (by decide) ?_
            exact ih51 (x2_16 + (-1)) pl_worths_19 pl_most_21 h _ _ hP hD hS _ (lv_sub hl [1, 2, 0] rfl)
          have lp62 : ∀ (n62 : Nat) (x3_22 : Int32) (pl_most_23 : Nat → Int64), f_X6_settle_L62 (f_X6_settle_L51 la_lanes la_deep la_beasts la_who la_kind la_mood no_dead no_wet no_strong no_wounds ((1 : Int32) <<< (la_lanes &&& 31)) pl_lanes n51) la_lanes la_deep la_beasts la_who la_kind la_mood no_dead no_wet no_strong no_wounds ((1 : Int32) <<< (la_lanes &&& 31)) x2_16 pl_worths_19 pl_lanes n62 x3_22 pl_most_23 = some (pl_worths', pl_most', pl_lanes') → ∀ (H : Heap) (locs : List Loc), va_P D vwCl ([(a_la, .inr (2, [.int la_lanes, .int la_deep, .int la_lanesTold, .ref a_la_who, la_firstStrong, .int la_beasts, .ref a_la_kind, la_firstLane, .ref a_la_mood, la_price, .int la_cities, .int la_passes, la_passBetween, .int la_turned])), (a_la_who, .inl (cy 1, 6, .inl la_who)), (a_la_kind, .inl (cy 1, 5, .inl la_kind)), (a_la_mood, .inl (cy 1, 5, .inl la_mood)), (a_no, .inr (8, [.ref a_no_strong, no_at, .ref a_no_wounds, .int no_dead, .int no_wet, .int no_drawn])), (a_no_strong, .inl (cy 1, 6, .inl no_strong)), (a_no_wounds, .inl (cy 1, 5, .inl no_wounds)), (a_od, .inr (4, [.ref a_la, .ref a_no])), (a_pl, .inr (6, [.ref a_la, .ref a_no, .ref a_od, .ref a_pl_worths, .ref a_pl_most, .ref a_pl_lanes])), (a_pl_worths, .inl (cy 2, 6, .inr (.inl pl_worths_19))), (a_pl_most, .inl (cy 2, 384, .inr (.inl pl_most_23))), (a_pl_lanes, .inl (cy 1, 5, .inl pl_lanes))] ++ X) H → va_D A ([(a_la, .inr (2, [.int la_lanes, .int la_deep, .int la_lanesTold, .ref a_la_who, la_firstStrong, .int la_beasts, .ref a_la_kind, la_firstLane, .ref a_la_mood, la_price, .int la_cities, .int la_passes, la_passBetween, .int la_turned])), (a_la_who, .inl (cy 1, 6, .inl la_who)), (a_la_kind, .inl (cy 1, 5, .inl la_kind)), (a_la_mood, .inl (cy 1, 5, .inl la_mood)), (a_no, .inr (8, [.ref a_no_strong, no_at, .ref a_no_wounds, .int no_dead, .int no_wet, .int no_drawn])), (a_no_strong, .inl (cy 1, 6, .inl no_strong)), (a_no_wounds, .inl (cy 1, 5, .inl no_wounds)), (a_od, .inr (4, [.ref a_la, .ref a_no])), (a_pl, .inr (6, [.ref a_la, .ref a_no, .ref a_od, .ref a_pl_worths, .ref a_pl_most, .ref a_pl_lanes])), (a_pl_worths, .inl (cy 2, 6, .inr (.inl pl_worths_19))), (a_pl_most, .inl (cy 2, 384, .inr (.inl pl_most_23))), (a_pl_lanes, .inl (cy 1, 5, .inl pl_lanes))] ++ X) → va_S A s.heap H locs → ∀ ls : Array Slot, lv_has ls 4 [(0, .ref a_pl), (1, .int ((1 : Int32) <<< (la_lanes &&& 31))), (2, .int x2_16), (3, .int x3_22)] → W p l e (headSpec wo_X6_settle ({ frames := 5, cells := 0, slots := 0, locals := 117 })).room s m (([.ref a_pl] : List Value).toArray) below meth c H locs 0 0 (MQ below (va_Qv (fun (_ : Unit) => True) (wB D A ([(a_la, .inr (2, [.int la_lanes, .int la_deep, .int la_lanesTold, .ref a_la_who, la_firstStrong, .int la_beasts, .ref a_la_kind, la_firstLane, .ref a_la_mood, la_price, .int la_cities, .int la_passes, la_passBetween, .int la_turned])), (a_la_who, .inl (cy 1, 6, .inl la_who)), (a_la_kind, .inl (cy 1, 5, .inl la_kind)), (a_la_mood, .inl (cy 1, 5, .inl la_mood)), (a_no, .inr (8, [.ref a_no_strong, no_at, .ref a_no_wounds, .int no_dead, .int no_wet, .int no_drawn])), (a_no_strong, .inl (cy 1, 6, .inl no_strong)), (a_no_wounds, .inl (cy 1, 5, .inl no_wounds)), (a_od, .inr (4, [.ref a_la, .ref a_no])), (a_pl, .inr (6, [.ref a_la, .ref a_no, .ref a_od, .ref a_pl_worths, .ref a_pl_most, .ref a_pl_lanes])), (a_pl_worths, .inl (cy 2, 6, .inr (.inl pl_worths'))), (a_pl_most, .inl (cy 2, 384, .inr (.inl pl_most'))), (a_pl_lanes, .inl (cy 1, 5, .inl pl_lanes'))] ++ X)) A) (([.ref a_pl] : List Value).toArray) s 0 0 A) (F0 m 62 ls []) := by
            intro n62
            induction n62 with
            | zero => intro x3_22 pl_most_23 h; exact absurd (show (none : Option ((Nat → Int64) × (Nat → Int64) × (Nat → Int32))) = some _ from h) (by intro q; cases q)
            | succ n62 ih62 =>
              intro x3_22 pl_most_23 h H locs hP hD hS ls hl
              have h : f_X6_settle_b62 (f_X6_settle_L51 la_lanes la_deep la_beasts la_who la_kind la_mood no_dead no_wet no_strong no_wounds ((1 : Int32) <<< (la_lanes &&& 31)) pl_lanes n51) la_lanes la_deep la_beasts la_who la_kind la_mood no_dead no_wet no_strong no_wounds ((1 : Int32) <<< (la_lanes &&& 31)) x2_16 pl_worths_19 pl_lanes (f_X6_settle_L62 (f_X6_settle_L51 la_lanes la_deep la_beasts la_who la_kind la_mood no_dead no_wet no_strong no_wounds ((1 : Int32) <<< (la_lanes &&& 31)) pl_lanes n51) la_lanes la_deep la_beasts la_who la_kind la_mood no_dead no_wet no_strong no_wounds ((1 : Int32) <<< (la_lanes &&& 31)) x2_16 pl_worths_19 pl_lanes n62) x3_22 pl_most_23 = some (pl_worths', pl_most', pl_lanes') := h
              unfold f_X6_settle_b62 at h
              refine lv_iload_n hx hb dX6_settle_62 rfl (lv_at hl 3 rfl) ?_
              refine lv_iload_n hx hb dX6_settle_63 rfl (lv_at hl 1 rfl) ?_
              refine lv_icmp_ge (tgt := 90) hx hb dX6_settle_64 (by decide) (fun cd => ?_) (fun cd => ?_)
              · have h := ifT cd h
                exact jn90 pl_most_23 h _ _ hP hD hS _ (lv_sub hl [0, 1, 2] rfl)
              · have h := ifF cd h
                refine lv_aload_n hx hb dX6_settle_67 rfl (lv_at hl 0 rfl) ?_
                refine va_get (D := D) (ci := 6) (C := RX6) (T := TX6) (N := 6) (v := .ref a_pl_most) hx hb hX6 (fun _ q => q) hown hK hP 8 rfl rfl 4 (by decide) (hts (.fieldLink RX6 15 "ElephantLine$Placing" "most" "[J") (by decide +kernel)) (fun _ h9 => h9) rfl dX6_settle_68 ?_
                refine lv_iload_n hx hb dX6_settle_71 rfl (lv_at hl 2 rfl) ?_
                refine lv_bipush (v := 64) hx hb dX6_settle_72 (by decide) ?_
                refine lv_imul hx hb dX6_settle_74 ?_
                refine lv_iload_n hx hb dX6_settle_75 rfl (lv_at hl 3 rfl) ?_
                refine lv_iadd hx hb dX6_settle_76 ?_
                refine lv_aload_n hx hb dX6_settle_77 rfl (lv_at hl 0 rfl) ?_
                refine lv_iload_n hx hb dX6_settle_78 rfl (lv_at hl 2 rfl) ?_
                refine lv_iload_n hx hb dX6_settle_79 rfl (lv_at hl 3 rfl) ?_
                obtain ⟨r_24, hc_25, h⟩ := bd1_some h
                refine kVl [.int x2_16, .int x3_22] [.int ((x2_16 * 64) + x3_22), .ref a_pl_most] ⟨hx, hb, hml, hown, hts⟩ (c_X6_mostFrom l D cy a_la a_no a_pl a_pl_worths a_pl_most la_lanes la_deep la_lanesTold (.ref a_la_who) (la_firstStrong) la_beasts (.ref a_la_kind) (la_firstLane) (.ref a_la_mood) (la_price) la_cities la_passes (la_passBetween) la_turned (.ref a_no_strong) (no_at) (.ref a_no_wounds) no_dead no_wet no_drawn (.ref a_od) (.ref a_pl_lanes) pl_worths_19 pl_most_23 x2_16 x3_22 r_24 hc_25) gX6_settle_X6_mostFrom rfl hd_X6_mostFrom ⟨Nat.le_of_ble_eq_true rfl, Nat.le_of_ble_eq_true rfl⟩ rfl rfl hKN (pXc hP [0, 4, 8, 9, 10] rfl) 6 2 rfl rfl rfl hl.1 rfl (Nat.le_of_ble_eq_true rfl) dX6_settle_80 ⟨Nat.le_of_ble_eq_true rfl, Nat.le_of_ble_eq_true rfl⟩ ?_
                obtain ⟨i_26, h⟩ := gIn_some h
                refine va_last hx hb hK hP hD hS 10 2 rfl rfl i_26 dX6_settle_83 (fun H locs hP hD hS => ?_)
                refine lv_iinc (v := x3_22 + 1) (lv' := [(3, .int (x3_22 + 1)), (0, .ref a_pl), (1, .int ((1 : Int32) <<< (la_lanes &&& 31))), (2, .int x2_16)]) hx hb dX6_settle_84 hl (k := 3) rfl (by first | rfl | decide) (by decide) rfl (fun ls hl => ?_)
                refine lv_goto (tgt := 62) hx hb dX6_settle_87 (by decide) ?_
                exact ih62 (x3_22 + 1) (vp_updL pl_most_23 ((x2_16 * 64) + x3_22).toNatClampNeg r_24) h _ _ hP hD hS _ (lv_sub hl [1, 2, 3, 0] rfl)
          exact lp62 fuelN (0 : Int32) pl_most_18 h _ _ hP hD hS _ (lv_sub hl [1, 2, 3, 0] rfl)
    exact lp51 fuelN (la_beasts - 1) pl_worths pl_most_1 h _ _ hP hD hS _ (lv_sub hl [1, 2, 0] rfl)
  have lp12 : ∀ (n12 : Nat) (x2_27 : Int32) (pl_most_28 : Nat → Int64), f_X6_settle_L12 la_lanes la_deep la_beasts la_who la_kind la_mood no_dead no_wet no_strong no_wounds ((1 : Int32) <<< (la_lanes &&& 31)) pl_worths pl_lanes n12 x2_27 pl_most_28 = some (pl_worths', pl_most', pl_lanes') → ∀ (H : Heap) (locs : List Loc), va_P D vwCl ([(a_la, .inr (2, [.int la_lanes, .int la_deep, .int la_lanesTold, .ref a_la_who, la_firstStrong, .int la_beasts, .ref a_la_kind, la_firstLane, .ref a_la_mood, la_price, .int la_cities, .int la_passes, la_passBetween, .int la_turned])), (a_la_who, .inl (cy 1, 6, .inl la_who)), (a_la_kind, .inl (cy 1, 5, .inl la_kind)), (a_la_mood, .inl (cy 1, 5, .inl la_mood)), (a_no, .inr (8, [.ref a_no_strong, no_at, .ref a_no_wounds, .int no_dead, .int no_wet, .int no_drawn])), (a_no_strong, .inl (cy 1, 6, .inl no_strong)), (a_no_wounds, .inl (cy 1, 5, .inl no_wounds)), (a_od, .inr (4, [.ref a_la, .ref a_no])), (a_pl, .inr (6, [.ref a_la, .ref a_no, .ref a_od, .ref a_pl_worths, .ref a_pl_most, .ref a_pl_lanes])), (a_pl_worths, .inl (cy 2, 6, .inr (.inl pl_worths))), (a_pl_most, .inl (cy 2, 384, .inr (.inl pl_most_28))), (a_pl_lanes, .inl (cy 1, 5, .inl pl_lanes))] ++ X) H → va_D A ([(a_la, .inr (2, [.int la_lanes, .int la_deep, .int la_lanesTold, .ref a_la_who, la_firstStrong, .int la_beasts, .ref a_la_kind, la_firstLane, .ref a_la_mood, la_price, .int la_cities, .int la_passes, la_passBetween, .int la_turned])), (a_la_who, .inl (cy 1, 6, .inl la_who)), (a_la_kind, .inl (cy 1, 5, .inl la_kind)), (a_la_mood, .inl (cy 1, 5, .inl la_mood)), (a_no, .inr (8, [.ref a_no_strong, no_at, .ref a_no_wounds, .int no_dead, .int no_wet, .int no_drawn])), (a_no_strong, .inl (cy 1, 6, .inl no_strong)), (a_no_wounds, .inl (cy 1, 5, .inl no_wounds)), (a_od, .inr (4, [.ref a_la, .ref a_no])), (a_pl, .inr (6, [.ref a_la, .ref a_no, .ref a_od, .ref a_pl_worths, .ref a_pl_most, .ref a_pl_lanes])), (a_pl_worths, .inl (cy 2, 6, .inr (.inl pl_worths))), (a_pl_most, .inl (cy 2, 384, .inr (.inl pl_most_28))), (a_pl_lanes, .inl (cy 1, 5, .inl pl_lanes))] ++ X) → va_S A s.heap H locs → ∀ ls : Array Slot, lv_has ls 4 [(0, .ref a_pl), (1, .int ((1 : Int32) <<< (la_lanes &&& 31))), (2, .int x2_27)] → W p l e (headSpec wo_X6_settle ({ frames := 5, cells := 0, slots := 0, locals := 117 })).room s m (([.ref a_pl] : List Value).toArray) below meth c H locs 0 0 (MQ below (va_Qv (fun (_ : Unit) => True) (wB D A ([(a_la, .inr (2, [.int la_lanes, .int la_deep, .int la_lanesTold, .ref a_la_who, la_firstStrong, .int la_beasts, .ref a_la_kind, la_firstLane, .ref a_la_mood, la_price, .int la_cities, .int la_passes, la_passBetween, .int la_turned])), (a_la_who, .inl (cy 1, 6, .inl la_who)), (a_la_kind, .inl (cy 1, 5, .inl la_kind)), (a_la_mood, .inl (cy 1, 5, .inl la_mood)), (a_no, .inr (8, [.ref a_no_strong, no_at, .ref a_no_wounds, .int no_dead, .int no_wet, .int no_drawn])), (a_no_strong, .inl (cy 1, 6, .inl no_strong)), (a_no_wounds, .inl (cy 1, 5, .inl no_wounds)), (a_od, .inr (4, [.ref a_la, .ref a_no])), (a_pl, .inr (6, [.ref a_la, .ref a_no, .ref a_od, .ref a_pl_worths, .ref a_pl_most, .ref a_pl_lanes])), (a_pl_worths, .inl (cy 2, 6, .inr (.inl pl_worths'))), (a_pl_most, .inl (cy 2, 384, .inr (.inl pl_most'))), (a_pl_lanes, .inl (cy 1, 5, .inl pl_lanes'))] ++ X)) A) (([.ref a_pl] : List Value).toArray) s 0 0 A) (F0 m 12 ls []) := by
    intro n12
    induction n12 with
    | zero => intro x2_27 pl_most_28 h; exact absurd (show (none : Option ((Nat → Int64) × (Nat → Int64) × (Nat → Int32))) = some _ from h) (by intro q; cases q)
    | succ n12 ih12 =>
      intro x2_27 pl_most_28 h H locs hP hD hS ls hl
      have h : f_X6_settle_b12 la_lanes la_deep la_beasts la_who la_kind la_mood no_dead no_wet no_strong no_wounds ((1 : Int32) <<< (la_lanes &&& 31)) pl_worths pl_lanes (f_X6_settle_L12 la_lanes la_deep la_beasts la_who la_kind la_mood no_dead no_wet no_strong no_wounds ((1 : Int32) <<< (la_lanes &&& 31)) pl_worths pl_lanes n12) x2_27 pl_most_28 = some (pl_worths', pl_most', pl_lanes') := h
      unfold f_X6_settle_b12 at h
      refine lv_iload_n hx hb dX6_settle_12 rfl (lv_at hl 2 rfl) ?_
      refine lv_iload_n hx hb dX6_settle_13 rfl (lv_at hl 1 rfl) ?_
      refine lv_icmp_ge (tgt := 41) hx hb dX6_settle_14 (by decide) (fun cd => ?_) (fun cd => ?_)
      · have h := ifT cd h
        exact jn41 pl_most_28 h _ _ hP hD hS _ (lv_sub hl [0, 1] rfl)
      · have h := ifF cd h
        refine lv_aload_n hx hb dX6_settle_17 rfl (lv_at hl 0 rfl) ?_
        refine va_get (D := D) (ci := 6) (C := RX6) (T := TX6) (N := 6) (v := .ref a_pl_most) hx hb hX6 (fun _ q => q) hown hK hP 8 rfl rfl 4 (by decide) (hts (.fieldLink RX6 15 "ElephantLine$Placing" "most" "[J") (by decide +kernel)) (fun _ h9 => h9) rfl dX6_settle_18 ?_
        refine lv_aload_n hx hb dX6_settle_21 rfl (lv_at hl 0 rfl) ?_
        refine va_get (D := D) (ci := 6) (C := RX6) (T := TX6) (N := 6) (v := .ref a_la) hx hb hX6 (fun _ q => q) hown hK hP 8 rfl rfl 0 (by decide) (hts (.fieldLink RX6 22 "ElephantLine$Placing" "land" "LElephantLine$Land;") (by decide +kernel)) (fun _ h9 => h9) rfl dX6_settle_22 ?_
        refine va_getN (D := D) (ci := 2) (C := RX2) (T := TX2) (N := 14) (v := .int la_beasts) hx hb hX2 (fun _ q => q) hown hK hP 0 rfl rfl 5 (by decide) (va_Nw.use rfl (hKN.2.1.1 ("ElephantLine$Placing", 39, "ElephantLine$Land", "beasts", "I", "ElephantLine") (List.mem_of_getElem? (i := 16) rfl))) (fun _ h9 => h9) rfl dX6_settle_25 ?_
        refine lv_bipush (v := 64) hx hb dX6_settle_28 (by decide) ?_
        refine lv_imul hx hb dX6_settle_30 ?_
        refine lv_iload_n hx hb dX6_settle_31 rfl (lv_at hl 2 rfl) ?_
        refine lv_iadd hx hb dX6_settle_32 ?_
        refine lv_lconst (v := 0) hx hb dX6_settle_33 (by decide) ?_
        obtain ⟨i_29, h⟩ := gIn_some h
        refine va_last hx hb hK hP hD hS 10 2 rfl rfl i_29 dX6_settle_34 (fun H locs hP hD hS => ?_)
        refine lv_iinc (v := x2_27 + 1) (lv' := [(2, .int (x2_27 + 1)), (0, .ref a_pl), (1, .int ((1 : Int32) <<< (la_lanes &&& 31)))]) hx hb dX6_settle_35 hl (k := 2) rfl (by first | rfl | decide) (by decide) rfl (fun ls hl => ?_)
        refine lv_goto (tgt := 12) hx hb dX6_settle_38 (by decide) ?_
        exact ih12 (x2_27 + 1) (vp_updL pl_most_28 ((la_beasts * 64) + x2_27).toNatClampNeg 0) h _ _ hP hD hS _ (lv_sub hl [1, 2, 0] rfl)
  exact lp12 fuelN (0 : Int32) pl_most h _ _ hP hD hS _ (lv_sub hl [2, 1, 0] rfl)
