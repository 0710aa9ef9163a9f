theorem arr_spec {args : Array Value} {s : State} {ty : FieldType} (h : (Cond.arrayClass ty).before args s = true) : ∃ cA, ArrOfT s cA ty ∧ s.vm.findClass ("[" ++ ty.toString) = some cA := by
  obtain ⟨cA, kA, comp, h1, h2, h3⟩ := Cond.arrayClass_spec h
  exact ⟨cA, fun n z => ⟨fun k h => (by cases h), kA, h2, comp, h3⟩, h1⟩
theorem lw_SKW {args : Array Value} {s : State} (hts : ∀ w ∈ lw_tbl, w.before args s = true) : SKW s := fun w hw => word_at (State.WarmedH.refl s) (good_of_word (wg_all w hw)) (hts w (li_all w hw))
theorem lw_NW {args : Array Value} {s : State} (hts : ∀ w ∈ lw_tbl, w.before args s = true) : NW s := by
  refine ⟨fun q hq => ?_, fun q hq => ?_, ?_⟩
  · exact hts _ (li_F _ (List.mem_map.mpr ⟨q, hq, rfl⟩))
  · exact hts _ (li_M _ (List.mem_map.mpr ⟨q, hq, rfl⟩))
  · exact hts (Cond.arrayOver (FieldType.object RX8)) (TB_in 1 _ (List.mem_of_getElem? (i := 233) rfl))
theorem kn_of {s : State} {C : String} {T : u_T} {N : Nat} (h : ∀ w ∈ u_ws C T N, w.before #[] s = true) (hi : (Cond.instantiable C N).before #[] s = true) : ∃ p : ClassId × (Nat → Nat), u_Kn s C T N p.1 p.2 := by
  obtain ⟨c, i, k⟩ := u_known (ws := u_ws C T N) h (fun _ q => q) hi
  exact ⟨(c, i), k⟩
theorem lw_SK {args : Array Value} {s : State} (hts : ∀ w ∈ lw_tbl, w.before args s = true) : ∃ (D : va_G) (cy : Nat → ClassId), SK D cy s := by
  have hw := lw_SKW hts
  have inst : ∀ C n, Cond.instantiable C n ∈ lw_tbl → (Cond.instantiable C n).before #[] s = true := fun C n h => hts _ h
  have h0 : ∀ k : Nat, ∃ p : ClassId × (Nat → Nat), ∀ q : vw_C, vwCl[k]? = some q → u_Kn s q.1 q.2.1 q.2.2 p.1 p.2 := by
    intro k
    match k with
    | 0 => exact (kn_of (wc_X0 hw #[]) (inst RX0 12 (TB_in 2 _ (List.mem_of_getElem? (i := 131) rfl)))).imp (fun p hp q hq => by cases hq; exact hp)
    | 1 => exact (kn_of (wc_X1 hw #[]) (inst RX1 5 (TB_in 2 _ (List.mem_of_getElem? (i := 27) rfl)))).imp (fun p hp q hq => by cases hq; exact hp)
    | 2 => exact (kn_of (wc_X2 hw #[]) (inst RX2 14 (TB_in 1 _ (List.mem_of_getElem? (i := 41) rfl)))).imp (fun p hp q hq => by cases hq; exact hp)
    | 3 => exact (kn_of (wc_X3 hw #[]) (inst RX3 5 (TB_in 2 _ (List.mem_of_getElem? (i := 75) rfl)))).imp (fun p hp q hq => by cases hq; exact hp)
    | 4 => exact (kn_of (wc_X4 hw #[]) (inst RX4 2 (TB_in 2 _ (List.mem_of_getElem? (i := 14) rfl)))).imp (fun p hp q hq => by cases hq; exact hp)
    | 5 => exact (kn_of (wc_X5 hw #[]) (inst RX5 5 (TB_in 1 _ (List.mem_of_getElem? (i := 227) rfl)))).imp (fun p hp q hq => by cases hq; exact hp)
    | 6 => exact (kn_of (wc_X6 hw #[]) (inst RX6 6 (TB_in 2 _ (List.mem_of_getElem? (i := 50) rfl)))).imp (fun p hp q hq => by cases hq; exact hp)
    | 7 => exact (kn_of (wc_X7 hw #[]) (inst RX7 9 (TB_in 1 _ (List.mem_of_getElem? (i := 35) rfl)))).imp (fun p hp q hq => by cases hq; exact hp)
    | 8 => exact (kn_of (wc_X8 hw #[]) (inst RX8 6 (TB_in 1 _ (List.mem_of_getElem? (i := 186) rfl)))).imp (fun p hp q hq => by cases hq; exact hp)
    | 9 => exact (kn_of (wc_X9 hw #[]) (inst RX9 5 (TB_in 1 _ (List.mem_of_getElem? (i := 128) rfl)))).imp (fun p hp q hq => by cases hq; exact hp)
    | 10 => exact (kn_of (wc_X10 hw #[]) (inst RX10 8 (TB_in 2 _ (List.mem_of_getElem? (i := 97) rfl)))).imp (fun p hp q hq => by cases hq; exact hp)
    | 11 => exact (kn_of (wc_X11 hw #[]) (inst RX11 15 (TB_in 1 _ (List.mem_of_getElem? (i := 27) rfl)))).imp (fun p hp q hq => by cases hq; exact hp)
    | 12 => exact (kn_of (wc_X12 hw #[]) (inst RX12 18 (TB_in 7 _ (List.mem_of_getElem? (i := 45) rfl)))).imp (fun p hp q hq => by cases hq; exact hp)
    | 13 => exact (kn_of (wc_X13 hw #[]) (inst RX13 39 (TB_in 6 _ (List.mem_of_getElem? (i := 145) rfl)))).imp (fun p hp q hq => by cases hq; exact hp)
    | k + 14 => exact ⟨((default : ClassId), fun _ => 0), fun q hq => by simp [vwCl] at hq⟩
  obtain ⟨a0, r0, n0⟩ := arr_spec (hts (.arrayClass .byte) (TB_in 1 _ (List.mem_of_getElem? (i := 125) rfl)))
  obtain ⟨a1, r1, n1⟩ := arr_spec (hts (.arrayClass .int) (TB_in 1 _ (List.mem_of_getElem? (i := 126) rfl)))
  obtain ⟨a2, r2, n2⟩ := arr_spec (hts (.arrayClass .long) (TB_in 2 _ (List.mem_of_getElem? (i := 48) rfl)))
  obtain ⟨a3, r3, n3⟩ := arr_spec (hts (.arrayClass .boolean) (TB_in 1 _ (List.mem_of_getElem? (i := 152) rfl)))
  obtain ⟨comp, a4, kA, c1, -, c3, c4, c5⟩ := Cond.arrayOver_spec (hts (Cond.arrayOver (FieldType.object RX8)) (TB_in 1 _ (List.mem_of_getElem? (i := 233) rfl)))
  refine ⟨(fun k => (Classical.choose (h0 k)).1, fun k => (Classical.choose (h0 k)).2), fun k => if k = 0 then a0 else if k = 1 then a1 else if k = 2 then a2 else if k = 3 then a3 else a4, ⟨fun k q hq => Classical.choose_spec (h0 k) q hq, fun k q hq => ?_⟩, lw_NW hts, hw⟩
  match k, hq with
  | 0, hq => cases hq; exact ⟨r0, n0⟩
  | 1, hq => cases hq; exact ⟨r1, n1⟩
  | 2, hq => cases hq; exact ⟨r2, n2⟩
  | 3, hq => cases hq; exact ⟨r3, n3⟩
  | 4, hq => cases hq; exact ⟨fun n z => ⟨fun k h => (by cases h), kA, c3, comp, c4⟩, kA, comp, c3, c4, c1, c5⟩
  | k + 5, hq => simp at hq
