theorem nXp {D : va_G} {cl : List vw_C} {L X : va_W} {n : Nat × va_E} {H : Heap} (h : va_P D cl ((L ++ X) ++ [n]) H) : va_P D cl ((L ++ [n]) ++ X) H := by
  have m1 : ∀ q ∈ (L ++ X) ++ [n], va_at D cl q H := fun q hq => by
    obtain ⟨k, hk⟩ := List.getElem?_of_mem hq
    exact h k q hk
  intro k q hk
  have hq := List.mem_of_getElem? hk
  refine m1 q ?_
  simp only [List.mem_append] at hq ⊢
  rcases hq with (a | a) | a
  · exact Or.inl (Or.inl a)
  · exact Or.inr a
  · exact Or.inl (Or.inr a)
theorem nXd {A : Nat → Prop} {L X : va_W} {n : Nat × va_E} (hD : va_D A ((L ++ X) ++ [n])) : va_D A ((L ++ [n]) ++ X) := by
  have loc : ∀ (k : Nat) (q : Nat × va_E), ((L ++ [n]) ++ X)[k]? = some q → ∃ j, ((L ++ X) ++ [n])[j]? = some q ∧ ((k < L.length ∧ j = k) ∨ (k = L.length ∧ j = L.length + X.length) ∨ (L.length < k ∧ j = k - 1 ∧ k < L.length + 1 + X.length)) := by
    intro k q hk
    have hlt := (List.getElem?_eq_some_iff.mp hk).1
    simp only [List.length_append, List.length_cons, List.length_nil] at hlt
    rcases Nat.lt_trichotomy k L.length with a | a | a
    · refine ⟨k, ?_, Or.inl ⟨a, rfl⟩⟩
      rw [List.getElem?_append_left (by simp; omega), List.getElem?_append_left a] at hk
      rw [List.getElem?_append_left (by simp; omega), List.getElem?_append_left a]
      exact hk
    · refine ⟨L.length + X.length, ?_, Or.inr (Or.inl ⟨a, rfl⟩)⟩
      rw [List.getElem?_append_left (by simp; omega), List.getElem?_append_right (by omega)] at hk
      rw [List.getElem?_append_right (by simp)]
      simp only [List.length_append, Nat.sub_self]
      rw [show k - L.length = 0 by omega] at hk
      exact hk
    · refine ⟨k - 1, ?_, Or.inr (Or.inr ⟨a, rfl, by omega⟩)⟩
      rw [List.getElem?_append_right (by simp; omega)] at hk
      rw [List.getElem?_append_left (by simp; omega), List.getElem?_append_right (by omega)]
      simp only [List.length_append, List.length_cons, List.length_nil] at hk
      rw [show k - 1 - L.length = k - (L.length + (0 + 1)) by omega]
      exact hk
  refine ⟨fun i j p q hi hj hpq => ?_, fun k q hk => ?_⟩
  · obtain ⟨i', a1, b1⟩ := loc i p hi
    obtain ⟨j', a2, b2⟩ := loc j q hj
    have := hD.1 i' j' p q a1 a2 hpq
    omega
  · obtain ⟨j, a1, -⟩ := loc k q hk
    exact hD.2 j q a1
section CT
variable {p : Program} {l : Launch} {e : Env} {R : Room} {s : State} {m : MethodId} {args : Array Value} {below : List Frame} {meth : Method} {c : Code} {H : Heap} {locs : List Loc} {cells slots : Nat} {Q : State → Prop}
variable {y : MethodName} {bytes cc : ByteArray} {maxL nL n index mc ms : Nat} {ws ws' : List Cond} {rm : Room} {Ts : List Cond} {own : String} {b : Addr} {pc : Nat} {ls : Array Slot} {rest : List Value} {D : va_G} {cy : Nat → ClassId} {wc L X : va_W} {st0 : List Value} {A : Nat → Prop} {H0 : Heap}
theorem nAB (hexec : p.tables.exec = Jvm.exec) (hb : c.code = cc) (harr : (Cond.arrayClass .byte).before args s = true) (hK : va_K D vwCl (tyl cy) s) (hP : va_P D vwCl (L ++ X) H) (hD : va_D A (L ++ X)) (hS : va_S A H0 H locs) (hA : ∀ q, H0.size ≤ q → A q) {z : Int32} (N' : Nat) (hn : ¬ z < 0) (hN : z.toNatClampNeg = N') (hbytes : N' * componentBytes .byte ≤ 536870912) (hcells : cells + 1 ≤ R.cells) (hslots : slots + N' ≤ R.slots) (hdg : decode cc pc = .ok (.newarray .byte, 2))
    (kk : ∀ (q : Nat) (H1 : Heap), va_P D vwCl ((L ++ [(q, .inl (cy 0, N', .inl (fun _ => 0)))]) ++ X) H1 → va_D A ((L ++ [(q, .inl (cy 0, N', .inl (fun _ => 0)))]) ++ X) → va_S A H0 H1 locs → W p l e R s m args below meth c H1 locs (cells + 1) (slots + N') Q (F0 m (pc + 2) ls (.ref q :: rest))) : W p l e R s m args below meth c H locs cells slots Q (F0 m pc ls (.int z :: rest)) := by
  refine va_newa (atype := .byte) (ty := .byte) (a0 := (N', .inl (fun _ => 0))) hexec hb harr rfl hK hP hD hS hA (fun cA => rfl) hn hN hbytes hcells hslots hdg (fun q cA H1 hK1 hP1 hD1 hS1 => ?_)
  have h1 := (hK1.2 5 _ rfl).2
  have h2 := (hK.2 0 _ rfl).2
  have e1 : cA = cy 0 := Option.some.inj (h1.symm.trans h2)
  subst e1
  exact kk q H1 (nXp hP1) (nXd hD1) hS1
theorem nAI (hexec : p.tables.exec = Jvm.exec) (hb : c.code = cc) (harr : (Cond.arrayClass .int).before args s = true) (hK : va_K D vwCl (tyl cy) s) (hP : va_P D vwCl (L ++ X) H) (hD : va_D A (L ++ X)) (hS : va_S A H0 H locs) (hA : ∀ q, H0.size ≤ q → A q) {z : Int32} (N' : Nat) (hn : ¬ z < 0) (hN : z.toNatClampNeg = N') (hbytes : N' * componentBytes .int ≤ 536870912) (hcells : cells + 1 ≤ R.cells) (hslots : slots + N' ≤ R.slots) (hdg : decode cc pc = .ok (.newarray .int, 2))
    (kk : ∀ (q : Nat) (H1 : Heap), va_P D vwCl ((L ++ [(q, .inl (cy 1, N', .inl (fun _ => 0)))]) ++ X) H1 → va_D A ((L ++ [(q, .inl (cy 1, N', .inl (fun _ => 0)))]) ++ X) → va_S A H0 H1 locs → W p l e R s m args below meth c H1 locs (cells + 1) (slots + N') Q (F0 m (pc + 2) ls (.ref q :: rest))) : W p l e R s m args below meth c H locs cells slots Q (F0 m pc ls (.int z :: rest)) := by
  refine va_newa (atype := .int) (ty := .int) (a0 := (N', .inl (fun _ => 0))) hexec hb harr rfl hK hP hD hS hA (fun cA => rfl) hn hN hbytes hcells hslots hdg (fun q cA H1 hK1 hP1 hD1 hS1 => ?_)
  have h1 := (hK1.2 5 _ rfl).2
  have h2 := (hK.2 1 _ rfl).2
  have e1 : cA = cy 1 := Option.some.inj (h1.symm.trans h2)
  subst e1
  exact kk q H1 (nXp hP1) (nXd hD1) hS1
theorem nAJ (hexec : p.tables.exec = Jvm.exec) (hb : c.code = cc) (harr : (Cond.arrayClass .long).before args s = true) (hK : va_K D vwCl (tyl cy) s) (hP : va_P D vwCl (L ++ X) H) (hD : va_D A (L ++ X)) (hS : va_S A H0 H locs) (hA : ∀ q, H0.size ≤ q → A q) {z : Int32} (N' : Nat) (hn : ¬ z < 0) (hN : z.toNatClampNeg = N') (hbytes : N' * componentBytes .long ≤ 536870912) (hcells : cells + 1 ≤ R.cells) (hslots : slots + N' ≤ R.slots) (hdg : decode cc pc = .ok (.newarray .long, 2))
    (kk : ∀ (q : Nat) (H1 : Heap), va_P D vwCl ((L ++ [(q, .inl (cy 2, N', .inr (.inl (fun _ => 0))))]) ++ X) H1 → va_D A ((L ++ [(q, .inl (cy 2, N', .inr (.inl (fun _ => 0))))]) ++ X) → va_S A H0 H1 locs → W p l e R s m args below meth c H1 locs (cells + 1) (slots + N') Q (F0 m (pc + 2) ls (.ref q :: rest))) : W p l e R s m args below meth c H locs cells slots Q (F0 m pc ls (.int z :: rest)) := by
  refine va_newa (atype := .long) (ty := .long) (a0 := (N', .inr (.inl (fun _ => 0)))) hexec hb harr rfl hK hP hD hS hA (fun cA => rfl) hn hN hbytes hcells hslots hdg (fun q cA H1 hK1 hP1 hD1 hS1 => ?_)
  have h1 := (hK1.2 5 _ rfl).2
  have h2 := (hK.2 2 _ rfl).2
  have e1 : cA = cy 2 := Option.some.inj (h1.symm.trans h2)
  subst e1
  exact kk q H1 (nXp hP1) (nXd hD1) hS1
theorem nAZ (hexec : p.tables.exec = Jvm.exec) (hb : c.code = cc) (harr : (Cond.arrayClass .boolean).before args s = true) (hK : va_K D vwCl (tyl cy) s) (hP : va_P D vwCl (L ++ X) H) (hD : va_D A (L ++ X)) (hS : va_S A H0 H locs) (hA : ∀ q, H0.size ≤ q → A q) {z : Int32} (N' : Nat) (hn : ¬ z < 0) (hN : z.toNatClampNeg = N') (hbytes : N' * componentBytes .boolean ≤ 536870912) (hcells : cells + 1 ≤ R.cells) (hslots : slots + N' ≤ R.slots) (hdg : decode cc pc = .ok (.newarray .boolean, 2))
    (kk : ∀ (q : Nat) (H1 : Heap), va_P D vwCl ((L ++ [(q, .inl (cy 3, N', .inl (fun _ => 0)))]) ++ X) H1 → va_D A ((L ++ [(q, .inl (cy 3, N', .inl (fun _ => 0)))]) ++ X) → va_S A H0 H1 locs → W p l e R s m args below meth c H1 locs (cells + 1) (slots + N') Q (F0 m (pc + 2) ls (.ref q :: rest))) : W p l e R s m args below meth c H locs cells slots Q (F0 m pc ls (.int z :: rest)) := by
  refine va_newa (atype := .boolean) (ty := .boolean) (a0 := (N', .inl (fun _ => 0))) hexec hb harr rfl hK hP hD hS hA (fun cA => rfl) hn hN hbytes hcells hslots hdg (fun q cA H1 hK1 hP1 hD1 hS1 => ?_)
  have h1 := (hK1.2 5 _ rfl).2
  have h2 := (hK.2 3 _ rfl).2
  have e1 : cA = cy 3 := Option.some.inj (h1.symm.trans h2)
  subst e1
  exact kk q H1 (nXp hP1) (nXd hD1) hS1
theorem nAO {C : String} (hC : C = RX8) (hexec : p.tables.exec = Jvm.exec) (hb : c.code = cc) (hown : s.vm.findClass own = some m.cls) (hclink : (Cond.classLink own index C).before args s = true) (hover : va_AO C s) (hK : va_K D vwCl (tyl cy) s) (hP : va_P D vwCl (L ++ X) H) (hD : va_D A (L ++ X)) (hS : va_S A H0 H locs) (hA : ∀ q, H0.size ≤ q → A q) {z : Int32} (N' : Nat) (hn : ¬ z < 0) (hN : z.toNatClampNeg = N') (hbytes : N' * 4 ≤ 536870912) (hcells : cells + 1 ≤ R.cells) (hslots : slots + N' ≤ R.slots) (hdg : decode cc pc = .ok (.anewarray index, 3))
    (kk : ∀ (q : Nat) (H1 : Heap), va_P D vwCl ((L ++ [(q, .inl (cy 4, N', .inr (.inr (.inr (.inr (fun _ => none))))))]) ++ X) H1 → va_D A ((L ++ [(q, .inl (cy 4, N', .inr (.inr (.inr (.inr (fun _ => none))))))]) ++ X) → va_S A H0 H1 locs → W p l e R s m args below meth c H1 locs (cells + 1) (slots + N') Q (F0 m (pc + 3) ls (.ref q :: rest))) : W p l e R s m args below meth c H locs cells slots Q (F0 m pc ls (.int z :: rest)) := by
  subst hC
  refine va_newq hexec hb hown hclink hover hK hP hD hS hA hn hN hbytes hcells hslots hdg (fun q cA H1 hK1 hP1 hD1 hS1 => ?_)
  obtain ⟨_, _, _, _, _, h1⟩ := (hK1.2 5 _ rfl).2
  obtain ⟨_, _, _, _, _, h2⟩ := (hK.2 4 _ rfl).2
  have e1 : cA = cy 4 := Option.some.inj (h1.symm.trans h2)
  subst e1
  exact kk q H1 (nXp hP1) (nXd hD1) hS1
theorem wIn {U0 : Type} {w1 : U0 → va_W} (As rest : List Value) (S0 : CallFix p m c cc nL s args Ts own) (hM : Met l y ws rm (wrPc D cy A (.ref b :: As) wc) (va_Qv (fun (_ : U0) => True) (fun u t => va_P D vwCl (w1 u) t.heap ∧ va_D A (w1 u)) A) mc ms A) (hT : GoodIn Ts ws) (hl : (Cond.methodLink own index y).before args s = true) (hini : (Cond.initialized y.cls).before args s = true) (hin : (Cond.instanceMethod y).before args s = true) (hy1 : y.name = "<init>") (hw : ws = Cond.code y bytes maxL none :: ws') (hd : y.cls ≠ "java/lang/invoke/MethodHandle" ∧ y.cls ≠ "java/lang/invoke/VarHandle" ∧ (parseMethodDescriptor y.desc).map (fun d => d.parameters.length) = some n) (hR : rm.frames + 1 ≤ R.frames ∧ 8 + (maxL + 11) + rm.locals ≤ R.locals) (hrc : rm.cells = mc) (hrs : rm.slots = ms) (hK : SK D cy s) (hP : va_P D vwCl wc H) (hD : va_D A wc) (hS : va_S A s.heap H locs) (hA : ∀ q, s.heap.size ≤ q → A q) (hn : As.length = n) (hsize : ls.size = nL) (hstack : st0 = As.reverse ++ .ref b :: rest) (hW : (rest.map fun v => v.category).sum ≤ 8) (hdg : decode cc pc = .ok (.invokespecial index, 3)) (hf : cells + mc ≤ R.cells ∧ slots + ms ≤ R.slots)
    (kk : ∀ (u : U0) (H1 : Heap) (locs1 : List Loc), va_P D vwCl (w1 u) H1 → va_D A (w1 u) → va_S A s.heap H1 locs1 → W p l e R s m args below meth c H1 locs1 (cells + mc) (slots + ms) Q (F0 m (pc + 3) ls rest)) : W p l e R s m args below meth c H locs cells slots Q (F0 m pc ls st0) := by
  subst hstack
  exact va_callv (va_runI S0 hM (cwI n S0.2.2.2.2 hT hw hrc hrs hini hl hin hy1 hd hR) ⟨wr_blind, fun U hU hW' => ⟨rfl, by rw [hU]; exact hP, hK.warm hW', hD, fun q hq => hA q (Nat.le_trans hS.1 (by rw [← hU]; exact hq))⟩⟩ rfl hn hsize rfl (lv_room hW) hdg ⟨hf.1, hf.2⟩) hS (fun q _ h => h) (fun q h => h) (fun u t H1 locs1 ht _ _ hB _ _ hS1 => kk u H1 locs1 (by rw [← ht]; exact hB.1) hB.2 hS1)
theorem wInN {U0 : Type} {w1 : U0 → va_W} (As rest : List Value) (S0 : CallFix p m c cc nL s args Ts own) (hM : Met l y ws rm (wrPc D cy A (.ref b :: As) wc) (va_Qv (fun (_ : U0) => True) (fun u t => va_P D vwCl (w1 u) t.heap ∧ va_D A (w1 u)) A) mc ms A) (hT : GoodIn Ts ws) {host : String} (hl : va_Nw (.methodLinkNest own index y host) s) (hini : (Cond.initialized y.cls).before args s = true) (hin : (Cond.instanceMethod y).before args s = true) (hy1 : y.name = "<init>") (hw : ws = Cond.code y bytes maxL none :: ws') (hd : y.cls ≠ "java/lang/invoke/MethodHandle" ∧ y.cls ≠ "java/lang/invoke/VarHandle" ∧ (parseMethodDescriptor y.desc).map (fun d => d.parameters.length) = some n) (hR : rm.frames + 1 ≤ R.frames ∧ 8 + (maxL + 11) + rm.locals ≤ R.locals) (hrc : rm.cells = mc) (hrs : rm.slots = ms) (hK : SK D cy s) (hP : va_P D vwCl wc H) (hD : va_D A wc) (hS : va_S A s.heap H locs) (hA : ∀ q, s.heap.size ≤ q → A q) (hn : As.length = n) (hsize : ls.size = nL) (hstack : st0 = As.reverse ++ .ref b :: rest) (hW : (rest.map fun v => v.category).sum ≤ 8) (hdg : decode cc pc = .ok (.invokespecial index, 3)) (hf : cells + mc ≤ R.cells ∧ slots + ms ≤ R.slots)
    (kk : ∀ (u : U0) (H1 : Heap) (locs1 : List Loc), va_P D vwCl (w1 u) H1 → va_D A (w1 u) → va_S A s.heap H1 locs1 → W p l e R s m args below meth c H1 locs1 (cells + mc) (slots + ms) Q (F0 m (pc + 3) ls rest)) : W p l e R s m args below meth c H locs cells slots Q (F0 m pc ls st0) := by
  subst hstack
  exact va_callv (va_runIN S0 hM ⟨va_cnB n S0.2.2.2.2 hT hw hrc hrs hl hini hd hR, hy1, hin⟩ ⟨wr_blind, fun U hU hW' => ⟨rfl, by rw [hU]; exact hP, hK.warm hW', hD, fun q hq => hA q (Nat.le_trans hS.1 (by rw [← hU]; exact hq))⟩⟩ rfl hn hsize rfl (lv_room hW) hdg ⟨hf.1, hf.2⟩) hS (fun q _ h => h) (fun q h => h) (fun u t H1 locs1 ht _ _ hB _ _ hS1 => kk u H1 locs1 (by rw [← ht]; exact hB.1) hB.2 hS1)
end CT
section CW
variable {p : Program} {l : Launch} {e : Env} {R : Room} {s : State} {m : MethodId} {args : Array Value} {below : List Frame} {meth : Method} {c : Code} {H : Heap} {locs : List Loc} {cells slots : Nat} {Q : State → Prop}
theorem va_ldcwS {cc : ByteArray} {pc : Nat} {ls : Array Slot} {rest : List Value} (hexec : p.tables.exec = Jvm.exec) (hb : c.code = cc) {own tx : String} {index q : Nat} (hown : s.vm.findClass own = some m.cls) (hZ : vk_R own index tx q s) (hdg : decode cc pc = .ok (.ldc_w index, 3))
    (k : W p l e R s m args below meth c H locs cells slots Q (F0 m (pc + 3) ls (.ref q :: rest))) : W p l e R s m args below meth c H locs cells slots Q (F0 m pc ls rest) := by
  intro T hT X
  obtain ⟨t, a1, b1⟩ := k T hT X
  have h1 : (Cond.stringRef own index tx).before args s = true := hZ.1
  have h2 : (Term.string own index).eval args s none [] s = some (.ref q) := hZ.2
  exact ⟨t, X.ldcStringW hexec hown (text := tx) (a := q) h1 h2 (g := F0 m pc ls rest) rfl (by rw [hb]; exact hdg) t a1, b1⟩
end CW
