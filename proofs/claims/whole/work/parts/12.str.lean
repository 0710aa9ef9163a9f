def nT : Nat := 21
def lenT : List Nat := [18, 5, 4, 5, 4, 4, 6, 5, 4, 4, 4, 4, 5, 5, 4, 5, 6, 2, 4, 5, 5]
def bytT : List (List Int32) := [[110, 111, 32, 115, 117, 99, 104, 32, 100, 101, 97, 100, 32, 98, 101, 97, 115, 116], [102, 105, 101, 108, 100], [108, 97, 110, 101], [98, 101, 97, 115, 116], [99, 105, 116, 121], [112, 97, 115, 115], [116, 117, 114, 110, 101, 100], [108, 97, 110, 101, 115], [100, 101, 101, 112], [111, 112, 101, 110], [112, 105, 103, 115], [102, 111, 111, 116], [104, 111, 114, 115, 101], [112, 108, 97, 105, 110], [99, 97, 108, 102], [100, 114, 117, 110, 107], [109, 97, 105, 108, 101, 100], [105, 110], [109, 111, 111, 100], [112, 114, 105, 99, 101], [108, 111, 115, 101, 115]]
def nR : Nat := 47
def cnT : List Nat := [0, 1, 2, 3, 4, 5, 6, 7, 8, 9, 10, 11, 12, 13, 14, 15, 16, 17, 18, 19, 20, 1, 7, 8, 2, 3, 4, 5, 6, 9, 10, 11, 12, 17, 18, 19, 13, 14, 15, 16, 20, 1, 2, 3, 4, 5, 6]
def cn (i : Nat) : Nat := cnT.getD i 0
def strTab : List (String × Nat × String × Nat) := [("ElephantLine", 397, "no such dead beast", 0), ("ElephantLineModel", 144, "field", 1), ("ElephantLineModel", 146, "lane", 2), ("ElephantLineModel", 148, "beast", 3), ("ElephantLineModel", 150, "city", 4), ("ElephantLineModel", 152, "pass", 5), ("ElephantLineModel", 154, "turned", 6), ("ElephantLineModel", 216, "lanes", 7), ("ElephantLineModel", 221, "deep", 8), ("ElephantLineModel", 233, "open", 9), ("ElephantLineModel", 235, "pigs", 10), ("ElephantLineModel", 237, "foot", 11), ("ElephantLineModel", 239, "horse", 12), ("ElephantLineModel", 254, "plain", 13), ("ElephantLineModel", 256, "calf", 14), ("ElephantLineModel", 258, "drunk", 15), ("ElephantLineModel", 260, "mailed", 16), ("ElephantLineModel", 262, "in", 17), ("ElephantLineModel", 263, "mood", 18), ("ElephantLineModel", 265, "price", 19), ("ElephantLineModel", 291, "loses", 20), ("ElephantLine$Reader", 81, "field", 21), ("ElephantLine$Reader", 90, "lanes", 22), ("ElephantLine$Reader", 99, "deep", 23), ("ElephantLine$Reader", 105, "lane", 24), ("ElephantLine$Reader", 110, "beast", 25), ("ElephantLine$Reader", 115, "city", 26), ("ElephantLine$Reader", 123, "pass", 27), ("ElephantLine$Reader", 131, "turned", 28), ("ElephantLine$Reader", 147, "open", 29), ("ElephantLine$Reader", 149, "pigs", 30), ("ElephantLine$Reader", 151, "foot", 31), ("ElephantLine$Reader", 153, "horse", 32), ("ElephantLine$Reader", 162, "in", 33), ("ElephantLine$Reader", 164, "mood", 34), ("ElephantLine$Reader", 166, "price", 35), ("ElephantLine$Reader", 172, "plain", 36), ("ElephantLine$Reader", 174, "calf", 37), ("ElephantLine$Reader", 176, "drunk", 38), ("ElephantLine$Reader", 178, "mailed", 39), ("ElephantLine$Reader", 187, "loses", 40), ("ElephantLine$Tokens", 46, "field", 41), ("ElephantLine$Tokens", 52, "lane", 42), ("ElephantLine$Tokens", 54, "beast", 43), ("ElephantLine$Tokens", 56, "city", 44), ("ElephantLine$Tokens", 58, "pass", 45), ("ElephantLine$Tokens", 60, "turned", 46)]
/-- the char of text i at place k -/
def sch (i k : Nat) : Int32 := (bytT.getD i []).getD k 0 &&& 255
theorem sch_all : ∀ i, i < nT → (lenT.getD i 0 = (bytT.getD i []).length ∧ (bytT.getD i []).length < 2 ^ 31) := by decide +kernel
theorem cn_lt : ∀ i, i < nR → cn i < nT := by decide +kernel
def vS (sa sv : Nat → Nat) (A : Nat → Prop) (U : State) (H : Heap) : Prop := ∀ i : Nat, i < nR → va_O "java/lang/String" (sa i) A U H ∧ va_OF "java/lang/String" "coder" "B" (.int 0) (sa i) A U H ∧ va_OF "java/lang/String" "value" "[B" (.ref (sv i)) (sa i) A U H ∧ va_T .byte (sv i) (lenT.getD (cn i) 0) (fun j => .int ((bytT.getD (cn i) []).getD j 0)) A U H
def SS (sa sv : Nat → Nat) (A : Nat → Prop) (U : State) (H : Heap) : Prop := vS sa sv A U H ∧ va_Z "java/lang/String" "COMPACT_STRINGS" "Z" (.int 1) A U H ∧ va_Zq "jdk/internal/util/Preconditions" "SIOOBE_FORMATTER" "Ljava/util/function/BiFunction;" A U H ∧ ∀ q ∈ strTab, vk_R q.1 q.2.1 q.2.2.1 (sa q.2.2.2) U
theorem SS.warm {sa sv : Nat → Nat} {A : Nat → Prop} {s U : State} {H : Heap} (hW : s.WarmedH U.vm) (h : SS sa sv A s H) : SS sa sv A U H := ⟨fun i hi => ⟨va_O.moved hW.alike (h.1 i hi).1, va_OF.moved hW.alike (h.1 i hi).2.1, va_OF.moved hW.alike (h.1 i hi).2.2.1, va_T.moved hW.alike (h.1 i hi).2.2.2⟩, va_Z.moved hW.alike h.2.1, va_Zq.moved hW.alike h.2.2.1, fun q hq => (h.2.2.2 q hq).warm hW⟩
theorem SS.calling {sa sv : Nat → Nat} {A : Nat → Prop} {U : State} {H : Heap} {g : JFrame} {mk : MethodId} {a : Array Value} (h : SS sa sv A U H) : SS sa sv A (U.calling g mk a) H := SS.warm (U := U.calling g mk a) (State.WarmedH.refl U) h
theorem SS.kept {sa sv : Nat → Nat} {A : Nat → Prop} {s : State} {H : Heap} {locs : List Loc} (h : SS sa sv A s s.heap) (hS : va_S A s.heap H locs) : SS sa sv A s H := ⟨fun i hi => ⟨(h.1 i hi).1.kept hS.2.1, (h.1 i hi).2.1.kept hS.2.1, (h.1 i hi).2.2.1.kept hS.2.1, (h.1 i hi).2.2.2.kept hS.2.1⟩, h.2.1.kept hS.2.1, h.2.2.1.kept hS.2.1, h.2.2.2⟩
theorem SS.narrow {sa sv : Nat → Nat} {A : Nat → Prop} {s : State} {H : Heap} (h : SS sa sv A s H) : SS sa sv (fun _ => False) s H := ⟨fun i hi => ⟨(h.1 i hi).1.narrow (fun _ q => q.elim), (h.1 i hi).2.1.narrow (fun _ q => q.elim), (h.1 i hi).2.2.1.narrow (fun _ q => q.elim), (h.1 i hi).2.2.2.narrow (fun _ q => q.elim)⟩, h.2.1.narrow (fun _ q => q.elim), h.2.2.1.narrow (fun _ q => q.elim), h.2.2.2⟩
def roPcS (D : va_G) (cy : Nat → ClassId) (sa sv : Nat → Nat) (av : List Value) (wc : va_W) : Array Value → State → Prop := va_Pc av (fun U => va_P D vwCl wc U.heap ∧ SK D cy U ∧ SS sa sv (fun _ => False) U U.heap)
theorem roS_blind {D : va_G} {cy : Nat → ClassId} {sa sv : Nat → Nat} {av : List Value} {wc : va_W} : FrameBlind (roPcS D cy sa sv av wc) := fun _ _ _ _ q => ⟨q.1, q.2.1, q.2.2.1.calling, q.2.2.2.calling⟩
def wrPcS (D : va_G) (cy : Nat → ClassId) (sa sv : Nat → Nat) (A : Nat → Prop) (av : List Value) (wc : va_W) : Array Value → State → Prop := va_Pc av (fun U => va_P D vwCl wc U.heap ∧ SK D cy U ∧ va_D A wc ∧ (∀ q, U.heap.size ≤ q → A q) ∧ SS sa sv A U U.heap)
theorem wrS_blind {D : va_G} {cy : Nat → ClassId} {sa sv : Nat → Nat} {A : Nat → Prop} {av : List Value} {wc : va_W} : FrameBlind (wrPcS D cy sa sv A av wc) := fun _ _ _ _ q => ⟨q.1, q.2.1, q.2.2.1.calling, q.2.2.2.1, q.2.2.2.2.1, q.2.2.2.2.2.calling⟩
section CLS
variable {p : Program} {l : Launch} {e : Env} {R : Room} {s : State} {m : MethodId} {args : Array Value} {below : List Frame} {meth : Method} {c : Code} {H : Heap} {locs : List Loc} {cells slots : Nat} {Q : State → Prop}
variable {y : MethodName} {bytes cc : ByteArray} {maxL nL n index : Nat} {ret : Option FieldType} {ws ws' : List Cond} {rm : Room} {Ts : List Cond} {own C : String} {b : Addr} {pc : Nat} {ls : Array Slot} {D : va_G} {cy : Nat → ClassId} {wc w1 : va_W} {st0 : List Value} {A : Nat → Prop}
variable {sa sv : Nat → Nat}
theorem kViS {res : Int32} (As rest : List Value) (S : CallFix p m c cc nL s args Ts own) (hM : Met l y ws rm (roPcS D cy sa sv (.ref b :: As) wc) (vp_Si (fun r => r = res)) 0 0 (fun _ => False)) (hT : GoodIn Ts (wsV own index C y ws)) (hw : ws = Cond.code y bytes maxL ret :: ws') (hd : y.cls = C ∧ y.cls ≠ "java/lang/invoke/MethodHandle" ∧ y.cls ≠ "java/lang/invoke/VarHandle" ∧ (parseMethodDescriptor y.desc).map (fun d => d.parameters.length) = some n) (hR : rm.frames + 1 ≤ R.frames ∧ 8 + (maxL + 11) + rm.locals ≤ R.locals) (hrc : rm.cells = 0) (hrs : rm.slots = 0) (hK : SK D cy s) (hP : va_P D vwCl wc H) (hSS : SS sa sv (fun _ => False) s H) {T : u_T} {N : Nat} {fs : List Value} (ci q0 : Nat) (hc : vwCl[ci]? = some (C, T, N)) (he : wc[q0]? = some (b, .inr (ci, fs))) (hn : As.length = n) (hsize : ls.size = nL) (hstack : st0 = As.reverse ++ .ref b :: rest) (hW : (rest.map fun v => v.category).sum ≤ 8) (hdg : decode cc pc = .ok (.invokevirtual index, 3)) (hf : cells ≤ R.cells ∧ slots ≤ R.slots)
    (kk : W p l e R s m args below meth c H locs cells slots Q (F0 m (pc + 3) ls (.int res :: rest))) : W p l e R s m args below meth c H locs cells slots Q (F0 m pc ls st0) := by
  subst hstack
  exact vp_callSi (W.runV S hM (cwV n S.2.2.2.2 hT hw hrc hrs hd hR) ⟨roS_blind, va_recv hK.1 hP hc he, fun U hU hW' => ⟨rfl, by rw [hU]; exact hP, hK.warm hW', by rw [hU]; exact hSS.warm hW'⟩⟩ rfl hn hsize rfl (lv_room hW) hdg ⟨hf.1, hf.2⟩) (fun r hr => by subst hr; exact kk)
theorem kVlS {res : Int64} (As rest : List Value) (S : CallFix p m c cc nL s args Ts own) (hM : Met l y ws rm (roPcS D cy sa sv (.ref b :: As) wc) (vp_Sl (fun r => r = res)) 0 0 (fun _ => False)) (hT : GoodIn Ts (wsV own index C y ws)) (hw : ws = Cond.code y bytes maxL ret :: ws') (hd : y.cls = C ∧ y.cls ≠ "java/lang/invoke/MethodHandle" ∧ y.cls ≠ "java/lang/invoke/VarHandle" ∧ (parseMethodDescriptor y.desc).map (fun d => d.parameters.length) = some n) (hR : rm.frames + 1 ≤ R.frames ∧ 8 + (maxL + 11) + rm.locals ≤ R.locals) (hrc : rm.cells = 0) (hrs : rm.slots = 0) (hK : SK D cy s) (hP : va_P D vwCl wc H) (hSS : SS sa sv (fun _ => False) s H) {T : u_T} {N : Nat} {fs : List Value} (ci q0 : Nat) (hc : vwCl[ci]? = some (C, T, N)) (he : wc[q0]? = some (b, .inr (ci, fs))) (hn : As.length = n) (hsize : ls.size = nL) (hstack : st0 = As.reverse ++ .ref b :: rest) (hW : (rest.map fun v => v.category).sum ≤ 8) (hdg : decode cc pc = .ok (.invokevirtual index, 3)) (hf : cells ≤ R.cells ∧ slots ≤ R.slots)
    (kk : W p l e R s m args below meth c H locs cells slots Q (F0 m (pc + 3) ls (.long res :: rest))) : W p l e R s m args below meth c H locs cells slots Q (F0 m pc ls st0) := by
  subst hstack
  exact vp_callSl (W.runV S hM (cwV n S.2.2.2.2 hT hw hrc hrs hd hR) ⟨roS_blind, va_recv hK.1 hP hc he, fun U hU hW' => ⟨rfl, by rw [hU]; exact hP, hK.warm hW', by rw [hU]; exact hSS.warm hW'⟩⟩ rfl hn hsize rfl (lv_room hW) hdg ⟨hf.1, hf.2⟩) (fun r hr => by subst hr; exact kk)
theorem wViS {res : Int32} (As rest : List Value) (S : CallFix p m c cc nL s args Ts own) (hM : Met l y ws rm (wrPcS D cy sa sv A (.ref b :: As) wc) (va_Qi (fun (r : Int32) (_ : Unit) => r = res) (wB D A w1) A) 0 0 A) (hT : GoodIn Ts (wsV own index C y ws)) (hw : ws = Cond.code y bytes maxL ret :: ws') (hd : y.cls = C ∧ y.cls ≠ "java/lang/invoke/MethodHandle" ∧ y.cls ≠ "java/lang/invoke/VarHandle" ∧ (parseMethodDescriptor y.desc).map (fun d => d.parameters.length) = some n) (hR : rm.frames + 1 ≤ R.frames ∧ 8 + (maxL + 11) + rm.locals ≤ R.locals) (hrc : rm.cells = 0) (hrs : rm.slots = 0) (hK : SK D cy s) (hP : va_P D vwCl wc H) (hSS : SS sa sv A s H) (hD : va_D A wc) (hS : va_S A s.heap H locs) (hA : ∀ q, s.heap.size ≤ q → A q) {T : u_T} {N : Nat} {fs : List Value} (ci q0 : Nat) (hc : vwCl[ci]? = some (C, T, N)) (he : wc[q0]? = some (b, .inr (ci, fs))) (hn : As.length = n) (hsize : ls.size = nL) (hstack : st0 = As.reverse ++ .ref b :: rest) (hW : (rest.map fun v => v.category).sum ≤ 8) (hdg : decode cc pc = .ok (.invokevirtual index, 3)) (hf : cells ≤ R.cells ∧ slots ≤ R.slots)
    (kk : ∀ (H1 : Heap) (locs1 : List Loc), va_P D vwCl w1 H1 → va_D A w1 → va_S A s.heap H1 locs1 → W p l e R s m args below meth c H1 locs1 cells slots Q (F0 m (pc + 3) ls (.int res :: rest))) : W p l e R s m args below meth c H locs cells slots Q (F0 m pc ls st0) := by
  subst hstack
  exact va_calli (va_runV S hM (cwV n S.2.2.2.2 hT hw hrc hrs hd hR) ⟨wrS_blind, va_recv hK.1 hP hc he, fun U hU hW' => ⟨rfl, by rw [hU]; exact hP, hK.warm hW', hD, (fun q hq => hA q (Nat.le_trans hS.1 (by rw [← hU]; exact hq))), by rw [hU]; exact hSS.warm hW'⟩⟩ rfl hn hsize rfl (lv_room hW) hdg ⟨hf.1, hf.2⟩) hS (fun q _ h => h) (fun q h => h) (fun r u t H1 locs1 ht _ hr hB _ _ hS1 => by subst hr; exact kk H1 locs1 (by rw [← ht]; exact hB.1) hB.2 hS1)
theorem wVlS {res : Int64} (As rest : List Value) (S : CallFix p m c cc nL s args Ts own) (hM : Met l y ws rm (wrPcS D cy sa sv A (.ref b :: As) wc) (va_Ql (fun (r : Int64) (_ : Unit) => r = res) (wB D A w1) A) 0 0 A) (hT : GoodIn Ts (wsV own index C y ws)) (hw : ws = Cond.code y bytes maxL ret :: ws') (hd : y.cls = C ∧ y.cls ≠ "java/lang/invoke/MethodHandle" ∧ y.cls ≠ "java/lang/invoke/VarHandle" ∧ (parseMethodDescriptor y.desc).map (fun d => d.parameters.length) = some n) (hR : rm.frames + 1 ≤ R.frames ∧ 8 + (maxL + 11) + rm.locals ≤ R.locals) (hrc : rm.cells = 0) (hrs : rm.slots = 0) (hK : SK D cy s) (hP : va_P D vwCl wc H) (hSS : SS sa sv A s H) (hD : va_D A wc) (hS : va_S A s.heap H locs) (hA : ∀ q, s.heap.size ≤ q → A q) {T : u_T} {N : Nat} {fs : List Value} (ci q0 : Nat) (hc : vwCl[ci]? = some (C, T, N)) (he : wc[q0]? = some (b, .inr (ci, fs))) (hn : As.length = n) (hsize : ls.size = nL) (hstack : st0 = As.reverse ++ .ref b :: rest) (hW : (rest.map fun v => v.category).sum ≤ 8) (hdg : decode cc pc = .ok (.invokevirtual index, 3)) (hf : cells ≤ R.cells ∧ slots ≤ R.slots)
    (kk : ∀ (H1 : Heap) (locs1 : List Loc), va_P D vwCl w1 H1 → va_D A w1 → va_S A s.heap H1 locs1 → W p l e R s m args below meth c H1 locs1 cells slots Q (F0 m (pc + 3) ls (.long res :: rest))) : W p l e R s m args below meth c H locs cells slots Q (F0 m pc ls st0) := by
  subst hstack
  exact va_calll (va_runV S hM (cwV n S.2.2.2.2 hT hw hrc hrs hd hR) ⟨wrS_blind, va_recv hK.1 hP hc he, fun U hU hW' => ⟨rfl, by rw [hU]; exact hP, hK.warm hW', hD, (fun q hq => hA q (Nat.le_trans hS.1 (by rw [← hU]; exact hq))), by rw [hU]; exact hSS.warm hW'⟩⟩ rfl hn hsize rfl (lv_room hW) hdg ⟨hf.1, hf.2⟩) hS (fun q _ h => h) (fun q h => h) (fun r u t H1 locs1 ht _ hr hB _ _ hS1 => by subst hr; exact kk H1 locs1 (by rw [← ht]; exact hB.1) hB.2 hS1)
theorem wVvS (As rest : List Value) (S : CallFix p m c cc nL s args Ts own) (hM : Met l y ws rm (wrPcS D cy sa sv A (.ref b :: As) wc) (va_Qv (fun (_ : Unit) => True) (wB D A w1) A) 0 0 A) (hT : GoodIn Ts (wsV own index C y ws)) (hw : ws = Cond.code y bytes maxL ret :: ws') (hd : y.cls = C ∧ y.cls ≠ "java/lang/invoke/MethodHandle" ∧ y.cls ≠ "java/lang/invoke/VarHandle" ∧ (parseMethodDescriptor y.desc).map (fun d => d.parameters.length) = some n) (hR : rm.frames + 1 ≤ R.frames ∧ 8 + (maxL + 11) + rm.locals ≤ R.locals) (hrc : rm.cells = 0) (hrs : rm.slots = 0) (hK : SK D cy s) (hP : va_P D vwCl wc H) (hSS : SS sa sv A s H) (hD : va_D A wc) (hS : va_S A s.heap H locs) (hA : ∀ q, s.heap.size ≤ q → A q) {T : u_T} {N : Nat} {fs : List Value} (ci q0 : Nat) (hc : vwCl[ci]? = some (C, T, N)) (he : wc[q0]? = some (b, .inr (ci, fs))) (hn : As.length = n) (hsize : ls.size = nL) (hstack : st0 = As.reverse ++ .ref b :: rest) (hW : (rest.map fun v => v.category).sum ≤ 8) (hdg : decode cc pc = .ok (.invokevirtual index, 3)) (hf : cells ≤ R.cells ∧ slots ≤ R.slots)
    (kk : ∀ (H1 : Heap) (locs1 : List Loc), va_P D vwCl w1 H1 → va_D A w1 → va_S A s.heap H1 locs1 → W p l e R s m args below meth c H1 locs1 cells slots Q (F0 m (pc + 3) ls (rest))) : W p l e R s m args below meth c H locs cells slots Q (F0 m pc ls st0) := by
  subst hstack
  exact va_callv (va_runV S hM (cwV n S.2.2.2.2 hT hw hrc hrs hd hR) ⟨wrS_blind, va_recv hK.1 hP hc he, fun U hU hW' => ⟨rfl, by rw [hU]; exact hP, hK.warm hW', hD, (fun q hq => hA q (Nat.le_trans hS.1 (by rw [← hU]; exact hq))), by rw [hU]; exact hSS.warm hW'⟩⟩ rfl hn hsize rfl (lv_room hW) hdg ⟨hf.1, hf.2⟩) hS (fun q _ h => h) (fun q h => h) (fun u t H1 locs1 ht _ _ hB _ _ hS1 => by exact kk H1 locs1 (by rw [← ht]; exact hB.1) hB.2 hS1)
theorem kSlS {res : Int64} (As rest : List Value) (S : CallFix p m c cc nL s args Ts own) (hM : Met l y ws rm (roPcS D cy sa sv (As) wc) (vp_Sl (fun r => r = res)) 0 0 (fun _ => False)) (hT : GoodIn Ts (va_wsS own index y ws)) (hw : ws = Cond.code y bytes maxL ret :: ws') (hd : y.cls ≠ "java/lang/invoke/MethodHandle" ∧ y.cls ≠ "java/lang/invoke/VarHandle" ∧ (parseMethodDescriptor y.desc).map (fun d => d.parameters.length) = some n) (hR : rm.frames + 1 ≤ R.frames ∧ 8 + (maxL + 11) + rm.locals ≤ R.locals) (hrc : rm.cells = 0) (hrs : rm.slots = 0) (hK : SK D cy s) (hP : va_P D vwCl wc H) (hSS : SS sa sv (fun _ => False) s H)  (hn : As.length = n) (hsize : ls.size = nL) (hstack : st0 = As.reverse ++ rest) (hW : (rest.map fun v => v.category).sum ≤ 8) (hdg : decode cc pc = .ok (.invokestatic index, 3)) (hf : cells ≤ R.cells ∧ slots ≤ R.slots)
    (kk : W p l e R s m args below meth c H locs cells slots Q (F0 m (pc + 3) ls (.long res :: rest))) : W p l e R s m args below meth c H locs cells slots Q (F0 m pc ls st0) := by
  subst hstack
  exact vp_callSl (W.runS S hM (va_cwS2 n S.2.2.2.2 hT hw hrc hrs hd hR) ⟨roS_blind, fun U hU hW' => ⟨rfl, by rw [hU]; exact hP, hK.warm hW', by rw [hU]; exact hSS.warm hW'⟩⟩ rfl hn hsize rfl (lv_room hW) hdg ⟨hf.1, hf.2⟩) (fun r hr => by subst hr; exact kk)
theorem kVbS {res : Int32} (As rest : List Value) (S : CallFix p m c cc nL s args Ts own) (hM : Met l y ws rm (roPcS D cy sa sv (.ref b :: As) wc) (vp_Si (fun r => r = res ∧ nbv r)) 0 0 (fun _ => False)) (hT : GoodIn Ts (wsV own index C y ws)) (hw : ws = Cond.code y bytes maxL ret :: ws') (hd : y.cls = C ∧ y.cls ≠ "java/lang/invoke/MethodHandle" ∧ y.cls ≠ "java/lang/invoke/VarHandle" ∧ (parseMethodDescriptor y.desc).map (fun d => d.parameters.length) = some n) (hR : rm.frames + 1 ≤ R.frames ∧ 8 + (maxL + 11) + rm.locals ≤ R.locals) (hrc : rm.cells = 0) (hrs : rm.slots = 0) (hK : SK D cy s) (hP : va_P D vwCl wc H) (hSS : SS sa sv (fun _ => False) s H) {T : u_T} {N : Nat} {fs : List Value} (ci q0 : Nat) (hc : vwCl[ci]? = some (C, T, N)) (he : wc[q0]? = some (b, .inr (ci, fs))) (hn : As.length = n) (hsize : ls.size = nL) (hstack : st0 = As.reverse ++ .ref b :: rest) (hW : (rest.map fun v => v.category).sum ≤ 8) (hdg : decode cc pc = .ok (.invokevirtual index, 3)) (hf : cells ≤ R.cells ∧ slots ≤ R.slots)
    (kk : nbv res → W p l e R s m args below meth c H locs cells slots Q (F0 m (pc + 3) ls (.int res :: rest))) : W p l e R s m args below meth c H locs cells slots Q (F0 m pc ls st0) := by
  subst hstack
  exact vp_callSi (W.runV S hM (cwV n S.2.2.2.2 hT hw hrc hrs hd hR) ⟨roS_blind, va_recv hK.1 hP hc he, fun U hU hW' => ⟨rfl, by rw [hU]; exact hP, hK.warm hW', by rw [hU]; exact hSS.warm hW'⟩⟩ rfl hn hsize rfl (lv_room hW) hdg ⟨hf.1, hf.2⟩) (fun r hr => by obtain ⟨hr, hn9⟩ := hr; subst hr; exact kk hn9)
theorem wVbS {res : Int32} (As rest : List Value) (S : CallFix p m c cc nL s args Ts own) (hM : Met l y ws rm (wrPcS D cy sa sv A (.ref b :: As) wc) (va_Qi (fun (r : Int32) (_ : Unit) => r = res ∧ nbv r) (wB D A w1) A) 0 0 A) (hT : GoodIn Ts (wsV own index C y ws)) (hw : ws = Cond.code y bytes maxL ret :: ws') (hd : y.cls = C ∧ y.cls ≠ "java/lang/invoke/MethodHandle" ∧ y.cls ≠ "java/lang/invoke/VarHandle" ∧ (parseMethodDescriptor y.desc).map (fun d => d.parameters.length) = some n) (hR : rm.frames + 1 ≤ R.frames ∧ 8 + (maxL + 11) + rm.locals ≤ R.locals) (hrc : rm.cells = 0) (hrs : rm.slots = 0) (hK : SK D cy s) (hP : va_P D vwCl wc H) (hSS : SS sa sv A s H) (hD : va_D A wc) (hS : va_S A s.heap H locs) (hA : ∀ q, s.heap.size ≤ q → A q) {T : u_T} {N : Nat} {fs : List Value} (ci q0 : Nat) (hc : vwCl[ci]? = some (C, T, N)) (he : wc[q0]? = some (b, .inr (ci, fs))) (hn : As.length = n) (hsize : ls.size = nL) (hstack : st0 = As.reverse ++ .ref b :: rest) (hW : (rest.map fun v => v.category).sum ≤ 8) (hdg : decode cc pc = .ok (.invokevirtual index, 3)) (hf : cells ≤ R.cells ∧ slots ≤ R.slots)
    (kk : nbv res → ∀ (H1 : Heap) (locs1 : List Loc), va_P D vwCl w1 H1 → va_D A w1 → va_S A s.heap H1 locs1 → W p l e R s m args below meth c H1 locs1 cells slots Q (F0 m (pc + 3) ls (.int res :: rest))) : W p l e R s m args below meth c H locs cells slots Q (F0 m pc ls st0) := by
  subst hstack
  exact va_calli (va_runV S hM (cwV n S.2.2.2.2 hT hw hrc hrs hd hR) ⟨wrS_blind, va_recv hK.1 hP hc he, fun U hU hW' => ⟨rfl, by rw [hU]; exact hP, hK.warm hW', hD, (fun q hq => hA q (Nat.le_trans hS.1 (by rw [← hU]; exact hq))), by rw [hU]; exact hSS.warm hW'⟩⟩ rfl hn hsize rfl (lv_room hW) hdg ⟨hf.1, hf.2⟩) hS (fun q _ h => h) (fun q h => h) (fun r u t H1 locs1 ht _ hr hB _ _ hS1 => by obtain ⟨hr, hn9⟩ := hr; subst hr; exact kk hn9 H1 locs1 (by rw [← ht]; exact hB.1) hB.2 hS1)
theorem kT {res : Int32} {i : Nat} (As rest : List Value) (S : CallFix p m c cc nL s args Ts own) (hM : Met l y ws rm (roPcS D cy sa sv (.ref (sa i) :: As) []) (vp_Si (fun r => r = res)) 0 0 (fun _ => False)) (hT : GoodIn Ts (wsV own index "java/lang/String" y ws)) (hw : ws = Cond.code y bytes maxL ret :: ws') (hd : y.cls = "java/lang/String" ∧ y.cls ≠ "java/lang/invoke/MethodHandle" ∧ y.cls ≠ "java/lang/invoke/VarHandle" ∧ (parseMethodDescriptor y.desc).map (fun d => d.parameters.length) = some n) (hR : rm.frames + 1 ≤ R.frames ∧ 8 + (maxL + 11) + rm.locals ≤ R.locals) (hrc : rm.cells = 0) (hrs : rm.slots = 0) (hK : SK D cy s) (hSS : SS sa sv (fun _ => False) s H) (hi : i < nR) (hn : As.length = n) (hsize : ls.size = nL) (hstack : st0 = As.reverse ++ .ref (sa i) :: rest) (hW : (rest.map fun v => v.category).sum ≤ 8) (hdg : decode cc pc = .ok (.invokevirtual index, 3)) (hf : cells ≤ R.cells ∧ slots ≤ R.slots)
    (kk : W p l e R s m args below meth c H locs cells slots Q (F0 m (pc + 3) ls (.int res :: rest))) : W p l e R s m args below meth c H locs cells slots Q (F0 m pc ls st0) := by
  subst hstack
  obtain ⟨cell, h1, h2, h3, -⟩ := (hSS.1 i hi).1
  exact vp_callSi (W.runV S hM (cwV n S.2.2.2.2 hT hw hrc hrs hd hR) ⟨roS_blind, ⟨cell, h1, h2, h3⟩, fun U hU hW' => ⟨rfl, va_nil, hK.warm hW', by rw [hU]; exact hSS.warm hW'⟩⟩ rfl hn hsize rfl (lv_room hW) hdg ⟨hf.1, hf.2⟩) (fun r hr => by subst hr; exact kk)
theorem kTS {res : Int32} (As rest : List Value) (S : CallFix p m c cc nL s args Ts own) (hM : Met l y ws rm (roPcS D cy sa sv As []) (vp_Si (fun r => r = res)) 0 0 (fun _ => False)) (hT : GoodIn Ts (va_wsS own index y ws)) (hw : ws = Cond.code y bytes maxL ret :: ws') (hd : y.cls ≠ "java/lang/invoke/MethodHandle" ∧ y.cls ≠ "java/lang/invoke/VarHandle" ∧ (parseMethodDescriptor y.desc).map (fun d => d.parameters.length) = some n) (hR : rm.frames + 1 ≤ R.frames ∧ 8 + (maxL + 11) + rm.locals ≤ R.locals) (hrc : rm.cells = 0) (hrs : rm.slots = 0) (hK : SK D cy s) (hSS : SS sa sv (fun _ => False) s H) (hn : As.length = n) (hsize : ls.size = nL) (hstack : st0 = As.reverse ++ rest) (hW : (rest.map fun v => v.category).sum ≤ 8) (hdg : decode cc pc = .ok (.invokestatic index, 3)) (hf : cells ≤ R.cells ∧ slots ≤ R.slots)
    (kk : W p l e R s m args below meth c H locs cells slots Q (F0 m (pc + 3) ls (.int res :: rest))) : W p l e R s m args below meth c H locs cells slots Q (F0 m pc ls st0) := by
  subst hstack
  exact vp_callSi (W.runS S hM (va_cwS2 n S.2.2.2.2 hT hw hrc hrs hd hR) ⟨roS_blind, fun U hU hW' => ⟨rfl, va_nil, hK.warm hW', by rw [hU]; exact hSS.warm hW'⟩⟩ rfl hn hsize rfl (lv_room hW) hdg ⟨hf.1, hf.2⟩) (fun r hr => by subst hr; exact kk)
theorem kTSv (As rest : List Value) (S : CallFix p m c cc nL s args Ts own) (hM : Met l y ws rm (roPcS D cy sa sv As []) (va_Sv (fun _ => True)) 0 0 (fun _ => False)) (hT : GoodIn Ts (va_wsS own index y ws)) (hw : ws = Cond.code y bytes maxL ret :: ws') (hd : y.cls ≠ "java/lang/invoke/MethodHandle" ∧ y.cls ≠ "java/lang/invoke/VarHandle" ∧ (parseMethodDescriptor y.desc).map (fun d => d.parameters.length) = some n) (hR : rm.frames + 1 ≤ R.frames ∧ 8 + (maxL + 11) + rm.locals ≤ R.locals) (hrc : rm.cells = 0) (hrs : rm.slots = 0) (hK : SK D cy s) (hSS : SS sa sv (fun _ => False) s H) (hn : As.length = n) (hsize : ls.size = nL) (hstack : st0 = As.reverse ++ rest) (hW : (rest.map fun v => v.category).sum ≤ 8) (hdg : decode cc pc = .ok (.invokestatic index, 3)) (hf : cells ≤ R.cells ∧ slots ≤ R.slots)
    (kk : W p l e R s m args below meth c H locs cells slots Q (F0 m (pc + 3) ls rest)) : W p l e R s m args below meth c H locs cells slots Q (F0 m pc ls st0) := by
  subst hstack
  exact va_csv (W.runS S hM (va_cwS2 n S.2.2.2.2 hT hw hrc hrs hd hR) ⟨roS_blind, fun U hU hW' => ⟨rfl, va_nil, hK.warm hW', by rw [hU]; exact hSS.warm hW'⟩⟩ rfl hn hsize rfl (lv_room hW) hdg ⟨hf.1, hf.2⟩) (fun _ => kk)
end CLS
theorem hd_J0_coder_7d493 : yJ0_coder_7d493.cls = "java/lang/String" ∧ yJ0_coder_7d493.cls ≠ "java/lang/invoke/MethodHandle" ∧ yJ0_coder_7d493.cls ≠ "java/lang/invoke/VarHandle" ∧ (parseMethodDescriptor yJ0_coder_7d493.desc).map (fun d => d.parameters.length) = some 0 := by decide +kernel
set_option maxHeartbeats 4000000 in
theorem c_J0_coder_7d493 (l : Launch) (D : va_G) (cy : Nat → ClassId) (sa sv : Nat → Nat) (i : Nat) (hi : i < nR) : Met l yJ0_coder_7d493 wo_J0_coder_7d493 ({ frames := 0, cells := 0, slots := 0, locals := 0 }) (roPcS D cy sa sv [.ref (sa i)] []) (vp_Si (fun r => r = 0)) 0 0 (fun _ => False) := by
  refine Met.ofW (cc := cJ0_coder_7d493) (maxL := 1) (ret := (some .byte)) (by decide) rfl ?_
  intro p e s m args below meth c s₁ B hml hv
  obtain ⟨rfl, hP, hKN, hSS⟩ := hv
  have hx := B.exec
  have hb := B.bytes
  have hr := B.returns
  have hts := wt_J0_coder_7d493 hKN.2.2 (([.ref (sa i)] : List Value).toArray)
  have hown : s.vm.findClass RJ0 = some m.cls := findClass_of_methodNamed B.named
  have hlocks := B.notSynchronized
  have hS : va_S (fun _ => False) s.heap s.heap [] := va_S.rf
  have hl := lv_entry ([.ref (sa i)]) (n := 1) (Nat.le_of_ble_eq_true rfl)
  rw [lg_entry_eq]
  generalize (lg_sl ([.ref (sa i)]) ++ List.replicate (1 - (lg_sl ([.ref (sa i)])).length) Slot.unset).toArray = ls at hl ⊢
  have hl : lv_has ls 1 [(0, .ref (sa i))] := hl
  refine va_gets hx hb hSS.2.1 hS hown (hts (.fieldLink RJ0 38 "java/lang/String" "COMPACT_STRINGS" "Z") (by decide +kernel)) (fun _ q => q) dJ0_coder_7d493_0 ?_
  refine lv_if_eq (tgt := 13) hx hb dJ0_coder_7d493_3 (by decide) (fun cd => ?_) (fun cd => ?_)
  · exact absurd cd (by decide)
  · refine lv_aload_n hx hb dJ0_coder_7d493_6 rfl (lv_at hl 0 rfl) ?_
    refine vk_getf hx hb (hSS.1 i hi).2.1 hS hown (hts (.fieldLink RJ0 15 "java/lang/String" "coder" "B") (by decide +kernel)) (fun _ q => q) dJ0_coder_7d493_7 ?_
    refine lv_goto (tgt := 14) hx hb dJ0_coder_7d493_10 (by decide) ?_
    exact W.zret (ty := .byte) (v := 0) hx hb hr rfl (fun t ht _ => ⟨_, rfl, rfl, ht⟩) (fun _ q => by cases q) dJ0_coder_7d493_14
theorem hd_J0_isLatin1_aae02 : yJ0_isLatin1_aae02.cls = "java/lang/String" ∧ yJ0_isLatin1_aae02.cls ≠ "java/lang/invoke/MethodHandle" ∧ yJ0_isLatin1_aae02.cls ≠ "java/lang/invoke/VarHandle" ∧ (parseMethodDescriptor yJ0_isLatin1_aae02.desc).map (fun d => d.parameters.length) = some 0 := by decide +kernel
set_option maxHeartbeats 4000000 in
theorem c_J0_isLatin1_aae02 (l : Launch) (D : va_G) (cy : Nat → ClassId) (sa sv : Nat → Nat) (i : Nat) (hi : i < nR) : Met l yJ0_isLatin1_aae02 wo_J0_isLatin1_aae02 ({ frames := 0, cells := 0, slots := 0, locals := 0 }) (roPcS D cy sa sv [.ref (sa i)] []) (vp_Si (fun r => r = 1)) 0 0 (fun _ => False) := by
  refine Met.ofW (cc := cJ0_isLatin1_aae02) (maxL := 1) (ret := (some .boolean)) (by decide) rfl ?_
  intro p e s m args below meth c s₁ B hml hv
  obtain ⟨rfl, hP, hKN, hSS⟩ := hv
  have hx := B.exec
  have hb := B.bytes
  have hr := B.returns
  have hts := wt_J0_isLatin1_aae02 hKN.2.2 (([.ref (sa i)] : List Value).toArray)
  have hown : s.vm.findClass RJ0 = some m.cls := findClass_of_methodNamed B.named
  have hlocks := B.notSynchronized
  have hS : va_S (fun _ => False) s.heap s.heap [] := va_S.rf
  have hl := lv_entry ([.ref (sa i)]) (n := 1) (Nat.le_of_ble_eq_true rfl)
  rw [lg_entry_eq]
  generalize (lg_sl ([.ref (sa i)]) ++ List.replicate (1 - (lg_sl ([.ref (sa i)])).length) Slot.unset).toArray = ls at hl ⊢
  have hl : lv_has ls 1 [(0, .ref (sa i))] := hl
  refine va_gets hx hb hSS.2.1 hS hown (hts (.fieldLink RJ0 38 "java/lang/String" "COMPACT_STRINGS" "Z") (by decide +kernel)) (fun _ q => q) dJ0_isLatin1_aae02_0 ?_
  refine lv_if_eq (tgt := 17) hx hb dJ0_isLatin1_aae02_3 (by decide) (fun cd => ?_) (fun cd => ?_)
  · exact absurd cd (by decide)
  · refine lv_aload_n hx hb dJ0_isLatin1_aae02_6 rfl (lv_at hl 0 rfl) ?_
    refine vk_getf hx hb (hSS.1 i hi).2.1 hS hown (hts (.fieldLink RJ0 15 "java/lang/String" "coder" "B") (by decide +kernel)) (fun _ q => q) dJ0_isLatin1_aae02_7 ?_
    refine lv_if_ne (tgt := 17) hx hb dJ0_isLatin1_aae02_10 (by decide) (fun cd => ?_) (fun cd => ?_)
    · exact absurd rfl cd
    · refine lv_iconst (v := 1) hx hb dJ0_isLatin1_aae02_13 (by decide) ?_
      refine lv_goto (tgt := 18) hx hb dJ0_isLatin1_aae02_14 (by decide) ?_
      exact W.zret (ty := .boolean) (v := 1) hx hb hr rfl (fun t ht _ => ⟨_, rfl, rfl, ht⟩) (fun _ q => by cases q) dJ0_isLatin1_aae02_18
theorem hd_J0_length_8abf5 : yJ0_length_8abf5.cls = "java/lang/String" ∧ yJ0_length_8abf5.cls ≠ "java/lang/invoke/MethodHandle" ∧ yJ0_length_8abf5.cls ≠ "java/lang/invoke/VarHandle" ∧ (parseMethodDescriptor yJ0_length_8abf5.desc).map (fun d => d.parameters.length) = some 0 := by decide +kernel
set_option maxHeartbeats 4000000 in
theorem c_J0_length_8abf5 (l : Launch) (D : va_G) (cy : Nat → ClassId) (sa sv : Nat → Nat) (i : Nat) (hi : i < nR) : Met l yJ0_length_8abf5 wo_J0_length_8abf5 ({ frames := 1, cells := 0, slots := 0, locals := 20 }) (roPcS D cy sa sv [.ref (sa i)] []) (vp_Si (fun r => r = nI (lenT.getD (cn i) 0))) 0 0 (fun _ => False) := by
  refine Met.ofW (cc := cJ0_length_8abf5) (maxL := 1) (ret := (some .int)) (by decide) rfl ?_
  intro p e s m args below meth c s₁ B hml hv
  obtain ⟨rfl, hP, hKN, hSS⟩ := hv
  have hx := B.exec
  have hb := B.bytes
  have hr := B.returns
  have hts := wt_J0_length_8abf5 hKN.2.2 (([.ref (sa i)] : List Value).toArray)
  have hown : s.vm.findClass RJ0 = some m.cls := findClass_of_methodNamed B.named
  have hlocks := B.notSynchronized
  have hS : va_S (fun _ => False) s.heap s.heap [] := va_S.rf
  have hl := lv_entry ([.ref (sa i)]) (n := 1) (Nat.le_of_ble_eq_true rfl)
  rw [lg_entry_eq]
  generalize (lg_sl ([.ref (sa i)]) ++ List.replicate (1 - (lg_sl ([.ref (sa i)])).length) Slot.unset).toArray = ls at hl ⊢
  have hl : lv_has ls 1 [(0, .ref (sa i))] := hl
  refine lv_aload_n hx hb dJ0_length_8abf5_0 rfl (lv_at hl 0 rfl) ?_
  refine vk_getf hx hb (hSS.1 i hi).2.2.1 hS hown (hts (.fieldLink RJ0 9 "java/lang/String" "value" "[B") (by decide +kernel)) (fun _ q => q) dJ0_length_8abf5_1 ?_
  refine va_tlen hx hb (hSS.1 i hi).2.2.2 hS rfl dJ0_length_8abf5_4 ?_
  refine lv_aload_n hx hb dJ0_length_8abf5_5 rfl (lv_at hl 0 rfl) ?_
  refine kT (i := i) [] [.int (Int32.ofNat (lenT.getD (cn i) 0))] ⟨hx, hb, hml, hown, hts⟩ (c_J0_coder_7d493 l D cy sa sv i hi) gJ0_length_8abf5_J0_coder_7d493 rfl hd_J0_coder_7d493 ⟨Nat.le_of_ble_eq_true rfl, Nat.le_of_ble_eq_true rfl⟩ rfl rfl hKN hSS hi rfl hl.1 rfl (Nat.le_of_ble_eq_true rfl) dJ0_length_8abf5_6 ⟨Nat.le_of_ble_eq_true rfl, Nat.le_of_ble_eq_true rfl⟩ ?_
  refine lv_ishr hx hb dJ0_length_8abf5_9 ?_
  exact W.iret hx hb hr (fun t ht _ => ⟨_, rfl, sb_shr0 _, ht⟩) (fun _ q => by cases q) dJ0_length_8abf5_10
theorem hd_J3_checkIndex_8e157 : yJ3_checkIndex_8e157.cls ≠ "java/lang/invoke/MethodHandle" ∧ yJ3_checkIndex_8e157.cls ≠ "java/lang/invoke/VarHandle" ∧ (parseMethodDescriptor yJ3_checkIndex_8e157.desc).map (fun d => d.parameters.length) = some 3 := by decide +kernel
set_option maxHeartbeats 4000000 in
theorem c_J3_checkIndex_8e157_0 (l : Launch) (D : va_G) (cy : Nat → ClassId) (sa sv : Nat → Nat) (n : Nat) (k : Int32) (hk : vp_in k n) (hn : n < 2 ^ 31) : Met l yJ3_checkIndex_8e157 wo_J3_checkIndex_8e157 ({ frames := 0, cells := 0, slots := 0, locals := 0 }) (roPcS D cy sa sv [.int k, .int (nI n), .null] []) (vp_Si (fun r => r = k)) 0 0 (fun _ => False) := by
  refine Met.ofW (cc := cJ3_checkIndex_8e157) (maxL := 3) (ret := (some .int)) (by decide) rfl ?_
  intro p e s m args below meth c s₁ B hml hv
  obtain ⟨rfl, hP, hKN, hSS⟩ := hv
  have hx := B.exec
  have hb := B.bytes
  have hr := B.returns
  have hts := wt_J3_checkIndex_8e157 hKN.2.2 (([.int k, .int (nI n), .null] : List Value).toArray)
  have hown : s.vm.findClass RJ3 = some m.cls := findClass_of_methodNamed B.named
  have hlocks := B.notSynchronized
  have hS : va_S (fun _ => False) s.heap s.heap [] := va_S.rf
  have hl := lv_entry ([.int k, .int (nI n), .null]) (n := 3) (Nat.le_of_ble_eq_true rfl)
  rw [lg_entry_eq]
  generalize (lg_sl ([.int k, .int (nI n), .null]) ++ List.replicate (3 - (lg_sl ([.int k, .int (nI n), .null])).length) Slot.unset).toArray = ls at hl ⊢
  have hl : lv_has ls 3 [(0, .int k), (1, .int (nI n)), (2, .null)] := hl
  refine lv_iload_n hx hb dJ3_checkIndex_8e157_0 rfl (lv_at hl 0 rfl) ?_
  refine lv_if_lt (tgt := 9) hx hb dJ3_checkIndex_8e157_1 (by decide) (fun cd => ?_) (fun cd => ?_)
  · exact absurd (Or.inl cd) hk
  · refine lv_iload_n hx hb dJ3_checkIndex_8e157_4 rfl (lv_at hl 0 rfl) ?_
    refine lv_iload_n hx hb dJ3_checkIndex_8e157_5 rfl (lv_at hl 1 rfl) ?_
    refine lv_icmp_lt (tgt := 16) hx hb dJ3_checkIndex_8e157_6 (by decide) (fun cd2 => ?_) (fun cd2 => ?_)
    · refine lv_iload_n hx hb dJ3_checkIndex_8e157_16 rfl (lv_at hl 0 rfl) ?_
      exact W.iret hx hb hr (fun t ht _ => ⟨_, rfl, rfl, ht⟩) (fun _ q => by cases q) dJ3_checkIndex_8e157_17
    · obtain ⟨j, hj, rfl⟩ := vp_in_of hk hn
      exact absurd (nI_lt hj hn) cd2
set_option maxHeartbeats 4000000 in
theorem c_J3_checkIndex_8e157_1 (l : Launch) (D : va_G) (cy : Nat → ClassId) (sa sv : Nat → Nat) (n : Nat) (k : Int32) (f : Nat) (hk : vp_in k n) (hn : n < 2 ^ 31) : Met l yJ3_checkIndex_8e157 wo_J3_checkIndex_8e157 ({ frames := 0, cells := 0, slots := 0, locals := 0 }) (roPcS D cy sa sv [.int k, .int (nI n), .ref f] []) (vp_Si (fun r => r = k)) 0 0 (fun _ => False) := by
  refine Met.ofW (cc := cJ3_checkIndex_8e157) (maxL := 3) (ret := (some .int)) (by decide) rfl ?_
  intro p e s m args below meth c s₁ B hml hv
  obtain ⟨rfl, hP, hKN, hSS⟩ := hv
  have hx := B.exec
  have hb := B.bytes
  have hr := B.returns
  have hts := wt_J3_checkIndex_8e157 hKN.2.2 (([.int k, .int (nI n), .ref f] : List Value).toArray)
  have hown : s.vm.findClass RJ3 = some m.cls := findClass_of_methodNamed B.named
  have hlocks := B.notSynchronized
  have hS : va_S (fun _ => False) s.heap s.heap [] := va_S.rf
  have hl := lv_entry ([.int k, .int (nI n), .ref f]) (n := 3) (Nat.le_of_ble_eq_true rfl)
  rw [lg_entry_eq]
  generalize (lg_sl ([.int k, .int (nI n), .ref f]) ++ List.replicate (3 - (lg_sl ([.int k, .int (nI n), .ref f])).length) Slot.unset).toArray = ls at hl ⊢
  have hl : lv_has ls 3 [(0, .int k), (1, .int (nI n)), (2, .ref f)] := hl
  refine lv_iload_n hx hb dJ3_checkIndex_8e157_0 rfl (lv_at hl 0 rfl) ?_
  refine lv_if_lt (tgt := 9) hx hb dJ3_checkIndex_8e157_1 (by decide) (fun cd => ?_) (fun cd => ?_)
  · exact absurd (Or.inl cd) hk
  · refine lv_iload_n hx hb dJ3_checkIndex_8e157_4 rfl (lv_at hl 0 rfl) ?_
    refine lv_iload_n hx hb dJ3_checkIndex_8e157_5 rfl (lv_at hl 1 rfl) ?_
    refine lv_icmp_lt (tgt := 16) hx hb dJ3_checkIndex_8e157_6 (by decide) (fun cd2 => ?_) (fun cd2 => ?_)
    · refine lv_iload_n hx hb dJ3_checkIndex_8e157_16 rfl (lv_at hl 0 rfl) ?_
      exact W.iret hx hb hr (fun t ht _ => ⟨_, rfl, rfl, ht⟩) (fun _ q => by cases q) dJ3_checkIndex_8e157_17
    · obtain ⟨j, hj, rfl⟩ := vp_in_of hk hn
      exact absurd (nI_lt hj hn) cd2
theorem hd_J0_checkIndex_df160 : yJ0_checkIndex_df160.cls ≠ "java/lang/invoke/MethodHandle" ∧ yJ0_checkIndex_df160.cls ≠ "java/lang/invoke/VarHandle" ∧ (parseMethodDescriptor yJ0_checkIndex_df160.desc).map (fun d => d.parameters.length) = some 2 := by decide +kernel
set_option maxHeartbeats 4000000 in
theorem c_J0_checkIndex_df160 (l : Launch) (D : va_G) (cy : Nat → ClassId) (sa sv : Nat → Nat) (n : Nat) (k : Int32) (hk : vp_in k n) (hn : n < 2 ^ 31) : Met l yJ0_checkIndex_df160 wo_J0_checkIndex_df160 ({ frames := 1, cells := 0, slots := 0, locals := 22 }) (roPcS D cy sa sv [.int k, .int (nI n)] []) (va_Sv (fun _ => True)) 0 0 (fun _ => False) := by
  refine Met.ofW (cc := cJ0_checkIndex_df160) (maxL := 2) (ret := none) (by decide) rfl ?_
  intro p e s m args below meth c s₁ B hml hv
  obtain ⟨rfl, hP, hKN, hSS⟩ := hv
  have hx := B.exec
  have hb := B.bytes
  have hr := B.returns
  have hts := wt_J0_checkIndex_df160 hKN.2.2 (([.int k, .int (nI n)] : List Value).toArray)
  have hown : s.vm.findClass RJ0 = some m.cls := findClass_of_methodNamed B.named
  have hlocks := B.notSynchronized
  have hS : va_S (fun _ => False) s.heap s.heap [] := va_S.rf
  have hl := lv_entry ([.int k, .int (nI n)]) (n := 2) (Nat.le_of_ble_eq_true rfl)
  rw [lg_entry_eq]
  generalize (lg_sl ([.int k, .int (nI n)]) ++ List.replicate (2 - (lg_sl ([.int k, .int (nI n)])).length) Slot.unset).toArray = ls at hl ⊢
  have hl : lv_has ls 2 [(0, .int k), (1, .int (nI n))] := hl
  refine lv_iload_n hx hb dJ0_checkIndex_df160_0 rfl (lv_at hl 0 rfl) ?_
  refine lv_iload_n hx hb dJ0_checkIndex_df160_1 rfl (lv_at hl 1 rfl) ?_
  rcases hSS.2.2.1 with hz | ⟨t, hz⟩
  · refine va_gets hx hb hz hS hown (hts (.fieldLink RJ0 1053 "jdk/internal/util/Preconditions" "SIOOBE_FORMATTER" "Ljava/util/function/BiFunction;") (by decide +kernel)) (fun _ q => q) dJ0_checkIndex_df160_2 ?_
    refine kTS [.int k, .int (nI n), .null] [] ⟨hx, hb, hml, hown, hts⟩ (c_J3_checkIndex_8e157_0 l D cy sa sv n k hk hn) gJ0_checkIndex_df160_J3_checkIndex_8e157 rfl hd_J3_checkIndex_8e157 ⟨Nat.le_of_ble_eq_true rfl, Nat.le_of_ble_eq_true rfl⟩ rfl rfl hKN hSS rfl hl.1 rfl (Nat.le_of_ble_eq_true rfl) dJ0_checkIndex_df160_5 ⟨Nat.le_of_ble_eq_true rfl, Nat.le_of_ble_eq_true rfl⟩ ?_
    refine lv_pop hx hb dJ0_checkIndex_df160_8 rfl ?_
    exact W.vret hx hb hr (fun t ht _ => ⟨rfl, trivial, ht⟩) (fun _ q => by cases q) dJ0_checkIndex_df160_9
  · refine va_gets hx hb hz hS hown (hts (.fieldLink RJ0 1053 "jdk/internal/util/Preconditions" "SIOOBE_FORMATTER" "Ljava/util/function/BiFunction;") (by decide +kernel)) (fun _ q => q) dJ0_checkIndex_df160_2 ?_
    refine kTS [.int k, .int (nI n), .ref t] [] ⟨hx, hb, hml, hown, hts⟩ (c_J3_checkIndex_8e157_1 l D cy sa sv n k t hk hn) gJ0_checkIndex_df160_J3_checkIndex_8e157 rfl hd_J3_checkIndex_8e157 ⟨Nat.le_of_ble_eq_true rfl, Nat.le_of_ble_eq_true rfl⟩ rfl rfl hKN hSS rfl hl.1 rfl (Nat.le_of_ble_eq_true rfl) dJ0_checkIndex_df160_5 ⟨Nat.le_of_ble_eq_true rfl, Nat.le_of_ble_eq_true rfl⟩ ?_
    refine lv_pop hx hb dJ0_checkIndex_df160_8 rfl ?_
    exact W.vret hx hb hr (fun t ht _ => ⟨rfl, trivial, ht⟩) (fun _ q => by cases q) dJ0_checkIndex_df160_9
theorem hd_J1_charAt_3b067 : yJ1_charAt_3b067.cls ≠ "java/lang/invoke/MethodHandle" ∧ yJ1_charAt_3b067.cls ≠ "java/lang/invoke/VarHandle" ∧ (parseMethodDescriptor yJ1_charAt_3b067.desc).map (fun d => d.parameters.length) = some 2 := by decide +kernel
set_option maxHeartbeats 4000000 in
theorem c_J1_charAt_3b067 (l : Launch) (D : va_G) (cy : Nat → ClassId) (sa sv : Nat → Nat) (i : Nat) (hi : i < nR) (k : Int32) (hk : vp_in k (lenT.getD (cn i) 0)) : Met l yJ1_charAt_3b067 wo_J1_charAt_3b067 ({ frames := 2, cells := 0, slots := 0, locals := 45 }) (roPcS D cy sa sv [.ref (sv i), .int k] []) (vp_Si (fun r => r = sch (cn i) k.toNatClampNeg)) 0 0 (fun _ => False) := by
  refine Met.ofW (cc := cJ1_charAt_3b067) (maxL := 2) (ret := (some .char)) (by decide) rfl ?_
  intro p e s m args below meth c s₁ B hml hv
  obtain ⟨rfl, hP, hKN, hSS⟩ := hv
  have hx := B.exec
  have hb := B.bytes
  have hr := B.returns
  have hts := wt_J1_charAt_3b067 hKN.2.2 (([.ref (sv i), .int k] : List Value).toArray)
  have hown : s.vm.findClass RJ1 = some m.cls := findClass_of_methodNamed B.named
  have hlocks := B.notSynchronized
  have hS : va_S (fun _ => False) s.heap s.heap [] := va_S.rf
  have hl := lv_entry ([.ref (sv i), .int k]) (n := 2) (Nat.le_of_ble_eq_true rfl)
  rw [lg_entry_eq]
  generalize (lg_sl ([.ref (sv i), .int k]) ++ List.replicate (2 - (lg_sl ([.ref (sv i), .int k])).length) Slot.unset).toArray = ls at hl ⊢
  have hl : lv_has ls 2 [(0, .ref (sv i)), (1, .int k)] := hl
  have hlen : lenT.getD (cn i) 0 < 2 ^ 31 := by rw [(sch_all (cn i) (cn_lt i hi)).1]; exact (sch_all (cn i) (cn_lt i hi)).2
  refine lv_iload_n hx hb dJ1_charAt_3b067_0 rfl (lv_at hl 1 rfl) ?_
  refine lv_aload_n hx hb dJ1_charAt_3b067_1 rfl (lv_at hl 0 rfl) ?_
  refine va_tlen (v := nI (lenT.getD (cn i) 0)) hx hb (hSS.1 i hi).2.2.2 hS rfl dJ1_charAt_3b067_2 ?_
  refine kTSv [.int k, .int (nI (lenT.getD (cn i) 0))] [] ⟨hx, hb, hml, hown, hts⟩ (c_J0_checkIndex_df160 l D cy sa sv (lenT.getD (cn i) 0) k hk hlen) gJ1_charAt_3b067_J0_checkIndex_df160 rfl hd_J0_checkIndex_df160 ⟨Nat.le_of_ble_eq_true rfl, Nat.le_of_ble_eq_true rfl⟩ rfl rfl hKN hSS rfl hl.1 rfl (Nat.le_of_ble_eq_true rfl) dJ1_charAt_3b067_3 ⟨Nat.le_of_ble_eq_true rfl, Nat.le_of_ble_eq_true rfl⟩ ?_
  refine lv_aload_n hx hb dJ1_charAt_3b067_6 rfl (lv_at hl 0 rfl) ?_
  refine lv_iload_n hx hb dJ1_charAt_3b067_7 rfl (lv_at hl 1 rfl) ?_
  refine va_tb hx hb (hSS.1 i hi).2.2.2 hS hk rfl dJ1_charAt_3b067_8 ?_
  refine lv_sipush (v := 255) hx hb dJ1_charAt_3b067_9 (by decide) ?_
  refine lv_iand hx hb dJ1_charAt_3b067_12 ?_
  refine lv_i2c (v := sch (cn i) k.toNatClampNeg) hx hb dJ1_charAt_3b067_13 (sc_c2 _) ?_
  exact W.zret (ty := .char) hx hb hr (sc_nar _) (fun t ht _ => ⟨_, rfl, rfl, ht⟩) (fun _ q => by cases q) dJ1_charAt_3b067_14
theorem hd_J0_charAt_5068e : yJ0_charAt_5068e.cls = "java/lang/String" ∧ yJ0_charAt_5068e.cls ≠ "java/lang/invoke/MethodHandle" ∧ yJ0_charAt_5068e.cls ≠ "java/lang/invoke/VarHandle" ∧ (parseMethodDescriptor yJ0_charAt_5068e.desc).map (fun d => d.parameters.length) = some 1 := by decide +kernel
set_option maxHeartbeats 4000000 in
theorem c_J0_charAt_5068e (l : Launch) (D : va_G) (cy : Nat → ClassId) (sa sv : Nat → Nat) (i : Nat) (hi : i < nR) (k : Int32) (hk : vp_in k (lenT.getD (cn i) 0)) : Met l yJ0_charAt_5068e wo_J0_charAt_5068e ({ frames := 3, cells := 0, slots := 0, locals := 70 }) (roPcS D cy sa sv [.ref (sa i), .int k] []) (vp_Si (fun r => r = sch (cn i) k.toNatClampNeg)) 0 0 (fun _ => False) := by
  refine Met.ofW (cc := cJ0_charAt_5068e) (maxL := 2) (ret := (some .char)) (by decide) rfl ?_
  intro p e s m args below meth c s₁ B hml hv
  obtain ⟨rfl, hP, hKN, hSS⟩ := hv
  have hx := B.exec
  have hb := B.bytes
  have hr := B.returns
  have hts := wt_J0_charAt_5068e hKN.2.2 (([.ref (sa i), .int k] : List Value).toArray)
  have hown : s.vm.findClass RJ0 = some m.cls := findClass_of_methodNamed B.named
  have hlocks := B.notSynchronized
  have hS : va_S (fun _ => False) s.heap s.heap [] := va_S.rf
  have hl := lv_entry ([.ref (sa i), .int k]) (n := 2) (Nat.le_of_ble_eq_true rfl)
  rw [lg_entry_eq]
  generalize (lg_sl ([.ref (sa i), .int k]) ++ List.replicate (2 - (lg_sl ([.ref (sa i), .int k])).length) Slot.unset).toArray = ls at hl ⊢
  have hl : lv_has ls 2 [(0, .ref (sa i)), (1, .int k)] := hl
  refine lv_aload_n hx hb dJ0_charAt_5068e_0 rfl (lv_at hl 0 rfl) ?_
  refine kT (i := i) [] [] ⟨hx, hb, hml, hown, hts⟩ (c_J0_isLatin1_aae02 l D cy sa sv i hi) gJ0_charAt_5068e_J0_isLatin1_aae02 rfl hd_J0_isLatin1_aae02 ⟨Nat.le_of_ble_eq_true rfl, Nat.le_of_ble_eq_true rfl⟩ rfl rfl hKN hSS hi rfl hl.1 rfl (Nat.le_of_ble_eq_true rfl) dJ0_charAt_5068e_1 ⟨Nat.le_of_ble_eq_true rfl, Nat.le_of_ble_eq_true rfl⟩ ?_
  refine lv_if_eq (tgt := 16) hx hb dJ0_charAt_5068e_4 (by decide) (fun cd => ?_) (fun cd => ?_)
  · exact absurd cd (by decide)
  · refine lv_aload_n hx hb dJ0_charAt_5068e_7 rfl (lv_at hl 0 rfl) ?_
    refine vk_getf hx hb (hSS.1 i hi).2.2.1 hS hown (hts (.fieldLink RJ0 9 "java/lang/String" "value" "[B") (by decide +kernel)) (fun _ q => q) dJ0_charAt_5068e_8 ?_
    refine lv_iload_n hx hb dJ0_charAt_5068e_11 rfl (lv_at hl 1 rfl) ?_
    refine kTS [.ref (sv i), .int k] [] ⟨hx, hb, hml, hown, hts⟩ (c_J1_charAt_3b067 l D cy sa sv i hi k hk) gJ0_charAt_5068e_J1_charAt_3b067 rfl hd_J1_charAt_3b067 ⟨Nat.le_of_ble_eq_true rfl, Nat.le_of_ble_eq_true rfl⟩ rfl rfl hKN hSS rfl hl.1 rfl (Nat.le_of_ble_eq_true rfl) dJ0_charAt_5068e_12 ⟨Nat.le_of_ble_eq_true rfl, Nat.le_of_ble_eq_true rfl⟩ ?_
    exact W.zret (ty := .char) hx hb hr (sc_nar _) (fun t ht _ => ⟨_, rfl, rfl, ht⟩) (fun _ q => by cases q) dJ0_charAt_5068e_15
