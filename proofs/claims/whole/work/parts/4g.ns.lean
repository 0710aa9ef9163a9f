def nsCh : List Cond := Bundle.passSAtoms "java/util/NoSuchElementException" "java/lang/RuntimeException" 13 prog_30_method_4_code ++ Bundle.chainSAtoms "java/lang/RuntimeException" ["java/lang/Exception"]
/-- the object's fields that the constructors write or read, by name and type -/
def nsFs : List (String × String) := [("backtrace", "Ljava/lang/Object;"), ("cause", "Ljava/lang/Throwable;"), ("detailMessage", "Ljava/lang/String;"), ("stackTrace", Bundle.steD), ("suppressedExceptions", Bundle.listD)]
/-- the statics that they read -/
def nsSt : List (String × String) := [("SUPPRESSED_SENTINEL", Bundle.listD), ("UNASSIGNED_STACK", Bundle.steD)]
/-- the words under which NoSuchElementException's constructor is walked: its chain first (entry 13, then 7 and 7), then what is asked of the class, then what is asked of Throwable -/
def nsA (own : String) (ic : Nat) : List Cond :=
  nsCh ++ (Cond.castable "java/util/NoSuchElementException" "java/util/NoSuchElementException" :: Cond.instantiable "java/util/NoSuchElementException" 6 :: Cond.methodLink own ic (Bundle.initS "java/util/NoSuchElementException") :: (nsFs.map (fun z => Cond.lays "java/util/NoSuchElementException" Bundle.tN z.1 z.2) ++ ([Bundle.tFill, Bundle.tFill0].map (fun y => Cond.selects "java/util/NoSuchElementException" y y) ++
    (Cond.lays Bundle.tN Bundle.tN "backtrace" "Ljava/lang/Object;" :: Cond.fieldLink Bundle.tN 198 Bundle.tN "backtrace" "Ljava/lang/Object;" :: (nsSt.map (fun z => Cond.isRef (.static Bundle.tN z.1 z.2)) ++ (Bundle.throwableSAtoms ++ Bundle.throwableAtoms))))))
section SecA
variable {p : Program} {l : Launch} {e : Env} {R : Room} {s : State} {m : MethodId} {args : Array Value} {below : List Frame} {meth : Method} {c : Code} {U : State} {locs : List Loc} {cells slots : Nat}
/-- a method that a class selects for itself, by its word -/
theorem ns_pick (X : Stand p l e R s m args below meth c U locs cells slots) {C : String} {k : ClassId} {y : MethodName} {q : MethodId} (hC : s.vm.findClass C = some k) (hq : s.methodNamed? y = some q)
    (hy : y.cls ≠ "java/lang/invoke/MethodHandle" ∧ y.cls ≠ "java/lang/invoke/VarHandle") (w : (Cond.selects C y y).before args s = true) : selectMethod e.platform s.vm k q = .method q := by
  obtain ⟨k1, r1, q1, i1, i2, i3, i4, -⟩ := Cond.selects_spec w
  have hk1 : k1 = k := Option.some.inj (i1.symm.trans hC)
  have hr1 : r1 = q := Option.some.inj (i2.symm.trans (State.methodFound?_of_named hq hy))
  have hq1 : q1 = q := Option.some.inj (i3.symm.trans hq)
  rw [hk1, hr1, hq1] at i4
  exact (Launch.admits_selectMethod X.admits s.vm k q).trans i4
/-- a class's statics, as they were at the start: nothing old has been written -/
theorem ns_old (X : Stand p l e R s m args below meth c U [] cells slots) {q : Addr} {x : Cell} (hx : s.heap[q]? = some x) (hs : x.vm.isStatics = true) :
    ∃ y, U.heap[q]? = some y ∧ y.vm ≠ .unknown ∧ ∀ i : Nat, y.slots[i]? = x.slots[i]? := by
  obtain ⟨y, h1, h2, -, h3⟩ := X.same.2.2.2.2.2 q x hx
  have hv : y.vm = x.vm := (congrArg Cell.vm h2).trans rfl
  exact ⟨y, h1, fun h => (by rw [← hv, h] at hs; cases hs), fun i => h3 i List.not_mem_nil⟩
/-- 'backtrace' of a new exception is null when the constructor asks for it -/
theorem ns_skip {T : ThrowableC} {Z0 : Init0T} (L : T.Links e.platform s) (Y : Bundle.Ties T Z0 s) (hpl : e.platform.magicAccessors = ({} : Platform).magicAccessors) {C : String} {k : ClassId} {kk : Class}
    (hC : s.vm.findClass C = some k) (hk : s.vm.classes[k]? = some kk) (w1 : (Cond.fieldLink Bundle.tN 198 Bundle.tN "backtrace" "Ljava/lang/Object;").before args s = true) (w2 : (Cond.lays Bundle.tN Bundle.tN "backtrace" "Ljava/lang/Object;").before args s = true)
    (wb : (Cond.lays C Bundle.tN "backtrace" "Ljava/lang/Object;").before args s = true) (wc : (Cond.lays C Bundle.tN "cause" "Ljava/lang/Throwable;").before args s = true)
    (wt : (Cond.lays C Bundle.tN "stackTrace" Bundle.steD).before args s = true) (wp : (Cond.lays C Bundle.tN "suppressedExceptions" Bundle.listD).before args s = true) (q : Addr) (u v : RefV) (n : ThreadId) :
    SkipFacts T e.platform s (fun z => z) u ((preparedCellV T.toThrowableT (freshCell k kk) q u v).withEntry n) := by
  obtain ⟨j, i, f, b1, b2, b3, b4, -, b5, b6, b7⟩ := Cond.ownField (t := .object "java/lang/Object") Y.found L.cls (by decide +kernel) w1 w2 e.platform hpl
  obtain ⟨tb, db, eb, nb⟩ := Cond.laysAt hC hk b7 wb
  obtain ⟨-, dc, ec, nc⟩ := Cond.laysAt hC hk Y.cause wc
  obtain ⟨-, dt, et, nt⟩ := Cond.laysAt hC hk Y.stack wt
  obtain ⟨-, dp, ep, np⟩ := Cond.laysAt hC hk Y.supp wp
  have o1 : T.fCause.slot ≠ f.slot := Cond.laysApart ec eb nc nb (by rw [Y.causeName, b5]; decide)
  have o2 : T.fStack.slot ≠ f.slot := Cond.laysApart et eb nt nb (by rw [Y.stackName, b5]; decide)
  have o3 : T.fSupp.slot ≠ f.slot := Cond.laysApart ep eb np nb (by rw [Y.suppName, b5]; decide)
  have hn : (freshCell k kk).slots[f.slot]? = some .null := (fresh_default tb).trans (by rw [b6]; rfl)
  refine ⟨⟨j, i, f⟩, ⟨b1, b2, b3, b4⟩, ?_, fun _ _ => rfl⟩
  show ((((freshCell k kk).slots.setIfInBounds T.fCause.slot (.ref q)).setIfInBounds T.fStack.slot u.v).setIfInBounds T.fSupp.slot v.v)[f.slot]? = some .null
  rw [Array.getElem?_setIfInBounds_ne o3, Array.getElem?_setIfInBounds_ne o2, Array.getElem?_setIfInBounds_ne o1]
  exact hn
/-- the constructor's call and athrow behind it: the new object is thrown out of the method -/
theorem nsCtor (X : Stand p l e R s m args below meth c U [] cells slots) (hexec : p.tables.exec = Jvm.exec) (htr : e.platform.stackTraces = false) {own : String} {ic : Nat} (hown : s.vm.findClass own = some m.cls)
    (h : ∀ w ∈ nsA own ic, w.before args s = true) {q : Addr} {k : ClassId} {kk : Class} (hC : s.vm.findClass "java/util/NoSuchElementException" = some k) (hk : s.vm.classes[k]? = some kk)
    (hq : U.heap[q]? = some (freshCell k kk)) (hnew : s.heap.size ≤ q) {v : Value} (hv : v.isRef = true)
    {g : JFrame} (hg : g.method = m) (hsize : g.locals.size = c.maxLocals) (hlocked : g.locked = none) (hentered : g.entered = []) {rest : List Value} (hstack : g.stack = v :: .ref q :: .ref q :: rest)
    (hd : decode c.code g.pc = .ok (.invokespecial ic, 3)) (hd3 : decode c.code (g.pc + 3) = .ok (.athrow, 1)) (hout : ∀ x ∈ c.exceptionTable.toList, covers x (g.pc + 3) = false)
    (hRf : 5 < R.frames) (hRl : 2 * g.monitorRoom + ((Value.ref q :: rest).map fun v => v.category).sum + 81 ≤ R.locals) (hlocks : meth.locks = false) :
    ∃ V : State, Steps p.tables e below (U.setTop g) V ∧ V.status = .running ∧ Ended V below (.threw q) ∧ s.WarmedH V.vm ∧ s.sameButNew ({ V with vm := s.vm } : State) [] cells slots ∧ ∃ x, V.heap[q]? = some x ∧ x.vm = .none ∧ x.cls = k := by
  have hpl : e.platform.magicAccessors = ({} : Platform).magicAccessors := by rw [X.admits.platform]
  obtain ⟨T, Z0, L, -, Y⟩ := ThrowableC.of_atoms (args := args) (s := s) (pl := e.platform) (by rw [X.admits.platform]) (by rw [X.admits.platform]) hpl (fun w hw => h w (by simp [nsA, hw]))
  obtain ⟨Z, M, LZ, LM, htop⟩ := Init0T.ofS_atoms (args := args) hpl L Y (fun w hw => h w (by simp [nsA, hw]))
  obtain ⟨P, LP, hP, hPs⟩ := PassC.ofS_atoms (args := args) (s := s) hpl (X := "java/util/NoSuchElementException") (Y := "java/lang/RuntimeException") (index := 13) (bytes := prog_30_method_4_code) (by decide +kernel) (by decide +kernel) (by decide +kernel) (by decide +kernel) (by decide +kernel) (by decide +kernel) (fun w hw => h w (List.mem_append_left _ (List.mem_append_left _ hw)))
  obtain ⟨P2, P3, hlen, LP2, LP3, hP2, hup⟩ := Bundle.chainS (args := args) hpl htop ["java/lang/Exception"] "java/lang/RuntimeException" (by decide +kernel) (by decide +kernel) (fun w hw => h w (List.mem_append_left _ (List.mem_append_right _ hw)))
  have hall : (P :: P2 :: P3).length = 3 := by simp [hlen]
  have hPk : P.m.cls = k := Option.some.inj ((findClass_of_methodNamed hP).symm.trans hC)
  obtain ⟨k1, kk1, j1, j2, hord, -, -, -⟩ := Cond.instantiable_spec (h (.instantiable "java/util/NoSuchElementException" 6) (by simp [nsA, nsFs, nsSt]))
  rw [Option.some.inj (j1.symm.trans hC)] at j2
  rw [Option.some.inj (j2.symm.trans hk)] at hord
  -- what the superclass's statics hold
  obtain ⟨x, hx, hxs⟩ := Y.statics
  obtain ⟨y, hy, hyu, hyx⟩ := ns_old X hx hxs
  obtain ⟨ua, hua⟩ := Cond.staticRefV Y.unassigned L.unassignedStatic L.statics hx hxs (h (.isRef (.static Bundle.tN "UNASSIGNED_STACK" Bundle.steD)) (by simp [nsA, nsFs, nsSt]))
  obtain ⟨us, hus⟩ := Cond.staticRefV Y.sentinel L.sentinelStatic L.statics hx hxs (h (.isRef (.static Bundle.tN "SUPPRESSED_SENTINEL" Bundle.listD)) (by simp [nsA, nsFs, nsSt]))
  have hne : T.aS ≠ q := Nat.ne_of_lt (Nat.lt_of_lt_of_le (Array.getElem?_eq_some_iff.mp hx).1 hnew)
  -- where the object keeps what the constructor writes
  obtain ⟨jm, hjm⟩ := Y.msg
  have wc := h (.lays "java/util/NoSuchElementException" Bundle.tN "cause" "Ljava/lang/Throwable;") (by simp [nsA, nsFs, nsSt])
  have wt := h (.lays "java/util/NoSuchElementException" Bundle.tN "stackTrace" Bundle.steD) (by simp [nsA, nsFs, nsSt])
  have wp := h (.lays "java/util/NoSuchElementException" Bundle.tN "suppressedExceptions" Bundle.listD) (by simp [nsA, nsFs, nsSt])
  have wm := h (.lays "java/util/NoSuchElementException" Bundle.tN "detailMessage" "Ljava/lang/String;") (by simp [nsA, nsFs, nsSt])
  have kc : Takes s (freshCell k kk) T.fCause (.ref q) := Takes.of_laid hk hord (Cond.laysAt hC hk Y.cause wc).1 (by rw [Y.causeType]; rfl)
  have kt : Takes s (freshCell k kk) T.fStack ua.v := Takes.of_laid hk hord (Cond.laysAt hC hk Y.stack wt).1 (by rw [Y.stackType]; exact fits_refV_array _ ua)
  have kp : Takes s (freshCell k kk) T.fSupp us.v := Takes.of_laid hk hord (Cond.laysAt hC hk Y.supp wp).1 (by rw [Y.suppType]; exact fits_refV_object _ us)
  have km : Takes s (freshCell k kk) T.fMsg v := Takes.of_laid hk hord (Cond.laysAt hC hk hjm wm).1 (by rw [Y.msgType]; exact fits_refV_object _ ⟨v, hv⟩)
  have hsk := ns_skip (args := args) L Y hpl hC hk (h _ (by simp [nsA, nsFs, nsSt])) (h _ (by simp [nsA, nsFs, nsSt])) (h (.lays "java/util/NoSuchElementException" Bundle.tN "backtrace" "Ljava/lang/Object;") (by simp [nsA, nsFs, nsSt])) wc wt wp q ua us U.cur
  -- the call
  obtain ⟨tm, _, _, _, vm1, htm, -, -, -, -, -, -, -, hW1, st1⟩ := Steps.initColdS (tb := p.tables) (e := e) (below := below) (s := s) (U := U) X.here hexec X.warmed hpl hown (t := Bundle.initS "java/util/NoSuchElementException") rfl rfl (by decide +kernel)
    (h _ (by simp [nsA, nsFs, nsSt])) (h _ (by simp [nsA, nsCh, Bundle.passSAtoms])) (bytes := prog_30_method_4_code) (maxL := 2) (h _ (by simp [nsA, nsCh, Bundle.passSAtoms])) (f := g) hg (a := q) (msg := v) (rest := .ref q :: rest) hstack hd
  have htP : tm = P.m := Option.some.inj (htm.symm.trans hP)
  rw [htP] at st1
  have X1 := X.noted hW1
  obtain ⟨vm2, X2, st2⟩ := X1.ctorMessageOffV hexec (g := { g with stack := .ref q :: rest }) hg hsize T L Z LZ M LM (P :: P2 :: P3) (List.forall_mem_cons.mpr ⟨LP, List.forall_mem_cons.mpr ⟨LP2, LP3⟩⟩) ⟨Option.some.inj (hPs.symm.trans hP2), hup⟩ (u0 := ua) (sen := us) (self := q) (msg := v) hv hq
    (fun _ hz => by cases hz) (fun hz => by cases hz) rfl rfl (ns_pick X hC Y.fill0 (by decide) (h _ (by simp [nsA, nsFs, nsSt]))) (ns_pick X hC Y.fill (by decide) (h _ (by simp [nsA, nsFs, nsSt]))) hy hne hyu ((hyx _).trans hua) ((hyx _).trans hus) kc kt kp km Y.objLocals hsk htr [] hd
    (by rw [hall]; exact hRf) (by rw [hall]; exact hRl)
  -- athrow, and out
  obtain ⟨w1, w2, w3, w4, w5⟩ := X2.athrowLeaves hexec (g := { g with stack := .ref q :: rest, pc := g.pc + 3 }) hg hlocked hentered hout (a := q) (rest := rest) rfl hd3 hlocks
  have hlt : q < ((U.setVm vm1).setVm vm2).heap.size := (Array.getElem?_eq_some_iff.mp hq).1
  refine ⟨_, st1 _ (fun acts => ?_), w2, w3, w4, w5.weaken (fun z hz hl => ?_) (Nat.le_refl _) (Nat.le_refl _), _, heapAt_setCell_self (s := (U.setVm vm1).setVm vm2) (plainBareV T.toThrowableT (freshCell k kk) q ua us v) hlt, rfl, rfl⟩
  · rw [doInvoke_state]
    exact st2 _ w1
  · have hb : z.base = q := by
      simp only [List.nil_append, List.mem_cons, List.not_mem_nil, or_false] at hz
      rcases hz with hz | hz | hz | hz | hz <;> rw [hz]
    exact absurd (hb ▸ hl) (Nat.not_lt.mpr hnew)
end SecA
section SecB
variable {p : Program} {l : Launch} {e : Env} {R : Room} {s : State} {m : MethodId} {args : Array Value} {below : List Frame} {meth : Method} {c : Code} {H : Heap} {locs : List Loc} {cells slots : Nat} {Q : State → Prop}
variable {mc ms : Nat} {free : Addr → Prop} {A0 A1 : Nat → Prop} {H0 : Heap} {a : Array Value} {ls : Array Slot} {st0 rest : List Value}
variable {Qc : Array Value → State → Outcome → State → Prop} {XC : String → State → State → Prop}
theorem nsThrow {cc : ByteArray} {pc : Nat} (hexec : p.tables.exec = Jvm.exec) (hb : c.code = cc) (hl : l.stackTraces = false) {own text : String} {ik is ic mc ms sa : Nat} {A : Nat → Prop}
    (hown : s.vm.findClass own = some m.cls) 
    (hk : (Cond.classLink own ik "java/util/NoSuchElementException").before args s = true) (hini : (Cond.initialized "java/util/NoSuchElementException").before args s = true) (hstr : vk_R own is text sa s) (hat : ∀ w ∈ (nsA own ic).filter vx_no, w.before args s = true)
    (hgood : ∀ w ∈ Cond.classLink own ik "java/util/NoSuchElementException" :: Cond.initialized "java/util/NoSuchElementException" :: (nsA own ic).filter vx_no, vx_ot w = true)
    (hU : vx_Zq Bundle.tN "UNASSIGNED_STACK" Bundle.steD A s s.heap) (hN : vx_Zq Bundle.tN "SUPPRESSED_SENTINEL" Bundle.listD A s s.heap) (hS : va_S A s.heap H locs) (hsize : ls.size = c.maxLocals)
    (d0 : decode cc pc = .ok (.new ik, 3)) (d3 : decode cc (pc + 3) = .ok (.dup, 1)) (d4 : decode cc (pc + 4) = .ok (.ldc_w is, 3)) (d7 : decode cc (pc + 7) = .ok (.invokespecial ic, 3)) (d10 : decode cc (pc + 10) = .ok (.athrow, 1))
    (hout : ∀ x ∈ c.exceptionTable.toList, covers x (pc + 10) = false)
    (hRframes : 2 + 3 < R.frames) (hRlocals : (rest.map fun v => v.category).sum + (13 * (2 + 1) + 43) ≤ R.locals) (hRcells : cells + 1 ≤ R.cells) (hRslots : slots + 6 ≤ R.slots) (hlocks : meth.locks = false)
    (hx : ∀ t : State, s.vm.Alike t.vm → H.size ≤ t.heap.size → (∀ q : Nat, q < H.size → t.heap[q]? = H[q]?) → XC "java/util/NoSuchElementException" s t)
    (hf : ∀ z ∈ locs, free z.base) (hc : cells + 1 ≤ mc) (hs : slots + 6 ≤ ms) :
    W p l e R s m args below meth c H locs cells slots (vx_MQ below Qc XC args s mc ms free) (F0 m pc ls rest) := by
  intro T hT X
  have htr : e.platform.stackTraces = false := (show e.platform.stackTraces = l.stackTraces by rw [X.admits.platform]).trans hl
  have Y := vx_rebase X (R' := { frames := R.frames, locals := R.locals, cells := 1, slots := 6 }) (Nat.le_refl _) (Nat.le_refl _) hRcells hRslots
  obtain ⟨s', hA⟩ : ∃ z, z = (T.setVm s.vm).setFrames (.invoking m args :: below) := ⟨_, rfl⟩
  rw [← hA] at Y
  have hvm : s'.vm = s.vm := by rw [hA]; rfl
  have hhp : s'.heap = H := by rw [hA]; exact hT
  have hW0 : s.WarmedH s'.vm := by rw [hvm]; exact State.WarmedH.refl s
  have hat' : ∀ w ∈ (nsA own ic).filter vx_no, w.before args s' = true := fun w hw => vx_ot_at hW0 hvm.symm (hgood w (List.mem_cons_of_mem _ (List.mem_cons_of_mem _ hw))) (hat w hw)
  have hk' : (Cond.classLink own ik "java/util/NoSuchElementException").before args s' = true := vx_ot_at hW0 hvm.symm (hgood _ List.mem_cons_self) hk
  have hini' : (Cond.initialized "java/util/NoSuchElementException").before args s' = true := vx_ot_at hW0 hvm.symm (hgood _ (List.mem_cons_of_mem _ List.mem_cons_self)) hini
  have hU' : vx_Zq Bundle.tN "UNASSIGNED_STACK" Bundle.steD A s' s'.heap := by rw [hhp]; exact vx_Zq.moved hW0.alike (hU.kept hS.2.1)
  have hN' : vx_Zq Bundle.tN "SUPPRESSED_SENTINEL" Bundle.listD A s' s'.heap := by rw [hhp]; exact vx_Zq.moved hW0.alike (hN.kept hS.2.1)
  have h : ∀ w ∈ nsA own ic, w.before args s' = true := vx_own hat' (vx_isRefq hU'.1) (vx_isRefq hN'.1) hU'.2.word hN'.2.word
  have hown' : s'.vm.findClass own = some m.cls := by rw [hvm]; exact hown
  have hins : (Cond.instantiable "java/util/NoSuchElementException" 6).before args s' = true := h _ (by simp [nsA, nsFs, nsSt])
  obtain ⟨vm₁, cX, kX, hfX, hkX, -, -, X₁, st1⟩ := Y.newCold hexec (own := own) (C := "java/util/NoSuchElementException") (index := ik) (n := 6) hown' hk' hins hini'
    (g := F0 m pc ls rest) rfl (by rw [hb]; exact d0) (Nat.le_refl _) (Nat.le_refl _)
  generalize hT1 : (T.setVm vm₁).pushCell { cls := cX, slots := kX.instanceTypes.map defaultValue, vm := .none } = T1 at X₁ st1
  have hcat : (Value.ref T.heap.size).category = 1 := rfl
  have hcellA : T1.heap[T.heap.size]? = some (freshCell cX kX) := by rw [← hT1]; exact State.heap_pushCell_size _ _
  have d3' : decode c.code (pc + 3) = .ok (.dup, 1) := by rw [hb]; exact d3
  have d4' : decode c.code (pc + 4) = .ok (.ldc_w is, 3) := by rw [hb]; exact d4
  have hstr' : vk_R own is text sa s' := vk_R.warm hW0 hstr
  obtain ⟨U, hsteps, hrun, hend, hW, hsame, ce, hce, hcv, hck⟩ := nsCtor X₁ hexec htr (own := own) (ic := ic) hown' h hfX hkX hcellA (by rw [hhp, hT]; exact Nat.le_refl _) (v := .ref sa) rfl
    (g := { method := m, pc := pc + 7, locals := ls, stack := .ref sa :: .ref T.heap.size :: .ref T.heap.size :: rest, locked := none }) rfl hsize rfl rfl (rest := rest) rfl
    (by rw [hb]; exact d7) (by rw [hb]; exact d10) hout hRframes (by simp only [List.map_cons, List.sum_cons, hcat]; omega) hlocks
  obtain ⟨f1, f2⟩ := vx_frame hsame
  rw [hhp] at f1 f2
  have hWs : s.WarmedH U.vm := State.WarmedH.trans hW0 hW
  have hcl : s.vm.findClass "java/util/NoSuchElementException" = some ce.cls := by
    rw [hck, ← hvm]
    exact hfX
  have hall : s.sameButNew ({ U with vm := s.vm } : State) locs mc ms := by
    subst hA
    obtain ⟨e1, e2⟩ := hsame
    rw [State.setFrames_setFrames] at e1
    have h2 : (T.setVm s.vm).sameButNew ({ U with vm := s.vm } : State) [] (0 + 1) (0 + 6) := ⟨e1, e2⟩
    have h3 := X.same.trans h2
    rw [List.append_nil] at h3
    exact h3.mono hc hs
  refine ⟨U, ?_, .threw T.heap.size, hrun, hend, Or.inr ⟨T.heap.size, rfl, "java/util/NoSuchElementException", ce, locs, hx U hWs.alike f1 (fun q hq => f2 q hq (fun z hz => nomatch hz)), hce, hcv, hcl, hWs, hall, hf⟩⟩
  refine st1 _ ?_
  show Steps p.tables e below (T1.setTop { method := m, pc := pc + 3, locals := ls, stack := .ref T.heap.size :: rest, locked := none }) _
  jvm_step X₁.here [X₁.here.top, hexec, d3', Value.category]
  exact X₁.ldcStringW hexec (own := own) (text := text) (index := is) (a := sa) hown' hstr'.1 hstr'.2
    (g := { method := m, pc := pc + 4, locals := ls, stack := .ref T.heap.size :: .ref T.heap.size :: rest, locked := none }) rfl d4' _ hsteps

end SecB
