section CxCatch
variable {p : Program} {l : Launch} {e : Env} {R : Room} {s : State} {m : MethodId} {args : Array Value} {below : List Frame} {meth : Method} {c : Code} {H : Heap} {locs : List Loc} {cells slots : Nat} {Q : State → Prop} {pc : Nat} {ls : Array Slot} {rest : List Value}
/-- the first row covers the pc and names a class that links and fits: the row is found, and the class is noted -/
theorem cx_search {S : State} {f : JFrame} {a : Addr} {x : ExceptionTableEntry} {t : List ExceptionTableEntry} {k : ClassId} {ce : Cell} (hm : S.vm.method? f.method = some meth) (hc : meth.code = some c) (ht : c.exceptionTable.toList = x :: t)
    (hx : covers x f.pc = true) (h0 : x.catchType ≠ 0) (hk : S.vm.ClassLinks e.platform f.method.cls x.catchType k) (hce : S.heap[a]? = some ce) (hv : ce.vm = .none) (h1 : ∃ z, S.vm.classes[ce.cls]? = some z) (h2 : ∃ z, S.vm.classes[k]? = some z)
    (hfit : S.vm.assignable ce.cls k = true) (QQ : Handler → Pre) (E : CtlPost) (d : Bool) (acts : List Action) :
    wp (findHandler f a) QQ E e d acts S ↔ QQ (.found x.handlerPc) d acts (S.setVm (S.vm.noted f.method.cls x.catchType (.cls k))) := by
  have hA : S.vm.Alike (S.vm.noted f.method.cls x.catchType (.cls k)) := (Vm.Alike.refl S.vm).noted _ _ _
  have hobj : ∀ z, ce.vm ≠ .statics z := fun z h => by rw [hv] at h; cases h
  obtain ⟨r1, r2⟩ := (resolveClass_links e.toSetting hk).op (op := VmOp.resolveClass f.method.cls x.catchType) rfl
  obtain ⟨z1, hz1⟩ := h1
  obtain ⟨z2, hz2⟩ := h2
  obtain ⟨y1, hy1, -⟩ := hA.2.2 _ _ hz1
  obtain ⟨y2, hy2, -⟩ := hA.2.2 _ _ hz2
  have hfit' : (S.vm.noted f.method.cls x.catchType (.cls k)).assignable ce.cls k = true := by rw [hA.assignable]; exact hfit
  rw [_root_.Jvm.W.findHandler_eq hm hc, ht]
  simp only [covers] at hx
  simp [findHandler.go, hx, h0, r1, r2, hce, hobj, hy1, hy2, hfit', VmOp.dirties, VmOp.acts]
theorem cx_is {S : State} {g : JFrame} {a : Addr} {hp : Nat} {vm' : Vm} {r : List Frame} (hf : ∀ (QQ : Handler → Pre) (E : CtlPost) (d : Bool) (acts : List Action), wp (findHandler g a) QQ E e d acts S ↔ QQ (.found hp) d acts (S.setVm vm')) :
    (stepThrowing e S a (.java g :: r)).Is ((S.setVm vm').setFrames (.java { g with pc := hp, stack := [.ref a] } :: r)) [] := by
  simp only [stepThrowing, searchFrame, vmDo]
  generalize hres : Sem.go _ e false [] S = res
  obtain ⟨as, rfl, ha⟩ := Sem.eq_ok_of hres (a := Handler.found hp) (s' := S.setVm vm') (acts' := []) (by simp [hf _ _ _ _])
  exact ⟨rfl, ha⟩
theorem cx_frames {S : State} {g0 g g1 : JFrame} {a : Addr} {vm' : Vm} {r : List Frame} (hr : S.frames = .java g0 :: r) :
    (((S.setTop g).pushFrame (.throwing a)).setVm vm').setFrames (.java g1 :: S.frames.tail) = (S.setVm vm').setTop g1 := by
  have h1 : ∀ F G : List Frame, ((S.setFrames F).setVm vm').setFrames G = (S.setVm vm').setFrames G := fun F G => by
    have h2 : (S.setFrames F).setVm vm' = (S.setVm vm').setFrames F := rfl
    rw [h2, State.setFrames_setFrames]
  have h3 : (S.setVm vm').frames = .java g0 :: r := hr
  rw [State.setTop_of_frames g1 h3, hr, List.tail_cons, State.setTop_of_frames g hr, State.pushFrame, State.setFrames_setFrames, h1]
theorem cx_step {tb : Tables} {S target : State} {g : JFrame} {a : Addr} {hp : Nat} {vm' : Vm} (h : At S g.method c below)
    (hf : ∀ (QQ : Handler → Pre) (E : CtlPost) (d : Bool) (acts : List Action), wp (findHandler g a) QQ E e d acts ((S.setTop g).pushFrame (.throwing a)) ↔ QQ (.found hp) d acts (((S.setTop g).pushFrame (.throwing a)).setVm vm'))
    (hrest : Steps tb e below ((S.setVm vm').setTop { g with pc := hp, stack := [.ref a] }) target) : Steps tb e below ((S.setTop g).pushFrame (.throwing a)) target := by
  obtain ⟨hgo, hw⟩ := h.throwing a
  obtain ⟨g0, hg0⟩ := Option.isSome_iff_exists.mp h.top
  obtain ⟨r, hr⟩ := State.topJava?_eq_some.mp hg0
  refine Steps.head hgo hw ?_
  rw [stepThread_throwing (frames_entered h.top _), (cx_is (S := (S.setTop g).pushFrame (.throwing a)) hf).1, cx_frames hr]
  exact hrest
/-- caught by the first row of this method's table -/
theorem cx_catch {own name : String} {E : String} {ce : Cell} {q : Addr} (hown : s.vm.findClass own = some m.cls) (x : ExceptionTableEntry) (suf : List ExceptionTableEntry) (htab : c.exceptionTable.toList = x :: suf) (hx : covers x pc = true) (h0 : x.catchType ≠ 0)
    (hlink : (Cond.classLink own x.catchType name).before args s = true) (hcast : (Cond.castable E name).before args s = true) (hcell : H[q]? = some ce) (hv : ce.vm = .none) (hcl : s.vm.findClass E = some ce.cls)
    (kk : W p l e R s m args below meth c H locs cells slots Q (F0 m x.handlerPc ls [.ref q])) : vx_W p l e R s m args below meth c H locs cells slots Q (F0 m pc ls rest) q := by
  intro T hT X
  have hpl : e.platform.magicAccessors = ({} : Platform).magicAccessors := by rw [X.admits.platform]
  obtain ⟨c3, c4, hc3, hc4, hasg⟩ := Cond.castable_spec hcast
  cases Option.some.inj (hc3.symm.trans hcl)
  obtain ⟨c5, hc5, hL⟩ := Cond.classLink_spec hown hlink e.platform hpl
  cases Option.some.inj (hc4.symm.trans hc5)
  obtain ⟨dk, _, _, kt, hd, _, _, _, _, hkt, _, hopen⟩ := hL.here
  have hW : s.WarmedH (T.vm.noted m.cls x.catchType (.cls c4)) := X.warmed.noted hd hopen (State.rightAt_cls hL)
  obtain ⟨kt', hkt', -⟩ := X.warmed.alike.2.2 _ _ hkt
  have hfit : T.vm.assignable ce.cls c4 = true := by rw [X.warmed.alike.assignable]; exact hasg
  have hce : T.heap[q]? = some ce := by rw [hT]; exact hcell
  obtain ⟨t, a1, b1⟩ := kk (T.setVm (T.vm.noted m.cls x.catchType (.cls c4))) hT (X.noted hW)
  exact ⟨t, cx_step (c := c) (g := F0 m pc ls rest) X.here (fun QQ E d acts => cx_search (S := (T.setTop (F0 m pc ls rest)).pushFrame (.throwing q)) (f := F0 m pc ls rest) (meth := meth) (c := c) X.method' X.code htab hx h0 (X.warmed.classLinks hL) hce hv (Vm.classAt_of_assignable hfit ⟨kt', hkt'⟩) ⟨kt', hkt'⟩ hfit QQ E d acts) a1, b1⟩
end CxCatch
