theorem nsW_k : ∀ w ∈ nsW, goodWord w = true ∨ w = .declares (Bundle.initS "java/lang/RuntimeException") ∨ w = .declares (Bundle.initS "java/lang/Exception") ∨ w = .declares (Bundle.initS Bundle.tN) ∨ w = .castable "java/util/NoSuchElementException" "java/util/NoSuchElementException" := by decide +kernel
theorem EX.warm {A : Nat → Prop} {s U : State} {H : Heap} (hW : s.WarmedH U.vm) (h : EX A s H) : EX A U H := by
  refine ⟨h.1.moved hW.alike, h.2.1.moved hW.alike, fun w hw => ?_, fun w hw => word_at hW (good_of_word (wl_led_g w hw)) (h.2.2.2 w hw)⟩
  have h3 := h.2.2.1 w hw
  rcases nsW_k w hw with g | rfl | rfl | rfl | rfl
  · exact word_at hW (good_of_word g) h3
  · exact va_Nw.warmD hW h3
  · exact va_Nw.warmD hW h3
  · exact va_Nw.warmD hW h3
  · exact va_Nw.warmC hW h3
theorem EX.kept {A : Nat → Prop} {s : State} {H : Heap} {locs : List Loc} (h : EX A s s.heap) (hS : va_S A s.heap H locs) : EX A s H := ⟨h.1.kept hS.2.1, h.2.1.kept hS.2.1, h.2.2.1, h.2.2.2⟩
theorem EX.calling {A : Nat → Prop} {U : State} {H : Heap} {g : JFrame} {mk : MethodId} {a : Array Value} (h : EX A U H) : EX A (U.calling g mk a) H := EX.warm (U := U.calling g mk a) (State.WarmedH.refl U) h
theorem EX.of {args : Array Value} {s : State} {A : Nat → Prop} (hts : ∀ w ∈ lw_tbl, w.before args s = true) (hu : (Cond.isRef (.static Bundle.tN "UNASSIGNED_STACK" Bundle.steD)).before args s = true) (hn : (Cond.isRef (.static Bundle.tN "SUPPRESSED_SENTINEL" Bundle.listD)).before args s = true) (h1 : ∀ w ∈ nsW, w ∈ lw_tbl) (h2 : ∀ w ∈ wl_led, w ∈ lw_tbl) (h3 : Cond.laysStatic Bundle.tN "UNASSIGNED_STACK" Bundle.steD ∈ lw_tbl) (h4 : Cond.laysStatic Bundle.tN "SUPPRESSED_SENTINEL" Bundle.listD ∈ lw_tbl) (h5 : Cond.initialized Bundle.tN ∈ lw_tbl) (hA : ∀ a : Nat, a < s.heap.size → ¬ A a) : EX A s s.heap := by
  refine ⟨vx_Zqof (hts _ h3) (hts _ h5) hu hA, vx_Zqof (hts _ h4) (hts _ h5) hn hA, fun w hw => vx_ot_at (State.WarmedH.refl s) rfl (nsW_ot w hw) (hts w (h1 w hw)), fun w hw => word_at (State.WarmedH.refl s) (good_of_word (wl_led_g w hw)) (hts w (h2 w hw))⟩
