section TS
variable {p : Program} {l : Launch} {e : Env} {R : Room} {s : State} {m : MethodId} {args : Array Value} {below : List Frame} {meth : Method} {c : Code} {H : Heap} {locs : List Loc} {cells slots : Nat} {Q : State → Prop} {cc : ByteArray} {pc : Nat} {ls : Array Slot} {rest : List Value}
theorem lv_tsIn (hx : p.tables.exec = Jvm.exec) (hb : c.code = cc) {k : Int32} {default low high : Int} {offsets : Array Int} {len : Nat} (hdg : decode cc pc = .ok (.tableswitch default low high offsets, len)) (hin : ¬ (k.toInt < low ∨ k.toInt > high)) {off : Int} {tgt : Nat} (hoffs : offsets[(k.toInt - low).toNat]? = some off) (ht : (pc : Int) + off = tgt) (kk : W p l e R s m args below meth c H locs cells slots Q (F0 m tgt ls rest)) : W p l e R s m args below meth c H locs cells slots Q (F0 m pc ls (.int k :: rest)) := by
  intro T hT X
  obtain ⟨t, st, q⟩ := kk T hT X
  refine ⟨t, X.tableswitchIn hx rfl rfl (by rw [hb]; exact hdg) hin hoffs (by show 0 ≤ (pc : Int) + off; omega) t ?_, q⟩
  have e1 : ((pc : Int) + off).toNat = tgt := by omega
  show Steps p.tables e below (T.setTop { F0 m pc ls (.int k :: rest) with pc := ((pc : Int) + off).toNat, stack := rest }) t
  rw [e1]
  exact st
theorem lv_tsOut (hx : p.tables.exec = Jvm.exec) (hb : c.code = cc) {k : Int32} {default low high : Int} {offsets : Array Int} {len : Nat} (hdg : decode cc pc = .ok (.tableswitch default low high offsets, len)) (hout : k.toInt < low ∨ k.toInt > high) {tgt : Nat} (ht : (pc : Int) + default = tgt) (kk : W p l e R s m args below meth c H locs cells slots Q (F0 m tgt ls rest)) : W p l e R s m args below meth c H locs cells slots Q (F0 m pc ls (.int k :: rest)) := by
  intro T hT X
  obtain ⟨t, st, q⟩ := kk T hT X
  refine ⟨t, X.tableswitchOut hx rfl rfl (by rw [hb]; exact hdg) hout (by show 0 ≤ (pc : Int) + default; omega) t ?_, q⟩
  have e1 : ((pc : Int) + default).toNat = tgt := by omega
  show Steps p.tables e below (T.setTop { F0 m pc ls (.int k :: rest) with pc := ((pc : Int) + default).toNat, stack := rest }) t
  rw [e1]
  exact st
end TS
theorem and63 (x : Int32) : ∃ j : Nat, j < 64 ∧ x &&& 63 = nI j := by
  have e : x = nI x.toBitVec.toNat := by
    apply Int32.toBitVec_inj.mp
    show x.toBitVec = BitVec.ofNat 32 x.toBitVec.toNat
    rw [BitVec.ofNat_toNat, BitVec.setWidth_eq]
  refine ⟨x.toBitVec.toNat &&& 63, ?_, ?_⟩
  · exact Nat.lt_of_le_of_lt Nat.and_le_right (by decide)
  · rw [show (63 : Int32) = nI 63 from rfl, ← nI_and, ← e]
theorem lenT6 {L j : Nat} (hL : L ≤ 3072) (hj : j ≤ 3072) : nI L - 6 < nI j ↔ L < j + 6 := by
  rw [Int32.lt_iff_toInt_lt, Int32.toInt_sub, nI_toInt (by omega), nI_toInt (by omega), show (6 : Int32).toInt = 6 from rfl, Int.bmod_eq_of_le (by omega) (by omega)]
  omega
theorem LI.mono {D : va_G} {cy : Nat → ClassId} {A : Nat → Prop} {ad : Nat → Nat} {pk pm : Nat → Option Nat} {ka ma : Nat → Nat → Nat} {rd : Nat → Nat} {ao k d : Nat} {H : Heap} (h : LI D cy A ad pk pm ka ma rd ao k H) (q : k ≤ d) : LI D cy A ad pk pm ka ma rd ao d H := by
  rcases h with h | h
  · exact Or.inl h
  · obtain ⟨ci, ca, cl, cj, K, M, mr, ri, ra, rk, ow, wd, wx, wi, wa, hc, hw, hP, hD⟩ := h
    exact Or.inr ⟨ci, ca, cl, cj, K, M, mr, ri, ra, rk, ow, wd, wx, wi, wa, hc, hw.mono q, hP, hD⟩

section LL
variable {p : Program} {l : Launch} {e : Env} {s : State} {m : MethodId} {below : List Frame} {meth : Method} {c : Code} {b L : Nat} {xs : Nat → Int32} {D : va_G} {cy : Nat → ClassId} {ad rd : Nat → Nat} {pk pm : Nat → Option Nat} {ka ma : Nat → Nat → Nat} {ao : Nat} {sa sv : Nat → Nat}
set_option maxHeartbeats 4000000 in
set_option maxRecDepth 100000 in
theorem law_loop (hL : L ≤ 3072) (C0 : lw_At p s m meth c b L xs) (S0 : CallFix p m c cL_law 7 s #[Value.ref b] wl_L RL) (hK : SK D cy s) (hSS : SS sa sv (fun q => s.heap.size ≤ q) s s.heap) (hak : AK pk pm ka ma) (hled : ∀ (k : Nat) (H : Heap) (locs : List Loc) (ls : Array Slot), k < 1000 → 140 + 1000 * (k + 1) ≤ room_1.cells → 3600 + 14000 * (k + 1) ≤ room_1.slots → (∀ j : Int32, j ∈ [1, 2, 3, 4, 5] → vp_in (nI (6 * k) + j) L) → LI D cy (fun q => s.heap.size ≤ q) ad pk pm ka ma rd ao k H → va_S (fun q => s.heap.size ≤ q) s.heap H locs → lv_has ls 7 [(0, .ref b), (1, .ref (ad 0)), (2, .ref (rd 0)), (3, .ref ao), (4, .int (nI (6 * k)))] → (∀ (H1 : Heap) (locs1 : List Loc) (ls : Array Slot), LI D cy (fun q => s.heap.size ≤ q) ad pk pm ka ma rd ao (k + 1) H1 → va_S (fun q => s.heap.size ≤ q) s.heap H1 locs1 → lv_has ls 7 [(0, .ref b), (1, .ref (ad 0)), (2, .ref (rd 0)), (3, .ref ao), (4, .int (nI (6 * k)))] → W p l e room_1 s m #[Value.ref b] below meth c H1 locs1 (140 + 1000 * (k + 1)) (3600 + 14000 * (k + 1)) (lw_Z below #[Value.ref b] s) (F0 m 2028 ls [])) → W p l e room_1 s m #[Value.ref b] below meth c H locs (140 + 1000 * k) (3600 + 14000 * k) (lw_Z below #[Value.ref b] s) (F0 m 1934 ls [])) : ∀ (n k : Nat) (H : Heap) (locs : List Loc) (ls : Array Slot), 6 * k ≤ L → L + 1 ≤ 6 * k + 6 * n → LI D cy (fun q => s.heap.size ≤ q) ad pk pm ka ma rd ao k H → va_S (fun q => s.heap.size ≤ q) s.heap H locs → lv_has ls 7 [(0, .ref b), (1, .ref (ad 0)), (2, .ref (rd 0)), (3, .ref ao), (4, .int (nI (6 * k)))] → W p l e room_1 s m #[Value.ref b] below meth c H locs (140 + 1000 * k) (3600 + 14000 * k) (lw_Z below #[Value.ref b] s) (F0 m 23 ls []) := by
  obtain ⟨hx, hb, hr, hml, hown, hts, hX, hbl, hlocks, hgv⟩ := id C0
  have hA : ∀ q : Nat, s.heap.size ≤ q → (fun q : Nat => s.heap.size ≤ q) q := fun _ h => h
  have hbA : ¬ (fun q : Nat => s.heap.size ≤ q) b := Nat.not_le.mpr hbl
  intro n
  induction n with
  | zero => intro k H locs ls h1 h2; exact absurd h2 (by omega)
  | succ n ih =>
    intro k H locs ls h1 h2 I hS hl
    have hk : k < 1000 := by omega
    have hc1 : 140 + 1000 * (k + 1) ≤ room_1.cells := by show 140 + 1000 * (k + 1) ≤ 601024; omega
    have hc2 : 3600 + 14000 * (k + 1) ≤ room_1.slots := by show 3600 + 14000 * (k + 1) ≤ 7293034; omega
    refine lv_iload hx hb dL_law_23 (lv_at hl 4 rfl) ?_
    refine lv_aload_n hx hb dL_law_25 rfl (lv_at hl 0 rfl) ?_
    refine va_slen hx hb hX hbl hbA hS dL_law_26 ?_
    refine lv_bipush (v := 6) hx hb dL_law_27 (by decide) ?_
    refine lv_isub hx hb dL_law_29 ?_
    refine lv_icmp_gt (tgt := 2034) hx hb dL_law_30 (by decide) (fun _ => ?_) (fun cd => ?_)
    · refine lv_iconst (v := 1) hx hb dL_law_2034 (by decide) ?_
      refine va_forget (fun q hq => hS.2.2 q hq) ?_
      refine W.widen (k := 601024) (n := 7293034) (by omega) (by omega) ?_
      exact lw_ret hx hb hr hlocks dL_law_2035
    have h6 : 6 * k + 6 ≤ L := by
      have := (lenT6 (L := L) (j := 6 * k) hL (by omega)).mpr
      rcases Nat.lt_or_ge L (6 * k + 6) with q | q
      · exact absurd (this q) cd
      · exact q
    have hin0 : vp_in (nI (6 * k)) L := vp_in_nI (by omega) (by omega)
    have hin : ∀ j : Int32, j ∈ [1, 2, 3, 4, 5] → vp_in (nI (6 * k) + j) L := by
      intro j hj
      have key : ∀ i : Nat, i < 6 → vp_in (nI (6 * k) + nI i) L := fun i hi => by rw [nI_add]; exact vp_in_nI (by omega) (by omega)
      rcases List.mem_cons.mp hj with rfl | hj
      · exact key 1 (by decide)
      rcases List.mem_cons.mp hj with rfl | hj
      · exact key 2 (by decide)
      rcases List.mem_cons.mp hj with rfl | hj
      · exact key 3 (by decide)
      rcases List.mem_cons.mp hj with rfl | hj
      · exact key 4 (by decide)
      rcases List.mem_cons.mp hj with rfl | hj
      · exact key 5 (by decide)
      · cases hj
    have kl : ∀ (H1 : Heap) (locs1 : List Loc) (ls : Array Slot), LI D cy (fun q => s.heap.size ≤ q) ad pk pm ka ma rd ao (k + 1) H1 → va_S (fun q => s.heap.size ≤ q) s.heap H1 locs1 → lv_has ls 7 [(0, .ref b), (1, .ref (ad 0)), (2, .ref (rd 0)), (3, .ref ao), (4, .int (nI (6 * k)))] → W p l e room_1 s m #[Value.ref b] below meth c H1 locs1 (140 + 1000 * (k + 1)) (3600 + 14000 * (k + 1)) (lw_Z below #[Value.ref b] s) (F0 m 2028 ls []) := by
      intro H1 locs1 ls I hS hl
      refine lv_iinc (v := nI (6 * (k + 1))) (lv' := [(4, .int (nI (6 * (k + 1)))), (0, .ref b), (1, .ref (ad 0)), (2, .ref (rd 0)), (3, .ref ao)]) hx hb dL_law_2028 hl (k := 4) rfl (by show nI (6 * k) + nI 6 = nI (6 * (k + 1)); rw [nI_add]; rfl) (by decide) rfl (fun ls hl => ?_)
      refine lv_goto (tgt := 23) hx hb dL_law_2031 (by decide) ?_
      exact ih (k + 1) H1 locs1 ls (by omega) (by omega) I hS (lv_sub hl [1, 2, 3, 4, 0] rfl)
    have k0 := fun (H1 : Heap) (locs1 : List Loc) I hS => kl H1 locs1 ls I hS hl
    have kk : ∀ (H1 : Heap) (locs1 : List Loc), LI D cy (fun q => s.heap.size ≤ q) ad pk pm ka ma rd ao (k + 1) H1 → va_S (fun q => s.heap.size ≤ q) s.heap H1 locs1 → W p l e room_1 s m #[Value.ref b] below meth c H1 locs1 (140 + 1000 * k) (3600 + 14000 * k) (lw_Z below #[Value.ref b] s) (F0 m 2028 ls []) := fun H1 locs1 I hS => W.widen (by omega) (by omega) (k0 H1 locs1 I hS)
    have hf : 140 + 1000 * k ≤ room_1.cells ∧ 3600 + 14000 * k ≤ room_1.slots := ⟨by omega, by omega⟩
    refine lv_aload_n hx hb dL_law_33 rfl (lv_at hl 0 rfl) ?_
    refine lv_iload hx hb dL_law_34 (lv_at hl 4 rfl) ?_
    refine va_sld hx hb hX hbl hbA hS hin0 dL_law_36 ?_
    refine lv_bipush (v := 63) hx hb dL_law_37 (by decide) ?_
    refine lv_iand hx hb dL_law_39 ?_
    obtain ⟨j, hj, ej⟩ := and63 (xs (nI (6 * k)).toNatClampNeg)
    rw [ej]
    rcases (show j = 0 ∨ j = 1 ∨ j = 2 ∨ j = 3 ∨ j = 4 ∨ j = 5 ∨ j = 6 ∨ j = 7 ∨ j = 8 ∨ j = 9 ∨ j = 10 ∨ j = 11 ∨ j = 12 ∨ j = 13 ∨ j = 14 ∨ j = 15 ∨ j = 16 ∨ j = 17 ∨ j = 18 ∨ j = 19 ∨ j = 20 ∨ j = 21 ∨ j = 22 ∨ j = 23 ∨ j = 24 ∨ j = 25 ∨ j = 26 ∨ j = 27 ∨ j = 28 ∨ j = 29 ∨ j = 30 ∨ j = 31 ∨ j = 32 ∨ j = 33 ∨ j = 34 ∨ j = 35 ∨ j = 36 ∨ j = 37 ∨ j = 38 ∨ j = 39 ∨ j = 40 ∨ j = 41 ∨ j = 42 ∨ j = 43 ∨ j = 44 ∨ j = 45 ∨ j = 46 ∨ j = 47 ∨ j = 48 ∨ j = 49 ∨ j = 50 ∨ 50 < j by omega) with rfl | rfl | rfl | rfl | rfl | rfl | rfl | rfl | rfl | rfl | rfl | rfl | rfl | rfl | rfl | rfl | rfl | rfl | rfl | rfl | rfl | rfl | rfl | rfl | rfl | rfl | rfl | rfl | rfl | rfl | rfl | rfl | rfl | rfl | rfl | rfl | rfl | rfl | rfl | rfl | rfl | rfl | rfl | rfl | rfl | rfl | rfl | rfl | rfl | rfl | rfl | hj5

    · refine lv_tsIn (tgt := 260) hx hb dL_law_40 (by decide) (off := 220) rfl (by decide) ?_
      rcases I with I | I
      · exact csN_feed S0 hK hA hX hbl hbA hf hak hk hin I hS hl kk
      · exact csW_feed S0 hK hA hX hbl hbA hf hak hk hin I hS hl kk

    · refine lv_tsIn (tgt := 333) hx hb dL_law_40 (by decide) (off := 293) rfl (by decide) ?_
      have hf2 : 140 + 1000 * k + 11 ≤ room_1.cells ∧ 3600 + 14000 * k + 119 ≤ room_1.slots := ⟨by omega, by omega⟩
      have kw : ∀ (H1 : Heap) (locs1 : List Loc), LI D cy (fun q => s.heap.size ≤ q) ad pk pm ka ma rd ao (k + 1) H1 → va_S (fun q => s.heap.size ≤ q) s.heap H1 locs1 → W p l e room_1 s m #[Value.ref b] below meth c H1 locs1 (140 + 1000 * k + 11) (3600 + 14000 * k + 119) (lw_Z below #[Value.ref b] s) (F0 m 2028 ls []) := fun H1 locs1 I hS => W.widen (by omega) (by omega) (k0 H1 locs1 I hS)
      rcases I with I | I
      · exact csN_war S0 hK hA hX hbl hbA hSS hf2 hak hk hin I hS hl kw
      · exact csW_war S0 hK hA hX hbl hbA hSS hf2 hak hk hin I hS hl kw

    · refine lv_tsIn (tgt := 358) hx hb dL_law_40 (by decide) (off := 318) rfl (by decide) ?_
      rcases I with I | I
      · exact csN_fault S0 hK hA hX hbl hbA hf hak hk hin I hS hl kk
      · exact csW_fault S0 hK hA hX hbl hbA hf hak hk hin I hS hl kk

    · refine lv_tsIn (tgt := 371) hx hb dL_law_40 (by decide) (off := 331) rfl (by decide) ?_
      rcases I with I | I
      · exact csN_where S0 hK hA hX hbl hbA hf hak hk hin I hS hl kk
      · exact csW_where S0 hK hA hX hbl hbA hf hak hk hin I hS hl kk

    · refine lv_tsIn (tgt := 384) hx hb dL_law_40 (by decide) (off := 344) rfl (by decide) ?_
      rcases I with I | I
      · exact csN_lane S0 hK hA hX hbl hbA hf hak hk hin I hS hl kk
      · exact csW_lane S0 hK hA hX hbl hbA hf hak hk hin I hS hl kk

    · refine lv_tsIn (tgt := 421) hx hb dL_law_40 (by decide) (off := 381) rfl (by decide) ?_
      rcases I with I | I
      · exact csN_beast S0 hK hA hX hbl hbA hf hak hk hin I hS hl kk
      · exact csW_beast S0 hK hA hX hbl hbA hf hak hk hin I hS hl kk

    · refine lv_tsIn (tgt := 458) hx hb dL_law_40 (by decide) (off := 418) rfl (by decide) ?_
      rcases I with I | I
      · exact csN_across S0 hK hA hX hbl hbA hf hak hk hin I hS hl kk
      · exact csW_across S0 hK hA hX hbl hbA hf hak hk hin I hS hl kk

    · refine lv_tsIn (tgt := 512) hx hb dL_law_40 (by decide) (off := 472) rfl (by decide) ?_
      rcases I with I | I
      · exact csN_meets S0 hK hA hX hbl hbA hf hak hk hin I hS hl kk
      · exact csW_meets S0 hK hA hX hbl hbA hf hak hk hin I hS hl kk

    · refine lv_tsIn (tgt := 577) hx hb dL_law_40 (by decide) (off := 537) rfl (by decide) ?_
      rcases I with I | I
      · exact csN_mean S0 hK hA hX hbl hbA hf hak hk hin I hS hl kk
      · exact csW_mean S0 hK hA hX hbl hbA hf hak hk hin I hS hl kk

    · refine lv_tsIn (tgt := 671) hx hb dL_law_40 (by decide) (off := 631) rfl (by decide) ?_
      rcases I with I | I
      · exact csN_worth S0 hK hA hX hbl hbA hf hak hk hin I hS hl kk
      · exact csW_worth S0 hK hA hX hbl hbA hf hak hk hin I hS hl kk

    · refine lv_tsIn (tgt := 737) hx hb dL_law_40 (by decide) (off := 697) rfl (by decide) ?_
      rcases I with I | I
      · exact csN_bestLane S0 hK hA hX hbl hbA hf hak hk hin I hS hl kk
      · exact csW_bestLane S0 hK hA hX hbl hbA hf hak hk hin I hS hl kk

    · refine lv_tsIn (tgt := 762) hx hb dL_law_40 (by decide) (off := 722) rfl (by decide) ?_
      rcases I with I | I
      · exact csN_all S0 hK hA hX hbl hbA hf hak hk hin I hS hl kk
      · exact csW_all S0 hK hA hX hbl hbA hf hak hk hin I hS hl kk

    · refine lv_tsIn (tgt := 832) hx hb dL_law_40 (by decide) (off := 792) rfl (by decide) ?_
      rcases I with I | I
      · exact csN_worst S0 hK hA hX hbl hbA hf hak hk hin I hS hl kk
      · exact csW_worst S0 hK hA hX hbl hbA hf hak hk hin I hS hl kk

    · refine lv_tsIn (tgt := 845) hx hb dL_law_40 (by decide) (off := 805) rfl (by decide) ?_
      rcases I with I | I
      · exact csN_worthIf S0 hK hA hX hbl hbA hf hak hk hin I hS hl kk
      · exact csW_worthIf S0 hK hA hX hbl hbA hf hak hk hin I hS hl kk

    · refine lv_tsIn (tgt := 939) hx hb dL_law_40 (by decide) (off := 899) rfl (by decide) ?_
      rcases I with I | I
      · exact csN_moodFor S0 hK hA hX hbl hbA hf hak hk hin I hS hl kk
      · exact csW_moodFor S0 hK hA hX hbl hbA hf hak hk hin I hS hl kk

    · refine lv_tsIn (tgt := 976) hx hb dL_law_40 (by decide) (off := 936) rfl (by decide) ?_
      rcases I with I | I
      · exact csN_toHammer S0 hK hA hX hbl hbA hf hak hk hin I hS hl kk
      · exact csW_toHammer S0 hK hA hX hbl hbA hf hak hk hin I hS hl kk

    · refine lv_tsIn (tgt := 989) hx hb dL_law_40 (by decide) (off := 949) rfl (by decide) ?_
      rcases I with I | I
      · exact csN_place S0 hK hA hX hbl hbA hf hak hk hin I hS hl kk
      · exact csW_place S0 hK hA hX hbl hbA hf hak hk hin I hS hl kk

    · refine lv_tsIn (tgt := 1014) hx hb dL_law_40 (by decide) (off := 974) rfl (by decide) ?_
      rcases I with I | I
      · exact csN_placed S0 hK hA hX hbl hbA hf hak hk hin I hS hl kk
      · exact csW_placed S0 hK hA hX hbl hbA hf hak hk hin I hS hl kk

    · refine lv_tsIn (tgt := 1056) hx hb dL_law_40 (by decide) (off := 1016) rfl (by decide) ?_
      rcases I with I | I
      · exact csN_out S0 hK hA hX hbl hbA hf hak hk hin I hS hl kk
      · exact csW_out S0 hK hA hX hbl hbA hf hak hk hin I hS hl kk

    · refine lv_tsIn (tgt := 1069) hx hb dL_law_40 (by decide) (off := 1029) rfl (by decide) ?_
      rcases I with I | I
      · exact csN_toOpen S0 hK hA hX hbl hbA hf hak hk hin I hS hl kk
      · exact csW_toOpen S0 hK hA hX hbl hbA hf hak hk hin I hS hl kk

    · refine lv_tsIn (tgt := 1082) hx hb dL_law_40 (by decide) (off := 1042) rfl (by decide) ?_
      rcases I with I | I
      · exact csN_rests S0 hK hA hX hbl hbA hf hak hk hin I hS hl kk
      · exact csW_rests S0 hK hA hX hbl hbA hf hak hk hin I hS hl kk

    · refine lv_tsIn (tgt := 1107) hx hb dL_law_40 (by decide) (off := 1067) rfl (by decide) ?_
      rcases I with I | I
      · exact csN_rest S0 hK hA hX hbl hbA hf hak hk hin I hS hl kk
      · exact csW_rest S0 hK hA hX hbl hbA hf hak hk hin I hS hl kk

    · refine lv_tsIn (tgt := 1132) hx hb dL_law_40 (by decide) (off := 1092) rfl (by decide) ?_
      rcases I with I | I
      · exact csN_weeks S0 hK hA hX hbl hbA hf hak hk hin I hS hl kk
      · exact csW_weeks S0 hK hA hX hbl hbA hf hak hk hin I hS hl kk

    · refine lv_tsIn (tgt := 1157) hx hb dL_law_40 (by decide) (off := 1117) rfl (by decide) ?_
      rcases I with I | I
      · exact csN_sale S0 hK hA hX hbl hbA hf hak hk hin I hS hl kk
      · exact csW_sale S0 hK hA hX hbl hbA hf hak hk hin I hS hl kk

    · refine lv_tsIn (tgt := 1182) hx hb dL_law_40 (by decide) (off := 1142) rfl (by decide) ?_
      rcases I with I | I
      · exact csN_saleOver S0 hK hA hX hbl hbA hf hak hk hin I hS hl kk
      · exact csW_saleOver S0 hK hA hX hbl hbA hf hak hk hin I hS hl kk

    · refine lv_tsIn (tgt := 1207) hx hb dL_law_40 (by decide) (off := 1167) rfl (by decide) ?_
      rcases I with I | I
      · exact csN_march S0 hK hA hX hbl hbA hf hak hk hin I hS hl kk
      · exact csW_march S0 hK hA hX hbl hbA hf hak hk hin I hS hl kk

    · refine lv_tsIn (tgt := 1256) hx hb dL_law_40 (by decide) (off := 1216) rfl (by decide) ?_
      rcases I with I | I
      · exact csN_marchAt S0 hK hA hX hbl hbA hf hak hk hin I hS hl kk
      · exact csW_marchAt S0 hK hA hX hbl hbA hf hak hk hin I hS hl kk

    · refine lv_tsIn (tgt := 1317) hx hb dL_law_40 (by decide) (off := 1277) rfl (by decide) ?_
      rcases I with I | I
      · exact csN_reach S0 hK hA hX hbl hbA hf hak hk hin I hS hl kk
      · exact csW_reach S0 hK hA hX hbl hbA hf hak hk hin I hS hl kk

    · refine lv_tsIn (tgt := 1342) hx hb dL_law_40 (by decide) (off := 1302) rfl (by decide) ?_
      rcases I with I | I
      · exact csN_worstPass S0 hK hA hX hbl hbA hf hak hk hin I hS hl kk
      · exact csW_worstPass S0 hK hA hX hbl hbA hf hak hk hin I hS hl kk

    · refine lv_tsIn (tgt := 1391) hx hb dL_law_40 (by decide) (off := 1351) rfl (by decide) ?_
      rcases I with I | I
      · exact csN_setOut S0 hK hA hX hbl hbA hf hak hk hin I hS hl kk
      · exact csW_setOut S0 hK hA hX hbl hbA hf hak hk hin I hS hl kk

    · refine lv_tsIn (tgt := 1440) hx hb dL_law_40 (by decide) (off := 1400) rfl (by decide) ?_
      rcases I with I | I
      · exact csN_fits S0 hK hA hX hbl hbA hf hak hk hin I hS hl kk
      · exact csW_fits S0 hK hA hX hbl hbA hf hak hk hin I hS hl kk

    · refine lv_tsIn (tgt := 1453) hx hb dL_law_40 (by decide) (off := 1413) rfl (by decide) ?_
      rcases I with I | I
      · exact csN_could S0 hK hA hX hbl hbA hf hak hk hin I hS hl kk
      · exact csW_could S0 hK hA hX hbl hbA hf hak hk hin I hS hl kk

    · refine lv_tsIn (tgt := 1466) hx hb dL_law_40 (by decide) (off := 1426) rfl (by decide) ?_
      rcases I with I | I
      · exact csN_surely S0 hK hA hX hbl hbA hf hak hk hin I hS hl kk
      · exact csW_surely S0 hK hA hX hbl hbA hf hak hk hin I hS hl kk

    · refine lv_tsIn (tgt := 1479) hx hb dL_law_40 (by decide) (off := 1439) rfl (by decide) ?_
      rcases I with I | I
      · exact csN_ask S0 hK hA hX hbl hbA hf hak hk hin I hS hl kk
      · exact csW_ask S0 hK hA hX hbl hbA hf hak hk hin I hS hl kk

    · refine lv_tsIn (tgt := 1492) hx hb dL_law_40 (by decide) (off := 1452) rfl (by decide) ?_
      rcases I with I | I
      · exact csN_turnedBy S0 hK hA hX hbl hbA hf hak hk hin I hS hl kk
      · exact csW_turnedBy S0 hK hA hX hbl hbA hf hak hk hin I hS hl kk

    · refine lv_tsIn (tgt := 1517) hx hb dL_law_40 (by decide) (off := 1477) rfl (by decide) ?_
      rcases I with I | I
      · exact csN_battles S0 hK hA hX hbl hbA hf hak hk hin I hS hl kk
      · exact csW_battles S0 hK hA hX hbl hbA hf hak hk hin I hS hl kk

    · refine lv_tsIn (tgt := 1582) hx hb dL_law_40 (by decide) (off := 1542) rfl (by decide) ?_
      rcases I with I | I
      · exact csN_won S0 hK hA hX hbl hbA hf hak hk hin I hS hl kk
      · exact csW_won S0 hK hA hX hbl hbA hf hak hk hin I hS hl kk

    · refine lv_tsIn (tgt := 1619) hx hb dL_law_40 (by decide) (off := 1579) rfl (by decide) ?_
      rcases I with I | I
      · exact csN_acrossIn S0 hK hA hX hbl hbA hf hak hk hin I hS hl kk
      · exact csW_acrossIn S0 hK hA hX hbl hbA hf hak hk hin I hS hl kk

    · refine lv_tsIn (tgt := 1668) hx hb dL_law_40 (by decide) (off := 1628) rfl (by decide) ?_
      rcases I with I | I
      · exact csN_move S0 hK hA hX hbl hbA hf hak hk hin I hS hl kk
      · exact csW_move S0 hK hA hX hbl hbA hf hak hk hin I hS hl kk

    · refine lv_tsIn (tgt := 1705) hx hb dL_law_40 (by decide) (off := 1665) rfl (by decide) ?_
      rcases I with I | I
      · exact csN_wound S0 hK hA hX hbl hbA hf hak hk hin I hS hl kk
      · exact csW_wound S0 hK hA hX hbl hbA hf hak hk hin I hS hl kk

    · refine lv_tsIn (tgt := 1742) hx hb dL_law_40 (by decide) (off := 1702) rfl (by decide) ?_
      rcases I with I | I
      · exact csN_hammer S0 hK hA hX hbl hbA hf hak hk hin I hS hl kk
      · exact csW_hammer S0 hK hA hX hbl hbA hf hak hk hin I hS hl kk

    · refine lv_tsIn (tgt := 1767) hx hb dL_law_40 (by decide) (off := 1727) rfl (by decide) ?_
      rcases I with I | I
      · exact csN_teach S0 hK hA hX hbl hbA hf hak hk hin I hS hl kk
      · exact csW_teach S0 hK hA hX hbl hbA hf hak hk hin I hS hl kk

    · refine lv_tsIn (tgt := 1804) hx hb dL_law_40 (by decide) (off := 1764) rfl (by decide) ?_
      rcases I with I | I
      · exact csN_rain S0 hK hA hX hbl hbA hf hak hk hin I hS hl kk
      · exact csW_rain S0 hK hA hX hbl hbA hf hak hk hin I hS hl kk

    · refine lv_tsIn (tgt := 1845) hx hb dL_law_40 (by decide) (off := 1805) rfl (by decide) ?_
      rcases I with I | I
      · exact csN_battle S0 hK hA hX hbl hbA hf hak hk hin I hS hl kk
      · exact csW_battle S0 hK hA hX hbl hbA hf hak hk hin I hS hl kk

    · refine lv_tsIn (tgt := 1858) hx hb dL_law_40 (by decide) (off := 1818) rfl (by decide) ?_
      rcases I with I | I
      · exact csN_seed S0 hK hA hX hbl hbA hf hak hk hin I hS hl kk
      · exact csW_seed S0 hK hA hX hbl hbA hf hak hk hin I hS hl kk

    · refine lv_tsIn (tgt := 1883) hx hb dL_law_40 (by decide) (off := 1843) rfl (by decide) ?_
      rcases I with I | I
      · exact csN_undo S0 hK hA hX hbl hbA hf hak hk hin I hS hl kk
      · exact csW_undo S0 hK hA hX hbl hbA hf hak hk hin I hS hl kk

    · refine lv_tsIn (tgt := 1896) hx hb dL_law_40 (by decide) (off := 1856) rfl (by decide) ?_
      rcases I with I | I
      · exact csN_mark S0 hK hA hX hbl hbA hf hak hk hin I hS hl kk
      · exact csW_mark S0 hK hA hX hbl hbA hf hak hk hin I hS hl kk

    · refine lv_tsIn (tgt := 1909) hx hb dL_law_40 (by decide) (off := 1869) rfl (by decide) ?_
      rcases I with I | I
      · exact csN_back S0 hK hA hX hbl hbA hf hak hk hin I hS hl kk
      · exact csW_back S0 hK hA hX hbl hbA hf hak hk hin I hS hl kk

    · refine lv_tsIn (tgt := 1934) hx hb dL_law_40 (by decide) (off := 1894) rfl (by decide) ?_
      exact hled k H locs ls hk hc1 hc2 hin I hS hl kl

    · refine lv_tsIn (tgt := 1990) hx hb dL_law_40 (by decide) (off := 1950) rfl (by decide) ?_
      rcases I with I | I
      · exact csN_size S0 hK hA hX hbl hbA hf hak hk hin I hS hl kk
      · exact csW_size S0 hK hA hX hbl hbA hf hak hk hin I hS hl kk

    · refine lv_tsIn (tgt := 2015) hx hb dL_law_40 (by decide) (off := 1975) rfl (by decide) ?_
      rcases I with I | I
      · exact csN_trouble S0 hK hA hX hbl hbA hf hak hk hin I hS hl kk
      · exact csW_trouble S0 hK hA hX hbl hbA hf hak hk hin I hS hl kk

    · refine lv_tsOut (tgt := 2028) hx hb dL_law_40 (Or.inr (by rw [nI_toInt (by omega)]; omega)) (by decide) ?_
      exact kk H locs (I.mono (Nat.le_succ k)) hS
end LL
