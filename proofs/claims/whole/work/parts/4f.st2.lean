def wl_S : List Cond := [.methodLink RL 15 yX11_init, .instanceMethod yX11_init, .initialized RX11, .code yX11_init cX11_init 1 none, .classLink RL 8 RX11, .instantiable RX11 15, .methodLink RL 18 yX13_init, .instanceMethod yX13_init, .initialized RX13, .code yX13_init cX13_init 1 none, .classLink RL 16 RX13, .instantiable RX13 39, .arrayClass .long]

set_option maxRecDepth 100000 in
theorem li_Sx : ∀ w ∈ wl_S, w ∈ lw_tbl := in_ch _ [(1, 28), (1, 29), (1, 1), (1, 30), (1, 26), (1, 27), (6, 146), (6, 147), (1, 13), (6, 148), (6, 144), (6, 145), (2, 48)] rfl
section HL
variable (p : Program) (l : Launch) (e : Env) (s : State) (m : MethodId) (below : List Frame) (meth : Method) (c : Code) (b L : Nat) (D : va_G) (cy : Nat → ClassId) (ad rd : Nat → Nat) (pk pm : Nat → Option Nat) (ka ma : Nat → Nat → Nat) (ao : Nat)
def HLED : Prop := ∀ (k : Nat) (H : Heap) (locs : List Loc) (ls : Array Slot), k < 1000 → 140 + 1000 * (k + 1) ≤ room_1.cells → 3600 + 14000 * (k + 1) ≤ room_1.slots → (∀ j : Int32, j ∈ [1, 2, 3, 4, 5] → vp_in (nI (6 * k) + j) L) → LI D cy (fun q => s.heap.size ≤ q) ad pk pm ka ma rd ao k H → va_S (fun q => s.heap.size ≤ q) s.heap H locs → lv_has ls 7 [(0, .ref b), (1, .ref (ad 0)), (2, .ref (rd 0)), (3, .ref ao), (4, .int (nI (6 * k)))] → (∀ (H1 : Heap) (locs1 : List Loc) (ls : Array Slot), LI D cy (fun q => s.heap.size ≤ q) ad pk pm ka ma rd ao (k + 1) H1 → va_S (fun q => s.heap.size ≤ q) s.heap H1 locs1 → lv_has ls 7 [(0, .ref b), (1, .ref (ad 0)), (2, .ref (rd 0)), (3, .ref ao), (4, .int (nI (6 * k)))] → W p l e room_1 s m #[Value.ref b] below meth c H1 locs1 (140 + 1000 * (k + 1)) (3600 + 14000 * (k + 1)) (lw_Z below #[Value.ref b] s) (F0 m 2028 ls [])) → W p l e room_1 s m #[Value.ref b] below meth c H locs (140 + 1000 * k) (3600 + 14000 * k) (lw_Z below #[Value.ref b] s) (F0 m 1934 ls [])
end HL
set_option maxHeartbeats 4000000 in
set_option maxRecDepth 100000 in
theorem law_start {p : Program} {l : Launch} {e : Env} {s : State} {m : MethodId} {below : List Frame} {meth : Method} {c : Code} {b L : Nat} {xs : Nat → Int32} {D : va_G} {cy : Nat → ClassId} {sa sv : Nat → Nat} (hL : L ≤ 3072) (C0 : lw_At p s m meth c b L xs) (hKN : SK D cy s) (hSS : SS sa sv (fun q => s.heap.size ≤ q) s s.heap) (hled : ∀ ad rd pk pm ka ma ao, HLED p l e s m below meth c b L D cy ad rd pk pm ka ma ao) : W p l e room_1 s m #[Value.ref b] below meth c s.heap [] 0 0 (lw_Z below #[Value.ref b] s) (entryFrame m ([Value.ref b] : List Value).toArray 7) := by
  obtain ⟨hx, hb, hr, hml, hown, hts0, hX, hbl, hlocks, hgv⟩ := id C0
  have hA : ∀ q : Nat, s.heap.size ≤ q → (fun q : Nat => s.heap.size ≤ q) q := fun _ h => h
  have hts : ∀ w ∈ wl_S, w.before #[Value.ref b] s = true := fun w hw => hts0 w (li_Sx w hw)
  have S0 : CallFix p m c cL_law 7 s #[Value.ref b] wl_L RL := ⟨hx, hb, hml, hown, fun w hw => hts0 w (li_L w hw)⟩
  have S1 : CallFix p m c cL_law 7 s #[Value.ref b] wl_S RL := ⟨hx, hb, hml, hown, hts⟩
  have hS : va_S (fun q : Nat => s.heap.size ≤ q) s.heap s.heap [] := va_S.rf
  have hK := hKN.1
  have hP : va_P D vwCl [] s.heap := fun k q h => by simp at h
  have hD : va_D (fun q : Nat => s.heap.size ≤ q) [] := ⟨fun i j p q h => by simp at h, fun k q h => by simp at h⟩
  have hl := lv_entry ([.ref b]) (n := 7) (Nat.le_of_ble_eq_true rfl)
  rw [lg_entry_eq]
  generalize (lg_sl ([.ref b]) ++ List.replicate (7 - (lg_sl ([.ref b])).length) Slot.unset).toArray = ls at hl ⊢
  have hl : lv_has ls 7 [(0, .ref b)] := hl
  refine va_new (ci := 11) (fs := [.null, .int 0, .null, .null, .null, .null, .null, .null, .null, .null, .null, .null, .int 0, .int 0, .int 0]) (C := RX11) (T := TX11) (N := 15) hx hb (wc_X11 hKN.2.2 _) (fun _ q => q) tyX11 tyX11_ok hown (hts (.classLink RL 8 RX11) (List.mem_of_getElem? (i := 4) rfl)) (hts (.instantiable RX11 15) (List.mem_of_getElem? (i := 5) rfl)) (hts (.initialized RX11) (List.mem_of_getElem? (i := 2) rfl)) hK hP hD hS hA rfl (fun j hj => by rcases (show j = 0 ∨ j = 1 ∨ j = 2 ∨ j = 3 ∨ j = 4 ∨ j = 5 ∨ j = 6 ∨ j = 7 ∨ j = 8 ∨ j = 9 ∨ j = 10 ∨ j = 11 ∨ j = 12 ∨ j = 13 ∨ j = 14 by omega) with rfl | rfl | rfl | rfl | rfl | rfl | rfl | rfl | rfl | rfl | rfl | rfl | rfl | rfl | rfl <;> rfl) (Nat.le_of_ble_eq_true rfl) (Nat.le_of_ble_eq_true rfl) dL_law_0 (fun q1 H hP hD hS => ?_)
  refine lv_dup hx hb dL_law_3 rfl ?_
  refine wIn [] [.ref q1] S1 (c_X11_init l D cy (fun q => s.heap.size ≤ q) [] q1) (goodIn_r _ [3] rfl (by decide +kernel)) (hts (.methodLink RL 15 yX11_init) (List.mem_of_getElem? (i := 0) rfl)) (hts (.initialized RX11) (List.mem_of_getElem? (i := 2) rfl)) (hts (.instanceMethod yX11_init) (List.mem_of_getElem? (i := 1) rfl)) rfl rfl hd_X11_init ⟨Nat.le_of_ble_eq_true rfl, Nat.le_of_ble_eq_true rfl⟩ rfl rfl hKN hP hD hS hA rfl hl.1 rfl (Nat.le_of_ble_eq_true rfl) dL_law_4 ⟨Nat.le_of_ble_eq_true rfl, Nat.le_of_ble_eq_true rfl⟩ (fun u H locs hP hD hS => ?_)
  refine lv_astore_n (lv' := [(1, .ref q1), (0, .ref b)]) hx hb dL_law_7 rfl hl (by decide) rfl (fun ls hl => ?_)
  refine va_new (ci := 13) (fs := [.int 0, .int 0, .int 0, .null, .null, .null, .int 0, .int 0, .int 0, .int 0, .int 0, .int 0, .int 0, .int 0, .int 0, .long 0, .null, .null, .null, .null, .int 0, .int 0, .null, .null, .long 0, .null, .null, .null, .int 0, .int 0, .null, .int 0, .int 0, .int 0, .int 0, .int 0, .int 0, .int 0, .int 0]) (C := RX13) (T := TX13) (N := 39) hx hb (wc_X13 hKN.2.2 _) (fun _ q => q) tyX13 tyX13_ok hown (hts (.classLink RL 16 RX13) (List.mem_of_getElem? (i := 10) rfl)) (hts (.instantiable RX13 39) (List.mem_of_getElem? (i := 11) rfl)) (hts (.initialized RX13) (List.mem_of_getElem? (i := 8) rfl)) hK hP hD hS hA rfl (fun j hj => by rcases (show j = 0 ∨ j = 1 ∨ j = 2 ∨ j = 3 ∨ j = 4 ∨ j = 5 ∨ j = 6 ∨ j = 7 ∨ j = 8 ∨ j = 9 ∨ j = 10 ∨ j = 11 ∨ j = 12 ∨ j = 13 ∨ j = 14 ∨ j = 15 ∨ j = 16 ∨ j = 17 ∨ j = 18 ∨ j = 19 ∨ j = 20 ∨ j = 21 ∨ j = 22 ∨ j = 23 ∨ j = 24 ∨ j = 25 ∨ j = 26 ∨ j = 27 ∨ j = 28 ∨ j = 29 ∨ j = 30 ∨ j = 31 ∨ j = 32 ∨ j = 33 ∨ j = 34 ∨ j = 35 ∨ j = 36 ∨ j = 37 ∨ j = 38 by omega) with rfl | rfl | rfl | rfl | rfl | rfl | rfl | rfl | rfl | rfl | rfl | rfl | rfl | rfl | rfl | rfl | rfl | rfl | rfl | rfl | rfl | rfl | rfl | rfl | rfl | rfl | rfl | rfl | rfl | rfl | rfl | rfl | rfl | rfl | rfl | rfl | rfl | rfl | rfl <;> rfl) (Nat.le_of_ble_eq_true rfl) (Nat.le_of_ble_eq_true rfl) dL_law_8 (fun q2 H hP hD hS => ?_)
  refine lv_dup hx hb dL_law_11 rfl ?_
  refine wIn [] [.ref q2] S1 (c_X13_init l D cy (fun q => s.heap.size ≤ q) (wz_X11_init cy q1 u ++ []) q2) (goodIn_r _ [9] rfl (by decide +kernel)) (hts (.methodLink RL 18 yX13_init) (List.mem_of_getElem? (i := 6) rfl)) (hts (.initialized RX13) (List.mem_of_getElem? (i := 8) rfl)) (hts (.instanceMethod yX13_init) (List.mem_of_getElem? (i := 7) rfl)) rfl rfl hd_X13_init ⟨Nat.le_of_ble_eq_true rfl, Nat.le_of_ble_eq_true rfl⟩ rfl rfl hKN (vaP_perm hP List.perm_append_comm) (vaD_perm hD List.perm_append_comm) hS hA rfl hl.1 rfl (Nat.le_of_ble_eq_true rfl) dL_law_12 ⟨Nat.le_of_ble_eq_true rfl, Nat.le_of_ble_eq_true rfl⟩ (fun u3 H locs hP hD hS => ?_)
  refine lv_astore_n (lv' := [(2, .ref q2), (1, .ref q1), (0, .ref b)]) hx hb dL_law_15 rfl hl (by decide) rfl (fun ls hl => ?_)
  refine lv_iconst (v := 1) hx hb dL_law_16 (by decide) ?_
  refine nAJ (L := []) hx hb (hts (.arrayClass .long) (List.mem_of_getElem? (i := 12) rfl)) hK hP hD hS hA 1 (by decide) rfl (by decide) (Nat.le_of_ble_eq_true rfl) (Nat.le_of_ble_eq_true rfl) dL_law_17 (fun q3 H hP hD hS => ?_)
  refine lv_astore_n (lv' := [(3, .ref q3), (2, .ref q2), (1, .ref q1), (0, .ref b)]) hx hb dL_law_19 rfl hl (by decide) rfl (fun ls hl => ?_)
  refine lv_iconst (v := 0) hx hb dL_law_20 (by decide) ?_
  refine lv_istore (lv' := [(4, .int 0), (3, .ref q3), (2, .ref q2), (1, .ref q1), (0, .ref b)]) hx hb dL_law_21 hl (by decide) rfl (fun ls hl => ?_)
  refine W.widen (k := 140 + 1000 * 0) (n := 3600 + 14000 * 0) (by decide) (by decide) ?_
  have e1 : (([] ++ [(q3, .inl (cy 2, 1, .inr (.inl (fun _ => 0))))]) ++ (wz_X13_init cy q2 u3 ++ (wz_X11_init cy q1 u ++ [])) : va_W).Perm (wz_X11_init cy q1 u ++ (wz_X13_init cy q2 u3 ++ OW cy q3 (fun _ => 0))) := by
    show (OW cy q3 (fun _ => 0) ++ (wz_X13_init cy q2 u3 ++ (wz_X11_init cy q1 u ++ []))).Perm _
    rw [List.append_nil]
    refine (List.perm_append_comm).trans ?_
    rw [List.append_assoc]
    exact swp _ _ _
  have hP := vaP_perm hP e1
  have hD := vaD_perm hD e1
  have hP := pX hP _ (zW_eq cy q1 u)
  have hD := dX_apart hD _ (by decide) (zW_map cy q1 u)
  have hP := vaP_perm hP (swp _ _ _)
  have hD := vaD_perm hD (swp _ _ _)
  have hP := pX hP _ (zR_eq cy q2 u3)
  have hD := dX_apart hD _ (by decide) (zR_map cy q2 u3)
  have hP := vaP_perm hP (swp _ _ _)
  have hD := vaD_perm hD (swp _ _ _)
  rw [List.append_assoc, List.append_assoc] at hP hD
  exact law_loop (ad := adU q1 u) (rd := rdU q2 u3) (pk := pkU u) (pm := pmU u) (ka := kaU u) (ma := maU u) (ao := q3) hL C0 S0 hKN hSS (akU u) (hled _ _ _ _ _ _ _) (L + 1) 0 H _ ls (Nat.zero_le _) (by omega) (Or.inl ⟨fun _ => 0, fun _ _ => 0, fun _ _ => 0, fun _ => 0, fun _ => stZ, fun _ => stZ, .null, fun k => cond (Nat.beq k 2) (-1) 0, fun _ _ => 0, fun _ => 0, fun _ => 0, ⟨⟨rfl, rfl, (if_neg (show ¬ (0 : Int32) = 4 by decide)).symm⟩, ⟨0, Nat.zero_le _, rfl, rfl⟩, rfl, fun j _ => ⟨128, by decide, rfl⟩, fun _ => Or.inl rfl, fun _ => Or.inl rfl⟩, ⟨⟨rfl, rfl, rfl, rfl, rfl, rfl, rfl⟩, ⟨rfl, rfl⟩, ⟨rfl, rfl⟩, 0, by decide, rfl⟩, hP, hD⟩) hS (lv_sub hl [4, 3, 2, 1, 0] rfl)

