section LC
variable {p : Program} {l : Launch} {e : Env} {s : State} {m : MethodId} {below : List Frame} {meth : Method} {c : Code} {H : Heap} {locs : List Loc} {cells slots : Nat} {Q : State → Prop} {b L : Nat} {xs : Nat → Int32} {D : va_G} {cy : Nat → ClassId} {A : Nat → Prop} {ls : Array Slot} {ad rd : Nat → Nat} {pk pm : Nat → Option Nat} {ka ma : Nat → Nat → Nat} {ao k : Nat} {x4 : Int32}
set_option maxHeartbeats 4000000 in
set_option maxRecDepth 100000 in
theorem csN_lane (S0 : CallFix p m c cL_law 7 s #[Value.ref b] wl_L RL) (hK : SK D cy s) (hA : ∀ q, s.heap.size ≤ q → A q) (hX : va_X b L xs s s.heap) (hbl : b < s.heap.size) (hbA : ¬ A b) (hf : cells ≤ room_1.cells ∧ slots ≤ room_1.slots) (hak : AK pk pm ka ma) (hk : k < 1000) (hin : ∀ j : Int32, j ∈ [1, 2, 3, 4, 5] → vp_in (x4 + j) L) (I : LN D cy A ad pk pm ka ma rd ao H) (hS : va_S A s.heap H locs) (hl : lv_has ls 7 [(0, .ref b), (1, .ref (ad 0)), (2, .ref (rd 0)), (3, .ref ao), (4, .int x4)]) (kk : ∀ (H1 : Heap) (locs1 : List Loc), LI D cy A ad pk pm ka ma rd ao (k + 1) H1 → va_S A s.heap H1 locs1 → W p l e room_1 s m #[Value.ref b] below meth c H1 locs1 cells slots Q (F0 m 2028 ls [])) : W p l e room_1 s m #[Value.ref b] below meth c H locs cells slots Q (F0 m 384 ls []) := by
  have hx := S0.1
  have hb := S0.2.1
  obtain ⟨ci, ca, cl, cj, K, M, mr, ri, ra, rk, ow, ⟨hc, ⟨nb, hnb, hb1, hb2⟩, ht, hT, hJ⟩, hz, hP, hD⟩ := I
  obtain ⟨⟨z1, z2, z3, z4, z5, z6, z7⟩, ⟨z8, z9⟩, ⟨z10, z11⟩, Lt, hLt, zL⟩ := id hz
  refine lv_aload_n hx hb dL_law_384 rfl (lv_at hl 1 rfl) ?_
  refine lv_aload_n hx hb dL_law_385 rfl (lv_at hl 0 rfl) ?_
  refine lv_iload hx hb dL_law_386 (lv_at hl 4 rfl) ?_
  refine lv_iconst (v := 1) hx hb dL_law_388 (by decide) ?_
  refine lv_iadd hx hb dL_law_389 ?_
  refine va_sld hx hb hX hbl hbA hS (hin 1 (by decide)) dL_law_390 ?_
  refine lv_aload_n hx hb dL_law_391 rfl (lv_at hl 0 rfl) ?_
  refine lv_iload hx hb dL_law_392 (lv_at hl 4 rfl) ?_
  refine lv_iconst (v := 2) hx hb dL_law_394 (by decide) ?_
  refine lv_iadd hx hb dL_law_395 ?_
  refine va_sld hx hb hX hbl hbA hS (hin 2 (by decide)) dL_law_396 ?_
  have hf1 : f_X11_lane (ci 1) (ci 18) (ci 21) (ca 12) (ci 25) (ca 19) (ca 20) (xs (x4 + 1).toNatClampNeg) (xs (x4 + 2).toNatClampNeg) = some (-1, 1) := by rw [z1, z4]; exact z_lane _ _ _ _ _ _ _
  refine k11_lane S0 hK hA hl.1 hf hP hD hS  hf1 (fun H1 locs1 hP hD hS => ?_)
  refine lv_aload_n hx hb dL_law_400 rfl (lv_at hl 2 rfl) ?_
  refine lv_aload_n hx hb dL_law_401 rfl (lv_at hl 0 rfl) ?_
  refine lv_iload hx hb dL_law_402 (lv_at hl 4 rfl) ?_
  refine lv_iconst (v := 1) hx hb dL_law_404 (by decide) ?_
  refine lv_iadd hx hb dL_law_405 ?_
  refine va_sld hx hb hX hbl hbA hS (hin 1 (by decide)) dL_law_406 ?_
  refine lv_aload_n hx hb dL_law_407 rfl (lv_at hl 0 rfl) ?_
  refine lv_iload hx hb dL_law_408 (lv_at hl 4 rfl) ?_
  refine lv_iconst (v := 2) hx hb dL_law_410 (by decide) ?_
  refine lv_iadd hx hb dL_law_411 ?_
  refine va_sld hx hb hX hbl hbA hS (hin 2 (by decide)) dL_law_412 ?_
  refine k13_lane_n (.int (-1 : Int32)) (by show 1 ≤ 2; decide) S0 hK hA hl.1 hf (vaP_perm hP (toR _ _ _ _ _)) (vaD_perm hD (toR _ _ _ _ _)) hS (zn_lane _ _ _ _ _) (fun H1 locs1 hP hD hS => ?_)
  refine lv_icmp_eq (tgt := 2028) hx hb dL_law_416 (by decide) (fun _ => ?_) (fun cd => absurd rfl cd)
  refine kk H1 locs1 (Or.inl ⟨(u1 ci 1 1), ca, cl, cj, K, M, mr, (u1 (u1 (u1 ri 0 0) 1 1) 2 (-1)), ra, rk, ow, ⟨hc.t (t := 1) (show ¬ (1 : Int32) = 4 by decide), ⟨nb, hnb, hb1, hb2⟩, ht, hT, hJ⟩, hz, vaP_perm hP (toR _ _ _ _ _).symm, vaD_perm hD (toR _ _ _ _ _).symm⟩) hS

set_option maxHeartbeats 4000000 in
set_option maxRecDepth 100000 in
theorem csW_lane (S0 : CallFix p m c cL_law 7 s #[Value.ref b] wl_L RL) (hK : SK D cy s) (hA : ∀ q, s.heap.size ≤ q → A q) (hX : va_X b L xs s s.heap) (hbl : b < s.heap.size) (hbA : ¬ A b) (hf : cells ≤ room_1.cells ∧ slots ≤ room_1.slots) (hak : AK pk pm ka ma) (hk : k < 1000) (hin : ∀ j : Int32, j ∈ [1, 2, 3, 4, 5] → vp_in (x4 + j) L) (I : LW D cy A ad pk pm ka ma rd ao k H) (hS : va_S A s.heap H locs) (hl : lv_has ls 7 [(0, .ref b), (1, .ref (ad 0)), (2, .ref (rd 0)), (3, .ref ao), (4, .int x4)]) (kk : ∀ (H1 : Heap) (locs1 : List Loc), LI D cy A ad pk pm ka ma rd ao (k + 1) H1 → va_S A s.heap H1 locs1 → W p l e room_1 s m #[Value.ref b] below meth c H1 locs1 cells slots Q (F0 m 2028 ls [])) : W p l e room_1 s m #[Value.ref b] below meth c H locs cells slots Q (F0 m 384 ls []) := by
  have hx := S0.1
  have hb := S0.2.1
  obtain ⟨ci, ca, cl, cj, K, M, mr, ri, ra, rk, ow, wd, wx, wi, wa, ⟨hc, ⟨nb, hnb, hb1, hb2⟩, ht, hT, hJ⟩, hw, hP, hD⟩ := I
  refine lv_aload_n hx hb dL_law_384 rfl (lv_at hl 1 rfl) ?_
  refine lv_aload_n hx hb dL_law_385 rfl (lv_at hl 0 rfl) ?_
  refine lv_iload hx hb dL_law_386 (lv_at hl 4 rfl) ?_
  refine lv_iconst (v := 1) hx hb dL_law_388 (by decide) ?_
  refine lv_iadd hx hb dL_law_389 ?_
  refine va_sld hx hb hX hbl hbA hS (hin 1 (by decide)) dL_law_390 ?_
  refine lv_aload_n hx hb dL_law_391 rfl (lv_at hl 0 rfl) ?_
  refine lv_iload hx hb dL_law_392 (lv_at hl 4 rfl) ?_
  refine lv_iconst (v := 2) hx hb dL_law_394 (by decide) ?_
  refine lv_iadd hx hb dL_law_395 ?_
  refine va_sld hx hb hX hbl hbA hS (hin 2 (by decide)) dL_law_396 ?_
  obtain ⟨r, t, e1, e2, h4⟩ := jW_lane hw (xs (x4 + 1).toNatClampNeg) (xs (x4 + 2).toNatClampNeg) (ci 1) (ri 0) (ri 1) (ri 2)
  have hf1 := e1
  refine k11_lane S0 hK hA hl.1 hf hP hD hS  hf1 (fun H1 locs1 hP hD hS => ?_)
  refine lv_aload_n hx hb dL_law_400 rfl (lv_at hl 2 rfl) ?_
  refine lv_aload_n hx hb dL_law_401 rfl (lv_at hl 0 rfl) ?_
  refine lv_iload hx hb dL_law_402 (lv_at hl 4 rfl) ?_
  refine lv_iconst (v := 1) hx hb dL_law_404 (by decide) ?_
  refine lv_iadd hx hb dL_law_405 ?_
  refine va_sld hx hb hX hbl hbA hS (hin 1 (by decide)) dL_law_406 ?_
  refine lv_aload_n hx hb dL_law_407 rfl (lv_at hl 0 rfl) ?_
  refine lv_iload hx hb dL_law_408 (lv_at hl 4 rfl) ?_
  refine lv_iconst (v := 2) hx hb dL_law_410 (by decide) ?_
  refine lv_iadd hx hb dL_law_411 ?_
  refine va_sld hx hb hX hbl hbA hS (hin 2 (by decide)) dL_law_412 ?_
  refine k13_lane (.int r) (by show 1 ≤ 2; decide) S0 hK hA hl.1 hf (vaP_perm hP (toR _ _ _ _ _)) (vaD_perm hD (toR _ _ _ _ _)) hS e2 (fun H1 locs1 hP hD hS => ?_)
  refine lv_icmp_eq (tgt := 2028) hx hb dL_law_416 (by decide) (fun _ => ?_) (fun cd => absurd rfl cd)
  refine kk H1 locs1 (Or.inr ⟨(u1 ci 1 t), ca, cl, cj, K, M, mr, (u1 (u1 (u1 ri 0 0) 1 t) 2 (-1)), ra, rk, ow, wd, wx, wi, wa, ⟨hc.t h4, ⟨nb, hnb, hb1, hb2⟩, ht, hT, hJ⟩, (hw.mono (Nat.le_succ k)), vaP_perm hP (toR _ _ _ _ _).symm, vaD_perm hD (toR _ _ _ _ _).symm⟩) hS

set_option maxHeartbeats 4000000 in
set_option maxRecDepth 100000 in
theorem csN_beast (S0 : CallFix p m c cL_law 7 s #[Value.ref b] wl_L RL) (hK : SK D cy s) (hA : ∀ q, s.heap.size ≤ q → A q) (hX : va_X b L xs s s.heap) (hbl : b < s.heap.size) (hbA : ¬ A b) (hf : cells ≤ room_1.cells ∧ slots ≤ room_1.slots) (hak : AK pk pm ka ma) (hk : k < 1000) (hin : ∀ j : Int32, j ∈ [1, 2, 3, 4, 5] → vp_in (x4 + j) L) (I : LN D cy A ad pk pm ka ma rd ao H) (hS : va_S A s.heap H locs) (hl : lv_has ls 7 [(0, .ref b), (1, .ref (ad 0)), (2, .ref (rd 0)), (3, .ref ao), (4, .int x4)]) (kk : ∀ (H1 : Heap) (locs1 : List Loc), LI D cy A ad pk pm ka ma rd ao (k + 1) H1 → va_S A s.heap H1 locs1 → W p l e room_1 s m #[Value.ref b] below meth c H1 locs1 cells slots Q (F0 m 2028 ls [])) : W p l e room_1 s m #[Value.ref b] below meth c H locs cells slots Q (F0 m 421 ls []) := by
  have hx := S0.1
  have hb := S0.2.1
  obtain ⟨ci, ca, cl, cj, K, M, mr, ri, ra, rk, ow, ⟨hc, ⟨nb, hnb, hb1, hb2⟩, ht, hT, hJ⟩, hz, hP, hD⟩ := I
  obtain ⟨⟨z1, z2, z3, z4, z5, z6, z7⟩, ⟨z8, z9⟩, ⟨z10, z11⟩, Lt, hLt, zL⟩ := id hz
  refine lv_aload_n hx hb dL_law_421 rfl (lv_at hl 1 rfl) ?_
  refine lv_aload_n hx hb dL_law_422 rfl (lv_at hl 0 rfl) ?_
  refine lv_iload hx hb dL_law_423 (lv_at hl 4 rfl) ?_
  refine lv_iconst (v := 1) hx hb dL_law_425 (by decide) ?_
  refine lv_iadd hx hb dL_law_426 ?_
  refine va_sld hx hb hX hbl hbA hS (hin 1 (by decide)) dL_law_427 ?_
  refine lv_aload_n hx hb dL_law_428 rfl (lv_at hl 0 rfl) ?_
  refine lv_iload hx hb dL_law_429 (lv_at hl 4 rfl) ?_
  refine lv_iconst (v := 2) hx hb dL_law_431 (by decide) ?_
  refine lv_iadd hx hb dL_law_432 ?_
  refine va_sld hx hb hX hbl hbA hS (hin 2 (by decide)) dL_law_433 ?_
  have hf1 : f_X11_beast (ci 1) (ci 21) (ca 14) (ca 16) (ca 17) (ci 25) (ci 26) (ca 20) (ca 21) (xs (x4 + 1).toNatClampNeg) (xs (x4 + 2).toNatClampNeg) = some (-1, 1) := by rw [z4]; exact z_beast _ _ _ _ _ _ _ _ _ _
  refine k11_beast S0 hK hA hl.1 hf hP hD hS  hf1 (fun H1 locs1 hP hD hS => ?_)
  refine lv_aload_n hx hb dL_law_437 rfl (lv_at hl 2 rfl) ?_
  refine lv_aload_n hx hb dL_law_438 rfl (lv_at hl 0 rfl) ?_
  refine lv_iload hx hb dL_law_439 (lv_at hl 4 rfl) ?_
  refine lv_iconst (v := 1) hx hb dL_law_441 (by decide) ?_
  refine lv_iadd hx hb dL_law_442 ?_
  refine va_sld hx hb hX hbl hbA hS (hin 1 (by decide)) dL_law_443 ?_
  refine lv_aload_n hx hb dL_law_444 rfl (lv_at hl 0 rfl) ?_
  refine lv_iload hx hb dL_law_445 (lv_at hl 4 rfl) ?_
  refine lv_iconst (v := 2) hx hb dL_law_447 (by decide) ?_
  refine lv_iadd hx hb dL_law_448 ?_
  refine va_sld hx hb hX hbl hbA hS (hin 2 (by decide)) dL_law_449 ?_
  refine k13_beast_n (.int (-1 : Int32)) (by show 1 ≤ 2; decide) S0 hK hA hl.1 hf (vaP_perm hP (toR _ _ _ _ _)) (vaD_perm hD (toR _ _ _ _ _)) hS (zn_beast _ _ _ _ _) (fun H1 locs1 hP hD hS => ?_)
  refine lv_icmp_eq (tgt := 2028) hx hb dL_law_453 (by decide) (fun _ => ?_) (fun cd => absurd rfl cd)
  refine kk H1 locs1 (Or.inl ⟨(u1 ci 1 1), ca, cl, cj, K, M, mr, (u1 (u1 (u1 ri 0 0) 1 1) 2 (-1)), ra, rk, ow, ⟨hc.t (t := 1) (show ¬ (1 : Int32) = 4 by decide), ⟨nb, hnb, hb1, hb2⟩, ht, hT, hJ⟩, hz, vaP_perm hP (toR _ _ _ _ _).symm, vaD_perm hD (toR _ _ _ _ _).symm⟩) hS

set_option maxHeartbeats 4000000 in
set_option maxRecDepth 100000 in
theorem csW_beast (S0 : CallFix p m c cL_law 7 s #[Value.ref b] wl_L RL) (hK : SK D cy s) (hA : ∀ q, s.heap.size ≤ q → A q) (hX : va_X b L xs s s.heap) (hbl : b < s.heap.size) (hbA : ¬ A b) (hf : cells ≤ room_1.cells ∧ slots ≤ room_1.slots) (hak : AK pk pm ka ma) (hk : k < 1000) (hin : ∀ j : Int32, j ∈ [1, 2, 3, 4, 5] → vp_in (x4 + j) L) (I : LW D cy A ad pk pm ka ma rd ao k H) (hS : va_S A s.heap H locs) (hl : lv_has ls 7 [(0, .ref b), (1, .ref (ad 0)), (2, .ref (rd 0)), (3, .ref ao), (4, .int x4)]) (kk : ∀ (H1 : Heap) (locs1 : List Loc), LI D cy A ad pk pm ka ma rd ao (k + 1) H1 → va_S A s.heap H1 locs1 → W p l e room_1 s m #[Value.ref b] below meth c H1 locs1 cells slots Q (F0 m 2028 ls [])) : W p l e room_1 s m #[Value.ref b] below meth c H locs cells slots Q (F0 m 421 ls []) := by
  have hx := S0.1
  have hb := S0.2.1
  obtain ⟨ci, ca, cl, cj, K, M, mr, ri, ra, rk, ow, wd, wx, wi, wa, ⟨hc, ⟨nb, hnb, hb1, hb2⟩, ht, hT, hJ⟩, hw, hP, hD⟩ := I
  refine lv_aload_n hx hb dL_law_421 rfl (lv_at hl 1 rfl) ?_
  refine lv_aload_n hx hb dL_law_422 rfl (lv_at hl 0 rfl) ?_
  refine lv_iload hx hb dL_law_423 (lv_at hl 4 rfl) ?_
  refine lv_iconst (v := 1) hx hb dL_law_425 (by decide) ?_
  refine lv_iadd hx hb dL_law_426 ?_
  refine va_sld hx hb hX hbl hbA hS (hin 1 (by decide)) dL_law_427 ?_
  refine lv_aload_n hx hb dL_law_428 rfl (lv_at hl 0 rfl) ?_
  refine lv_iload hx hb dL_law_429 (lv_at hl 4 rfl) ?_
  refine lv_iconst (v := 2) hx hb dL_law_431 (by decide) ?_
  refine lv_iadd hx hb dL_law_432 ?_
  refine va_sld hx hb hX hbl hbA hS (hin 2 (by decide)) dL_law_433 ?_
  obtain ⟨r, t, e1, e2, h4⟩ := jW_beast hw (xs (x4 + 1).toNatClampNeg) (xs (x4 + 2).toNatClampNeg) (ci 1) (ri 0) (ri 1) (ri 2)
  have hf1 := e1
  refine k11_beast S0 hK hA hl.1 hf hP hD hS  hf1 (fun H1 locs1 hP hD hS => ?_)
  refine lv_aload_n hx hb dL_law_437 rfl (lv_at hl 2 rfl) ?_
  refine lv_aload_n hx hb dL_law_438 rfl (lv_at hl 0 rfl) ?_
  refine lv_iload hx hb dL_law_439 (lv_at hl 4 rfl) ?_
  refine lv_iconst (v := 1) hx hb dL_law_441 (by decide) ?_
  refine lv_iadd hx hb dL_law_442 ?_
  refine va_sld hx hb hX hbl hbA hS (hin 1 (by decide)) dL_law_443 ?_
  refine lv_aload_n hx hb dL_law_444 rfl (lv_at hl 0 rfl) ?_
  refine lv_iload hx hb dL_law_445 (lv_at hl 4 rfl) ?_
  refine lv_iconst (v := 2) hx hb dL_law_447 (by decide) ?_
  refine lv_iadd hx hb dL_law_448 ?_
  refine va_sld hx hb hX hbl hbA hS (hin 2 (by decide)) dL_law_449 ?_
  refine k13_beast (.int r) (by show 1 ≤ 2; decide) S0 hK hA hl.1 hf (vaP_perm hP (toR _ _ _ _ _)) (vaD_perm hD (toR _ _ _ _ _)) hS e2 (fun H1 locs1 hP hD hS => ?_)
  refine lv_icmp_eq (tgt := 2028) hx hb dL_law_453 (by decide) (fun _ => ?_) (fun cd => absurd rfl cd)
  refine kk H1 locs1 (Or.inr ⟨(u1 ci 1 t), ca, cl, cj, K, M, mr, (u1 (u1 (u1 ri 0 0) 1 t) 2 (-1)), ra, rk, ow, wd, wx, wi, wa, ⟨hc.t h4, ⟨nb, hnb, hb1, hb2⟩, ht, hT, hJ⟩, (hw.mono (Nat.le_succ k)), vaP_perm hP (toR _ _ _ _ _).symm, vaD_perm hD (toR _ _ _ _ _).symm⟩) hS

set_option maxHeartbeats 4000000 in
set_option maxRecDepth 100000 in
theorem csN_across (S0 : CallFix p m c cL_law 7 s #[Value.ref b] wl_L RL) (hK : SK D cy s) (hA : ∀ q, s.heap.size ≤ q → A q) (hX : va_X b L xs s s.heap) (hbl : b < s.heap.size) (hbA : ¬ A b) (hf : cells ≤ room_1.cells ∧ slots ≤ room_1.slots) (hak : AK pk pm ka ma) (hk : k < 1000) (hin : ∀ j : Int32, j ∈ [1, 2, 3, 4, 5] → vp_in (x4 + j) L) (I : LN D cy A ad pk pm ka ma rd ao H) (hS : va_S A s.heap H locs) (hl : lv_has ls 7 [(0, .ref b), (1, .ref (ad 0)), (2, .ref (rd 0)), (3, .ref ao), (4, .int x4)]) (kk : ∀ (H1 : Heap) (locs1 : List Loc), LI D cy A ad pk pm ka ma rd ao (k + 1) H1 → va_S A s.heap H1 locs1 → W p l e room_1 s m #[Value.ref b] below meth c H1 locs1 cells slots Q (F0 m 2028 ls [])) : W p l e room_1 s m #[Value.ref b] below meth c H locs cells slots Q (F0 m 458 ls []) := by
  have hx := S0.1
  have hb := S0.2.1
  obtain ⟨ci, ca, cl, cj, K, M, mr, ri, ra, rk, ow, ⟨hc, ⟨nb, hnb, hb1, hb2⟩, ht, hT, hJ⟩, hz, hP, hD⟩ := I
  obtain ⟨⟨z1, z2, z3, z4, z5, z6, z7⟩, ⟨z8, z9⟩, ⟨z10, z11⟩, Lt, hLt, zL⟩ := id hz
  refine lv_aload_n hx hb dL_law_458 rfl (lv_at hl 1 rfl) ?_
  refine lv_aload_n hx hb dL_law_459 rfl (lv_at hl 0 rfl) ?_
  refine lv_iload hx hb dL_law_460 (lv_at hl 4 rfl) ?_
  refine lv_iconst (v := 1) hx hb dL_law_462 (by decide) ?_
  refine lv_iadd hx hb dL_law_463 ?_
  refine va_sld hx hb hX hbl hbA hS (hin 1 (by decide)) dL_law_464 ?_
  refine lv_aload_n hx hb dL_law_465 rfl (lv_at hl 0 rfl) ?_
  refine lv_iload hx hb dL_law_466 (lv_at hl 4 rfl) ?_
  refine lv_iconst (v := 2) hx hb dL_law_468 (by decide) ?_
  refine lv_iadd hx hb dL_law_469 ?_
  refine va_sld hx hb hX hbl hbA hS (hin 2 (by decide)) dL_law_470 ?_
  refine lv_bool hx hb dL_law_471 dL_law_474 dL_law_475 dL_law_478 ?_
  have hf1 : f_X11_across (ci 1) (ci 19) (ci 21) (ca 14) (ca 16) (ci 25) (ci 26) (xs (x4 + 1).toNatClampNeg) (if decide (¬ xs (x4 + 2).toNatClampNeg = 0) = true then 1 else 0) = some (-1, 1) := by rw [z4]; exact z_across _ _ _ _ _ _ _ _
  refine k11_across S0 hK hA hl.1 hf hP hD hS  hf1 (fun H1 locs1 hP hD hS => ?_)
  refine lv_aload_n hx hb dL_law_482 rfl (lv_at hl 2 rfl) ?_
  refine lv_aload_n hx hb dL_law_483 rfl (lv_at hl 0 rfl) ?_
  refine lv_iload hx hb dL_law_484 (lv_at hl 4 rfl) ?_
  refine lv_iconst (v := 1) hx hb dL_law_486 (by decide) ?_
  refine lv_iadd hx hb dL_law_487 ?_
  refine va_sld hx hb hX hbl hbA hS (hin 1 (by decide)) dL_law_488 ?_
  refine lv_aload_n hx hb dL_law_489 rfl (lv_at hl 0 rfl) ?_
  refine lv_iload hx hb dL_law_490 (lv_at hl 4 rfl) ?_
  refine lv_iconst (v := 2) hx hb dL_law_492 (by decide) ?_
  refine lv_iadd hx hb dL_law_493 ?_
  refine va_sld hx hb hX hbl hbA hS (hin 2 (by decide)) dL_law_494 ?_
  refine lv_bool hx hb dL_law_495 dL_law_498 dL_law_499 dL_law_502 ?_
  refine k13_across_n (.long (-1 : Int64)) (by show 2 ≤ 2; decide) S0 hK hA hl.1 hf (vaP_perm hP (toR _ _ _ _ _)) (vaD_perm hD (toR _ _ _ _ _)) hS (zn_across _ _ _ _ _) (fun H1 locs1 hP hD hS => ?_)
  refine W.lcmp hx hb dL_law_506 ?_
  refine lv_if_eq (tgt := 2028) hx hb dL_law_507 (by decide) (fun _ => ?_) (fun cd => absurd ((lgc_eq _ _).mpr rfl) cd)
  refine kk H1 locs1 (Or.inl ⟨(u1 ci 1 1), ca, cl, cj, K, M, mr, (u1 (u1 (u1 ri 0 0) 1 1) 2 (-1)), ra, rk, ow, ⟨hc.t (t := 1) (show ¬ (1 : Int32) = 4 by decide), ⟨nb, hnb, hb1, hb2⟩, ht, hT, hJ⟩, hz, vaP_perm hP (toR _ _ _ _ _).symm, vaD_perm hD (toR _ _ _ _ _).symm⟩) hS

set_option maxHeartbeats 4000000 in
set_option maxRecDepth 100000 in
theorem csW_across (S0 : CallFix p m c cL_law 7 s #[Value.ref b] wl_L RL) (hK : SK D cy s) (hA : ∀ q, s.heap.size ≤ q → A q) (hX : va_X b L xs s s.heap) (hbl : b < s.heap.size) (hbA : ¬ A b) (hf : cells ≤ room_1.cells ∧ slots ≤ room_1.slots) (hak : AK pk pm ka ma) (hk : k < 1000) (hin : ∀ j : Int32, j ∈ [1, 2, 3, 4, 5] → vp_in (x4 + j) L) (I : LW D cy A ad pk pm ka ma rd ao k H) (hS : va_S A s.heap H locs) (hl : lv_has ls 7 [(0, .ref b), (1, .ref (ad 0)), (2, .ref (rd 0)), (3, .ref ao), (4, .int x4)]) (kk : ∀ (H1 : Heap) (locs1 : List Loc), LI D cy A ad pk pm ka ma rd ao (k + 1) H1 → va_S A s.heap H1 locs1 → W p l e room_1 s m #[Value.ref b] below meth c H1 locs1 cells slots Q (F0 m 2028 ls [])) : W p l e room_1 s m #[Value.ref b] below meth c H locs cells slots Q (F0 m 458 ls []) := by
  have hx := S0.1
  have hb := S0.2.1
  obtain ⟨ci, ca, cl, cj, K, M, mr, ri, ra, rk, ow, wd, wx, wi, wa, ⟨hc, ⟨nb, hnb, hb1, hb2⟩, ht, hT, hJ⟩, hw, hP, hD⟩ := I
  refine lv_aload_n hx hb dL_law_458 rfl (lv_at hl 1 rfl) ?_
  refine lv_aload_n hx hb dL_law_459 rfl (lv_at hl 0 rfl) ?_
  refine lv_iload hx hb dL_law_460 (lv_at hl 4 rfl) ?_
  refine lv_iconst (v := 1) hx hb dL_law_462 (by decide) ?_
  refine lv_iadd hx hb dL_law_463 ?_
  refine va_sld hx hb hX hbl hbA hS (hin 1 (by decide)) dL_law_464 ?_
  refine lv_aload_n hx hb dL_law_465 rfl (lv_at hl 0 rfl) ?_
  refine lv_iload hx hb dL_law_466 (lv_at hl 4 rfl) ?_
  refine lv_iconst (v := 2) hx hb dL_law_468 (by decide) ?_
  refine lv_iadd hx hb dL_law_469 ?_
  refine va_sld hx hb hX hbl hbA hS (hin 2 (by decide)) dL_law_470 ?_
  refine lv_bool hx hb dL_law_471 dL_law_474 dL_law_475 dL_law_478 ?_
  obtain ⟨r, t, e1, e2, h4⟩ := jW_across hw (xs (x4 + 1).toNatClampNeg) (decide (¬ xs (x4 + 2).toNatClampNeg = 0)) (ci 1) (ri 0) (ri 1) (ri 2)
  have hf1 := e1
  refine k11_across S0 hK hA hl.1 hf hP hD hS  hf1 (fun H1 locs1 hP hD hS => ?_)
  refine lv_aload_n hx hb dL_law_482 rfl (lv_at hl 2 rfl) ?_
  refine lv_aload_n hx hb dL_law_483 rfl (lv_at hl 0 rfl) ?_
  refine lv_iload hx hb dL_law_484 (lv_at hl 4 rfl) ?_
  refine lv_iconst (v := 1) hx hb dL_law_486 (by decide) ?_
  refine lv_iadd hx hb dL_law_487 ?_
  refine va_sld hx hb hX hbl hbA hS (hin 1 (by decide)) dL_law_488 ?_
  refine lv_aload_n hx hb dL_law_489 rfl (lv_at hl 0 rfl) ?_
  refine lv_iload hx hb dL_law_490 (lv_at hl 4 rfl) ?_
  refine lv_iconst (v := 2) hx hb dL_law_492 (by decide) ?_
  refine lv_iadd hx hb dL_law_493 ?_
  refine va_sld hx hb hX hbl hbA hS (hin 2 (by decide)) dL_law_494 ?_
  refine lv_bool hx hb dL_law_495 dL_law_498 dL_law_499 dL_law_502 ?_
  refine k13_across (.long r) (by show 2 ≤ 2; decide) S0 hK hA hl.1 hf (vaP_perm hP (toR _ _ _ _ _)) (vaD_perm hD (toR _ _ _ _ _)) hS e2 (fun H1 locs1 hP hD hS => ?_)
  refine W.lcmp hx hb dL_law_506 ?_
  refine lv_if_eq (tgt := 2028) hx hb dL_law_507 (by decide) (fun _ => ?_) (fun cd => absurd ((lgc_eq _ _).mpr rfl) cd)
  refine kk H1 locs1 (Or.inr ⟨(u1 ci 1 t), ca, cl, cj, K, M, mr, (u1 (u1 (u1 ri 0 0) 1 t) 2 (-1)), ra, rk, ow, wd, wx, wi, wa, ⟨hc.t h4, ⟨nb, hnb, hb1, hb2⟩, ht, hT, hJ⟩, (hw.mono (Nat.le_succ k)), vaP_perm hP (toR _ _ _ _ _).symm, vaD_perm hD (toR _ _ _ _ _).symm⟩) hS

set_option maxHeartbeats 4000000 in
set_option maxRecDepth 100000 in
theorem csN_meets (S0 : CallFix p m c cL_law 7 s #[Value.ref b] wl_L RL) (hK : SK D cy s) (hA : ∀ q, s.heap.size ≤ q → A q) (hX : va_X b L xs s s.heap) (hbl : b < s.heap.size) (hbA : ¬ A b) (hf : cells ≤ room_1.cells ∧ slots ≤ room_1.slots) (hak : AK pk pm ka ma) (hk : k < 1000) (hin : ∀ j : Int32, j ∈ [1, 2, 3, 4, 5] → vp_in (x4 + j) L) (I : LN D cy A ad pk pm ka ma rd ao H) (hS : va_S A s.heap H locs) (hl : lv_has ls 7 [(0, .ref b), (1, .ref (ad 0)), (2, .ref (rd 0)), (3, .ref ao), (4, .int x4)]) (kk : ∀ (H1 : Heap) (locs1 : List Loc), LI D cy A ad pk pm ka ma rd ao (k + 1) H1 → va_S A s.heap H1 locs1 → W p l e room_1 s m #[Value.ref b] below meth c H1 locs1 cells slots Q (F0 m 2028 ls [])) : W p l e room_1 s m #[Value.ref b] below meth c H locs cells slots Q (F0 m 512 ls []) := by
  have hx := S0.1
  have hb := S0.2.1
  obtain ⟨ci, ca, cl, cj, K, M, mr, ri, ra, rk, ow, ⟨hc, ⟨nb, hnb, hb1, hb2⟩, ht, hT, hJ⟩, hz, hP, hD⟩ := I
  obtain ⟨⟨z1, z2, z3, z4, z5, z6, z7⟩, ⟨z8, z9⟩, ⟨z10, z11⟩, Lt, hLt, zL⟩ := id hz
  refine lv_aload_n hx hb dL_law_512 rfl (lv_at hl 1 rfl) ?_
  refine lv_aload_n hx hb dL_law_513 rfl (lv_at hl 0 rfl) ?_
  refine lv_iload hx hb dL_law_514 (lv_at hl 4 rfl) ?_
  refine lv_iconst (v := 1) hx hb dL_law_516 (by decide) ?_
  refine lv_iadd hx hb dL_law_517 ?_
  refine va_sld hx hb hX hbl hbA hS (hin 1 (by decide)) dL_law_518 ?_
  refine lv_aload_n hx hb dL_law_519 rfl (lv_at hl 0 rfl) ?_
  refine lv_iload hx hb dL_law_520 (lv_at hl 4 rfl) ?_
  refine lv_iconst (v := 2) hx hb dL_law_522 (by decide) ?_
  refine lv_iadd hx hb dL_law_523 ?_
  refine va_sld hx hb hX hbl hbA hS (hin 2 (by decide)) dL_law_524 ?_
  refine lv_aload_n hx hb dL_law_525 rfl (lv_at hl 0 rfl) ?_
  refine lv_iload hx hb dL_law_526 (lv_at hl 4 rfl) ?_
  refine lv_iconst (v := 3) hx hb dL_law_528 (by decide) ?_
  refine lv_iadd hx hb dL_law_529 ?_
  refine va_sld hx hb hX hbl hbA hS (hin 3 (by decide)) dL_law_530 ?_
  refine lv_bool hx hb dL_law_531 dL_law_534 dL_law_535 dL_law_538 ?_
  have hf1 : f_X11_meets (ci 1) (ci 18) (ci 21) (ca 12) (ca 14) (ci 25) (ca 19) (ca 21) (xs (x4 + 1).toNatClampNeg) (xs (x4 + 2).toNatClampNeg) (if decide (¬ xs (x4 + 3).toNatClampNeg = 0) = true then 1 else 0) = some (-1, 1) := by rw [z1, z4]; exact z_meets _ _ _ _ _ _ _ _ _
  refine k11_meets S0 hK hA hl.1 hf hP hD hS  hf1 (fun H1 locs1 hP hD hS => ?_)
  refine lv_aload_n hx hb dL_law_542 rfl (lv_at hl 2 rfl) ?_
  refine lv_aload_n hx hb dL_law_543 rfl (lv_at hl 0 rfl) ?_
  refine lv_iload hx hb dL_law_544 (lv_at hl 4 rfl) ?_
  refine lv_iconst (v := 1) hx hb dL_law_546 (by decide) ?_
  refine lv_iadd hx hb dL_law_547 ?_
  refine va_sld hx hb hX hbl hbA hS (hin 1 (by decide)) dL_law_548 ?_
  refine lv_aload_n hx hb dL_law_549 rfl (lv_at hl 0 rfl) ?_
  refine lv_iload hx hb dL_law_550 (lv_at hl 4 rfl) ?_
  refine lv_iconst (v := 2) hx hb dL_law_552 (by decide) ?_
  refine lv_iadd hx hb dL_law_553 ?_
  refine va_sld hx hb hX hbl hbA hS (hin 2 (by decide)) dL_law_554 ?_
  refine lv_aload_n hx hb dL_law_555 rfl (lv_at hl 0 rfl) ?_
  refine lv_iload hx hb dL_law_556 (lv_at hl 4 rfl) ?_
  refine lv_iconst (v := 3) hx hb dL_law_558 (by decide) ?_
  refine lv_iadd hx hb dL_law_559 ?_
  refine va_sld hx hb hX hbl hbA hS (hin 3 (by decide)) dL_law_560 ?_
  refine lv_bool hx hb dL_law_561 dL_law_564 dL_law_565 dL_law_568 ?_
  refine k13_meets_n (.int (-1 : Int32)) (by show 1 ≤ 2; decide) S0 hK hA hl.1 hf (vaP_perm hP (toR _ _ _ _ _)) (vaD_perm hD (toR _ _ _ _ _)) hS (zn_meets _ _ _ _ _ _) (fun H1 locs1 hP hD hS => ?_)
  refine lv_icmp_eq (tgt := 2028) hx hb dL_law_572 (by decide) (fun _ => ?_) (fun cd => absurd rfl cd)
  refine kk H1 locs1 (Or.inl ⟨(u1 ci 1 1), ca, cl, cj, K, M, mr, (u1 (u1 (u1 ri 0 0) 1 1) 2 (-1)), ra, rk, ow, ⟨hc.t (t := 1) (show ¬ (1 : Int32) = 4 by decide), ⟨nb, hnb, hb1, hb2⟩, ht, hT, hJ⟩, hz, vaP_perm hP (toR _ _ _ _ _).symm, vaD_perm hD (toR _ _ _ _ _).symm⟩) hS

set_option maxHeartbeats 4000000 in
set_option maxRecDepth 100000 in
theorem csW_meets (S0 : CallFix p m c cL_law 7 s #[Value.ref b] wl_L RL) (hK : SK D cy s) (hA : ∀ q, s.heap.size ≤ q → A q) (hX : va_X b L xs s s.heap) (hbl : b < s.heap.size) (hbA : ¬ A b) (hf : cells ≤ room_1.cells ∧ slots ≤ room_1.slots) (hak : AK pk pm ka ma) (hk : k < 1000) (hin : ∀ j : Int32, j ∈ [1, 2, 3, 4, 5] → vp_in (x4 + j) L) (I : LW D cy A ad pk pm ka ma rd ao k H) (hS : va_S A s.heap H locs) (hl : lv_has ls 7 [(0, .ref b), (1, .ref (ad 0)), (2, .ref (rd 0)), (3, .ref ao), (4, .int x4)]) (kk : ∀ (H1 : Heap) (locs1 : List Loc), LI D cy A ad pk pm ka ma rd ao (k + 1) H1 → va_S A s.heap H1 locs1 → W p l e room_1 s m #[Value.ref b] below meth c H1 locs1 cells slots Q (F0 m 2028 ls [])) : W p l e room_1 s m #[Value.ref b] below meth c H locs cells slots Q (F0 m 512 ls []) := by
  have hx := S0.1
  have hb := S0.2.1
  obtain ⟨ci, ca, cl, cj, K, M, mr, ri, ra, rk, ow, wd, wx, wi, wa, ⟨hc, ⟨nb, hnb, hb1, hb2⟩, ht, hT, hJ⟩, hw, hP, hD⟩ := I
  refine lv_aload_n hx hb dL_law_512 rfl (lv_at hl 1 rfl) ?_
  refine lv_aload_n hx hb dL_law_513 rfl (lv_at hl 0 rfl) ?_
  refine lv_iload hx hb dL_law_514 (lv_at hl 4 rfl) ?_
  refine lv_iconst (v := 1) hx hb dL_law_516 (by decide) ?_
  refine lv_iadd hx hb dL_law_517 ?_
  refine va_sld hx hb hX hbl hbA hS (hin 1 (by decide)) dL_law_518 ?_
  refine lv_aload_n hx hb dL_law_519 rfl (lv_at hl 0 rfl) ?_
  refine lv_iload hx hb dL_law_520 (lv_at hl 4 rfl) ?_
  refine lv_iconst (v := 2) hx hb dL_law_522 (by decide) ?_
  refine lv_iadd hx hb dL_law_523 ?_
  refine va_sld hx hb hX hbl hbA hS (hin 2 (by decide)) dL_law_524 ?_
  refine lv_aload_n hx hb dL_law_525 rfl (lv_at hl 0 rfl) ?_
  refine lv_iload hx hb dL_law_526 (lv_at hl 4 rfl) ?_
  refine lv_iconst (v := 3) hx hb dL_law_528 (by decide) ?_
  refine lv_iadd hx hb dL_law_529 ?_
  refine va_sld hx hb hX hbl hbA hS (hin 3 (by decide)) dL_law_530 ?_
  refine lv_bool hx hb dL_law_531 dL_law_534 dL_law_535 dL_law_538 ?_
  obtain ⟨r, t, e1, e2, h4⟩ := jW_meets hw (xs (x4 + 1).toNatClampNeg) (xs (x4 + 2).toNatClampNeg) (decide (¬ xs (x4 + 3).toNatClampNeg = 0)) (ci 1) (ri 0) (ri 1) (ri 2)
  have hf1 := e1
  refine k11_meets S0 hK hA hl.1 hf hP hD hS  hf1 (fun H1 locs1 hP hD hS => ?_)
  refine lv_aload_n hx hb dL_law_542 rfl (lv_at hl 2 rfl) ?_
  refine lv_aload_n hx hb dL_law_543 rfl (lv_at hl 0 rfl) ?_
  refine lv_iload hx hb dL_law_544 (lv_at hl 4 rfl) ?_
  refine lv_iconst (v := 1) hx hb dL_law_546 (by decide) ?_
  refine lv_iadd hx hb dL_law_547 ?_
  refine va_sld hx hb hX hbl hbA hS (hin 1 (by decide)) dL_law_548 ?_
  refine lv_aload_n hx hb dL_law_549 rfl (lv_at hl 0 rfl) ?_
  refine lv_iload hx hb dL_law_550 (lv_at hl 4 rfl) ?_
  refine lv_iconst (v := 2) hx hb dL_law_552 (by decide) ?_
  refine lv_iadd hx hb dL_law_553 ?_
  refine va_sld hx hb hX hbl hbA hS (hin 2 (by decide)) dL_law_554 ?_
  refine lv_aload_n hx hb dL_law_555 rfl (lv_at hl 0 rfl) ?_
  refine lv_iload hx hb dL_law_556 (lv_at hl 4 rfl) ?_
  refine lv_iconst (v := 3) hx hb dL_law_558 (by decide) ?_
  refine lv_iadd hx hb dL_law_559 ?_
  refine va_sld hx hb hX hbl hbA hS (hin 3 (by decide)) dL_law_560 ?_
  refine lv_bool hx hb dL_law_561 dL_law_564 dL_law_565 dL_law_568 ?_
  refine k13_meets (.int r) (by show 1 ≤ 2; decide) S0 hK hA hl.1 hf (vaP_perm hP (toR _ _ _ _ _)) (vaD_perm hD (toR _ _ _ _ _)) hS e2 (fun H1 locs1 hP hD hS => ?_)
  refine lv_icmp_eq (tgt := 2028) hx hb dL_law_572 (by decide) (fun _ => ?_) (fun cd => absurd rfl cd)
  refine kk H1 locs1 (Or.inr ⟨(u1 ci 1 t), ca, cl, cj, K, M, mr, (u1 (u1 (u1 ri 0 0) 1 t) 2 (-1)), ra, rk, ow, wd, wx, wi, wa, ⟨hc.t h4, ⟨nb, hnb, hb1, hb2⟩, ht, hT, hJ⟩, (hw.mono (Nat.le_succ k)), vaP_perm hP (toR _ _ _ _ _).symm, vaD_perm hD (toR _ _ _ _ _).symm⟩) hS

set_option maxHeartbeats 4000000 in
set_option maxRecDepth 100000 in
theorem csN_mean (S0 : CallFix p m c cL_law 7 s #[Value.ref b] wl_L RL) (hK : SK D cy s) (hA : ∀ q, s.heap.size ≤ q → A q) (hX : va_X b L xs s s.heap) (hbl : b < s.heap.size) (hbA : ¬ A b) (hf : cells ≤ room_1.cells ∧ slots ≤ room_1.slots) (hak : AK pk pm ka ma) (hk : k < 1000) (hin : ∀ j : Int32, j ∈ [1, 2, 3, 4, 5] → vp_in (x4 + j) L) (I : LN D cy A ad pk pm ka ma rd ao H) (hS : va_S A s.heap H locs) (hl : lv_has ls 7 [(0, .ref b), (1, .ref (ad 0)), (2, .ref (rd 0)), (3, .ref ao), (4, .int x4)]) (kk : ∀ (H1 : Heap) (locs1 : List Loc), LI D cy A ad pk pm ka ma rd ao (k + 1) H1 → va_S A s.heap H1 locs1 → W p l e room_1 s m #[Value.ref b] below meth c H1 locs1 cells slots Q (F0 m 2028 ls [])) : W p l e room_1 s m #[Value.ref b] below meth c H locs cells slots Q (F0 m 577 ls []) := by
  have hx := S0.1
  have hb := S0.2.1
  obtain ⟨ci, ca, cl, cj, K, M, mr, ri, ra, rk, ow, ⟨hc, ⟨nb, hnb, hb1, hb2⟩, ht, hT, hJ⟩, hz, hP, hD⟩ := I
  obtain ⟨⟨z1, z2, z3, z4, z5, z6, z7⟩, ⟨z8, z9⟩, ⟨z10, z11⟩, Lt, hLt, zL⟩ := id hz
  refine lv_aload_n hx hb dL_law_577 rfl (lv_at hl 1 rfl) ?_
  refine lv_aload_n hx hb dL_law_578 rfl (lv_at hl 0 rfl) ?_
  refine lv_iload hx hb dL_law_579 (lv_at hl 4 rfl) ?_
  refine lv_iconst (v := 1) hx hb dL_law_581 (by decide) ?_
  refine lv_iadd hx hb dL_law_582 ?_
  refine va_sld hx hb hX hbl hbA hS (hin 1 (by decide)) dL_law_583 ?_
  refine lv_aload_n hx hb dL_law_584 rfl (lv_at hl 0 rfl) ?_
  refine lv_iload hx hb dL_law_585 (lv_at hl 4 rfl) ?_
  refine lv_iconst (v := 2) hx hb dL_law_587 (by decide) ?_
  refine lv_iadd hx hb dL_law_588 ?_
  refine va_sld hx hb hX hbl hbA hS (hin 2 (by decide)) dL_law_589 ?_
  refine lv_aload_n hx hb dL_law_590 rfl (lv_at hl 0 rfl) ?_
  refine lv_iload hx hb dL_law_591 (lv_at hl 4 rfl) ?_
  refine lv_iconst (v := 3) hx hb dL_law_593 (by decide) ?_
  refine lv_iadd hx hb dL_law_594 ?_
  refine va_sld hx hb hX hbl hbA hS (hin 3 (by decide)) dL_law_595 ?_
  refine lv_bool hx hb dL_law_596 dL_law_599 dL_law_600 dL_law_603 ?_
  refine lv_aload_n hx hb dL_law_604 rfl (lv_at hl 0 rfl) ?_
  refine lv_iload hx hb dL_law_605 (lv_at hl 4 rfl) ?_
  refine lv_iconst (v := 4) hx hb dL_law_607 (by decide) ?_
  refine lv_iadd hx hb dL_law_608 ?_
  refine va_sld hx hb hX hbl hbA hS (hin 4 (by decide)) dL_law_609 ?_
  refine lv_bool hx hb dL_law_610 dL_law_613 dL_law_614 dL_law_617 ?_
  have hf1 : f_X11_mean (ci 1) (ci 18) (ci 19) (ci 21) (ca 12) (ca 14) (ca 16) (ci 25) (ci 26) (ca 19) (ca 21) (xs (x4 + 1).toNatClampNeg) (xs (x4 + 2).toNatClampNeg) (if decide (¬ xs (x4 + 3).toNatClampNeg = 0) = true then 1 else 0) (if decide (¬ xs (x4 + 4).toNatClampNeg = 0) = true then 1 else 0) = some (-1, 1) := by rw [z1, z4]; exact z_mean _ _ _ _ _ _ _ _ _ _ _ _ _
  refine k11_mean S0 hK hA hl.1 hf hP hD hS  hf1 (fun H1 locs1 hP hD hS => ?_)
  refine lv_aload_n hx hb dL_law_621 rfl (lv_at hl 2 rfl) ?_
  refine lv_aload_n hx hb dL_law_622 rfl (lv_at hl 0 rfl) ?_
  refine lv_iload hx hb dL_law_623 (lv_at hl 4 rfl) ?_
  refine lv_iconst (v := 1) hx hb dL_law_625 (by decide) ?_
  refine lv_iadd hx hb dL_law_626 ?_
  refine va_sld hx hb hX hbl hbA hS (hin 1 (by decide)) dL_law_627 ?_
  refine lv_aload_n hx hb dL_law_628 rfl (lv_at hl 0 rfl) ?_
  refine lv_iload hx hb dL_law_629 (lv_at hl 4 rfl) ?_
  refine lv_iconst (v := 2) hx hb dL_law_631 (by decide) ?_
  refine lv_iadd hx hb dL_law_632 ?_
  refine va_sld hx hb hX hbl hbA hS (hin 2 (by decide)) dL_law_633 ?_
  refine lv_aload_n hx hb dL_law_634 rfl (lv_at hl 0 rfl) ?_
  refine lv_iload hx hb dL_law_635 (lv_at hl 4 rfl) ?_
  refine lv_iconst (v := 3) hx hb dL_law_637 (by decide) ?_
  refine lv_iadd hx hb dL_law_638 ?_
  refine va_sld hx hb hX hbl hbA hS (hin 3 (by decide)) dL_law_639 ?_
  refine lv_bool hx hb dL_law_640 dL_law_643 dL_law_644 dL_law_647 ?_
  refine lv_aload_n hx hb dL_law_648 rfl (lv_at hl 0 rfl) ?_
  refine lv_iload hx hb dL_law_649 (lv_at hl 4 rfl) ?_
  refine lv_iconst (v := 4) hx hb dL_law_651 (by decide) ?_
  refine lv_iadd hx hb dL_law_652 ?_
  refine va_sld hx hb hX hbl hbA hS (hin 4 (by decide)) dL_law_653 ?_
  refine lv_bool hx hb dL_law_654 dL_law_657 dL_law_658 dL_law_661 ?_
  refine k13_mean_n (.long (-1 : Int64)) (by show 2 ≤ 2; decide) S0 hK hA hl.1 hf (vaP_perm hP (toR _ _ _ _ _)) (vaD_perm hD (toR _ _ _ _ _)) hS (zn_mean _ _ _ _ _ _ _) (fun H1 locs1 hP hD hS => ?_)
  refine W.lcmp hx hb dL_law_665 ?_
  refine lv_if_eq (tgt := 2028) hx hb dL_law_666 (by decide) (fun _ => ?_) (fun cd => absurd ((lgc_eq _ _).mpr rfl) cd)
  refine kk H1 locs1 (Or.inl ⟨(u1 ci 1 1), ca, cl, cj, K, M, mr, (u1 (u1 (u1 ri 0 0) 1 1) 2 (-1)), ra, rk, ow, ⟨hc.t (t := 1) (show ¬ (1 : Int32) = 4 by decide), ⟨nb, hnb, hb1, hb2⟩, ht, hT, hJ⟩, hz, vaP_perm hP (toR _ _ _ _ _).symm, vaD_perm hD (toR _ _ _ _ _).symm⟩) hS

set_option maxHeartbeats 4000000 in
set_option maxRecDepth 100000 in
theorem csW_mean (S0 : CallFix p m c cL_law 7 s #[Value.ref b] wl_L RL) (hK : SK D cy s) (hA : ∀ q, s.heap.size ≤ q → A q) (hX : va_X b L xs s s.heap) (hbl : b < s.heap.size) (hbA : ¬ A b) (hf : cells ≤ room_1.cells ∧ slots ≤ room_1.slots) (hak : AK pk pm ka ma) (hk : k < 1000) (hin : ∀ j : Int32, j ∈ [1, 2, 3, 4, 5] → vp_in (x4 + j) L) (I : LW D cy A ad pk pm ka ma rd ao k H) (hS : va_S A s.heap H locs) (hl : lv_has ls 7 [(0, .ref b), (1, .ref (ad 0)), (2, .ref (rd 0)), (3, .ref ao), (4, .int x4)]) (kk : ∀ (H1 : Heap) (locs1 : List Loc), LI D cy A ad pk pm ka ma rd ao (k + 1) H1 → va_S A s.heap H1 locs1 → W p l e room_1 s m #[Value.ref b] below meth c H1 locs1 cells slots Q (F0 m 2028 ls [])) : W p l e room_1 s m #[Value.ref b] below meth c H locs cells slots Q (F0 m 577 ls []) := by
  have hx := S0.1
  have hb := S0.2.1
  obtain ⟨ci, ca, cl, cj, K, M, mr, ri, ra, rk, ow, wd, wx, wi, wa, ⟨hc, ⟨nb, hnb, hb1, hb2⟩, ht, hT, hJ⟩, hw, hP, hD⟩ := I
  refine lv_aload_n hx hb dL_law_577 rfl (lv_at hl 1 rfl) ?_
  refine lv_aload_n hx hb dL_law_578 rfl (lv_at hl 0 rfl) ?_
  refine lv_iload hx hb dL_law_579 (lv_at hl 4 rfl) ?_
  refine lv_iconst (v := 1) hx hb dL_law_581 (by decide) ?_
  refine lv_iadd hx hb dL_law_582 ?_
  refine va_sld hx hb hX hbl hbA hS (hin 1 (by decide)) dL_law_583 ?_
  refine lv_aload_n hx hb dL_law_584 rfl (lv_at hl 0 rfl) ?_
  refine lv_iload hx hb dL_law_585 (lv_at hl 4 rfl) ?_
  refine lv_iconst (v := 2) hx hb dL_law_587 (by decide) ?_
  refine lv_iadd hx hb dL_law_588 ?_
  refine va_sld hx hb hX hbl hbA hS (hin 2 (by decide)) dL_law_589 ?_
  refine lv_aload_n hx hb dL_law_590 rfl (lv_at hl 0 rfl) ?_
  refine lv_iload hx hb dL_law_591 (lv_at hl 4 rfl) ?_
  refine lv_iconst (v := 3) hx hb dL_law_593 (by decide) ?_
  refine lv_iadd hx hb dL_law_594 ?_
  refine va_sld hx hb hX hbl hbA hS (hin 3 (by decide)) dL_law_595 ?_
  refine lv_bool hx hb dL_law_596 dL_law_599 dL_law_600 dL_law_603 ?_
  refine lv_aload_n hx hb dL_law_604 rfl (lv_at hl 0 rfl) ?_
  refine lv_iload hx hb dL_law_605 (lv_at hl 4 rfl) ?_
  refine lv_iconst (v := 4) hx hb dL_law_607 (by decide) ?_
  refine lv_iadd hx hb dL_law_608 ?_
  refine va_sld hx hb hX hbl hbA hS (hin 4 (by decide)) dL_law_609 ?_
  refine lv_bool hx hb dL_law_610 dL_law_613 dL_law_614 dL_law_617 ?_
  obtain ⟨r, t, e1, e2, h4⟩ := jW_mean hw (xs (x4 + 1).toNatClampNeg) (xs (x4 + 2).toNatClampNeg) (decide (¬ xs (x4 + 3).toNatClampNeg = 0)) (decide (¬ xs (x4 + 4).toNatClampNeg = 0)) (ci 1) (ri 0) (ri 1) (ri 2)
  have hf1 := e1
  refine k11_mean S0 hK hA hl.1 hf hP hD hS  hf1 (fun H1 locs1 hP hD hS => ?_)
  refine lv_aload_n hx hb dL_law_621 rfl (lv_at hl 2 rfl) ?_
  refine lv_aload_n hx hb dL_law_622 rfl (lv_at hl 0 rfl) ?_
  refine lv_iload hx hb dL_law_623 (lv_at hl 4 rfl) ?_
  refine lv_iconst (v := 1) hx hb dL_law_625 (by decide) ?_
  refine lv_iadd hx hb dL_law_626 ?_
  refine va_sld hx hb hX hbl hbA hS (hin 1 (by decide)) dL_law_627 ?_
  refine lv_aload_n hx hb dL_law_628 rfl (lv_at hl 0 rfl) ?_
  refine lv_iload hx hb dL_law_629 (lv_at hl 4 rfl) ?_
  refine lv_iconst (v := 2) hx hb dL_law_631 (by decide) ?_
  refine lv_iadd hx hb dL_law_632 ?_
  refine va_sld hx hb hX hbl hbA hS (hin 2 (by decide)) dL_law_633 ?_
  refine lv_aload_n hx hb dL_law_634 rfl (lv_at hl 0 rfl) ?_
  refine lv_iload hx hb dL_law_635 (lv_at hl 4 rfl) ?_
  refine lv_iconst (v := 3) hx hb dL_law_637 (by decide) ?_
  refine lv_iadd hx hb dL_law_638 ?_
  refine va_sld hx hb hX hbl hbA hS (hin 3 (by decide)) dL_law_639 ?_
  refine lv_bool hx hb dL_law_640 dL_law_643 dL_law_644 dL_law_647 ?_
  refine lv_aload_n hx hb dL_law_648 rfl (lv_at hl 0 rfl) ?_
  refine lv_iload hx hb dL_law_649 (lv_at hl 4 rfl) ?_
  refine lv_iconst (v := 4) hx hb dL_law_651 (by decide) ?_
  refine lv_iadd hx hb dL_law_652 ?_
  refine va_sld hx hb hX hbl hbA hS (hin 4 (by decide)) dL_law_653 ?_
  refine lv_bool hx hb dL_law_654 dL_law_657 dL_law_658 dL_law_661 ?_
  refine k13_mean (.long r) (by show 2 ≤ 2; decide) S0 hK hA hl.1 hf (vaP_perm hP (toR _ _ _ _ _)) (vaD_perm hD (toR _ _ _ _ _)) hS e2 (fun H1 locs1 hP hD hS => ?_)
  refine W.lcmp hx hb dL_law_665 ?_
  refine lv_if_eq (tgt := 2028) hx hb dL_law_666 (by decide) (fun _ => ?_) (fun cd => absurd ((lgc_eq _ _).mpr rfl) cd)
  refine kk H1 locs1 (Or.inr ⟨(u1 ci 1 t), ca, cl, cj, K, M, mr, (u1 (u1 (u1 ri 0 0) 1 t) 2 (-1)), ra, rk, ow, wd, wx, wi, wa, ⟨hc.t h4, ⟨nb, hnb, hb1, hb2⟩, ht, hT, hJ⟩, (hw.mono (Nat.le_succ k)), vaP_perm hP (toR _ _ _ _ _).symm, vaD_perm hD (toR _ _ _ _ _).symm⟩) hS

set_option maxHeartbeats 4000000 in
set_option maxRecDepth 100000 in
theorem csN_worth (S0 : CallFix p m c cL_law 7 s #[Value.ref b] wl_L RL) (hK : SK D cy s) (hA : ∀ q, s.heap.size ≤ q → A q) (hX : va_X b L xs s s.heap) (hbl : b < s.heap.size) (hbA : ¬ A b) (hf : cells ≤ room_1.cells ∧ slots ≤ room_1.slots) (hak : AK pk pm ka ma) (hk : k < 1000) (hin : ∀ j : Int32, j ∈ [1, 2, 3, 4, 5] → vp_in (x4 + j) L) (I : LN D cy A ad pk pm ka ma rd ao H) (hS : va_S A s.heap H locs) (hl : lv_has ls 7 [(0, .ref b), (1, .ref (ad 0)), (2, .ref (rd 0)), (3, .ref ao), (4, .int x4)]) (kk : ∀ (H1 : Heap) (locs1 : List Loc), LI D cy A ad pk pm ka ma rd ao (k + 1) H1 → va_S A s.heap H1 locs1 → W p l e room_1 s m #[Value.ref b] below meth c H1 locs1 cells slots Q (F0 m 2028 ls [])) : W p l e room_1 s m #[Value.ref b] below meth c H locs cells slots Q (F0 m 671 ls []) := by
  have hx := S0.1
  have hb := S0.2.1
  obtain ⟨ci, ca, cl, cj, K, M, mr, ri, ra, rk, ow, ⟨hc, ⟨nb, hnb, hb1, hb2⟩, ht, hT, hJ⟩, hz, hP, hD⟩ := I
  obtain ⟨⟨z1, z2, z3, z4, z5, z6, z7⟩, ⟨z8, z9⟩, ⟨z10, z11⟩, Lt, hLt, zL⟩ := id hz
  refine lv_aload_n hx hb dL_law_671 rfl (lv_at hl 1 rfl) ?_
  refine lv_aload_n hx hb dL_law_672 rfl (lv_at hl 0 rfl) ?_
  refine lv_iload hx hb dL_law_673 (lv_at hl 4 rfl) ?_
  refine lv_iconst (v := 1) hx hb dL_law_675 (by decide) ?_
  refine lv_iadd hx hb dL_law_676 ?_
  refine va_sld hx hb hX hbl hbA hS (hin 1 (by decide)) dL_law_677 ?_
  refine lv_aload_n hx hb dL_law_678 rfl (lv_at hl 0 rfl) ?_
  refine lv_iload hx hb dL_law_679 (lv_at hl 4 rfl) ?_
  refine lv_iconst (v := 2) hx hb dL_law_681 (by decide) ?_
  refine lv_iadd hx hb dL_law_682 ?_
  refine va_sld hx hb hX hbl hbA hS (hin 2 (by decide)) dL_law_683 ?_
  refine lv_aload_n hx hb dL_law_684 rfl (lv_at hl 0 rfl) ?_
  refine lv_iload hx hb dL_law_685 (lv_at hl 4 rfl) ?_
  refine lv_iconst (v := 3) hx hb dL_law_687 (by decide) ?_
  refine lv_iadd hx hb dL_law_688 ?_
  refine va_sld hx hb hX hbl hbA hS (hin 3 (by decide)) dL_law_689 ?_
  refine lv_bool hx hb dL_law_690 dL_law_693 dL_law_694 dL_law_697 ?_
  have hf1 : f_X11_worth (ci 1) (ci 18) (ci 19) (ci 21) (ca 12) (ca 14) (ca 16) (ci 25) (ci 26) (ca 19) (ca 21) (xs (x4 + 1).toNatClampNeg) (xs (x4 + 2).toNatClampNeg) (if decide (¬ xs (x4 + 3).toNatClampNeg = 0) = true then 1 else 0) = some (-9223372036854775808, 1) := by rw [z1, z4]; exact z_worth _ _ _ _ _ _ _ _ _ _ _ _
  refine k11_worth S0 hK hA hl.1 hf hP hD hS  hf1 (fun H1 locs1 hP hD hS => ?_)
  refine lv_aload_n hx hb dL_law_701 rfl (lv_at hl 2 rfl) ?_
  refine lv_aload_n hx hb dL_law_702 rfl (lv_at hl 0 rfl) ?_
  refine lv_iload hx hb dL_law_703 (lv_at hl 4 rfl) ?_
  refine lv_iconst (v := 1) hx hb dL_law_705 (by decide) ?_
  refine lv_iadd hx hb dL_law_706 ?_
  refine va_sld hx hb hX hbl hbA hS (hin 1 (by decide)) dL_law_707 ?_
  refine lv_aload_n hx hb dL_law_708 rfl (lv_at hl 0 rfl) ?_
  refine lv_iload hx hb dL_law_709 (lv_at hl 4 rfl) ?_
  refine lv_iconst (v := 2) hx hb dL_law_711 (by decide) ?_
  refine lv_iadd hx hb dL_law_712 ?_
  refine va_sld hx hb hX hbl hbA hS (hin 2 (by decide)) dL_law_713 ?_
  refine lv_aload_n hx hb dL_law_714 rfl (lv_at hl 0 rfl) ?_
  refine lv_iload hx hb dL_law_715 (lv_at hl 4 rfl) ?_
  refine lv_iconst (v := 3) hx hb dL_law_717 (by decide) ?_
  refine lv_iadd hx hb dL_law_718 ?_
  refine va_sld hx hb hX hbl hbA hS (hin 3 (by decide)) dL_law_719 ?_
  refine lv_bool hx hb dL_law_720 dL_law_723 dL_law_724 dL_law_727 ?_
  refine k13_worth_n (.long (-9223372036854775808 : Int64)) (by show 2 ≤ 2; decide) S0 hK hA hl.1 hf (vaP_perm hP (toR _ _ _ _ _)) (vaD_perm hD (toR _ _ _ _ _)) hS (zn_worth _ _ _ _ _ _) (fun H1 locs1 hP hD hS => ?_)
  refine W.lcmp hx hb dL_law_731 ?_
  refine lv_if_eq (tgt := 2028) hx hb dL_law_732 (by decide) (fun _ => ?_) (fun cd => absurd ((lgc_eq _ _).mpr rfl) cd)
  refine kk H1 locs1 (Or.inl ⟨(u1 ci 1 1), ca, cl, cj, K, M, mr, (u1 (u1 (u1 ri 0 0) 1 1) 2 (-1)), ra, rk, ow, ⟨hc.t (t := 1) (show ¬ (1 : Int32) = 4 by decide), ⟨nb, hnb, hb1, hb2⟩, ht, hT, hJ⟩, hz, vaP_perm hP (toR _ _ _ _ _).symm, vaD_perm hD (toR _ _ _ _ _).symm⟩) hS

set_option maxHeartbeats 4000000 in
set_option maxRecDepth 100000 in
theorem csW_worth (S0 : CallFix p m c cL_law 7 s #[Value.ref b] wl_L RL) (hK : SK D cy s) (hA : ∀ q, s.heap.size ≤ q → A q) (hX : va_X b L xs s s.heap) (hbl : b < s.heap.size) (hbA : ¬ A b) (hf : cells ≤ room_1.cells ∧ slots ≤ room_1.slots) (hak : AK pk pm ka ma) (hk : k < 1000) (hin : ∀ j : Int32, j ∈ [1, 2, 3, 4, 5] → vp_in (x4 + j) L) (I : LW D cy A ad pk pm ka ma rd ao k H) (hS : va_S A s.heap H locs) (hl : lv_has ls 7 [(0, .ref b), (1, .ref (ad 0)), (2, .ref (rd 0)), (3, .ref ao), (4, .int x4)]) (kk : ∀ (H1 : Heap) (locs1 : List Loc), LI D cy A ad pk pm ka ma rd ao (k + 1) H1 → va_S A s.heap H1 locs1 → W p l e room_1 s m #[Value.ref b] below meth c H1 locs1 cells slots Q (F0 m 2028 ls [])) : W p l e room_1 s m #[Value.ref b] below meth c H locs cells slots Q (F0 m 671 ls []) := by
  have hx := S0.1
  have hb := S0.2.1
  obtain ⟨ci, ca, cl, cj, K, M, mr, ri, ra, rk, ow, wd, wx, wi, wa, ⟨hc, ⟨nb, hnb, hb1, hb2⟩, ht, hT, hJ⟩, hw, hP, hD⟩ := I
  refine lv_aload_n hx hb dL_law_671 rfl (lv_at hl 1 rfl) ?_
  refine lv_aload_n hx hb dL_law_672 rfl (lv_at hl 0 rfl) ?_
  refine lv_iload hx hb dL_law_673 (lv_at hl 4 rfl) ?_
  refine lv_iconst (v := 1) hx hb dL_law_675 (by decide) ?_
  refine lv_iadd hx hb dL_law_676 ?_
  refine va_sld hx hb hX hbl hbA hS (hin 1 (by decide)) dL_law_677 ?_
  refine lv_aload_n hx hb dL_law_678 rfl (lv_at hl 0 rfl) ?_
  refine lv_iload hx hb dL_law_679 (lv_at hl 4 rfl) ?_
  refine lv_iconst (v := 2) hx hb dL_law_681 (by decide) ?_
  refine lv_iadd hx hb dL_law_682 ?_
  refine va_sld hx hb hX hbl hbA hS (hin 2 (by decide)) dL_law_683 ?_
  refine lv_aload_n hx hb dL_law_684 rfl (lv_at hl 0 rfl) ?_
  refine lv_iload hx hb dL_law_685 (lv_at hl 4 rfl) ?_
  refine lv_iconst (v := 3) hx hb dL_law_687 (by decide) ?_
  refine lv_iadd hx hb dL_law_688 ?_
  refine va_sld hx hb hX hbl hbA hS (hin 3 (by decide)) dL_law_689 ?_
  refine lv_bool hx hb dL_law_690 dL_law_693 dL_law_694 dL_law_697 ?_
  obtain ⟨r, t, e1, e2, h4⟩ := jW_worth hw (xs (x4 + 1).toNatClampNeg) (xs (x4 + 2).toNatClampNeg) (decide (¬ xs (x4 + 3).toNatClampNeg = 0)) (ci 1) (ri 0) (ri 1) (ri 2)
  have hf1 := e1
  refine k11_worth S0 hK hA hl.1 hf hP hD hS  hf1 (fun H1 locs1 hP hD hS => ?_)
  refine lv_aload_n hx hb dL_law_701 rfl (lv_at hl 2 rfl) ?_
  refine lv_aload_n hx hb dL_law_702 rfl (lv_at hl 0 rfl) ?_
  refine lv_iload hx hb dL_law_703 (lv_at hl 4 rfl) ?_
  refine lv_iconst (v := 1) hx hb dL_law_705 (by decide) ?_
  refine lv_iadd hx hb dL_law_706 ?_
  refine va_sld hx hb hX hbl hbA hS (hin 1 (by decide)) dL_law_707 ?_
  refine lv_aload_n hx hb dL_law_708 rfl (lv_at hl 0 rfl) ?_
  refine lv_iload hx hb dL_law_709 (lv_at hl 4 rfl) ?_
  refine lv_iconst (v := 2) hx hb dL_law_711 (by decide) ?_
  refine lv_iadd hx hb dL_law_712 ?_
  refine va_sld hx hb hX hbl hbA hS (hin 2 (by decide)) dL_law_713 ?_
  refine lv_aload_n hx hb dL_law_714 rfl (lv_at hl 0 rfl) ?_
  refine lv_iload hx hb dL_law_715 (lv_at hl 4 rfl) ?_
  refine lv_iconst (v := 3) hx hb dL_law_717 (by decide) ?_
  refine lv_iadd hx hb dL_law_718 ?_
  refine va_sld hx hb hX hbl hbA hS (hin 3 (by decide)) dL_law_719 ?_
  refine lv_bool hx hb dL_law_720 dL_law_723 dL_law_724 dL_law_727 ?_
  refine k13_worth (.long r) (by show 2 ≤ 2; decide) S0 hK hA hl.1 hf (vaP_perm hP (toR _ _ _ _ _)) (vaD_perm hD (toR _ _ _ _ _)) hS e2 (fun H1 locs1 hP hD hS => ?_)
  refine W.lcmp hx hb dL_law_731 ?_
  refine lv_if_eq (tgt := 2028) hx hb dL_law_732 (by decide) (fun _ => ?_) (fun cd => absurd ((lgc_eq _ _).mpr rfl) cd)
  refine kk H1 locs1 (Or.inr ⟨(u1 ci 1 t), ca, cl, cj, K, M, mr, (u1 (u1 (u1 ri 0 0) 1 t) 2 (-1)), ra, rk, ow, wd, wx, wi, wa, ⟨hc.t h4, ⟨nb, hnb, hb1, hb2⟩, ht, hT, hJ⟩, (hw.mono (Nat.le_succ k)), vaP_perm hP (toR _ _ _ _ _).symm, vaD_perm hD (toR _ _ _ _ _).symm⟩) hS

set_option maxHeartbeats 4000000 in
set_option maxRecDepth 100000 in
theorem csN_bestLane (S0 : CallFix p m c cL_law 7 s #[Value.ref b] wl_L RL) (hK : SK D cy s) (hA : ∀ q, s.heap.size ≤ q → A q) (hX : va_X b L xs s s.heap) (hbl : b < s.heap.size) (hbA : ¬ A b) (hf : cells ≤ room_1.cells ∧ slots ≤ room_1.slots) (hak : AK pk pm ka ma) (hk : k < 1000) (hin : ∀ j : Int32, j ∈ [1, 2, 3, 4, 5] → vp_in (x4 + j) L) (I : LN D cy A ad pk pm ka ma rd ao H) (hS : va_S A s.heap H locs) (hl : lv_has ls 7 [(0, .ref b), (1, .ref (ad 0)), (2, .ref (rd 0)), (3, .ref ao), (4, .int x4)]) (kk : ∀ (H1 : Heap) (locs1 : List Loc), LI D cy A ad pk pm ka ma rd ao (k + 1) H1 → va_S A s.heap H1 locs1 → W p l e room_1 s m #[Value.ref b] below meth c H1 locs1 cells slots Q (F0 m 2028 ls [])) : W p l e room_1 s m #[Value.ref b] below meth c H locs cells slots Q (F0 m 737 ls []) := by
  have hx := S0.1
  have hb := S0.2.1
  obtain ⟨ci, ca, cl, cj, K, M, mr, ri, ra, rk, ow, ⟨hc, ⟨nb, hnb, hb1, hb2⟩, ht, hT, hJ⟩, hz, hP, hD⟩ := I
  obtain ⟨⟨z1, z2, z3, z4, z5, z6, z7⟩, ⟨z8, z9⟩, ⟨z10, z11⟩, Lt, hLt, zL⟩ := id hz
  refine lv_aload_n hx hb dL_law_737 rfl (lv_at hl 1 rfl) ?_
  refine lv_aload_n hx hb dL_law_738 rfl (lv_at hl 0 rfl) ?_
  refine lv_iload hx hb dL_law_739 (lv_at hl 4 rfl) ?_
  refine lv_iconst (v := 1) hx hb dL_law_741 (by decide) ?_
  refine lv_iadd hx hb dL_law_742 ?_
  refine va_sld hx hb hX hbl hbA hS (hin 1 (by decide)) dL_law_743 ?_
  have hf1 : f_X11_bestLane (ci 1) (ci 18) (ci 19) (ci 21) (ca 12) (ca 14) (ca 16) (ci 25) (ci 26) (ca 19) (ca 21) (xs (x4 + 1).toNatClampNeg) = some (-1, 1) := by rw [z1, z4]; exact z_bestLane _ _ _ _ _ _ _ _ _ _
  refine k11_bestLane S0 hK hA hl.1 hf hP hD hS  hf1 (fun H1 locs1 hP hD hS => ?_)
  refine lv_aload_n hx hb dL_law_747 rfl (lv_at hl 2 rfl) ?_
  refine lv_aload_n hx hb dL_law_748 rfl (lv_at hl 0 rfl) ?_
  refine lv_iload hx hb dL_law_749 (lv_at hl 4 rfl) ?_
  refine lv_iconst (v := 1) hx hb dL_law_751 (by decide) ?_
  refine lv_iadd hx hb dL_law_752 ?_
  refine va_sld hx hb hX hbl hbA hS (hin 1 (by decide)) dL_law_753 ?_
  refine k13_bestLane_n (.int (-1 : Int32)) (by show 1 ≤ 2; decide) S0 hK hA hl.1 hf (vaP_perm hP (toR _ _ _ _ _)) (vaD_perm hD (toR _ _ _ _ _)) hS (zn_bestLane _ _ _ _) (fun H1 locs1 hP hD hS => ?_)
  refine lv_icmp_eq (tgt := 2028) hx hb dL_law_757 (by decide) (fun _ => ?_) (fun cd => absurd rfl cd)
  refine kk H1 locs1 (Or.inl ⟨(u1 ci 1 1), ca, cl, cj, K, M, mr, (u1 (u1 (u1 ri 0 0) 1 1) 2 (-1)), ra, rk, ow, ⟨hc.t (t := 1) (show ¬ (1 : Int32) = 4 by decide), ⟨nb, hnb, hb1, hb2⟩, ht, hT, hJ⟩, hz, vaP_perm hP (toR _ _ _ _ _).symm, vaD_perm hD (toR _ _ _ _ _).symm⟩) hS

set_option maxHeartbeats 4000000 in
set_option maxRecDepth 100000 in
theorem csW_bestLane (S0 : CallFix p m c cL_law 7 s #[Value.ref b] wl_L RL) (hK : SK D cy s) (hA : ∀ q, s.heap.size ≤ q → A q) (hX : va_X b L xs s s.heap) (hbl : b < s.heap.size) (hbA : ¬ A b) (hf : cells ≤ room_1.cells ∧ slots ≤ room_1.slots) (hak : AK pk pm ka ma) (hk : k < 1000) (hin : ∀ j : Int32, j ∈ [1, 2, 3, 4, 5] → vp_in (x4 + j) L) (I : LW D cy A ad pk pm ka ma rd ao k H) (hS : va_S A s.heap H locs) (hl : lv_has ls 7 [(0, .ref b), (1, .ref (ad 0)), (2, .ref (rd 0)), (3, .ref ao), (4, .int x4)]) (kk : ∀ (H1 : Heap) (locs1 : List Loc), LI D cy A ad pk pm ka ma rd ao (k + 1) H1 → va_S A s.heap H1 locs1 → W p l e room_1 s m #[Value.ref b] below meth c H1 locs1 cells slots Q (F0 m 2028 ls [])) : W p l e room_1 s m #[Value.ref b] below meth c H locs cells slots Q (F0 m 737 ls []) := by
  have hx := S0.1
  have hb := S0.2.1
  obtain ⟨ci, ca, cl, cj, K, M, mr, ri, ra, rk, ow, wd, wx, wi, wa, ⟨hc, ⟨nb, hnb, hb1, hb2⟩, ht, hT, hJ⟩, hw, hP, hD⟩ := I
  refine lv_aload_n hx hb dL_law_737 rfl (lv_at hl 1 rfl) ?_
  refine lv_aload_n hx hb dL_law_738 rfl (lv_at hl 0 rfl) ?_
  refine lv_iload hx hb dL_law_739 (lv_at hl 4 rfl) ?_
  refine lv_iconst (v := 1) hx hb dL_law_741 (by decide) ?_
  refine lv_iadd hx hb dL_law_742 ?_
  refine va_sld hx hb hX hbl hbA hS (hin 1 (by decide)) dL_law_743 ?_
  obtain ⟨r, t, e1, e2, h4⟩ := jW_bestLane hw (xs (x4 + 1).toNatClampNeg) (ci 1) (ri 0) (ri 1) (ri 2)
  have hf1 := e1
  refine k11_bestLane S0 hK hA hl.1 hf hP hD hS  hf1 (fun H1 locs1 hP hD hS => ?_)
  refine lv_aload_n hx hb dL_law_747 rfl (lv_at hl 2 rfl) ?_
  refine lv_aload_n hx hb dL_law_748 rfl (lv_at hl 0 rfl) ?_
  refine lv_iload hx hb dL_law_749 (lv_at hl 4 rfl) ?_
  refine lv_iconst (v := 1) hx hb dL_law_751 (by decide) ?_
  refine lv_iadd hx hb dL_law_752 ?_
  refine va_sld hx hb hX hbl hbA hS (hin 1 (by decide)) dL_law_753 ?_
  refine k13_bestLane (.int r) (by show 1 ≤ 2; decide) S0 hK hA hl.1 hf (vaP_perm hP (toR _ _ _ _ _)) (vaD_perm hD (toR _ _ _ _ _)) hS e2 (fun H1 locs1 hP hD hS => ?_)
  refine lv_icmp_eq (tgt := 2028) hx hb dL_law_757 (by decide) (fun _ => ?_) (fun cd => absurd rfl cd)
  refine kk H1 locs1 (Or.inr ⟨(u1 ci 1 t), ca, cl, cj, K, M, mr, (u1 (u1 (u1 ri 0 0) 1 t) 2 (-1)), ra, rk, ow, wd, wx, wi, wa, ⟨hc.t h4, ⟨nb, hnb, hb1, hb2⟩, ht, hT, hJ⟩, (hw.mono (Nat.le_succ k)), vaP_perm hP (toR _ _ _ _ _).symm, vaD_perm hD (toR _ _ _ _ _).symm⟩) hS

set_option maxHeartbeats 4000000 in
set_option maxRecDepth 100000 in
theorem csN_all (S0 : CallFix p m c cL_law 7 s #[Value.ref b] wl_L RL) (hK : SK D cy s) (hA : ∀ q, s.heap.size ≤ q → A q) (hX : va_X b L xs s s.heap) (hbl : b < s.heap.size) (hbA : ¬ A b) (hf : cells ≤ room_1.cells ∧ slots ≤ room_1.slots) (hak : AK pk pm ka ma) (hk : k < 1000) (hin : ∀ j : Int32, j ∈ [1, 2, 3, 4, 5] → vp_in (x4 + j) L) (I : LN D cy A ad pk pm ka ma rd ao H) (hS : va_S A s.heap H locs) (hl : lv_has ls 7 [(0, .ref b), (1, .ref (ad 0)), (2, .ref (rd 0)), (3, .ref ao), (4, .int x4)]) (kk : ∀ (H1 : Heap) (locs1 : List Loc), LI D cy A ad pk pm ka ma rd ao (k + 1) H1 → va_S A s.heap H1 locs1 → W p l e room_1 s m #[Value.ref b] below meth c H1 locs1 cells slots Q (F0 m 2028 ls [])) : W p l e room_1 s m #[Value.ref b] below meth c H locs cells slots Q (F0 m 762 ls []) := by
  have hx := S0.1
  have hb := S0.2.1
  obtain ⟨ci, ca, cl, cj, K, M, mr, ri, ra, rk, ow, ⟨hc, ⟨nb, hnb, hb1, hb2⟩, ht, hT, hJ⟩, hz, hP, hD⟩ := I
  obtain ⟨⟨z1, z2, z3, z4, z5, z6, z7⟩, ⟨z8, z9⟩, ⟨z10, z11⟩, Lt, hLt, zL⟩ := id hz
  refine lv_aload_n hx hb dL_law_762 rfl (lv_at hl 1 rfl) ?_
  refine lv_aload_n hx hb dL_law_763 rfl (lv_at hl 0 rfl) ?_
  refine lv_iload hx hb dL_law_764 (lv_at hl 4 rfl) ?_
  refine lv_iconst (v := 1) hx hb dL_law_766 (by decide) ?_
  refine lv_iadd hx hb dL_law_767 ?_
  refine va_sld hx hb hX hbl hbA hS (hin 1 (by decide)) dL_law_768 ?_
  refine lv_bool hx hb dL_law_769 dL_law_772 dL_law_773 dL_law_776 ?_
  refine lv_aload_n hx hb dL_law_777 rfl (lv_at hl 0 rfl) ?_
  refine lv_iload hx hb dL_law_778 (lv_at hl 4 rfl) ?_
  refine lv_iconst (v := 2) hx hb dL_law_780 (by decide) ?_
  refine lv_iadd hx hb dL_law_781 ?_
  refine va_sld hx hb hX hbl hbA hS (hin 2 (by decide)) dL_law_782 ?_
  refine lv_bool hx hb dL_law_783 dL_law_786 dL_law_787 dL_law_790 ?_
  have hf1 : f_X11_all (ci 1) (ci 18) (ci 19) (ci 21) (ca 12) (ca 14) (ca 16) (ci 25) (ci 26) (ca 19) (ca 20) (ca 21) (if decide (¬ xs (x4 + 1).toNatClampNeg = 0) = true then 1 else 0) (if decide (¬ xs (x4 + 2).toNatClampNeg = 0) = true then 1 else 0) = some (-1, 1) := by rw [z1, z4]; exact z_all _ _ _ _ _ _ _ _ _ _ _ _
  refine k11_all S0 hK hA hl.1 hf hP hD hS  hf1 (fun H1 locs1 hP hD hS => ?_)
  refine lv_aload_n hx hb dL_law_794 rfl (lv_at hl 2 rfl) ?_
  refine lv_aload_n hx hb dL_law_795 rfl (lv_at hl 0 rfl) ?_
  refine lv_iload hx hb dL_law_796 (lv_at hl 4 rfl) ?_
  refine lv_iconst (v := 1) hx hb dL_law_798 (by decide) ?_
  refine lv_iadd hx hb dL_law_799 ?_
  refine va_sld hx hb hX hbl hbA hS (hin 1 (by decide)) dL_law_800 ?_
  refine lv_bool hx hb dL_law_801 dL_law_804 dL_law_805 dL_law_808 ?_
  refine lv_aload_n hx hb dL_law_809 rfl (lv_at hl 0 rfl) ?_
  refine lv_iload hx hb dL_law_810 (lv_at hl 4 rfl) ?_
  refine lv_iconst (v := 2) hx hb dL_law_812 (by decide) ?_
  refine lv_iadd hx hb dL_law_813 ?_
  refine va_sld hx hb hX hbl hbA hS (hin 2 (by decide)) dL_law_814 ?_
  refine lv_bool hx hb dL_law_815 dL_law_818 dL_law_819 dL_law_822 ?_
  refine k13_all_n (.long (-1 : Int64)) (by show 2 ≤ 2; decide) S0 hK hA hl.1 hf (vaP_perm hP (toR _ _ _ _ _)) (vaD_perm hD (toR _ _ _ _ _)) hS (zn_all _ _ _ _ _) (fun H1 locs1 hP hD hS => ?_)
  refine W.lcmp hx hb dL_law_826 ?_
  refine lv_if_eq (tgt := 2028) hx hb dL_law_827 (by decide) (fun _ => ?_) (fun cd => absurd ((lgc_eq _ _).mpr rfl) cd)
  refine kk H1 locs1 (Or.inl ⟨(u1 ci 1 1), ca, cl, cj, K, M, mr, (u1 (u1 (u1 ri 0 0) 1 1) 2 (-1)), ra, rk, ow, ⟨hc.t (t := 1) (show ¬ (1 : Int32) = 4 by decide), ⟨nb, hnb, hb1, hb2⟩, ht, hT, hJ⟩, hz, vaP_perm hP (toR _ _ _ _ _).symm, vaD_perm hD (toR _ _ _ _ _).symm⟩) hS

set_option maxHeartbeats 4000000 in
set_option maxRecDepth 100000 in
theorem csW_all (S0 : CallFix p m c cL_law 7 s #[Value.ref b] wl_L RL) (hK : SK D cy s) (hA : ∀ q, s.heap.size ≤ q → A q) (hX : va_X b L xs s s.heap) (hbl : b < s.heap.size) (hbA : ¬ A b) (hf : cells ≤ room_1.cells ∧ slots ≤ room_1.slots) (hak : AK pk pm ka ma) (hk : k < 1000) (hin : ∀ j : Int32, j ∈ [1, 2, 3, 4, 5] → vp_in (x4 + j) L) (I : LW D cy A ad pk pm ka ma rd ao k H) (hS : va_S A s.heap H locs) (hl : lv_has ls 7 [(0, .ref b), (1, .ref (ad 0)), (2, .ref (rd 0)), (3, .ref ao), (4, .int x4)]) (kk : ∀ (H1 : Heap) (locs1 : List Loc), LI D cy A ad pk pm ka ma rd ao (k + 1) H1 → va_S A s.heap H1 locs1 → W p l e room_1 s m #[Value.ref b] below meth c H1 locs1 cells slots Q (F0 m 2028 ls [])) : W p l e room_1 s m #[Value.ref b] below meth c H locs cells slots Q (F0 m 762 ls []) := by
  have hx := S0.1
  have hb := S0.2.1
  obtain ⟨ci, ca, cl, cj, K, M, mr, ri, ra, rk, ow, wd, wx, wi, wa, ⟨hc, ⟨nb, hnb, hb1, hb2⟩, ht, hT, hJ⟩, hw, hP, hD⟩ := I
  refine lv_aload_n hx hb dL_law_762 rfl (lv_at hl 1 rfl) ?_
  refine lv_aload_n hx hb dL_law_763 rfl (lv_at hl 0 rfl) ?_
  refine lv_iload hx hb dL_law_764 (lv_at hl 4 rfl) ?_
  refine lv_iconst (v := 1) hx hb dL_law_766 (by decide) ?_
  refine lv_iadd hx hb dL_law_767 ?_
  refine va_sld hx hb hX hbl hbA hS (hin 1 (by decide)) dL_law_768 ?_
  refine lv_bool hx hb dL_law_769 dL_law_772 dL_law_773 dL_law_776 ?_
  refine lv_aload_n hx hb dL_law_777 rfl (lv_at hl 0 rfl) ?_
  refine lv_iload hx hb dL_law_778 (lv_at hl 4 rfl) ?_
  refine lv_iconst (v := 2) hx hb dL_law_780 (by decide) ?_
  refine lv_iadd hx hb dL_law_781 ?_
  refine va_sld hx hb hX hbl hbA hS (hin 2 (by decide)) dL_law_782 ?_
  refine lv_bool hx hb dL_law_783 dL_law_786 dL_law_787 dL_law_790 ?_
  obtain ⟨r, t, e1, e2, h4⟩ := jW_all hw (decide (¬ xs (x4 + 1).toNatClampNeg = 0)) (decide (¬ xs (x4 + 2).toNatClampNeg = 0)) (ci 1) (ri 0) (ri 1) (ri 2)
  have hf1 := e1
  refine k11_all S0 hK hA hl.1 hf hP hD hS  hf1 (fun H1 locs1 hP hD hS => ?_)
  refine lv_aload_n hx hb dL_law_794 rfl (lv_at hl 2 rfl) ?_
  refine lv_aload_n hx hb dL_law_795 rfl (lv_at hl 0 rfl) ?_
  refine lv_iload hx hb dL_law_796 (lv_at hl 4 rfl) ?_
  refine lv_iconst (v := 1) hx hb dL_law_798 (by decide) ?_
  refine lv_iadd hx hb dL_law_799 ?_
  refine va_sld hx hb hX hbl hbA hS (hin 1 (by decide)) dL_law_800 ?_
  refine lv_bool hx hb dL_law_801 dL_law_804 dL_law_805 dL_law_808 ?_
  refine lv_aload_n hx hb dL_law_809 rfl (lv_at hl 0 rfl) ?_
  refine lv_iload hx hb dL_law_810 (lv_at hl 4 rfl) ?_
  refine lv_iconst (v := 2) hx hb dL_law_812 (by decide) ?_
  refine lv_iadd hx hb dL_law_813 ?_
  refine va_sld hx hb hX hbl hbA hS (hin 2 (by decide)) dL_law_814 ?_
  refine lv_bool hx hb dL_law_815 dL_law_818 dL_law_819 dL_law_822 ?_
  refine k13_all (.long r) (by show 2 ≤ 2; decide) S0 hK hA hl.1 hf (vaP_perm hP (toR _ _ _ _ _)) (vaD_perm hD (toR _ _ _ _ _)) hS e2 (fun H1 locs1 hP hD hS => ?_)
  refine W.lcmp hx hb dL_law_826 ?_
  refine lv_if_eq (tgt := 2028) hx hb dL_law_827 (by decide) (fun _ => ?_) (fun cd => absurd ((lgc_eq _ _).mpr rfl) cd)
  refine kk H1 locs1 (Or.inr ⟨(u1 ci 1 t), ca, cl, cj, K, M, mr, (u1 (u1 (u1 ri 0 0) 1 t) 2 (-1)), ra, rk, ow, wd, wx, wi, wa, ⟨hc.t h4, ⟨nb, hnb, hb1, hb2⟩, ht, hT, hJ⟩, (hw.mono (Nat.le_succ k)), vaP_perm hP (toR _ _ _ _ _).symm, vaD_perm hD (toR _ _ _ _ _).symm⟩) hS

set_option maxHeartbeats 4000000 in
set_option maxRecDepth 100000 in
theorem csN_worst (S0 : CallFix p m c cL_law 7 s #[Value.ref b] wl_L RL) (hK : SK D cy s) (hA : ∀ q, s.heap.size ≤ q → A q) (hX : va_X b L xs s s.heap) (hbl : b < s.heap.size) (hbA : ¬ A b) (hf : cells ≤ room_1.cells ∧ slots ≤ room_1.slots) (hak : AK pk pm ka ma) (hk : k < 1000) (hin : ∀ j : Int32, j ∈ [1, 2, 3, 4, 5] → vp_in (x4 + j) L) (I : LN D cy A ad pk pm ka ma rd ao H) (hS : va_S A s.heap H locs) (hl : lv_has ls 7 [(0, .ref b), (1, .ref (ad 0)), (2, .ref (rd 0)), (3, .ref ao), (4, .int x4)]) (kk : ∀ (H1 : Heap) (locs1 : List Loc), LI D cy A ad pk pm ka ma rd ao (k + 1) H1 → va_S A s.heap H1 locs1 → W p l e room_1 s m #[Value.ref b] below meth c H1 locs1 cells slots Q (F0 m 2028 ls [])) : W p l e room_1 s m #[Value.ref b] below meth c H locs cells slots Q (F0 m 832 ls []) := by
  have hx := S0.1
  have hb := S0.2.1
  obtain ⟨ci, ca, cl, cj, K, M, mr, ri, ra, rk, ow, ⟨hc, ⟨nb, hnb, hb1, hb2⟩, ht, hT, hJ⟩, hz, hP, hD⟩ := I
  obtain ⟨⟨z1, z2, z3, z4, z5, z6, z7⟩, ⟨z8, z9⟩, ⟨z10, z11⟩, Lt, hLt, zL⟩ := id hz
  refine lv_aload_n hx hb dL_law_832 rfl (lv_at hl 1 rfl) ?_
  have hf1 : f_X11_worst (ci 1) (ci 18) (ci 19) (ci 21) (ca 12) (ca 14) (ca 16) (ci 25) (ci 26) (ca 19) (ca 20) (ca 21) = some (-1, 1) := by rw [z1, z4]; exact z_worst _ _ _ _ _ _ _ _ _ _
  refine k11_worst S0 hK hA hl.1 hf hP hD hS  hf1 (fun H1 locs1 hP hD hS => ?_)
  refine lv_aload_n hx hb dL_law_836 rfl (lv_at hl 2 rfl) ?_
  refine k13_worst_n (.int (-1 : Int32)) (by show 1 ≤ 2; decide) S0 hK hA hl.1 hf (vaP_perm hP (toR _ _ _ _ _)) (vaD_perm hD (toR _ _ _ _ _)) hS (zn_worst _ _ _) (fun H1 locs1 hP hD hS => ?_)
  refine lv_icmp_eq (tgt := 2028) hx hb dL_law_840 (by decide) (fun _ => ?_) (fun cd => absurd rfl cd)
  refine kk H1 locs1 (Or.inl ⟨(u1 ci 1 1), ca, cl, cj, K, M, mr, (u1 (u1 (u1 ri 0 0) 1 1) 2 (-1)), ra, rk, ow, ⟨hc.t (t := 1) (show ¬ (1 : Int32) = 4 by decide), ⟨nb, hnb, hb1, hb2⟩, ht, hT, hJ⟩, hz, vaP_perm hP (toR _ _ _ _ _).symm, vaD_perm hD (toR _ _ _ _ _).symm⟩) hS

set_option maxHeartbeats 4000000 in
set_option maxRecDepth 100000 in
theorem csW_worst (S0 : CallFix p m c cL_law 7 s #[Value.ref b] wl_L RL) (hK : SK D cy s) (hA : ∀ q, s.heap.size ≤ q → A q) (hX : va_X b L xs s s.heap) (hbl : b < s.heap.size) (hbA : ¬ A b) (hf : cells ≤ room_1.cells ∧ slots ≤ room_1.slots) (hak : AK pk pm ka ma) (hk : k < 1000) (hin : ∀ j : Int32, j ∈ [1, 2, 3, 4, 5] → vp_in (x4 + j) L) (I : LW D cy A ad pk pm ka ma rd ao k H) (hS : va_S A s.heap H locs) (hl : lv_has ls 7 [(0, .ref b), (1, .ref (ad 0)), (2, .ref (rd 0)), (3, .ref ao), (4, .int x4)]) (kk : ∀ (H1 : Heap) (locs1 : List Loc), LI D cy A ad pk pm ka ma rd ao (k + 1) H1 → va_S A s.heap H1 locs1 → W p l e room_1 s m #[Value.ref b] below meth c H1 locs1 cells slots Q (F0 m 2028 ls [])) : W p l e room_1 s m #[Value.ref b] below meth c H locs cells slots Q (F0 m 832 ls []) := by
  have hx := S0.1
  have hb := S0.2.1
  obtain ⟨ci, ca, cl, cj, K, M, mr, ri, ra, rk, ow, wd, wx, wi, wa, ⟨hc, ⟨nb, hnb, hb1, hb2⟩, ht, hT, hJ⟩, hw, hP, hD⟩ := I
  refine lv_aload_n hx hb dL_law_832 rfl (lv_at hl 1 rfl) ?_
  obtain ⟨r, t, e1, e2, h4⟩ := jW_worst hw (ci 1) (ri 0) (ri 1) (ri 2)
  have hf1 := e1
  refine k11_worst S0 hK hA hl.1 hf hP hD hS  hf1 (fun H1 locs1 hP hD hS => ?_)
  refine lv_aload_n hx hb dL_law_836 rfl (lv_at hl 2 rfl) ?_
  refine k13_worst (.int r) (by show 1 ≤ 2; decide) S0 hK hA hl.1 hf (vaP_perm hP (toR _ _ _ _ _)) (vaD_perm hD (toR _ _ _ _ _)) hS e2 (fun H1 locs1 hP hD hS => ?_)
  refine lv_icmp_eq (tgt := 2028) hx hb dL_law_840 (by decide) (fun _ => ?_) (fun cd => absurd rfl cd)
  refine kk H1 locs1 (Or.inr ⟨(u1 ci 1 t), ca, cl, cj, K, M, mr, (u1 (u1 (u1 ri 0 0) 1 t) 2 (-1)), ra, rk, ow, wd, wx, wi, wa, ⟨hc.t h4, ⟨nb, hnb, hb1, hb2⟩, ht, hT, hJ⟩, (hw.mono (Nat.le_succ k)), vaP_perm hP (toR _ _ _ _ _).symm, vaD_perm hD (toR _ _ _ _ _).symm⟩) hS

set_option maxHeartbeats 4000000 in
set_option maxRecDepth 100000 in
theorem csN_worthIf (S0 : CallFix p m c cL_law 7 s #[Value.ref b] wl_L RL) (hK : SK D cy s) (hA : ∀ q, s.heap.size ≤ q → A q) (hX : va_X b L xs s s.heap) (hbl : b < s.heap.size) (hbA : ¬ A b) (hf : cells ≤ room_1.cells ∧ slots ≤ room_1.slots) (hak : AK pk pm ka ma) (hk : k < 1000) (hin : ∀ j : Int32, j ∈ [1, 2, 3, 4, 5] → vp_in (x4 + j) L) (I : LN D cy A ad pk pm ka ma rd ao H) (hS : va_S A s.heap H locs) (hl : lv_has ls 7 [(0, .ref b), (1, .ref (ad 0)), (2, .ref (rd 0)), (3, .ref ao), (4, .int x4)]) (kk : ∀ (H1 : Heap) (locs1 : List Loc), LI D cy A ad pk pm ka ma rd ao (k + 1) H1 → va_S A s.heap H1 locs1 → W p l e room_1 s m #[Value.ref b] below meth c H1 locs1 cells slots Q (F0 m 2028 ls [])) : W p l e room_1 s m #[Value.ref b] below meth c H locs cells slots Q (F0 m 845 ls []) := by
  have hx := S0.1
  have hb := S0.2.1
  obtain ⟨ci, ca, cl, cj, K, M, mr, ri, ra, rk, ow, ⟨hc, ⟨nb, hnb, hb1, hb2⟩, ht, hT, hJ⟩, hz, hP, hD⟩ := I
  obtain ⟨⟨z1, z2, z3, z4, z5, z6, z7⟩, ⟨z8, z9⟩, ⟨z10, z11⟩, Lt, hLt, zL⟩ := id hz
  refine lv_aload_n hx hb dL_law_845 rfl (lv_at hl 1 rfl) ?_
  refine lv_aload_n hx hb dL_law_846 rfl (lv_at hl 0 rfl) ?_
  refine lv_iload hx hb dL_law_847 (lv_at hl 4 rfl) ?_
  refine lv_iconst (v := 1) hx hb dL_law_849 (by decide) ?_
  refine lv_iadd hx hb dL_law_850 ?_
  refine va_sld hx hb hX hbl hbA hS (hin 1 (by decide)) dL_law_851 ?_
  refine lv_aload_n hx hb dL_law_852 rfl (lv_at hl 0 rfl) ?_
  refine lv_iload hx hb dL_law_853 (lv_at hl 4 rfl) ?_
  refine lv_iconst (v := 2) hx hb dL_law_855 (by decide) ?_
  refine lv_iadd hx hb dL_law_856 ?_
  refine va_sld hx hb hX hbl hbA hS (hin 2 (by decide)) dL_law_857 ?_
  refine lv_aload_n hx hb dL_law_858 rfl (lv_at hl 0 rfl) ?_
  refine lv_iload hx hb dL_law_859 (lv_at hl 4 rfl) ?_
  refine lv_iconst (v := 3) hx hb dL_law_861 (by decide) ?_
  refine lv_iadd hx hb dL_law_862 ?_
  refine va_sld hx hb hX hbl hbA hS (hin 3 (by decide)) dL_law_863 ?_
  refine lv_bool hx hb dL_law_864 dL_law_867 dL_law_868 dL_law_871 ?_
  refine lv_aload_n hx hb dL_law_872 rfl (lv_at hl 0 rfl) ?_
  refine lv_iload hx hb dL_law_873 (lv_at hl 4 rfl) ?_
  refine lv_iconst (v := 4) hx hb dL_law_875 (by decide) ?_
  refine lv_iadd hx hb dL_law_876 ?_
  refine va_sld hx hb hX hbl hbA hS (hin 4 (by decide)) dL_law_877 ?_
  refine lv_bool hx hb dL_law_878 dL_law_881 dL_law_882 dL_law_885 ?_
  have hf1 : f_X11_worthIf (ci 1) (ci 18) (ci 19) (ci 21) (ca 12) (ca 14) (ca 16) (ci 25) (ca 19) (ca 21) (xs (x4 + 1).toNatClampNeg) (xs (x4 + 2).toNatClampNeg) (if decide (¬ xs (x4 + 3).toNatClampNeg = 0) = true then 1 else 0) (if decide (¬ xs (x4 + 4).toNatClampNeg = 0) = true then 1 else 0) = some (-9223372036854775808, 1) := by rw [z1, z4]; exact z_worthIf _ _ _ _ _ _ _ _ _ _ _ _
  refine k11_worthIf S0 hK hA hl.1 hf hP hD hS  hf1 (fun H1 locs1 hP hD hS => ?_)
  refine lv_aload_n hx hb dL_law_889 rfl (lv_at hl 2 rfl) ?_
  refine lv_aload_n hx hb dL_law_890 rfl (lv_at hl 0 rfl) ?_
  refine lv_iload hx hb dL_law_891 (lv_at hl 4 rfl) ?_
  refine lv_iconst (v := 1) hx hb dL_law_893 (by decide) ?_
  refine lv_iadd hx hb dL_law_894 ?_
  refine va_sld hx hb hX hbl hbA hS (hin 1 (by decide)) dL_law_895 ?_
  refine lv_aload_n hx hb dL_law_896 rfl (lv_at hl 0 rfl) ?_
  refine lv_iload hx hb dL_law_897 (lv_at hl 4 rfl) ?_
  refine lv_iconst (v := 2) hx hb dL_law_899 (by decide) ?_
  refine lv_iadd hx hb dL_law_900 ?_
  refine va_sld hx hb hX hbl hbA hS (hin 2 (by decide)) dL_law_901 ?_
  refine lv_aload_n hx hb dL_law_902 rfl (lv_at hl 0 rfl) ?_
  refine lv_iload hx hb dL_law_903 (lv_at hl 4 rfl) ?_
  refine lv_iconst (v := 3) hx hb dL_law_905 (by decide) ?_
  refine lv_iadd hx hb dL_law_906 ?_
  refine va_sld hx hb hX hbl hbA hS (hin 3 (by decide)) dL_law_907 ?_
  refine lv_bool hx hb dL_law_908 dL_law_911 dL_law_912 dL_law_915 ?_
  refine lv_aload_n hx hb dL_law_916 rfl (lv_at hl 0 rfl) ?_
  refine lv_iload hx hb dL_law_917 (lv_at hl 4 rfl) ?_
  refine lv_iconst (v := 4) hx hb dL_law_919 (by decide) ?_
  refine lv_iadd hx hb dL_law_920 ?_
  refine va_sld hx hb hX hbl hbA hS (hin 4 (by decide)) dL_law_921 ?_
  refine lv_bool hx hb dL_law_922 dL_law_925 dL_law_926 dL_law_929 ?_
  refine k13_worthIf_n (.long (-9223372036854775808 : Int64)) (by show 2 ≤ 2; decide) S0 hK hA hl.1 hf (vaP_perm hP (toR _ _ _ _ _)) (vaD_perm hD (toR _ _ _ _ _)) hS (zn_worthIf _ _ _ _ _ _ _) (fun H1 locs1 hP hD hS => ?_)
  refine W.lcmp hx hb dL_law_933 ?_
  refine lv_if_eq (tgt := 2028) hx hb dL_law_934 (by decide) (fun _ => ?_) (fun cd => absurd ((lgc_eq _ _).mpr rfl) cd)
  refine kk H1 locs1 (Or.inl ⟨(u1 ci 1 1), ca, cl, cj, K, M, mr, (u1 (u1 (u1 ri 0 0) 1 1) 2 (-1)), ra, rk, ow, ⟨hc.t (t := 1) (show ¬ (1 : Int32) = 4 by decide), ⟨nb, hnb, hb1, hb2⟩, ht, hT, hJ⟩, hz, vaP_perm hP (toR _ _ _ _ _).symm, vaD_perm hD (toR _ _ _ _ _).symm⟩) hS

set_option maxHeartbeats 4000000 in
set_option maxRecDepth 100000 in
theorem csW_worthIf (S0 : CallFix p m c cL_law 7 s #[Value.ref b] wl_L RL) (hK : SK D cy s) (hA : ∀ q, s.heap.size ≤ q → A q) (hX : va_X b L xs s s.heap) (hbl : b < s.heap.size) (hbA : ¬ A b) (hf : cells ≤ room_1.cells ∧ slots ≤ room_1.slots) (hak : AK pk pm ka ma) (hk : k < 1000) (hin : ∀ j : Int32, j ∈ [1, 2, 3, 4, 5] → vp_in (x4 + j) L) (I : LW D cy A ad pk pm ka ma rd ao k H) (hS : va_S A s.heap H locs) (hl : lv_has ls 7 [(0, .ref b), (1, .ref (ad 0)), (2, .ref (rd 0)), (3, .ref ao), (4, .int x4)]) (kk : ∀ (H1 : Heap) (locs1 : List Loc), LI D cy A ad pk pm ka ma rd ao (k + 1) H1 → va_S A s.heap H1 locs1 → W p l e room_1 s m #[Value.ref b] below meth c H1 locs1 cells slots Q (F0 m 2028 ls [])) : W p l e room_1 s m #[Value.ref b] below meth c H locs cells slots Q (F0 m 845 ls []) := by
  have hx := S0.1
  have hb := S0.2.1
  obtain ⟨ci, ca, cl, cj, K, M, mr, ri, ra, rk, ow, wd, wx, wi, wa, ⟨hc, ⟨nb, hnb, hb1, hb2⟩, ht, hT, hJ⟩, hw, hP, hD⟩ := I
  refine lv_aload_n hx hb dL_law_845 rfl (lv_at hl 1 rfl) ?_
  refine lv_aload_n hx hb dL_law_846 rfl (lv_at hl 0 rfl) ?_
  refine lv_iload hx hb dL_law_847 (lv_at hl 4 rfl) ?_
  refine lv_iconst (v := 1) hx hb dL_law_849 (by decide) ?_
  refine lv_iadd hx hb dL_law_850 ?_
  refine va_sld hx hb hX hbl hbA hS (hin 1 (by decide)) dL_law_851 ?_
  refine lv_aload_n hx hb dL_law_852 rfl (lv_at hl 0 rfl) ?_
  refine lv_iload hx hb dL_law_853 (lv_at hl 4 rfl) ?_
  refine lv_iconst (v := 2) hx hb dL_law_855 (by decide) ?_
  refine lv_iadd hx hb dL_law_856 ?_
  refine va_sld hx hb hX hbl hbA hS (hin 2 (by decide)) dL_law_857 ?_
  refine lv_aload_n hx hb dL_law_858 rfl (lv_at hl 0 rfl) ?_
  refine lv_iload hx hb dL_law_859 (lv_at hl 4 rfl) ?_
  refine lv_iconst (v := 3) hx hb dL_law_861 (by decide) ?_
  refine lv_iadd hx hb dL_law_862 ?_
  refine va_sld hx hb hX hbl hbA hS (hin 3 (by decide)) dL_law_863 ?_
  refine lv_bool hx hb dL_law_864 dL_law_867 dL_law_868 dL_law_871 ?_
  refine lv_aload_n hx hb dL_law_872 rfl (lv_at hl 0 rfl) ?_
  refine lv_iload hx hb dL_law_873 (lv_at hl 4 rfl) ?_
  refine lv_iconst (v := 4) hx hb dL_law_875 (by decide) ?_
  refine lv_iadd hx hb dL_law_876 ?_
  refine va_sld hx hb hX hbl hbA hS (hin 4 (by decide)) dL_law_877 ?_
  refine lv_bool hx hb dL_law_878 dL_law_881 dL_law_882 dL_law_885 ?_
  obtain ⟨r, t, e1, e2, h4⟩ := jW_worthIf hw (xs (x4 + 1).toNatClampNeg) (xs (x4 + 2).toNatClampNeg) (decide (¬ xs (x4 + 3).toNatClampNeg = 0)) (decide (¬ xs (x4 + 4).toNatClampNeg = 0)) (ci 1) (ri 0) (ri 1) (ri 2)
  have hf1 := e1
  refine k11_worthIf S0 hK hA hl.1 hf hP hD hS  hf1 (fun H1 locs1 hP hD hS => ?_)
  refine lv_aload_n hx hb dL_law_889 rfl (lv_at hl 2 rfl) ?_
  refine lv_aload_n hx hb dL_law_890 rfl (lv_at hl 0 rfl) ?_
  refine lv_iload hx hb dL_law_891 (lv_at hl 4 rfl) ?_
  refine lv_iconst (v := 1) hx hb dL_law_893 (by decide) ?_
  refine lv_iadd hx hb dL_law_894 ?_
  refine va_sld hx hb hX hbl hbA hS (hin 1 (by decide)) dL_law_895 ?_
  refine lv_aload_n hx hb dL_law_896 rfl (lv_at hl 0 rfl) ?_
  refine lv_iload hx hb dL_law_897 (lv_at hl 4 rfl) ?_
  refine lv_iconst (v := 2) hx hb dL_law_899 (by decide) ?_
  refine lv_iadd hx hb dL_law_900 ?_
  refine va_sld hx hb hX hbl hbA hS (hin 2 (by decide)) dL_law_901 ?_
  refine lv_aload_n hx hb dL_law_902 rfl (lv_at hl 0 rfl) ?_
  refine lv_iload hx hb dL_law_903 (lv_at hl 4 rfl) ?_
  refine lv_iconst (v := 3) hx hb dL_law_905 (by decide) ?_
  refine lv_iadd hx hb dL_law_906 ?_
  refine va_sld hx hb hX hbl hbA hS (hin 3 (by decide)) dL_law_907 ?_
  refine lv_bool hx hb dL_law_908 dL_law_911 dL_law_912 dL_law_915 ?_
  refine lv_aload_n hx hb dL_law_916 rfl (lv_at hl 0 rfl) ?_
  refine lv_iload hx hb dL_law_917 (lv_at hl 4 rfl) ?_
  refine lv_iconst (v := 4) hx hb dL_law_919 (by decide) ?_
  refine lv_iadd hx hb dL_law_920 ?_
  refine va_sld hx hb hX hbl hbA hS (hin 4 (by decide)) dL_law_921 ?_
  refine lv_bool hx hb dL_law_922 dL_law_925 dL_law_926 dL_law_929 ?_
  refine k13_worthIf (.long r) (by show 2 ≤ 2; decide) S0 hK hA hl.1 hf (vaP_perm hP (toR _ _ _ _ _)) (vaD_perm hD (toR _ _ _ _ _)) hS e2 (fun H1 locs1 hP hD hS => ?_)
  refine W.lcmp hx hb dL_law_933 ?_
  refine lv_if_eq (tgt := 2028) hx hb dL_law_934 (by decide) (fun _ => ?_) (fun cd => absurd ((lgc_eq _ _).mpr rfl) cd)
  refine kk H1 locs1 (Or.inr ⟨(u1 ci 1 t), ca, cl, cj, K, M, mr, (u1 (u1 (u1 ri 0 0) 1 t) 2 (-1)), ra, rk, ow, wd, wx, wi, wa, ⟨hc.t h4, ⟨nb, hnb, hb1, hb2⟩, ht, hT, hJ⟩, (hw.mono (Nat.le_succ k)), vaP_perm hP (toR _ _ _ _ _).symm, vaD_perm hD (toR _ _ _ _ _).symm⟩) hS

set_option maxHeartbeats 4000000 in
set_option maxRecDepth 100000 in
theorem csN_moodFor (S0 : CallFix p m c cL_law 7 s #[Value.ref b] wl_L RL) (hK : SK D cy s) (hA : ∀ q, s.heap.size ≤ q → A q) (hX : va_X b L xs s s.heap) (hbl : b < s.heap.size) (hbA : ¬ A b) (hf : cells ≤ room_1.cells ∧ slots ≤ room_1.slots) (hak : AK pk pm ka ma) (hk : k < 1000) (hin : ∀ j : Int32, j ∈ [1, 2, 3, 4, 5] → vp_in (x4 + j) L) (I : LN D cy A ad pk pm ka ma rd ao H) (hS : va_S A s.heap H locs) (hl : lv_has ls 7 [(0, .ref b), (1, .ref (ad 0)), (2, .ref (rd 0)), (3, .ref ao), (4, .int x4)]) (kk : ∀ (H1 : Heap) (locs1 : List Loc), LI D cy A ad pk pm ka ma rd ao (k + 1) H1 → va_S A s.heap H1 locs1 → W p l e room_1 s m #[Value.ref b] below meth c H1 locs1 cells slots Q (F0 m 2028 ls [])) : W p l e room_1 s m #[Value.ref b] below meth c H locs cells slots Q (F0 m 939 ls []) := by
  have hx := S0.1
  have hb := S0.2.1
  obtain ⟨ci, ca, cl, cj, K, M, mr, ri, ra, rk, ow, ⟨hc, ⟨nb, hnb, hb1, hb2⟩, ht, hT, hJ⟩, hz, hP, hD⟩ := I
  obtain ⟨⟨z1, z2, z3, z4, z5, z6, z7⟩, ⟨z8, z9⟩, ⟨z10, z11⟩, Lt, hLt, zL⟩ := id hz
  refine lv_aload_n hx hb dL_law_939 rfl (lv_at hl 1 rfl) ?_
  refine lv_aload_n hx hb dL_law_940 rfl (lv_at hl 0 rfl) ?_
  refine lv_iload hx hb dL_law_941 (lv_at hl 4 rfl) ?_
  refine lv_iconst (v := 1) hx hb dL_law_943 (by decide) ?_
  refine lv_iadd hx hb dL_law_944 ?_
  refine va_sld hx hb hX hbl hbA hS (hin 1 (by decide)) dL_law_945 ?_
  refine lv_aload_n hx hb dL_law_946 rfl (lv_at hl 0 rfl) ?_
  refine lv_iload hx hb dL_law_947 (lv_at hl 4 rfl) ?_
  refine lv_iconst (v := 2) hx hb dL_law_949 (by decide) ?_
  refine lv_iadd hx hb dL_law_950 ?_
  refine va_sld hx hb hX hbl hbA hS (hin 2 (by decide)) dL_law_951 ?_
  have hf1 : f_X11_moodFor (ci 1) (ci 18) (ci 19) (ci 21) (ca 12) (ca 14) (ci 25) (ci 26) (ca 19) (ca 21) (xs (x4 + 1).toNatClampNeg) (xs (x4 + 2).toNatClampNeg) = some (-1, 1) := by rw [z1, z4]; exact z_moodFor _ _ _ _ _ _ _ _ _ _
  refine k11_moodFor S0 hK hA hl.1 hf hP hD hS  hf1 (fun H1 locs1 hP hD hS => ?_)
  refine lv_aload_n hx hb dL_law_955 rfl (lv_at hl 2 rfl) ?_
  refine lv_aload_n hx hb dL_law_956 rfl (lv_at hl 0 rfl) ?_
  refine lv_iload hx hb dL_law_957 (lv_at hl 4 rfl) ?_
  refine lv_iconst (v := 1) hx hb dL_law_959 (by decide) ?_
  refine lv_iadd hx hb dL_law_960 ?_
  refine va_sld hx hb hX hbl hbA hS (hin 1 (by decide)) dL_law_961 ?_
  refine lv_aload_n hx hb dL_law_962 rfl (lv_at hl 0 rfl) ?_
  refine lv_iload hx hb dL_law_963 (lv_at hl 4 rfl) ?_
  refine lv_iconst (v := 2) hx hb dL_law_965 (by decide) ?_
  refine lv_iadd hx hb dL_law_966 ?_
  refine va_sld hx hb hX hbl hbA hS (hin 2 (by decide)) dL_law_967 ?_
  refine k13_moodFor_n (.int (-1 : Int32)) (by show 1 ≤ 2; decide) S0 hK hA hl.1 hf (vaP_perm hP (toR _ _ _ _ _)) (vaD_perm hD (toR _ _ _ _ _)) hS (zn_moodFor _ _ _ _ _) (fun H1 locs1 hP hD hS => ?_)
  refine lv_icmp_eq (tgt := 2028) hx hb dL_law_971 (by decide) (fun _ => ?_) (fun cd => absurd rfl cd)
  refine kk H1 locs1 (Or.inl ⟨(u1 ci 1 1), ca, cl, cj, K, M, mr, (u1 (u1 (u1 ri 0 0) 1 1) 2 (-1)), ra, rk, ow, ⟨hc.t (t := 1) (show ¬ (1 : Int32) = 4 by decide), ⟨nb, hnb, hb1, hb2⟩, ht, hT, hJ⟩, hz, vaP_perm hP (toR _ _ _ _ _).symm, vaD_perm hD (toR _ _ _ _ _).symm⟩) hS

set_option maxHeartbeats 4000000 in
set_option maxRecDepth 100000 in
theorem csW_moodFor (S0 : CallFix p m c cL_law 7 s #[Value.ref b] wl_L RL) (hK : SK D cy s) (hA : ∀ q, s.heap.size ≤ q → A q) (hX : va_X b L xs s s.heap) (hbl : b < s.heap.size) (hbA : ¬ A b) (hf : cells ≤ room_1.cells ∧ slots ≤ room_1.slots) (hak : AK pk pm ka ma) (hk : k < 1000) (hin : ∀ j : Int32, j ∈ [1, 2, 3, 4, 5] → vp_in (x4 + j) L) (I : LW D cy A ad pk pm ka ma rd ao k H) (hS : va_S A s.heap H locs) (hl : lv_has ls 7 [(0, .ref b), (1, .ref (ad 0)), (2, .ref (rd 0)), (3, .ref ao), (4, .int x4)]) (kk : ∀ (H1 : Heap) (locs1 : List Loc), LI D cy A ad pk pm ka ma rd ao (k + 1) H1 → va_S A s.heap H1 locs1 → W p l e room_1 s m #[Value.ref b] below meth c H1 locs1 cells slots Q (F0 m 2028 ls [])) : W p l e room_1 s m #[Value.ref b] below meth c H locs cells slots Q (F0 m 939 ls []) := by
  have hx := S0.1
  have hb := S0.2.1
  obtain ⟨ci, ca, cl, cj, K, M, mr, ri, ra, rk, ow, wd, wx, wi, wa, ⟨hc, ⟨nb, hnb, hb1, hb2⟩, ht, hT, hJ⟩, hw, hP, hD⟩ := I
  refine lv_aload_n hx hb dL_law_939 rfl (lv_at hl 1 rfl) ?_
  refine lv_aload_n hx hb dL_law_940 rfl (lv_at hl 0 rfl) ?_
  refine lv_iload hx hb dL_law_941 (lv_at hl 4 rfl) ?_
  refine lv_iconst (v := 1) hx hb dL_law_943 (by decide) ?_
  refine lv_iadd hx hb dL_law_944 ?_
  refine va_sld hx hb hX hbl hbA hS (hin 1 (by decide)) dL_law_945 ?_
  refine lv_aload_n hx hb dL_law_946 rfl (lv_at hl 0 rfl) ?_
  refine lv_iload hx hb dL_law_947 (lv_at hl 4 rfl) ?_
  refine lv_iconst (v := 2) hx hb dL_law_949 (by decide) ?_
  refine lv_iadd hx hb dL_law_950 ?_
  refine va_sld hx hb hX hbl hbA hS (hin 2 (by decide)) dL_law_951 ?_
  obtain ⟨r, t, e1, e2, h4⟩ := jW_moodFor hw (xs (x4 + 1).toNatClampNeg) (xs (x4 + 2).toNatClampNeg) (ci 1) (ri 0) (ri 1) (ri 2)
  have hf1 := e1
  refine k11_moodFor S0 hK hA hl.1 hf hP hD hS  hf1 (fun H1 locs1 hP hD hS => ?_)
  refine lv_aload_n hx hb dL_law_955 rfl (lv_at hl 2 rfl) ?_
  refine lv_aload_n hx hb dL_law_956 rfl (lv_at hl 0 rfl) ?_
  refine lv_iload hx hb dL_law_957 (lv_at hl 4 rfl) ?_
  refine lv_iconst (v := 1) hx hb dL_law_959 (by decide) ?_
  refine lv_iadd hx hb dL_law_960 ?_
  refine va_sld hx hb hX hbl hbA hS (hin 1 (by decide)) dL_law_961 ?_
  refine lv_aload_n hx hb dL_law_962 rfl (lv_at hl 0 rfl) ?_
  refine lv_iload hx hb dL_law_963 (lv_at hl 4 rfl) ?_
  refine lv_iconst (v := 2) hx hb dL_law_965 (by decide) ?_
  refine lv_iadd hx hb dL_law_966 ?_
  refine va_sld hx hb hX hbl hbA hS (hin 2 (by decide)) dL_law_967 ?_
  refine k13_moodFor (.int r) (by show 1 ≤ 2; decide) S0 hK hA hl.1 hf (vaP_perm hP (toR _ _ _ _ _)) (vaD_perm hD (toR _ _ _ _ _)) hS e2 (fun H1 locs1 hP hD hS => ?_)
  refine lv_icmp_eq (tgt := 2028) hx hb dL_law_971 (by decide) (fun _ => ?_) (fun cd => absurd rfl cd)
  refine kk H1 locs1 (Or.inr ⟨(u1 ci 1 t), ca, cl, cj, K, M, mr, (u1 (u1 (u1 ri 0 0) 1 t) 2 (-1)), ra, rk, ow, wd, wx, wi, wa, ⟨hc.t h4, ⟨nb, hnb, hb1, hb2⟩, ht, hT, hJ⟩, (hw.mono (Nat.le_succ k)), vaP_perm hP (toR _ _ _ _ _).symm, vaD_perm hD (toR _ _ _ _ _).symm⟩) hS

set_option maxHeartbeats 4000000 in
set_option maxRecDepth 100000 in
theorem csN_toHammer (S0 : CallFix p m c cL_law 7 s #[Value.ref b] wl_L RL) (hK : SK D cy s) (hA : ∀ q, s.heap.size ≤ q → A q) (hX : va_X b L xs s s.heap) (hbl : b < s.heap.size) (hbA : ¬ A b) (hf : cells ≤ room_1.cells ∧ slots ≤ room_1.slots) (hak : AK pk pm ka ma) (hk : k < 1000) (hin : ∀ j : Int32, j ∈ [1, 2, 3, 4, 5] → vp_in (x4 + j) L) (I : LN D cy A ad pk pm ka ma rd ao H) (hS : va_S A s.heap H locs) (hl : lv_has ls 7 [(0, .ref b), (1, .ref (ad 0)), (2, .ref (rd 0)), (3, .ref ao), (4, .int x4)]) (kk : ∀ (H1 : Heap) (locs1 : List Loc), LI D cy A ad pk pm ka ma rd ao (k + 1) H1 → va_S A s.heap H1 locs1 → W p l e room_1 s m #[Value.ref b] below meth c H1 locs1 cells slots Q (F0 m 2028 ls [])) : W p l e room_1 s m #[Value.ref b] below meth c H locs cells slots Q (F0 m 976 ls []) := by
  have hx := S0.1
  have hb := S0.2.1
  obtain ⟨ci, ca, cl, cj, K, M, mr, ri, ra, rk, ow, ⟨hc, ⟨nb, hnb, hb1, hb2⟩, ht, hT, hJ⟩, hz, hP, hD⟩ := I
  obtain ⟨⟨z1, z2, z3, z4, z5, z6, z7⟩, ⟨z8, z9⟩, ⟨z10, z11⟩, Lt, hLt, zL⟩ := id hz
  refine lv_aload_n hx hb dL_law_976 rfl (lv_at hl 1 rfl) ?_
  have hf1 : f_X11_toHammer (ci 1) (ci 18) (ci 19) (ci 21) (ca 12) (ca 14) (ca 16) (ci 25) (ci 26) (ca 19) (ca 20) (ca 21) = some (-1, 1) := by rw [z1, z4]; exact z_toHammer _ _ _ _ _ _ _ _ _ _
  refine k11_toHammer S0 hK hA hl.1 hf hP hD hS  hf1 (fun H1 locs1 hP hD hS => ?_)
  refine lv_aload_n hx hb dL_law_980 rfl (lv_at hl 2 rfl) ?_
  refine k13_toHammer_n (.int (-1 : Int32)) (by show 1 ≤ 2; decide) S0 hK hA hl.1 hf (vaP_perm hP (toR _ _ _ _ _)) (vaD_perm hD (toR _ _ _ _ _)) hS (zn_toHammer _ _ _) (fun H1 locs1 hP hD hS => ?_)
  refine lv_icmp_eq (tgt := 2028) hx hb dL_law_984 (by decide) (fun _ => ?_) (fun cd => absurd rfl cd)
  refine kk H1 locs1 (Or.inl ⟨(u1 ci 1 1), ca, cl, cj, K, M, mr, (u1 (u1 (u1 ri 0 0) 1 1) 2 (-1)), ra, rk, ow, ⟨hc.t (t := 1) (show ¬ (1 : Int32) = 4 by decide), ⟨nb, hnb, hb1, hb2⟩, ht, hT, hJ⟩, hz, vaP_perm hP (toR _ _ _ _ _).symm, vaD_perm hD (toR _ _ _ _ _).symm⟩) hS

set_option maxHeartbeats 4000000 in
set_option maxRecDepth 100000 in
theorem csW_toHammer (S0 : CallFix p m c cL_law 7 s #[Value.ref b] wl_L RL) (hK : SK D cy s) (hA : ∀ q, s.heap.size ≤ q → A q) (hX : va_X b L xs s s.heap) (hbl : b < s.heap.size) (hbA : ¬ A b) (hf : cells ≤ room_1.cells ∧ slots ≤ room_1.slots) (hak : AK pk pm ka ma) (hk : k < 1000) (hin : ∀ j : Int32, j ∈ [1, 2, 3, 4, 5] → vp_in (x4 + j) L) (I : LW D cy A ad pk pm ka ma rd ao k H) (hS : va_S A s.heap H locs) (hl : lv_has ls 7 [(0, .ref b), (1, .ref (ad 0)), (2, .ref (rd 0)), (3, .ref ao), (4, .int x4)]) (kk : ∀ (H1 : Heap) (locs1 : List Loc), LI D cy A ad pk pm ka ma rd ao (k + 1) H1 → va_S A s.heap H1 locs1 → W p l e room_1 s m #[Value.ref b] below meth c H1 locs1 cells slots Q (F0 m 2028 ls [])) : W p l e room_1 s m #[Value.ref b] below meth c H locs cells slots Q (F0 m 976 ls []) := by
  have hx := S0.1
  have hb := S0.2.1
  obtain ⟨ci, ca, cl, cj, K, M, mr, ri, ra, rk, ow, wd, wx, wi, wa, ⟨hc, ⟨nb, hnb, hb1, hb2⟩, ht, hT, hJ⟩, hw, hP, hD⟩ := I
  refine lv_aload_n hx hb dL_law_976 rfl (lv_at hl 1 rfl) ?_
  obtain ⟨r, t, e1, e2, h4⟩ := jW_toHammer hw (ci 1) (ri 0) (ri 1) (ri 2)
  have hf1 := e1
  refine k11_toHammer S0 hK hA hl.1 hf hP hD hS  hf1 (fun H1 locs1 hP hD hS => ?_)
  refine lv_aload_n hx hb dL_law_980 rfl (lv_at hl 2 rfl) ?_
  refine k13_toHammer (.int r) (by show 1 ≤ 2; decide) S0 hK hA hl.1 hf (vaP_perm hP (toR _ _ _ _ _)) (vaD_perm hD (toR _ _ _ _ _)) hS e2 (fun H1 locs1 hP hD hS => ?_)
  refine lv_icmp_eq (tgt := 2028) hx hb dL_law_984 (by decide) (fun _ => ?_) (fun cd => absurd rfl cd)
  refine kk H1 locs1 (Or.inr ⟨(u1 ci 1 t), ca, cl, cj, K, M, mr, (u1 (u1 (u1 ri 0 0) 1 t) 2 (-1)), ra, rk, ow, wd, wx, wi, wa, ⟨hc.t h4, ⟨nb, hnb, hb1, hb2⟩, ht, hT, hJ⟩, (hw.mono (Nat.le_succ k)), vaP_perm hP (toR _ _ _ _ _).symm, vaD_perm hD (toR _ _ _ _ _).symm⟩) hS

set_option maxHeartbeats 4000000 in
set_option maxRecDepth 100000 in
theorem csN_place (S0 : CallFix p m c cL_law 7 s #[Value.ref b] wl_L RL) (hK : SK D cy s) (hA : ∀ q, s.heap.size ≤ q → A q) (hX : va_X b L xs s s.heap) (hbl : b < s.heap.size) (hbA : ¬ A b) (hf : cells ≤ room_1.cells ∧ slots ≤ room_1.slots) (hak : AK pk pm ka ma) (hk : k < 1000) (hin : ∀ j : Int32, j ∈ [1, 2, 3, 4, 5] → vp_in (x4 + j) L) (I : LN D cy A ad pk pm ka ma rd ao H) (hS : va_S A s.heap H locs) (hl : lv_has ls 7 [(0, .ref b), (1, .ref (ad 0)), (2, .ref (rd 0)), (3, .ref ao), (4, .int x4)]) (kk : ∀ (H1 : Heap) (locs1 : List Loc), LI D cy A ad pk pm ka ma rd ao (k + 1) H1 → va_S A s.heap H1 locs1 → W p l e room_1 s m #[Value.ref b] below meth c H1 locs1 cells slots Q (F0 m 2028 ls [])) : W p l e room_1 s m #[Value.ref b] below meth c H locs cells slots Q (F0 m 989 ls []) := by
  have hx := S0.1
  have hb := S0.2.1
  obtain ⟨ci, ca, cl, cj, K, M, mr, ri, ra, rk, ow, ⟨hc, ⟨nb, hnb, hb1, hb2⟩, ht, hT, hJ⟩, hz, hP, hD⟩ := I
  obtain ⟨⟨z1, z2, z3, z4, z5, z6, z7⟩, ⟨z8, z9⟩, ⟨z10, z11⟩, Lt, hLt, zL⟩ := id hz
  refine lv_aload_n hx hb dL_law_989 rfl (lv_at hl 1 rfl) ?_
  refine lv_aload_n hx hb dL_law_990 rfl (lv_at hl 0 rfl) ?_
  refine lv_iload hx hb dL_law_991 (lv_at hl 4 rfl) ?_
  refine lv_iconst (v := 1) hx hb dL_law_993 (by decide) ?_
  refine lv_iadd hx hb dL_law_994 ?_
  refine va_sld hx hb hX hbl hbA hS (hin 1 (by decide)) dL_law_995 ?_
  have hf1 : f_X11_place (ci 1) (ci 18) (ci 19) (ci 21) (ca 12) (ca 14) (ca 16) (ci 25) (ci 26) (ca 19) (ca 21) (cl 1) (cl 2) (ca 22) (xs (x4 + 1).toNatClampNeg) = some (-1, 1, (cl 1), (cl 2), (ca 22)) := by rw [z1, z4]; exact z_place _ _ _ _ _ _ _ _ _ _ _ _ _
  refine k11_place S0 hK hA hl.1 hf hP hD hS  hf1 (fun H1 locs1 hP hD hS => ?_)
  refine lv_aload_n hx hb dL_law_999 rfl (lv_at hl 2 rfl) ?_
  refine lv_aload_n hx hb dL_law_1000 rfl (lv_at hl 0 rfl) ?_
  refine lv_iload hx hb dL_law_1001 (lv_at hl 4 rfl) ?_
  refine lv_iconst (v := 1) hx hb dL_law_1003 (by decide) ?_
  refine lv_iadd hx hb dL_law_1004 ?_
  refine va_sld hx hb hX hbl hbA hS (hin 1 (by decide)) dL_law_1005 ?_
  refine k13_place_n (.int (-1 : Int32)) (by show 1 ≤ 2; decide) S0 hK hA hl.1 hf (vaP_perm hP (toR _ _ _ _ _)) (vaD_perm hD (toR _ _ _ _ _)) hS (zn_place _ _ _ _) (fun H1 locs1 hP hD hS => ?_)
  refine lv_icmp_eq (tgt := 2028) hx hb dL_law_1009 (by decide) (fun _ => ?_) (fun cd => absurd rfl cd)
  refine kk H1 locs1 (Or.inl ⟨(u1 ci 1 1), (u1 ca 22 (ca 22)), (u1 (u1 cl 1 (cl 1)) 2 (cl 2)), cj, K, M, mr, (u1 (u1 (u1 ri 0 0) 1 1) 2 (-1)), ra, rk, ow, ⟨hc.t (t := 1) (show ¬ (1 : Int32) = 4 by decide), ⟨nb, hnb, hb1, hb2⟩, ht, hT, hJ⟩, hz, vaP_perm hP (toR _ _ _ _ _).symm, vaD_perm hD (toR _ _ _ _ _).symm⟩) hS

set_option maxHeartbeats 4000000 in
set_option maxRecDepth 100000 in
theorem csW_place (S0 : CallFix p m c cL_law 7 s #[Value.ref b] wl_L RL) (hK : SK D cy s) (hA : ∀ q, s.heap.size ≤ q → A q) (hX : va_X b L xs s s.heap) (hbl : b < s.heap.size) (hbA : ¬ A b) (hf : cells ≤ room_1.cells ∧ slots ≤ room_1.slots) (hak : AK pk pm ka ma) (hk : k < 1000) (hin : ∀ j : Int32, j ∈ [1, 2, 3, 4, 5] → vp_in (x4 + j) L) (I : LW D cy A ad pk pm ka ma rd ao k H) (hS : va_S A s.heap H locs) (hl : lv_has ls 7 [(0, .ref b), (1, .ref (ad 0)), (2, .ref (rd 0)), (3, .ref ao), (4, .int x4)]) (kk : ∀ (H1 : Heap) (locs1 : List Loc), LI D cy A ad pk pm ka ma rd ao (k + 1) H1 → va_S A s.heap H1 locs1 → W p l e room_1 s m #[Value.ref b] below meth c H1 locs1 cells slots Q (F0 m 2028 ls [])) : W p l e room_1 s m #[Value.ref b] below meth c H locs cells slots Q (F0 m 989 ls []) := by
  have hx := S0.1
  have hb := S0.2.1
  obtain ⟨ci, ca, cl, cj, K, M, mr, ri, ra, rk, ow, wd, wx, wi, wa, ⟨hc, ⟨nb, hnb, hb1, hb2⟩, ht, hT, hJ⟩, hw, hP, hD⟩ := I
  refine lv_aload_n hx hb dL_law_989 rfl (lv_at hl 1 rfl) ?_
  refine lv_aload_n hx hb dL_law_990 rfl (lv_at hl 0 rfl) ?_
  refine lv_iload hx hb dL_law_991 (lv_at hl 4 rfl) ?_
  refine lv_iconst (v := 1) hx hb dL_law_993 (by decide) ?_
  refine lv_iadd hx hb dL_law_994 ?_
  refine va_sld hx hb hX hbl hbA hS (hin 1 (by decide)) dL_law_995 ?_
  obtain ⟨r, t, x1, x2, x3, y1, y2, y3, e1, e2, h4⟩ := jW_place hw (xs (x4 + 1).toNatClampNeg) (ci 1) (ri 0) (ri 1) (ri 2) (cl 1) (cl 2) (ca 22) (rk 1) (ra 5) (ra 6)
  have hf1 := e1
  refine k11_place S0 hK hA hl.1 hf hP hD hS  hf1 (fun H1 locs1 hP hD hS => ?_)
  refine lv_aload_n hx hb dL_law_999 rfl (lv_at hl 2 rfl) ?_
  refine lv_aload_n hx hb dL_law_1000 rfl (lv_at hl 0 rfl) ?_
  refine lv_iload hx hb dL_law_1001 (lv_at hl 4 rfl) ?_
  refine lv_iconst (v := 1) hx hb dL_law_1003 (by decide) ?_
  refine lv_iadd hx hb dL_law_1004 ?_
  refine va_sld hx hb hX hbl hbA hS (hin 1 (by decide)) dL_law_1005 ?_
  refine k13_place (.int r) (by show 1 ≤ 2; decide) S0 hK hA hl.1 hf (vaP_perm hP (toR _ _ _ _ _)) (vaD_perm hD (toR _ _ _ _ _)) hS e2 (fun H1 locs1 hP hD hS => ?_)
  refine lv_icmp_eq (tgt := 2028) hx hb dL_law_1009 (by decide) (fun _ => ?_) (fun cd => absurd rfl cd)
  refine kk H1 locs1 (Or.inr ⟨(u1 ci 1 t), (u1 ca 22 x3), (u1 (u1 cl 1 x1) 2 x2), cj, K, M, mr, (u1 (u1 (u1 ri 0 0) 1 t) 2 (-1)), (u1 (u1 ra 5 y2) 6 y3), (u1 rk 1 y1), ow, wd, wx, wi, wa, ⟨hc.t h4, ⟨nb, hnb, hb1, hb2⟩, ht, hT, hJ⟩, (hw.mono (Nat.le_succ k)), vaP_perm hP (toR _ _ _ _ _).symm, vaD_perm hD (toR _ _ _ _ _).symm⟩) hS

set_option maxHeartbeats 4000000 in
set_option maxRecDepth 100000 in
theorem csN_placed (S0 : CallFix p m c cL_law 7 s #[Value.ref b] wl_L RL) (hK : SK D cy s) (hA : ∀ q, s.heap.size ≤ q → A q) (hX : va_X b L xs s s.heap) (hbl : b < s.heap.size) (hbA : ¬ A b) (hf : cells ≤ room_1.cells ∧ slots ≤ room_1.slots) (hak : AK pk pm ka ma) (hk : k < 1000) (hin : ∀ j : Int32, j ∈ [1, 2, 3, 4, 5] → vp_in (x4 + j) L) (I : LN D cy A ad pk pm ka ma rd ao H) (hS : va_S A s.heap H locs) (hl : lv_has ls 7 [(0, .ref b), (1, .ref (ad 0)), (2, .ref (rd 0)), (3, .ref ao), (4, .int x4)]) (kk : ∀ (H1 : Heap) (locs1 : List Loc), LI D cy A ad pk pm ka ma rd ao (k + 1) H1 → va_S A s.heap H1 locs1 → W p l e room_1 s m #[Value.ref b] below meth c H1 locs1 cells slots Q (F0 m 2028 ls [])) : W p l e room_1 s m #[Value.ref b] below meth c H locs cells slots Q (F0 m 1014 ls []) := by
  have hx := S0.1
  have hb := S0.2.1
  obtain ⟨ci, ca, cl, cj, K, M, mr, ri, ra, rk, ow, ⟨hc, ⟨nb, hnb, hb1, hb2⟩, ht, hT, hJ⟩, hz, hP, hD⟩ := I
  obtain ⟨⟨z1, z2, z3, z4, z5, z6, z7⟩, ⟨z8, z9⟩, ⟨z10, z11⟩, Lt, hLt, zL⟩ := id hz
  refine lv_aload_n hx hb dL_law_1014 rfl (lv_at hl 1 rfl) ?_
  refine lv_aload_n hx hb dL_law_1015 rfl (lv_at hl 0 rfl) ?_
  refine lv_iload hx hb dL_law_1016 (lv_at hl 4 rfl) ?_
  refine lv_iconst (v := 1) hx hb dL_law_1018 (by decide) ?_
  refine lv_iadd hx hb dL_law_1019 ?_
  refine va_sld hx hb hX hbl hbA hS (hin 1 (by decide)) dL_law_1020 ?_
  refine lv_bool hx hb dL_law_1021 dL_law_1024 dL_law_1025 dL_law_1028 ?_
  have hf1 : f_X11_placed (ci 1) (ci 18) (ci 19) (ci 21) (ca 12) (ca 14) (ca 16) (ci 25) (ci 26) (ca 19) (ca 21) (cl 1) (cl 2) (ca 22) (if decide (¬ xs (x4 + 1).toNatClampNeg = 0) = true then 1 else 0) = some (-9223372036854775808, 1, (cl 1), (cl 2), (ca 22)) := by rw [z1, z4]; exact z_placed _ _ _ _ _ _ _ _ _ _ _ _ _
  refine k11_placed S0 hK hA hl.1 hf hP hD hS  hf1 (fun H1 locs1 hP hD hS => ?_)
  refine lv_aload_n hx hb dL_law_1032 rfl (lv_at hl 2 rfl) ?_
  refine lv_aload_n hx hb dL_law_1033 rfl (lv_at hl 0 rfl) ?_
  refine lv_iload hx hb dL_law_1034 (lv_at hl 4 rfl) ?_
  refine lv_iconst (v := 1) hx hb dL_law_1036 (by decide) ?_
  refine lv_iadd hx hb dL_law_1037 ?_
  refine va_sld hx hb hX hbl hbA hS (hin 1 (by decide)) dL_law_1038 ?_
  refine lv_bool hx hb dL_law_1039 dL_law_1042 dL_law_1043 dL_law_1046 ?_
  refine k13_placed_n (.long (-9223372036854775808 : Int64)) (by show 2 ≤ 2; decide) S0 hK hA hl.1 hf (vaP_perm hP (toR _ _ _ _ _)) (vaD_perm hD (toR _ _ _ _ _)) hS (zn_placed _ _ _ _) (fun H1 locs1 hP hD hS => ?_)
  refine W.lcmp hx hb dL_law_1050 ?_
  refine lv_if_eq (tgt := 2028) hx hb dL_law_1051 (by decide) (fun _ => ?_) (fun cd => absurd ((lgc_eq _ _).mpr rfl) cd)
  refine kk H1 locs1 (Or.inl ⟨(u1 ci 1 1), (u1 ca 22 (ca 22)), (u1 (u1 cl 1 (cl 1)) 2 (cl 2)), cj, K, M, mr, (u1 (u1 (u1 ri 0 0) 1 1) 2 (-1)), ra, rk, ow, ⟨hc.t (t := 1) (show ¬ (1 : Int32) = 4 by decide), ⟨nb, hnb, hb1, hb2⟩, ht, hT, hJ⟩, hz, vaP_perm hP (toR _ _ _ _ _).symm, vaD_perm hD (toR _ _ _ _ _).symm⟩) hS

set_option maxHeartbeats 4000000 in
set_option maxRecDepth 100000 in
theorem csW_placed (S0 : CallFix p m c cL_law 7 s #[Value.ref b] wl_L RL) (hK : SK D cy s) (hA : ∀ q, s.heap.size ≤ q → A q) (hX : va_X b L xs s s.heap) (hbl : b < s.heap.size) (hbA : ¬ A b) (hf : cells ≤ room_1.cells ∧ slots ≤ room_1.slots) (hak : AK pk pm ka ma) (hk : k < 1000) (hin : ∀ j : Int32, j ∈ [1, 2, 3, 4, 5] → vp_in (x4 + j) L) (I : LW D cy A ad pk pm ka ma rd ao k H) (hS : va_S A s.heap H locs) (hl : lv_has ls 7 [(0, .ref b), (1, .ref (ad 0)), (2, .ref (rd 0)), (3, .ref ao), (4, .int x4)]) (kk : ∀ (H1 : Heap) (locs1 : List Loc), LI D cy A ad pk pm ka ma rd ao (k + 1) H1 → va_S A s.heap H1 locs1 → W p l e room_1 s m #[Value.ref b] below meth c H1 locs1 cells slots Q (F0 m 2028 ls [])) : W p l e room_1 s m #[Value.ref b] below meth c H locs cells slots Q (F0 m 1014 ls []) := by
  have hx := S0.1
  have hb := S0.2.1
  obtain ⟨ci, ca, cl, cj, K, M, mr, ri, ra, rk, ow, wd, wx, wi, wa, ⟨hc, ⟨nb, hnb, hb1, hb2⟩, ht, hT, hJ⟩, hw, hP, hD⟩ := I
  refine lv_aload_n hx hb dL_law_1014 rfl (lv_at hl 1 rfl) ?_
  refine lv_aload_n hx hb dL_law_1015 rfl (lv_at hl 0 rfl) ?_
  refine lv_iload hx hb dL_law_1016 (lv_at hl 4 rfl) ?_
  refine lv_iconst (v := 1) hx hb dL_law_1018 (by decide) ?_
  refine lv_iadd hx hb dL_law_1019 ?_
  refine va_sld hx hb hX hbl hbA hS (hin 1 (by decide)) dL_law_1020 ?_
  refine lv_bool hx hb dL_law_1021 dL_law_1024 dL_law_1025 dL_law_1028 ?_
  obtain ⟨r, t, x1, x2, x3, y1, y2, y3, e1, e2, h4⟩ := jW_placed hw (decide (¬ xs (x4 + 1).toNatClampNeg = 0)) (ci 1) (ri 0) (ri 1) (ri 2) (cl 1) (cl 2) (ca 22) (rk 1) (ra 5) (ra 6)
  have hf1 := e1
  refine k11_placed S0 hK hA hl.1 hf hP hD hS  hf1 (fun H1 locs1 hP hD hS => ?_)
  refine lv_aload_n hx hb dL_law_1032 rfl (lv_at hl 2 rfl) ?_
  refine lv_aload_n hx hb dL_law_1033 rfl (lv_at hl 0 rfl) ?_
  refine lv_iload hx hb dL_law_1034 (lv_at hl 4 rfl) ?_
  refine lv_iconst (v := 1) hx hb dL_law_1036 (by decide) ?_
  refine lv_iadd hx hb dL_law_1037 ?_
  refine va_sld hx hb hX hbl hbA hS (hin 1 (by decide)) dL_law_1038 ?_
  refine lv_bool hx hb dL_law_1039 dL_law_1042 dL_law_1043 dL_law_1046 ?_
  refine k13_placed (.long r) (by show 2 ≤ 2; decide) S0 hK hA hl.1 hf (vaP_perm hP (toR _ _ _ _ _)) (vaD_perm hD (toR _ _ _ _ _)) hS e2 (fun H1 locs1 hP hD hS => ?_)
  refine W.lcmp hx hb dL_law_1050 ?_
  refine lv_if_eq (tgt := 2028) hx hb dL_law_1051 (by decide) (fun _ => ?_) (fun cd => absurd ((lgc_eq _ _).mpr rfl) cd)
  refine kk H1 locs1 (Or.inr ⟨(u1 ci 1 t), (u1 ca 22 x3), (u1 (u1 cl 1 x1) 2 x2), cj, K, M, mr, (u1 (u1 (u1 ri 0 0) 1 t) 2 (-1)), (u1 (u1 ra 5 y2) 6 y3), (u1 rk 1 y1), ow, wd, wx, wi, wa, ⟨hc.t h4, ⟨nb, hnb, hb1, hb2⟩, ht, hT, hJ⟩, (hw.mono (Nat.le_succ k)), vaP_perm hP (toR _ _ _ _ _).symm, vaD_perm hD (toR _ _ _ _ _).symm⟩) hS

set_option maxHeartbeats 4000000 in
set_option maxRecDepth 100000 in
theorem csN_out (S0 : CallFix p m c cL_law 7 s #[Value.ref b] wl_L RL) (hK : SK D cy s) (hA : ∀ q, s.heap.size ≤ q → A q) (hX : va_X b L xs s s.heap) (hbl : b < s.heap.size) (hbA : ¬ A b) (hf : cells ≤ room_1.cells ∧ slots ≤ room_1.slots) (hak : AK pk pm ka ma) (hk : k < 1000) (hin : ∀ j : Int32, j ∈ [1, 2, 3, 4, 5] → vp_in (x4 + j) L) (I : LN D cy A ad pk pm ka ma rd ao H) (hS : va_S A s.heap H locs) (hl : lv_has ls 7 [(0, .ref b), (1, .ref (ad 0)), (2, .ref (rd 0)), (3, .ref ao), (4, .int x4)]) (kk : ∀ (H1 : Heap) (locs1 : List Loc), LI D cy A ad pk pm ka ma rd ao (k + 1) H1 → va_S A s.heap H1 locs1 → W p l e room_1 s m #[Value.ref b] below meth c H1 locs1 cells slots Q (F0 m 2028 ls [])) : W p l e room_1 s m #[Value.ref b] below meth c H locs cells slots Q (F0 m 1056 ls []) := by
  have hx := S0.1
  have hb := S0.2.1
  obtain ⟨ci, ca, cl, cj, K, M, mr, ri, ra, rk, ow, ⟨hc, ⟨nb, hnb, hb1, hb2⟩, ht, hT, hJ⟩, hz, hP, hD⟩ := I
  obtain ⟨⟨z1, z2, z3, z4, z5, z6, z7⟩, ⟨z8, z9⟩, ⟨z10, z11⟩, Lt, hLt, zL⟩ := id hz
  refine lv_aload_n hx hb dL_law_1056 rfl (lv_at hl 1 rfl) ?_
  have hf1 : f_X11_out (ci 1) (ci 18) (ci 19) (ci 21) (ca 12) (ca 14) (ca 16) (ci 25) (ci 26) (ca 19) (ca 21) (cl 1) (cl 2) (ca 22) = some (-1, 1, (cl 1), (cl 2), (ca 22)) := by rw [z1, z4]; exact z_out _ _ _ _ _ _ _ _ _ _ _ _
  refine k11_out S0 hK hA hl.1 hf hP hD hS  hf1 (fun H1 locs1 hP hD hS => ?_)
  refine lv_aload_n hx hb dL_law_1060 rfl (lv_at hl 2 rfl) ?_
  refine k13_out_n (.int (-1 : Int32)) (by show 1 ≤ 2; decide) S0 hK hA hl.1 hf (vaP_perm hP (toR _ _ _ _ _)) (vaD_perm hD (toR _ _ _ _ _)) hS (zn_out _ _ _) (fun H1 locs1 hP hD hS => ?_)
  refine lv_icmp_eq (tgt := 2028) hx hb dL_law_1064 (by decide) (fun _ => ?_) (fun cd => absurd rfl cd)
  refine kk H1 locs1 (Or.inl ⟨(u1 ci 1 1), (u1 ca 22 (ca 22)), (u1 (u1 cl 1 (cl 1)) 2 (cl 2)), cj, K, M, mr, (u1 (u1 (u1 ri 0 0) 1 1) 2 (-1)), ra, rk, ow, ⟨hc.t (t := 1) (show ¬ (1 : Int32) = 4 by decide), ⟨nb, hnb, hb1, hb2⟩, ht, hT, hJ⟩, hz, vaP_perm hP (toR _ _ _ _ _).symm, vaD_perm hD (toR _ _ _ _ _).symm⟩) hS

set_option maxHeartbeats 4000000 in
set_option maxRecDepth 100000 in
theorem csW_out (S0 : CallFix p m c cL_law 7 s #[Value.ref b] wl_L RL) (hK : SK D cy s) (hA : ∀ q, s.heap.size ≤ q → A q) (hX : va_X b L xs s s.heap) (hbl : b < s.heap.size) (hbA : ¬ A b) (hf : cells ≤ room_1.cells ∧ slots ≤ room_1.slots) (hak : AK pk pm ka ma) (hk : k < 1000) (hin : ∀ j : Int32, j ∈ [1, 2, 3, 4, 5] → vp_in (x4 + j) L) (I : LW D cy A ad pk pm ka ma rd ao k H) (hS : va_S A s.heap H locs) (hl : lv_has ls 7 [(0, .ref b), (1, .ref (ad 0)), (2, .ref (rd 0)), (3, .ref ao), (4, .int x4)]) (kk : ∀ (H1 : Heap) (locs1 : List Loc), LI D cy A ad pk pm ka ma rd ao (k + 1) H1 → va_S A s.heap H1 locs1 → W p l e room_1 s m #[Value.ref b] below meth c H1 locs1 cells slots Q (F0 m 2028 ls [])) : W p l e room_1 s m #[Value.ref b] below meth c H locs cells slots Q (F0 m 1056 ls []) := by
  have hx := S0.1
  have hb := S0.2.1
  obtain ⟨ci, ca, cl, cj, K, M, mr, ri, ra, rk, ow, wd, wx, wi, wa, ⟨hc, ⟨nb, hnb, hb1, hb2⟩, ht, hT, hJ⟩, hw, hP, hD⟩ := I
  refine lv_aload_n hx hb dL_law_1056 rfl (lv_at hl 1 rfl) ?_
  obtain ⟨r, t, x1, x2, x3, y1, y2, y3, e1, e2, h4⟩ := jW_out hw (ci 1) (ri 0) (ri 1) (ri 2) (cl 1) (cl 2) (ca 22) (rk 1) (ra 5) (ra 6)
  have hf1 := e1
  refine k11_out S0 hK hA hl.1 hf hP hD hS  hf1 (fun H1 locs1 hP hD hS => ?_)
  refine lv_aload_n hx hb dL_law_1060 rfl (lv_at hl 2 rfl) ?_
  refine k13_out (.int r) (by show 1 ≤ 2; decide) S0 hK hA hl.1 hf (vaP_perm hP (toR _ _ _ _ _)) (vaD_perm hD (toR _ _ _ _ _)) hS e2 (fun H1 locs1 hP hD hS => ?_)
  refine lv_icmp_eq (tgt := 2028) hx hb dL_law_1064 (by decide) (fun _ => ?_) (fun cd => absurd rfl cd)
  refine kk H1 locs1 (Or.inr ⟨(u1 ci 1 t), (u1 ca 22 x3), (u1 (u1 cl 1 x1) 2 x2), cj, K, M, mr, (u1 (u1 (u1 ri 0 0) 1 t) 2 (-1)), (u1 (u1 ra 5 y2) 6 y3), (u1 rk 1 y1), ow, wd, wx, wi, wa, ⟨hc.t h4, ⟨nb, hnb, hb1, hb2⟩, ht, hT, hJ⟩, (hw.mono (Nat.le_succ k)), vaP_perm hP (toR _ _ _ _ _).symm, vaD_perm hD (toR _ _ _ _ _).symm⟩) hS

set_option maxHeartbeats 4000000 in
set_option maxRecDepth 100000 in
theorem csN_toOpen (S0 : CallFix p m c cL_law 7 s #[Value.ref b] wl_L RL) (hK : SK D cy s) (hA : ∀ q, s.heap.size ≤ q → A q) (hX : va_X b L xs s s.heap) (hbl : b < s.heap.size) (hbA : ¬ A b) (hf : cells ≤ room_1.cells ∧ slots ≤ room_1.slots) (hak : AK pk pm ka ma) (hk : k < 1000) (hin : ∀ j : Int32, j ∈ [1, 2, 3, 4, 5] → vp_in (x4 + j) L) (I : LN D cy A ad pk pm ka ma rd ao H) (hS : va_S A s.heap H locs) (hl : lv_has ls 7 [(0, .ref b), (1, .ref (ad 0)), (2, .ref (rd 0)), (3, .ref ao), (4, .int x4)]) (kk : ∀ (H1 : Heap) (locs1 : List Loc), LI D cy A ad pk pm ka ma rd ao (k + 1) H1 → va_S A s.heap H1 locs1 → W p l e room_1 s m #[Value.ref b] below meth c H1 locs1 cells slots Q (F0 m 2028 ls [])) : W p l e room_1 s m #[Value.ref b] below meth c H locs cells slots Q (F0 m 1069 ls []) := by
  have hx := S0.1
  have hb := S0.2.1
  obtain ⟨ci, ca, cl, cj, K, M, mr, ri, ra, rk, ow, ⟨hc, ⟨nb, hnb, hb1, hb2⟩, ht, hT, hJ⟩, hz, hP, hD⟩ := I
  obtain ⟨⟨z1, z2, z3, z4, z5, z6, z7⟩, ⟨z8, z9⟩, ⟨z10, z11⟩, Lt, hLt, zL⟩ := id hz
  refine lv_aload_n hx hb dL_law_1069 rfl (lv_at hl 1 rfl) ?_
  have hf1 : f_X11_toOpen (ci 1) (ci 18) (ci 19) (ci 21) (ca 12) (ca 14) (ca 16) (ci 25) (ci 26) (ca 19) (ca 20) (ca 21) = some (-1, 1) := by rw [z1, z4]; exact z_toOpen _ _ _ _ _ _ _ _ _ _
  refine k11_toOpen S0 hK hA hl.1 hf hP hD hS  hf1 (fun H1 locs1 hP hD hS => ?_)
  refine lv_aload_n hx hb dL_law_1073 rfl (lv_at hl 2 rfl) ?_
  refine k13_toOpen_n (.int (-1 : Int32)) (by show 1 ≤ 2; decide) S0 hK hA hl.1 hf (vaP_perm hP (toR _ _ _ _ _)) (vaD_perm hD (toR _ _ _ _ _)) hS (zn_toOpen _ _ _) (fun H1 locs1 hP hD hS => ?_)
  refine lv_icmp_eq (tgt := 2028) hx hb dL_law_1077 (by decide) (fun _ => ?_) (fun cd => absurd rfl cd)
  refine kk H1 locs1 (Or.inl ⟨(u1 ci 1 1), ca, cl, cj, K, M, mr, (u1 (u1 (u1 ri 0 0) 1 1) 2 (-1)), ra, rk, ow, ⟨hc.t (t := 1) (show ¬ (1 : Int32) = 4 by decide), ⟨nb, hnb, hb1, hb2⟩, ht, hT, hJ⟩, hz, vaP_perm hP (toR _ _ _ _ _).symm, vaD_perm hD (toR _ _ _ _ _).symm⟩) hS

set_option maxHeartbeats 4000000 in
set_option maxRecDepth 100000 in
theorem csW_toOpen (S0 : CallFix p m c cL_law 7 s #[Value.ref b] wl_L RL) (hK : SK D cy s) (hA : ∀ q, s.heap.size ≤ q → A q) (hX : va_X b L xs s s.heap) (hbl : b < s.heap.size) (hbA : ¬ A b) (hf : cells ≤ room_1.cells ∧ slots ≤ room_1.slots) (hak : AK pk pm ka ma) (hk : k < 1000) (hin : ∀ j : Int32, j ∈ [1, 2, 3, 4, 5] → vp_in (x4 + j) L) (I : LW D cy A ad pk pm ka ma rd ao k H) (hS : va_S A s.heap H locs) (hl : lv_has ls 7 [(0, .ref b), (1, .ref (ad 0)), (2, .ref (rd 0)), (3, .ref ao), (4, .int x4)]) (kk : ∀ (H1 : Heap) (locs1 : List Loc), LI D cy A ad pk pm ka ma rd ao (k + 1) H1 → va_S A s.heap H1 locs1 → W p l e room_1 s m #[Value.ref b] below meth c H1 locs1 cells slots Q (F0 m 2028 ls [])) : W p l e room_1 s m #[Value.ref b] below meth c H locs cells slots Q (F0 m 1069 ls []) := by
  have hx := S0.1
  have hb := S0.2.1
  obtain ⟨ci, ca, cl, cj, K, M, mr, ri, ra, rk, ow, wd, wx, wi, wa, ⟨hc, ⟨nb, hnb, hb1, hb2⟩, ht, hT, hJ⟩, hw, hP, hD⟩ := I
  refine lv_aload_n hx hb dL_law_1069 rfl (lv_at hl 1 rfl) ?_
  obtain ⟨r, t, e1, e2, h4⟩ := jW_toOpen hw (ci 1) (ri 0) (ri 1) (ri 2)
  have hf1 := e1
  refine k11_toOpen S0 hK hA hl.1 hf hP hD hS  hf1 (fun H1 locs1 hP hD hS => ?_)
  refine lv_aload_n hx hb dL_law_1073 rfl (lv_at hl 2 rfl) ?_
  refine k13_toOpen (.int r) (by show 1 ≤ 2; decide) S0 hK hA hl.1 hf (vaP_perm hP (toR _ _ _ _ _)) (vaD_perm hD (toR _ _ _ _ _)) hS e2 (fun H1 locs1 hP hD hS => ?_)
  refine lv_icmp_eq (tgt := 2028) hx hb dL_law_1077 (by decide) (fun _ => ?_) (fun cd => absurd rfl cd)
  refine kk H1 locs1 (Or.inr ⟨(u1 ci 1 t), ca, cl, cj, K, M, mr, (u1 (u1 (u1 ri 0 0) 1 t) 2 (-1)), ra, rk, ow, wd, wx, wi, wa, ⟨hc.t h4, ⟨nb, hnb, hb1, hb2⟩, ht, hT, hJ⟩, (hw.mono (Nat.le_succ k)), vaP_perm hP (toR _ _ _ _ _).symm, vaD_perm hD (toR _ _ _ _ _).symm⟩) hS

set_option maxHeartbeats 4000000 in
set_option maxRecDepth 100000 in
theorem csN_rests (S0 : CallFix p m c cL_law 7 s #[Value.ref b] wl_L RL) (hK : SK D cy s) (hA : ∀ q, s.heap.size ≤ q → A q) (hX : va_X b L xs s s.heap) (hbl : b < s.heap.size) (hbA : ¬ A b) (hf : cells ≤ room_1.cells ∧ slots ≤ room_1.slots) (hak : AK pk pm ka ma) (hk : k < 1000) (hin : ∀ j : Int32, j ∈ [1, 2, 3, 4, 5] → vp_in (x4 + j) L) (I : LN D cy A ad pk pm ka ma rd ao H) (hS : va_S A s.heap H locs) (hl : lv_has ls 7 [(0, .ref b), (1, .ref (ad 0)), (2, .ref (rd 0)), (3, .ref ao), (4, .int x4)]) (kk : ∀ (H1 : Heap) (locs1 : List Loc), LI D cy A ad pk pm ka ma rd ao (k + 1) H1 → va_S A s.heap H1 locs1 → W p l e room_1 s m #[Value.ref b] below meth c H1 locs1 cells slots Q (F0 m 2028 ls [])) : W p l e room_1 s m #[Value.ref b] below meth c H locs cells slots Q (F0 m 1082 ls []) := by
  have hx := S0.1
  have hb := S0.2.1
  obtain ⟨ci, ca, cl, cj, K, M, mr, ri, ra, rk, ow, ⟨hc, ⟨nb, hnb, hb1, hb2⟩, ht, hT, hJ⟩, hz, hP, hD⟩ := I
  obtain ⟨⟨z1, z2, z3, z4, z5, z6, z7⟩, ⟨z8, z9⟩, ⟨z10, z11⟩, Lt, hLt, zL⟩ := id hz
  refine lv_aload_n hx hb dL_law_1082 rfl (lv_at hl 1 rfl) ?_
  refine lv_aload_n hx hb dL_law_1083 rfl (lv_at hl 0 rfl) ?_
  refine lv_iload hx hb dL_law_1084 (lv_at hl 4 rfl) ?_
  refine lv_iconst (v := 1) hx hb dL_law_1086 (by decide) ?_
  refine lv_iadd hx hb dL_law_1087 ?_
  refine va_sld hx hb hX hbl hbA hS (hin 1 (by decide)) dL_law_1088 ?_
  have hf1 : f_X11_rests (ci 1) (ci 18) (ci 19) (ci 21) (ca 12) (ca 14) (ca 16) (ci 25) (ci 26) (ca 19) (ca 21) (cj 0) (cl 0) (xs (x4 + 1).toNatClampNeg) = some (-1, 1, (cj 0), (cl 0)) := by rw [z1, z4]; exact z_rests _ _ _ _ _ _ _ _ _ _ _ _
  refine k11_rests S0 hK hA hl.1 hf hP hD hS  hf1 (fun H1 locs1 hP hD hS => ?_)
  refine lv_aload_n hx hb dL_law_1092 rfl (lv_at hl 2 rfl) ?_
  refine lv_aload_n hx hb dL_law_1093 rfl (lv_at hl 0 rfl) ?_
  refine lv_iload hx hb dL_law_1094 (lv_at hl 4 rfl) ?_
  refine lv_iconst (v := 1) hx hb dL_law_1096 (by decide) ?_
  refine lv_iadd hx hb dL_law_1097 ?_
  refine va_sld hx hb hX hbl hbA hS (hin 1 (by decide)) dL_law_1098 ?_
  refine k13_rests_n (.int (-1 : Int32)) (by show 1 ≤ 2; decide) S0 hK hA hl.1 hf (vaP_perm hP (toR _ _ _ _ _)) (vaD_perm hD (toR _ _ _ _ _)) hS (zn_rests _ _ _ _) (fun H1 locs1 hP hD hS => ?_)
  refine lv_icmp_eq (tgt := 2028) hx hb dL_law_1102 (by decide) (fun _ => ?_) (fun cd => absurd rfl cd)
  refine kk H1 locs1 (Or.inl ⟨(u1 ci 1 1), ca, (u1 cl 0 (cl 0)), (u1 cj 0 (cj 0)), K, M, mr, (u1 (u1 (u1 ri 0 0) 1 1) 2 (-1)), ra, rk, ow, ⟨hc.t (t := 1) (show ¬ (1 : Int32) = 4 by decide), ⟨nb, hnb, hb1, hb2⟩, ht, hT, hJ⟩, hz, vaP_perm hP (toR _ _ _ _ _).symm, vaD_perm hD (toR _ _ _ _ _).symm⟩) hS

set_option maxHeartbeats 4000000 in
set_option maxRecDepth 100000 in
theorem csW_rests (S0 : CallFix p m c cL_law 7 s #[Value.ref b] wl_L RL) (hK : SK D cy s) (hA : ∀ q, s.heap.size ≤ q → A q) (hX : va_X b L xs s s.heap) (hbl : b < s.heap.size) (hbA : ¬ A b) (hf : cells ≤ room_1.cells ∧ slots ≤ room_1.slots) (hak : AK pk pm ka ma) (hk : k < 1000) (hin : ∀ j : Int32, j ∈ [1, 2, 3, 4, 5] → vp_in (x4 + j) L) (I : LW D cy A ad pk pm ka ma rd ao k H) (hS : va_S A s.heap H locs) (hl : lv_has ls 7 [(0, .ref b), (1, .ref (ad 0)), (2, .ref (rd 0)), (3, .ref ao), (4, .int x4)]) (kk : ∀ (H1 : Heap) (locs1 : List Loc), LI D cy A ad pk pm ka ma rd ao (k + 1) H1 → va_S A s.heap H1 locs1 → W p l e room_1 s m #[Value.ref b] below meth c H1 locs1 cells slots Q (F0 m 2028 ls [])) : W p l e room_1 s m #[Value.ref b] below meth c H locs cells slots Q (F0 m 1082 ls []) := by
  have hx := S0.1
  have hb := S0.2.1
  obtain ⟨ci, ca, cl, cj, K, M, mr, ri, ra, rk, ow, wd, wx, wi, wa, ⟨hc, ⟨nb, hnb, hb1, hb2⟩, ht, hT, hJ⟩, hw, hP, hD⟩ := I
  refine lv_aload_n hx hb dL_law_1082 rfl (lv_at hl 1 rfl) ?_
  refine lv_aload_n hx hb dL_law_1083 rfl (lv_at hl 0 rfl) ?_
  refine lv_iload hx hb dL_law_1084 (lv_at hl 4 rfl) ?_
  refine lv_iconst (v := 1) hx hb dL_law_1086 (by decide) ?_
  refine lv_iadd hx hb dL_law_1087 ?_
  refine va_sld hx hb hX hbl hbA hS (hin 1 (by decide)) dL_law_1088 ?_
  obtain ⟨r, t, wo', ws', e1, e2, h4⟩ := jW_rests hw (xs (x4 + 1).toNatClampNeg) (ci 1) (ri 0) (ri 1) (ri 2) (cj 0) (cl 0)
  have hf1 := e1
  refine k11_rests S0 hK hA hl.1 hf hP hD hS  hf1 (fun H1 locs1 hP hD hS => ?_)
  refine lv_aload_n hx hb dL_law_1092 rfl (lv_at hl 2 rfl) ?_
  refine lv_aload_n hx hb dL_law_1093 rfl (lv_at hl 0 rfl) ?_
  refine lv_iload hx hb dL_law_1094 (lv_at hl 4 rfl) ?_
  refine lv_iconst (v := 1) hx hb dL_law_1096 (by decide) ?_
  refine lv_iadd hx hb dL_law_1097 ?_
  refine va_sld hx hb hX hbl hbA hS (hin 1 (by decide)) dL_law_1098 ?_
  refine k13_rests (.int r) (by show 1 ≤ 2; decide) S0 hK hA hl.1 hf (vaP_perm hP (toR _ _ _ _ _)) (vaD_perm hD (toR _ _ _ _ _)) hS e2 (fun H1 locs1 hP hD hS => ?_)
  refine lv_icmp_eq (tgt := 2028) hx hb dL_law_1102 (by decide) (fun _ => ?_) (fun cd => absurd rfl cd)
  refine kk H1 locs1 (Or.inr ⟨(u1 ci 1 t), ca, (u1 cl 0 ws'), (u1 cj 0 wo'), K, M, mr, (u1 (u1 (u1 ri 0 0) 1 t) 2 (-1)), ra, rk, ow, wd, wx, wi, wa, ⟨hc.t h4, ⟨nb, hnb, hb1, hb2⟩, ht, hT, hJ⟩, (hw.mono (Nat.le_succ k)), vaP_perm hP (toR _ _ _ _ _).symm, vaD_perm hD (toR _ _ _ _ _).symm⟩) hS

set_option maxHeartbeats 4000000 in
set_option maxRecDepth 100000 in
theorem csN_rest (S0 : CallFix p m c cL_law 7 s #[Value.ref b] wl_L RL) (hK : SK D cy s) (hA : ∀ q, s.heap.size ≤ q → A q) (hX : va_X b L xs s s.heap) (hbl : b < s.heap.size) (hbA : ¬ A b) (hf : cells ≤ room_1.cells ∧ slots ≤ room_1.slots) (hak : AK pk pm ka ma) (hk : k < 1000) (hin : ∀ j : Int32, j ∈ [1, 2, 3, 4, 5] → vp_in (x4 + j) L) (I : LN D cy A ad pk pm ka ma rd ao H) (hS : va_S A s.heap H locs) (hl : lv_has ls 7 [(0, .ref b), (1, .ref (ad 0)), (2, .ref (rd 0)), (3, .ref ao), (4, .int x4)]) (kk : ∀ (H1 : Heap) (locs1 : List Loc), LI D cy A ad pk pm ka ma rd ao (k + 1) H1 → va_S A s.heap H1 locs1 → W p l e room_1 s m #[Value.ref b] below meth c H1 locs1 cells slots Q (F0 m 2028 ls [])) : W p l e room_1 s m #[Value.ref b] below meth c H locs cells slots Q (F0 m 1107 ls []) := by
  have hx := S0.1
  have hb := S0.2.1
  obtain ⟨ci, ca, cl, cj, K, M, mr, ri, ra, rk, ow, ⟨hc, ⟨nb, hnb, hb1, hb2⟩, ht, hT, hJ⟩, hz, hP, hD⟩ := I
  obtain ⟨⟨z1, z2, z3, z4, z5, z6, z7⟩, ⟨z8, z9⟩, ⟨z10, z11⟩, Lt, hLt, zL⟩ := id hz
  refine lv_aload_n hx hb dL_law_1107 rfl (lv_at hl 1 rfl) ?_
  refine lv_aload_n hx hb dL_law_1108 rfl (lv_at hl 0 rfl) ?_
  refine lv_iload hx hb dL_law_1109 (lv_at hl 4 rfl) ?_
  refine lv_iconst (v := 1) hx hb dL_law_1111 (by decide) ?_
  refine lv_iadd hx hb dL_law_1112 ?_
  refine va_sld hx hb hX hbl hbA hS (hin 1 (by decide)) dL_law_1113 ?_
  have hf1 : f_X11_rest (ci 1) (ci 18) (ci 19) (ci 21) (ca 12) (ca 14) (ca 16) (ci 25) (ci 26) (ca 19) (ca 21) (cj 0) (cl 0) (xs (x4 + 1).toNatClampNeg) = some (-1, 1, (cj 0), (cl 0)) := by rw [z1, z4]; exact z_rest _ _ _ _ _ _ _ _ _ _ _ _
  refine k11_rest S0 hK hA hl.1 hf hP hD hS  hf1 (fun H1 locs1 hP hD hS => ?_)
  refine lv_aload_n hx hb dL_law_1117 rfl (lv_at hl 2 rfl) ?_
  refine lv_aload_n hx hb dL_law_1118 rfl (lv_at hl 0 rfl) ?_
  refine lv_iload hx hb dL_law_1119 (lv_at hl 4 rfl) ?_
  refine lv_iconst (v := 1) hx hb dL_law_1121 (by decide) ?_
  refine lv_iadd hx hb dL_law_1122 ?_
  refine va_sld hx hb hX hbl hbA hS (hin 1 (by decide)) dL_law_1123 ?_
  refine k13_rest_n (.int (-1 : Int32)) (by show 1 ≤ 2; decide) S0 hK hA hl.1 hf (vaP_perm hP (toR _ _ _ _ _)) (vaD_perm hD (toR _ _ _ _ _)) hS (zn_rest _ _ _ _) (fun H1 locs1 hP hD hS => ?_)
  refine lv_icmp_eq (tgt := 2028) hx hb dL_law_1127 (by decide) (fun _ => ?_) (fun cd => absurd rfl cd)
  refine kk H1 locs1 (Or.inl ⟨(u1 ci 1 1), ca, (u1 cl 0 (cl 0)), (u1 cj 0 (cj 0)), K, M, mr, (u1 (u1 (u1 ri 0 0) 1 1) 2 (-1)), ra, rk, ow, ⟨hc.t (t := 1) (show ¬ (1 : Int32) = 4 by decide), ⟨nb, hnb, hb1, hb2⟩, ht, hT, hJ⟩, hz, vaP_perm hP (toR _ _ _ _ _).symm, vaD_perm hD (toR _ _ _ _ _).symm⟩) hS

set_option maxHeartbeats 4000000 in
set_option maxRecDepth 100000 in
theorem csW_rest (S0 : CallFix p m c cL_law 7 s #[Value.ref b] wl_L RL) (hK : SK D cy s) (hA : ∀ q, s.heap.size ≤ q → A q) (hX : va_X b L xs s s.heap) (hbl : b < s.heap.size) (hbA : ¬ A b) (hf : cells ≤ room_1.cells ∧ slots ≤ room_1.slots) (hak : AK pk pm ka ma) (hk : k < 1000) (hin : ∀ j : Int32, j ∈ [1, 2, 3, 4, 5] → vp_in (x4 + j) L) (I : LW D cy A ad pk pm ka ma rd ao k H) (hS : va_S A s.heap H locs) (hl : lv_has ls 7 [(0, .ref b), (1, .ref (ad 0)), (2, .ref (rd 0)), (3, .ref ao), (4, .int x4)]) (kk : ∀ (H1 : Heap) (locs1 : List Loc), LI D cy A ad pk pm ka ma rd ao (k + 1) H1 → va_S A s.heap H1 locs1 → W p l e room_1 s m #[Value.ref b] below meth c H1 locs1 cells slots Q (F0 m 2028 ls [])) : W p l e room_1 s m #[Value.ref b] below meth c H locs cells slots Q (F0 m 1107 ls []) := by
  have hx := S0.1
  have hb := S0.2.1
  obtain ⟨ci, ca, cl, cj, K, M, mr, ri, ra, rk, ow, wd, wx, wi, wa, ⟨hc, ⟨nb, hnb, hb1, hb2⟩, ht, hT, hJ⟩, hw, hP, hD⟩ := I
  refine lv_aload_n hx hb dL_law_1107 rfl (lv_at hl 1 rfl) ?_
  refine lv_aload_n hx hb dL_law_1108 rfl (lv_at hl 0 rfl) ?_
  refine lv_iload hx hb dL_law_1109 (lv_at hl 4 rfl) ?_
  refine lv_iconst (v := 1) hx hb dL_law_1111 (by decide) ?_
  refine lv_iadd hx hb dL_law_1112 ?_
  refine va_sld hx hb hX hbl hbA hS (hin 1 (by decide)) dL_law_1113 ?_
  obtain ⟨r, t, wo', ws', e1, e2, h4⟩ := jW_rest hw (xs (x4 + 1).toNatClampNeg) (ci 1) (ri 0) (ri 1) (ri 2) (cj 0) (cl 0)
  have hf1 := e1
  refine k11_rest S0 hK hA hl.1 hf hP hD hS  hf1 (fun H1 locs1 hP hD hS => ?_)
  refine lv_aload_n hx hb dL_law_1117 rfl (lv_at hl 2 rfl) ?_
  refine lv_aload_n hx hb dL_law_1118 rfl (lv_at hl 0 rfl) ?_
  refine lv_iload hx hb dL_law_1119 (lv_at hl 4 rfl) ?_
  refine lv_iconst (v := 1) hx hb dL_law_1121 (by decide) ?_
  refine lv_iadd hx hb dL_law_1122 ?_
  refine va_sld hx hb hX hbl hbA hS (hin 1 (by decide)) dL_law_1123 ?_
  refine k13_rest (.int r) (by show 1 ≤ 2; decide) S0 hK hA hl.1 hf (vaP_perm hP (toR _ _ _ _ _)) (vaD_perm hD (toR _ _ _ _ _)) hS e2 (fun H1 locs1 hP hD hS => ?_)
  refine lv_icmp_eq (tgt := 2028) hx hb dL_law_1127 (by decide) (fun _ => ?_) (fun cd => absurd rfl cd)
  refine kk H1 locs1 (Or.inr ⟨(u1 ci 1 t), ca, (u1 cl 0 ws'), (u1 cj 0 wo'), K, M, mr, (u1 (u1 (u1 ri 0 0) 1 t) 2 (-1)), ra, rk, ow, wd, wx, wi, wa, ⟨hc.t h4, ⟨nb, hnb, hb1, hb2⟩, ht, hT, hJ⟩, (hw.mono (Nat.le_succ k)), vaP_perm hP (toR _ _ _ _ _).symm, vaD_perm hD (toR _ _ _ _ _).symm⟩) hS

set_option maxHeartbeats 4000000 in
set_option maxRecDepth 100000 in
theorem csN_weeks (S0 : CallFix p m c cL_law 7 s #[Value.ref b] wl_L RL) (hK : SK D cy s) (hA : ∀ q, s.heap.size ≤ q → A q) (hX : va_X b L xs s s.heap) (hbl : b < s.heap.size) (hbA : ¬ A b) (hf : cells ≤ room_1.cells ∧ slots ≤ room_1.slots) (hak : AK pk pm ka ma) (hk : k < 1000) (hin : ∀ j : Int32, j ∈ [1, 2, 3, 4, 5] → vp_in (x4 + j) L) (I : LN D cy A ad pk pm ka ma rd ao H) (hS : va_S A s.heap H locs) (hl : lv_has ls 7 [(0, .ref b), (1, .ref (ad 0)), (2, .ref (rd 0)), (3, .ref ao), (4, .int x4)]) (kk : ∀ (H1 : Heap) (locs1 : List Loc), LI D cy A ad pk pm ka ma rd ao (k + 1) H1 → va_S A s.heap H1 locs1 → W p l e room_1 s m #[Value.ref b] below meth c H1 locs1 cells slots Q (F0 m 2028 ls [])) : W p l e room_1 s m #[Value.ref b] below meth c H locs cells slots Q (F0 m 1132 ls []) := by
  have hx := S0.1
  have hb := S0.2.1
  obtain ⟨ci, ca, cl, cj, K, M, mr, ri, ra, rk, ow, ⟨hc, ⟨nb, hnb, hb1, hb2⟩, ht, hT, hJ⟩, hz, hP, hD⟩ := I
  obtain ⟨⟨z1, z2, z3, z4, z5, z6, z7⟩, ⟨z8, z9⟩, ⟨z10, z11⟩, Lt, hLt, zL⟩ := id hz
  refine lv_aload_n hx hb dL_law_1132 rfl (lv_at hl 1 rfl) ?_
  refine lv_aload_n hx hb dL_law_1133 rfl (lv_at hl 0 rfl) ?_
  refine lv_iload hx hb dL_law_1134 (lv_at hl 4 rfl) ?_
  refine lv_iconst (v := 1) hx hb dL_law_1136 (by decide) ?_
  refine lv_iadd hx hb dL_law_1137 ?_
  refine va_sld hx hb hX hbl hbA hS (hin 1 (by decide)) dL_law_1138 ?_
  have hf1 : f_X11_weeks (ci 1) (ci 18) (ci 19) (ci 21) (ca 12) (ca 14) (ca 16) (ci 25) (ci 26) (ca 21) (xs (x4 + 1).toNatClampNeg) = some (-1, 1) := by rw [z1, z4]; exact z_weeks _ _ _ _ _ _ _ _ _
  refine k11_weeks S0 hK hA hl.1 hf hP hD hS  hf1 (fun H1 locs1 hP hD hS => ?_)
  refine lv_aload_n hx hb dL_law_1142 rfl (lv_at hl 2 rfl) ?_
  refine lv_aload_n hx hb dL_law_1143 rfl (lv_at hl 0 rfl) ?_
  refine lv_iload hx hb dL_law_1144 (lv_at hl 4 rfl) ?_
  refine lv_iconst (v := 1) hx hb dL_law_1146 (by decide) ?_
  refine lv_iadd hx hb dL_law_1147 ?_
  refine va_sld hx hb hX hbl hbA hS (hin 1 (by decide)) dL_law_1148 ?_
  refine k13_weeks_n (.int (-1 : Int32)) (by show 1 ≤ 2; decide) S0 hK hA hl.1 hf (vaP_perm hP (toR _ _ _ _ _)) (vaD_perm hD (toR _ _ _ _ _)) hS (zn_weeks _ _ _ _) (fun H1 locs1 hP hD hS => ?_)
  refine lv_icmp_eq (tgt := 2028) hx hb dL_law_1152 (by decide) (fun _ => ?_) (fun cd => absurd rfl cd)
  refine kk H1 locs1 (Or.inl ⟨(u1 ci 1 1), ca, cl, cj, K, M, mr, (u1 (u1 (u1 ri 0 0) 1 1) 2 (-1)), ra, rk, ow, ⟨hc.t (t := 1) (show ¬ (1 : Int32) = 4 by decide), ⟨nb, hnb, hb1, hb2⟩, ht, hT, hJ⟩, hz, vaP_perm hP (toR _ _ _ _ _).symm, vaD_perm hD (toR _ _ _ _ _).symm⟩) hS

set_option maxHeartbeats 4000000 in
set_option maxRecDepth 100000 in
theorem csW_weeks (S0 : CallFix p m c cL_law 7 s #[Value.ref b] wl_L RL) (hK : SK D cy s) (hA : ∀ q, s.heap.size ≤ q → A q) (hX : va_X b L xs s s.heap) (hbl : b < s.heap.size) (hbA : ¬ A b) (hf : cells ≤ room_1.cells ∧ slots ≤ room_1.slots) (hak : AK pk pm ka ma) (hk : k < 1000) (hin : ∀ j : Int32, j ∈ [1, 2, 3, 4, 5] → vp_in (x4 + j) L) (I : LW D cy A ad pk pm ka ma rd ao k H) (hS : va_S A s.heap H locs) (hl : lv_has ls 7 [(0, .ref b), (1, .ref (ad 0)), (2, .ref (rd 0)), (3, .ref ao), (4, .int x4)]) (kk : ∀ (H1 : Heap) (locs1 : List Loc), LI D cy A ad pk pm ka ma rd ao (k + 1) H1 → va_S A s.heap H1 locs1 → W p l e room_1 s m #[Value.ref b] below meth c H1 locs1 cells slots Q (F0 m 2028 ls [])) : W p l e room_1 s m #[Value.ref b] below meth c H locs cells slots Q (F0 m 1132 ls []) := by
  have hx := S0.1
  have hb := S0.2.1
  obtain ⟨ci, ca, cl, cj, K, M, mr, ri, ra, rk, ow, wd, wx, wi, wa, ⟨hc, ⟨nb, hnb, hb1, hb2⟩, ht, hT, hJ⟩, hw, hP, hD⟩ := I
  refine lv_aload_n hx hb dL_law_1132 rfl (lv_at hl 1 rfl) ?_
  refine lv_aload_n hx hb dL_law_1133 rfl (lv_at hl 0 rfl) ?_
  refine lv_iload hx hb dL_law_1134 (lv_at hl 4 rfl) ?_
  refine lv_iconst (v := 1) hx hb dL_law_1136 (by decide) ?_
  refine lv_iadd hx hb dL_law_1137 ?_
  refine va_sld hx hb hX hbl hbA hS (hin 1 (by decide)) dL_law_1138 ?_
  obtain ⟨r, t, e1, e2, h4⟩ := jW_weeks hw (xs (x4 + 1).toNatClampNeg) (ci 1) (ri 0) (ri 1) (ri 2)
  have hf1 := e1
  refine k11_weeks S0 hK hA hl.1 hf hP hD hS  hf1 (fun H1 locs1 hP hD hS => ?_)
  refine lv_aload_n hx hb dL_law_1142 rfl (lv_at hl 2 rfl) ?_
  refine lv_aload_n hx hb dL_law_1143 rfl (lv_at hl 0 rfl) ?_
  refine lv_iload hx hb dL_law_1144 (lv_at hl 4 rfl) ?_
  refine lv_iconst (v := 1) hx hb dL_law_1146 (by decide) ?_
  refine lv_iadd hx hb dL_law_1147 ?_
  refine va_sld hx hb hX hbl hbA hS (hin 1 (by decide)) dL_law_1148 ?_
  refine k13_weeks (.int r) (by show 1 ≤ 2; decide) S0 hK hA hl.1 hf (vaP_perm hP (toR _ _ _ _ _)) (vaD_perm hD (toR _ _ _ _ _)) hS e2 (fun H1 locs1 hP hD hS => ?_)
  refine lv_icmp_eq (tgt := 2028) hx hb dL_law_1152 (by decide) (fun _ => ?_) (fun cd => absurd rfl cd)
  refine kk H1 locs1 (Or.inr ⟨(u1 ci 1 t), ca, cl, cj, K, M, mr, (u1 (u1 (u1 ri 0 0) 1 t) 2 (-1)), ra, rk, ow, wd, wx, wi, wa, ⟨hc.t h4, ⟨nb, hnb, hb1, hb2⟩, ht, hT, hJ⟩, (hw.mono (Nat.le_succ k)), vaP_perm hP (toR _ _ _ _ _).symm, vaD_perm hD (toR _ _ _ _ _).symm⟩) hS

set_option maxHeartbeats 4000000 in
set_option maxRecDepth 100000 in
theorem csN_sale (S0 : CallFix p m c cL_law 7 s #[Value.ref b] wl_L RL) (hK : SK D cy s) (hA : ∀ q, s.heap.size ≤ q → A q) (hX : va_X b L xs s s.heap) (hbl : b < s.heap.size) (hbA : ¬ A b) (hf : cells ≤ room_1.cells ∧ slots ≤ room_1.slots) (hak : AK pk pm ka ma) (hk : k < 1000) (hin : ∀ j : Int32, j ∈ [1, 2, 3, 4, 5] → vp_in (x4 + j) L) (I : LN D cy A ad pk pm ka ma rd ao H) (hS : va_S A s.heap H locs) (hl : lv_has ls 7 [(0, .ref b), (1, .ref (ad 0)), (2, .ref (rd 0)), (3, .ref ao), (4, .int x4)]) (kk : ∀ (H1 : Heap) (locs1 : List Loc), LI D cy A ad pk pm ka ma rd ao (k + 1) H1 → va_S A s.heap H1 locs1 → W p l e room_1 s m #[Value.ref b] below meth c H1 locs1 cells slots Q (F0 m 2028 ls [])) : W p l e room_1 s m #[Value.ref b] below meth c H locs cells slots Q (F0 m 1157 ls []) := by
  have hx := S0.1
  have hb := S0.2.1
  obtain ⟨ci, ca, cl, cj, K, M, mr, ri, ra, rk, ow, ⟨hc, ⟨nb, hnb, hb1, hb2⟩, ht, hT, hJ⟩, hz, hP, hD⟩ := I
  obtain ⟨⟨z1, z2, z3, z4, z5, z6, z7⟩, ⟨z8, z9⟩, ⟨z10, z11⟩, Lt, hLt, zL⟩ := id hz
  refine lv_aload_n hx hb dL_law_1157 rfl (lv_at hl 1 rfl) ?_
  refine lv_aload_n hx hb dL_law_1158 rfl (lv_at hl 0 rfl) ?_
  refine lv_iload hx hb dL_law_1159 (lv_at hl 4 rfl) ?_
  refine lv_iconst (v := 1) hx hb dL_law_1161 (by decide) ?_
  refine lv_iadd hx hb dL_law_1162 ?_
  refine va_sld hx hb hX hbl hbA hS (hin 1 (by decide)) dL_law_1163 ?_
  have hf1 : f_X11_sale (ci 1) (ci 18) (ci 21) (ca 17) (ci 25) (xs (x4 + 1).toNatClampNeg) = some (-1, 1) := by rw [z1, z4]; exact z_sale _ _ _ _
  refine k11_sale S0 hK hA hl.1 hf hP hD hS  hf1 (fun H1 locs1 hP hD hS => ?_)
  refine lv_aload_n hx hb dL_law_1167 rfl (lv_at hl 2 rfl) ?_
  refine lv_aload_n hx hb dL_law_1168 rfl (lv_at hl 0 rfl) ?_
  refine lv_iload hx hb dL_law_1169 (lv_at hl 4 rfl) ?_
  refine lv_iconst (v := 1) hx hb dL_law_1171 (by decide) ?_
  refine lv_iadd hx hb dL_law_1172 ?_
  refine va_sld hx hb hX hbl hbA hS (hin 1 (by decide)) dL_law_1173 ?_
  refine k13_sale_n (.int (-1 : Int32)) (by show 1 ≤ 2; decide) S0 hK hA hl.1 hf (vaP_perm hP (toR _ _ _ _ _)) (vaD_perm hD (toR _ _ _ _ _)) hS (zn_sale _ _ _ _) (fun H1 locs1 hP hD hS => ?_)
  refine lv_icmp_eq (tgt := 2028) hx hb dL_law_1177 (by decide) (fun _ => ?_) (fun cd => absurd rfl cd)
  refine kk H1 locs1 (Or.inl ⟨(u1 ci 1 1), ca, cl, cj, K, M, mr, (u1 (u1 (u1 ri 0 0) 1 1) 2 (-1)), ra, rk, ow, ⟨hc.t (t := 1) (show ¬ (1 : Int32) = 4 by decide), ⟨nb, hnb, hb1, hb2⟩, ht, hT, hJ⟩, hz, vaP_perm hP (toR _ _ _ _ _).symm, vaD_perm hD (toR _ _ _ _ _).symm⟩) hS

set_option maxHeartbeats 4000000 in
set_option maxRecDepth 100000 in
theorem csW_sale (S0 : CallFix p m c cL_law 7 s #[Value.ref b] wl_L RL) (hK : SK D cy s) (hA : ∀ q, s.heap.size ≤ q → A q) (hX : va_X b L xs s s.heap) (hbl : b < s.heap.size) (hbA : ¬ A b) (hf : cells ≤ room_1.cells ∧ slots ≤ room_1.slots) (hak : AK pk pm ka ma) (hk : k < 1000) (hin : ∀ j : Int32, j ∈ [1, 2, 3, 4, 5] → vp_in (x4 + j) L) (I : LW D cy A ad pk pm ka ma rd ao k H) (hS : va_S A s.heap H locs) (hl : lv_has ls 7 [(0, .ref b), (1, .ref (ad 0)), (2, .ref (rd 0)), (3, .ref ao), (4, .int x4)]) (kk : ∀ (H1 : Heap) (locs1 : List Loc), LI D cy A ad pk pm ka ma rd ao (k + 1) H1 → va_S A s.heap H1 locs1 → W p l e room_1 s m #[Value.ref b] below meth c H1 locs1 cells slots Q (F0 m 2028 ls [])) : W p l e room_1 s m #[Value.ref b] below meth c H locs cells slots Q (F0 m 1157 ls []) := by
  have hx := S0.1
  have hb := S0.2.1
  obtain ⟨ci, ca, cl, cj, K, M, mr, ri, ra, rk, ow, wd, wx, wi, wa, ⟨hc, ⟨nb, hnb, hb1, hb2⟩, ht, hT, hJ⟩, hw, hP, hD⟩ := I
  refine lv_aload_n hx hb dL_law_1157 rfl (lv_at hl 1 rfl) ?_
  refine lv_aload_n hx hb dL_law_1158 rfl (lv_at hl 0 rfl) ?_
  refine lv_iload hx hb dL_law_1159 (lv_at hl 4 rfl) ?_
  refine lv_iconst (v := 1) hx hb dL_law_1161 (by decide) ?_
  refine lv_iadd hx hb dL_law_1162 ?_
  refine va_sld hx hb hX hbl hbA hS (hin 1 (by decide)) dL_law_1163 ?_
  obtain ⟨r, t, e1, e2, h4⟩ := jW_sale hw (xs (x4 + 1).toNatClampNeg) (ci 1) (ri 0) (ri 1) (ri 2)
  have hf1 := e1
  refine k11_sale S0 hK hA hl.1 hf hP hD hS  hf1 (fun H1 locs1 hP hD hS => ?_)
  refine lv_aload_n hx hb dL_law_1167 rfl (lv_at hl 2 rfl) ?_
  refine lv_aload_n hx hb dL_law_1168 rfl (lv_at hl 0 rfl) ?_
  refine lv_iload hx hb dL_law_1169 (lv_at hl 4 rfl) ?_
  refine lv_iconst (v := 1) hx hb dL_law_1171 (by decide) ?_
  refine lv_iadd hx hb dL_law_1172 ?_
  refine va_sld hx hb hX hbl hbA hS (hin 1 (by decide)) dL_law_1173 ?_
  refine k13_sale (.int r) (by show 1 ≤ 2; decide) S0 hK hA hl.1 hf (vaP_perm hP (toR _ _ _ _ _)) (vaD_perm hD (toR _ _ _ _ _)) hS e2 (fun H1 locs1 hP hD hS => ?_)
  refine lv_icmp_eq (tgt := 2028) hx hb dL_law_1177 (by decide) (fun _ => ?_) (fun cd => absurd rfl cd)
  refine kk H1 locs1 (Or.inr ⟨(u1 ci 1 t), ca, cl, cj, K, M, mr, (u1 (u1 (u1 ri 0 0) 1 t) 2 (-1)), ra, rk, ow, wd, wx, wi, wa, ⟨hc.t h4, ⟨nb, hnb, hb1, hb2⟩, ht, hT, hJ⟩, (hw.mono (Nat.le_succ k)), vaP_perm hP (toR _ _ _ _ _).symm, vaD_perm hD (toR _ _ _ _ _).symm⟩) hS

set_option maxHeartbeats 4000000 in
set_option maxRecDepth 100000 in
theorem csN_saleOver (S0 : CallFix p m c cL_law 7 s #[Value.ref b] wl_L RL) (hK : SK D cy s) (hA : ∀ q, s.heap.size ≤ q → A q) (hX : va_X b L xs s s.heap) (hbl : b < s.heap.size) (hbA : ¬ A b) (hf : cells ≤ room_1.cells ∧ slots ≤ room_1.slots) (hak : AK pk pm ka ma) (hk : k < 1000) (hin : ∀ j : Int32, j ∈ [1, 2, 3, 4, 5] → vp_in (x4 + j) L) (I : LN D cy A ad pk pm ka ma rd ao H) (hS : va_S A s.heap H locs) (hl : lv_has ls 7 [(0, .ref b), (1, .ref (ad 0)), (2, .ref (rd 0)), (3, .ref ao), (4, .int x4)]) (kk : ∀ (H1 : Heap) (locs1 : List Loc), LI D cy A ad pk pm ka ma rd ao (k + 1) H1 → va_S A s.heap H1 locs1 → W p l e room_1 s m #[Value.ref b] below meth c H1 locs1 cells slots Q (F0 m 2028 ls [])) : W p l e room_1 s m #[Value.ref b] below meth c H locs cells slots Q (F0 m 1182 ls []) := by
  have hx := S0.1
  have hb := S0.2.1
  obtain ⟨ci, ca, cl, cj, K, M, mr, ri, ra, rk, ow, ⟨hc, ⟨nb, hnb, hb1, hb2⟩, ht, hT, hJ⟩, hz, hP, hD⟩ := I
  obtain ⟨⟨z1, z2, z3, z4, z5, z6, z7⟩, ⟨z8, z9⟩, ⟨z10, z11⟩, Lt, hLt, zL⟩ := id hz
  refine lv_aload_n hx hb dL_law_1182 rfl (lv_at hl 1 rfl) ?_
  refine lv_aload_n hx hb dL_law_1183 rfl (lv_at hl 0 rfl) ?_
  refine lv_iload hx hb dL_law_1184 (lv_at hl 4 rfl) ?_
  refine lv_iconst (v := 1) hx hb dL_law_1186 (by decide) ?_
  refine lv_iadd hx hb dL_law_1187 ?_
  refine va_sld hx hb hX hbl hbA hS (hin 1 (by decide)) dL_law_1188 ?_
  have hf1 : f_X11_saleOver (ci 1) (ci 18) (ci 21) (ca 17) (ci 25) (xs (x4 + 1).toNatClampNeg) = some (-1, 1) := by rw [z1, z4]; exact z_saleOver _ _ _ _
  refine k11_saleOver S0 hK hA hl.1 hf hP hD hS  hf1 (fun H1 locs1 hP hD hS => ?_)
  refine lv_aload_n hx hb dL_law_1192 rfl (lv_at hl 2 rfl) ?_
  refine lv_aload_n hx hb dL_law_1193 rfl (lv_at hl 0 rfl) ?_
  refine lv_iload hx hb dL_law_1194 (lv_at hl 4 rfl) ?_
  refine lv_iconst (v := 1) hx hb dL_law_1196 (by decide) ?_
  refine lv_iadd hx hb dL_law_1197 ?_
  refine va_sld hx hb hX hbl hbA hS (hin 1 (by decide)) dL_law_1198 ?_
  refine k13_saleOver_n (.int (-1 : Int32)) (by show 1 ≤ 2; decide) S0 hK hA hl.1 hf (vaP_perm hP (toR _ _ _ _ _)) (vaD_perm hD (toR _ _ _ _ _)) hS (zn_saleOver _ _ _ _) (fun H1 locs1 hP hD hS => ?_)
  refine lv_icmp_eq (tgt := 2028) hx hb dL_law_1202 (by decide) (fun _ => ?_) (fun cd => absurd rfl cd)
  refine kk H1 locs1 (Or.inl ⟨(u1 ci 1 1), ca, cl, cj, K, M, mr, (u1 (u1 (u1 ri 0 0) 1 1) 2 (-1)), ra, rk, ow, ⟨hc.t (t := 1) (show ¬ (1 : Int32) = 4 by decide), ⟨nb, hnb, hb1, hb2⟩, ht, hT, hJ⟩, hz, vaP_perm hP (toR _ _ _ _ _).symm, vaD_perm hD (toR _ _ _ _ _).symm⟩) hS

set_option maxHeartbeats 4000000 in
set_option maxRecDepth 100000 in
theorem csW_saleOver (S0 : CallFix p m c cL_law 7 s #[Value.ref b] wl_L RL) (hK : SK D cy s) (hA : ∀ q, s.heap.size ≤ q → A q) (hX : va_X b L xs s s.heap) (hbl : b < s.heap.size) (hbA : ¬ A b) (hf : cells ≤ room_1.cells ∧ slots ≤ room_1.slots) (hak : AK pk pm ka ma) (hk : k < 1000) (hin : ∀ j : Int32, j ∈ [1, 2, 3, 4, 5] → vp_in (x4 + j) L) (I : LW D cy A ad pk pm ka ma rd ao k H) (hS : va_S A s.heap H locs) (hl : lv_has ls 7 [(0, .ref b), (1, .ref (ad 0)), (2, .ref (rd 0)), (3, .ref ao), (4, .int x4)]) (kk : ∀ (H1 : Heap) (locs1 : List Loc), LI D cy A ad pk pm ka ma rd ao (k + 1) H1 → va_S A s.heap H1 locs1 → W p l e room_1 s m #[Value.ref b] below meth c H1 locs1 cells slots Q (F0 m 2028 ls [])) : W p l e room_1 s m #[Value.ref b] below meth c H locs cells slots Q (F0 m 1182 ls []) := by
  have hx := S0.1
  have hb := S0.2.1
  obtain ⟨ci, ca, cl, cj, K, M, mr, ri, ra, rk, ow, wd, wx, wi, wa, ⟨hc, ⟨nb, hnb, hb1, hb2⟩, ht, hT, hJ⟩, hw, hP, hD⟩ := I
  refine lv_aload_n hx hb dL_law_1182 rfl (lv_at hl 1 rfl) ?_
  refine lv_aload_n hx hb dL_law_1183 rfl (lv_at hl 0 rfl) ?_
  refine lv_iload hx hb dL_law_1184 (lv_at hl 4 rfl) ?_
  refine lv_iconst (v := 1) hx hb dL_law_1186 (by decide) ?_
  refine lv_iadd hx hb dL_law_1187 ?_
  refine va_sld hx hb hX hbl hbA hS (hin 1 (by decide)) dL_law_1188 ?_
  obtain ⟨r, t, e1, e2, h4⟩ := jW_saleOver hw (xs (x4 + 1).toNatClampNeg) (ci 1) (ri 0) (ri 1) (ri 2)
  have hf1 := e1
  refine k11_saleOver S0 hK hA hl.1 hf hP hD hS  hf1 (fun H1 locs1 hP hD hS => ?_)
  refine lv_aload_n hx hb dL_law_1192 rfl (lv_at hl 2 rfl) ?_
  refine lv_aload_n hx hb dL_law_1193 rfl (lv_at hl 0 rfl) ?_
  refine lv_iload hx hb dL_law_1194 (lv_at hl 4 rfl) ?_
  refine lv_iconst (v := 1) hx hb dL_law_1196 (by decide) ?_
  refine lv_iadd hx hb dL_law_1197 ?_
  refine va_sld hx hb hX hbl hbA hS (hin 1 (by decide)) dL_law_1198 ?_
  refine k13_saleOver (.int r) (by show 1 ≤ 2; decide) S0 hK hA hl.1 hf (vaP_perm hP (toR _ _ _ _ _)) (vaD_perm hD (toR _ _ _ _ _)) hS e2 (fun H1 locs1 hP hD hS => ?_)
  refine lv_icmp_eq (tgt := 2028) hx hb dL_law_1202 (by decide) (fun _ => ?_) (fun cd => absurd rfl cd)
  refine kk H1 locs1 (Or.inr ⟨(u1 ci 1 t), ca, cl, cj, K, M, mr, (u1 (u1 (u1 ri 0 0) 1 t) 2 (-1)), ra, rk, ow, wd, wx, wi, wa, ⟨hc.t h4, ⟨nb, hnb, hb1, hb2⟩, ht, hT, hJ⟩, (hw.mono (Nat.le_succ k)), vaP_perm hP (toR _ _ _ _ _).symm, vaD_perm hD (toR _ _ _ _ _).symm⟩) hS

set_option maxHeartbeats 4000000 in
set_option maxRecDepth 100000 in
theorem csN_march (S0 : CallFix p m c cL_law 7 s #[Value.ref b] wl_L RL) (hK : SK D cy s) (hA : ∀ q, s.heap.size ≤ q → A q) (hX : va_X b L xs s s.heap) (hbl : b < s.heap.size) (hbA : ¬ A b) (hf : cells ≤ room_1.cells ∧ slots ≤ room_1.slots) (hak : AK pk pm ka ma) (hk : k < 1000) (hin : ∀ j : Int32, j ∈ [1, 2, 3, 4, 5] → vp_in (x4 + j) L) (I : LN D cy A ad pk pm ka ma rd ao H) (hS : va_S A s.heap H locs) (hl : lv_has ls 7 [(0, .ref b), (1, .ref (ad 0)), (2, .ref (rd 0)), (3, .ref ao), (4, .int x4)]) (kk : ∀ (H1 : Heap) (locs1 : List Loc), LI D cy A ad pk pm ka ma rd ao (k + 1) H1 → va_S A s.heap H1 locs1 → W p l e room_1 s m #[Value.ref b] below meth c H1 locs1 cells slots Q (F0 m 2028 ls [])) : W p l e room_1 s m #[Value.ref b] below meth c H locs cells slots Q (F0 m 1207 ls []) := by
  have hx := S0.1
  have hb := S0.2.1
  obtain ⟨ci, ca, cl, cj, K, M, mr, ri, ra, rk, ow, ⟨hc, ⟨nb, hnb, hb1, hb2⟩, ht, hT, hJ⟩, hz, hP, hD⟩ := I
  obtain ⟨⟨z1, z2, z3, z4, z5, z6, z7⟩, ⟨z8, z9⟩, ⟨z10, z11⟩, Lt, hLt, zL⟩ := id hz
  refine lv_aload_n hx hb dL_law_1207 rfl (lv_at hl 1 rfl) ?_
  refine lv_aload_n hx hb dL_law_1208 rfl (lv_at hl 0 rfl) ?_
  refine lv_iload hx hb dL_law_1209 (lv_at hl 4 rfl) ?_
  refine lv_iconst (v := 1) hx hb dL_law_1211 (by decide) ?_
  refine lv_iadd hx hb dL_law_1212 ?_
  refine va_sld hx hb hX hbl hbA hS (hin 1 (by decide)) dL_law_1213 ?_
  refine lv_aload_n hx hb dL_law_1214 rfl (lv_at hl 0 rfl) ?_
  refine lv_iload hx hb dL_law_1215 (lv_at hl 4 rfl) ?_
  refine lv_iconst (v := 2) hx hb dL_law_1217 (by decide) ?_
  refine lv_iadd hx hb dL_law_1218 ?_
  refine va_sld hx hb hX hbl hbA hS (hin 2 (by decide)) dL_law_1219 ?_
  refine lv_aload_n hx hb dL_law_1220 rfl (lv_at hl 0 rfl) ?_
  refine lv_iload hx hb dL_law_1221 (lv_at hl 4 rfl) ?_
  refine lv_iconst (v := 3) hx hb dL_law_1223 (by decide) ?_
  refine lv_iadd hx hb dL_law_1224 ?_
  refine va_sld hx hb hX hbl hbA hS (hin 3 (by decide)) dL_law_1225 ?_
  have hf1 : f_X11_march (ci 1) (ci 22) (ca 18) (ci 31) (ci 32) (ca 23) (ca 24) (xs (x4 + 1).toNatClampNeg) (xs (x4 + 2).toNatClampNeg) (xs (x4 + 3).toNatClampNeg) = some (-1, 1, (ci 31), (ci 32), (ca 23), (ca 24)) := by rw [z5]; exact z_march _ _ _ _ _ _ _ _ _
  refine k11_march S0 hK hA hl.1 hf hP hD hS  hf1 (fun H1 locs1 hP hD hS => ?_)
  refine lv_aload_n hx hb dL_law_1229 rfl (lv_at hl 2 rfl) ?_
  refine lv_aload_n hx hb dL_law_1230 rfl (lv_at hl 0 rfl) ?_
  refine lv_iload hx hb dL_law_1231 (lv_at hl 4 rfl) ?_
  refine lv_iconst (v := 1) hx hb dL_law_1233 (by decide) ?_
  refine lv_iadd hx hb dL_law_1234 ?_
  refine va_sld hx hb hX hbl hbA hS (hin 1 (by decide)) dL_law_1235 ?_
  refine lv_aload_n hx hb dL_law_1236 rfl (lv_at hl 0 rfl) ?_
  refine lv_iload hx hb dL_law_1237 (lv_at hl 4 rfl) ?_
  refine lv_iconst (v := 2) hx hb dL_law_1239 (by decide) ?_
  refine lv_iadd hx hb dL_law_1240 ?_
  refine va_sld hx hb hX hbl hbA hS (hin 2 (by decide)) dL_law_1241 ?_
  refine lv_aload_n hx hb dL_law_1242 rfl (lv_at hl 0 rfl) ?_
  refine lv_iload hx hb dL_law_1243 (lv_at hl 4 rfl) ?_
  refine lv_iconst (v := 3) hx hb dL_law_1245 (by decide) ?_
  refine lv_iadd hx hb dL_law_1246 ?_
  refine va_sld hx hb hX hbl hbA hS (hin 3 (by decide)) dL_law_1247 ?_
  refine k13_march_n (.int (-1 : Int32)) (by show 1 ≤ 2; decide) S0 hK hA hl.1 hf (vaP_perm hP (toR _ _ _ _ _)) (vaD_perm hD (toR _ _ _ _ _)) hS (zn_march _ _ _ _ _ _) (fun H1 locs1 hP hD hS => ?_)
  refine lv_icmp_eq (tgt := 2028) hx hb dL_law_1251 (by decide) (fun _ => ?_) (fun cd => absurd rfl cd)
  refine kk H1 locs1 (Or.inl ⟨(u1 (u1 (u1 ci 1 1) 31 (ci 31)) 32 (ci 32)), (u1 (u1 ca 23 (ca 23)) 24 (ca 24)), cl, cj, K, M, mr, (u1 (u1 (u1 ri 0 0) 1 1) 2 (-1)), ra, rk, ow, ⟨hc.t (t := 1) (show ¬ (1 : Int32) = 4 by decide), ⟨nb, hnb, hb1, hb2⟩, ht, hT, hJ⟩, hz, vaP_perm hP (toR _ _ _ _ _).symm, vaD_perm hD (toR _ _ _ _ _).symm⟩) hS

set_option maxHeartbeats 4000000 in
set_option maxRecDepth 100000 in
theorem csW_march (S0 : CallFix p m c cL_law 7 s #[Value.ref b] wl_L RL) (hK : SK D cy s) (hA : ∀ q, s.heap.size ≤ q → A q) (hX : va_X b L xs s s.heap) (hbl : b < s.heap.size) (hbA : ¬ A b) (hf : cells ≤ room_1.cells ∧ slots ≤ room_1.slots) (hak : AK pk pm ka ma) (hk : k < 1000) (hin : ∀ j : Int32, j ∈ [1, 2, 3, 4, 5] → vp_in (x4 + j) L) (I : LW D cy A ad pk pm ka ma rd ao k H) (hS : va_S A s.heap H locs) (hl : lv_has ls 7 [(0, .ref b), (1, .ref (ad 0)), (2, .ref (rd 0)), (3, .ref ao), (4, .int x4)]) (kk : ∀ (H1 : Heap) (locs1 : List Loc), LI D cy A ad pk pm ka ma rd ao (k + 1) H1 → va_S A s.heap H1 locs1 → W p l e room_1 s m #[Value.ref b] below meth c H1 locs1 cells slots Q (F0 m 2028 ls [])) : W p l e room_1 s m #[Value.ref b] below meth c H locs cells slots Q (F0 m 1207 ls []) := by
  have hx := S0.1
  have hb := S0.2.1
  obtain ⟨ci, ca, cl, cj, K, M, mr, ri, ra, rk, ow, wd, wx, wi, wa, ⟨hc, ⟨nb, hnb, hb1, hb2⟩, ht, hT, hJ⟩, hw, hP, hD⟩ := I
  refine lv_aload_n hx hb dL_law_1207 rfl (lv_at hl 1 rfl) ?_
  refine lv_aload_n hx hb dL_law_1208 rfl (lv_at hl 0 rfl) ?_
  refine lv_iload hx hb dL_law_1209 (lv_at hl 4 rfl) ?_
  refine lv_iconst (v := 1) hx hb dL_law_1211 (by decide) ?_
  refine lv_iadd hx hb dL_law_1212 ?_
  refine va_sld hx hb hX hbl hbA hS (hin 1 (by decide)) dL_law_1213 ?_
  refine lv_aload_n hx hb dL_law_1214 rfl (lv_at hl 0 rfl) ?_
  refine lv_iload hx hb dL_law_1215 (lv_at hl 4 rfl) ?_
  refine lv_iconst (v := 2) hx hb dL_law_1217 (by decide) ?_
  refine lv_iadd hx hb dL_law_1218 ?_
  refine va_sld hx hb hX hbl hbA hS (hin 2 (by decide)) dL_law_1219 ?_
  refine lv_aload_n hx hb dL_law_1220 rfl (lv_at hl 0 rfl) ?_
  refine lv_iload hx hb dL_law_1221 (lv_at hl 4 rfl) ?_
  refine lv_iconst (v := 3) hx hb dL_law_1223 (by decide) ?_
  refine lv_iadd hx hb dL_law_1224 ?_
  refine va_sld hx hb hX hbl hbA hS (hin 3 (by decide)) dL_law_1225 ?_
  obtain ⟨r, t, a1, a2, a3, a4, b1, b2, b3, b4, b5, e1, e2, h4⟩ := jW_march hw (xs (x4 + 1).toNatClampNeg) (xs (x4 + 2).toNatClampNeg) (xs (x4 + 3).toNatClampNeg) (ci 1) (ri 0) (ri 1) (ri 2) (ci 31) (ci 32) (ri 14) (ri 15) (ca 23) (ca 24) (ra 7) (ra 8) (ra 9)
  have hf1 := e1
  refine k11_march S0 hK hA hl.1 hf hP hD hS  hf1 (fun H1 locs1 hP hD hS => ?_)
  refine lv_aload_n hx hb dL_law_1229 rfl (lv_at hl 2 rfl) ?_
  refine lv_aload_n hx hb dL_law_1230 rfl (lv_at hl 0 rfl) ?_
  refine lv_iload hx hb dL_law_1231 (lv_at hl 4 rfl) ?_
  refine lv_iconst (v := 1) hx hb dL_law_1233 (by decide) ?_
  refine lv_iadd hx hb dL_law_1234 ?_
  refine va_sld hx hb hX hbl hbA hS (hin 1 (by decide)) dL_law_1235 ?_
  refine lv_aload_n hx hb dL_law_1236 rfl (lv_at hl 0 rfl) ?_
  refine lv_iload hx hb dL_law_1237 (lv_at hl 4 rfl) ?_
  refine lv_iconst (v := 2) hx hb dL_law_1239 (by decide) ?_
  refine lv_iadd hx hb dL_law_1240 ?_
  refine va_sld hx hb hX hbl hbA hS (hin 2 (by decide)) dL_law_1241 ?_
  refine lv_aload_n hx hb dL_law_1242 rfl (lv_at hl 0 rfl) ?_
  refine lv_iload hx hb dL_law_1243 (lv_at hl 4 rfl) ?_
  refine lv_iconst (v := 3) hx hb dL_law_1245 (by decide) ?_
  refine lv_iadd hx hb dL_law_1246 ?_
  refine va_sld hx hb hX hbl hbA hS (hin 3 (by decide)) dL_law_1247 ?_
  refine k13_march (.int r) (by show 1 ≤ 2; decide) S0 hK hA hl.1 hf (vaP_perm hP (toR _ _ _ _ _)) (vaD_perm hD (toR _ _ _ _ _)) hS e2 (fun H1 locs1 hP hD hS => ?_)
  refine lv_icmp_eq (tgt := 2028) hx hb dL_law_1251 (by decide) (fun _ => ?_) (fun cd => absurd rfl cd)
  refine kk H1 locs1 (Or.inr ⟨(u1 (u1 (u1 ci 1 t) 31 a1) 32 a2), (u1 (u1 ca 23 a3) 24 a4), cl, cj, K, M, mr, (u1 (u1 (u1 (u1 (u1 ri 0 0) 1 t) 2 (-1)) 14 b1) 15 b2), (u1 (u1 (u1 ra 7 b3) 8 b4) 9 b5), rk, ow, wd, wx, wi, wa, ⟨hc.t h4, ⟨nb, hnb, hb1, hb2⟩, ht, hT, hJ⟩, (hw.mono (Nat.le_succ k)), vaP_perm hP (toR _ _ _ _ _).symm, vaD_perm hD (toR _ _ _ _ _).symm⟩) hS

set_option maxHeartbeats 4000000 in
set_option maxRecDepth 100000 in
theorem csN_marchAt (S0 : CallFix p m c cL_law 7 s #[Value.ref b] wl_L RL) (hK : SK D cy s) (hA : ∀ q, s.heap.size ≤ q → A q) (hX : va_X b L xs s s.heap) (hbl : b < s.heap.size) (hbA : ¬ A b) (hf : cells ≤ room_1.cells ∧ slots ≤ room_1.slots) (hak : AK pk pm ka ma) (hk : k < 1000) (hin : ∀ j : Int32, j ∈ [1, 2, 3, 4, 5] → vp_in (x4 + j) L) (I : LN D cy A ad pk pm ka ma rd ao H) (hS : va_S A s.heap H locs) (hl : lv_has ls 7 [(0, .ref b), (1, .ref (ad 0)), (2, .ref (rd 0)), (3, .ref ao), (4, .int x4)]) (kk : ∀ (H1 : Heap) (locs1 : List Loc), LI D cy A ad pk pm ka ma rd ao (k + 1) H1 → va_S A s.heap H1 locs1 → W p l e room_1 s m #[Value.ref b] below meth c H1 locs1 cells slots Q (F0 m 2028 ls [])) : W p l e room_1 s m #[Value.ref b] below meth c H locs cells slots Q (F0 m 1256 ls []) := by
  have hx := S0.1
  have hb := S0.2.1
  obtain ⟨ci, ca, cl, cj, K, M, mr, ri, ra, rk, ow, ⟨hc, ⟨nb, hnb, hb1, hb2⟩, ht, hT, hJ⟩, hz, hP, hD⟩ := I
  obtain ⟨⟨z1, z2, z3, z4, z5, z6, z7⟩, ⟨z8, z9⟩, ⟨z10, z11⟩, Lt, hLt, zL⟩ := id hz
  refine lv_aload_n hx hb dL_law_1256 rfl (lv_at hl 1 rfl) ?_
  refine lv_aload_n hx hb dL_law_1257 rfl (lv_at hl 0 rfl) ?_
  refine lv_iload hx hb dL_law_1258 (lv_at hl 4 rfl) ?_
  refine lv_iconst (v := 1) hx hb dL_law_1260 (by decide) ?_
  refine lv_iadd hx hb dL_law_1261 ?_
  refine va_sld hx hb hX hbl hbA hS (hin 1 (by decide)) dL_law_1262 ?_
  refine lv_aload_n hx hb dL_law_1263 rfl (lv_at hl 0 rfl) ?_
  refine lv_iload hx hb dL_law_1264 (lv_at hl 4 rfl) ?_
  refine lv_iconst (v := 2) hx hb dL_law_1266 (by decide) ?_
  refine lv_iadd hx hb dL_law_1267 ?_
  refine va_sld hx hb hX hbl hbA hS (hin 2 (by decide)) dL_law_1268 ?_
  refine lv_aload_n hx hb dL_law_1269 rfl (lv_at hl 0 rfl) ?_
  refine lv_iload hx hb dL_law_1270 (lv_at hl 4 rfl) ?_
  refine lv_iconst (v := 3) hx hb dL_law_1272 (by decide) ?_
  refine lv_iadd hx hb dL_law_1273 ?_
  refine va_sld hx hb hX hbl hbA hS (hin 3 (by decide)) dL_law_1274 ?_
  refine lv_aload_n hx hb dL_law_1275 rfl (lv_at hl 0 rfl) ?_
  refine lv_iload hx hb dL_law_1276 (lv_at hl 4 rfl) ?_
  refine lv_iconst (v := 4) hx hb dL_law_1278 (by decide) ?_
  refine lv_iadd hx hb dL_law_1279 ?_
  refine va_sld hx hb hX hbl hbA hS (hin 4 (by decide)) dL_law_1280 ?_
  have hf1 : f_X11_marchAt (ci 1) (ci 22) (ca 18) (ci 31) (ci 32) (ca 23) (ca 24) (xs (x4 + 1).toNatClampNeg) (xs (x4 + 2).toNatClampNeg) (xs (x4 + 3).toNatClampNeg) (xs (x4 + 4).toNatClampNeg) = some (-1, 1, (ci 31), (ci 32), (ca 23), (ca 24)) := by rw [z5]; exact z_marchAt _ _ _ _ _ _ _ _ _ _
  refine k11_marchAt S0 hK hA hl.1 hf hP hD hS  hf1 (fun H1 locs1 hP hD hS => ?_)
  refine lv_aload_n hx hb dL_law_1284 rfl (lv_at hl 2 rfl) ?_
  refine lv_aload_n hx hb dL_law_1285 rfl (lv_at hl 0 rfl) ?_
  refine lv_iload hx hb dL_law_1286 (lv_at hl 4 rfl) ?_
  refine lv_iconst (v := 1) hx hb dL_law_1288 (by decide) ?_
  refine lv_iadd hx hb dL_law_1289 ?_
  refine va_sld hx hb hX hbl hbA hS (hin 1 (by decide)) dL_law_1290 ?_
  refine lv_aload_n hx hb dL_law_1291 rfl (lv_at hl 0 rfl) ?_
  refine lv_iload hx hb dL_law_1292 (lv_at hl 4 rfl) ?_
  refine lv_iconst (v := 2) hx hb dL_law_1294 (by decide) ?_
  refine lv_iadd hx hb dL_law_1295 ?_
  refine va_sld hx hb hX hbl hbA hS (hin 2 (by decide)) dL_law_1296 ?_
  refine lv_aload_n hx hb dL_law_1297 rfl (lv_at hl 0 rfl) ?_
  refine lv_iload hx hb dL_law_1298 (lv_at hl 4 rfl) ?_
  refine lv_iconst (v := 3) hx hb dL_law_1300 (by decide) ?_
  refine lv_iadd hx hb dL_law_1301 ?_
  refine va_sld hx hb hX hbl hbA hS (hin 3 (by decide)) dL_law_1302 ?_
  refine lv_aload_n hx hb dL_law_1303 rfl (lv_at hl 0 rfl) ?_
  refine lv_iload hx hb dL_law_1304 (lv_at hl 4 rfl) ?_
  refine lv_iconst (v := 4) hx hb dL_law_1306 (by decide) ?_
  refine lv_iadd hx hb dL_law_1307 ?_
  refine va_sld hx hb hX hbl hbA hS (hin 4 (by decide)) dL_law_1308 ?_
  refine k13_marchAt_n (.int (-1 : Int32)) (by show 1 ≤ 2; decide) S0 hK hA hl.1 hf (vaP_perm hP (toR _ _ _ _ _)) (vaD_perm hD (toR _ _ _ _ _)) hS (zn_marchAt _ _ _ _ _ _ _) (fun H1 locs1 hP hD hS => ?_)
  refine lv_icmp_eq (tgt := 2028) hx hb dL_law_1312 (by decide) (fun _ => ?_) (fun cd => absurd rfl cd)
  refine kk H1 locs1 (Or.inl ⟨(u1 (u1 (u1 ci 1 1) 31 (ci 31)) 32 (ci 32)), (u1 (u1 ca 23 (ca 23)) 24 (ca 24)), cl, cj, K, M, mr, (u1 (u1 (u1 ri 0 0) 1 1) 2 (-1)), ra, rk, ow, ⟨hc.t (t := 1) (show ¬ (1 : Int32) = 4 by decide), ⟨nb, hnb, hb1, hb2⟩, ht, hT, hJ⟩, hz, vaP_perm hP (toR _ _ _ _ _).symm, vaD_perm hD (toR _ _ _ _ _).symm⟩) hS

set_option maxHeartbeats 4000000 in
set_option maxRecDepth 100000 in
theorem csW_marchAt (S0 : CallFix p m c cL_law 7 s #[Value.ref b] wl_L RL) (hK : SK D cy s) (hA : ∀ q, s.heap.size ≤ q → A q) (hX : va_X b L xs s s.heap) (hbl : b < s.heap.size) (hbA : ¬ A b) (hf : cells ≤ room_1.cells ∧ slots ≤ room_1.slots) (hak : AK pk pm ka ma) (hk : k < 1000) (hin : ∀ j : Int32, j ∈ [1, 2, 3, 4, 5] → vp_in (x4 + j) L) (I : LW D cy A ad pk pm ka ma rd ao k H) (hS : va_S A s.heap H locs) (hl : lv_has ls 7 [(0, .ref b), (1, .ref (ad 0)), (2, .ref (rd 0)), (3, .ref ao), (4, .int x4)]) (kk : ∀ (H1 : Heap) (locs1 : List Loc), LI D cy A ad pk pm ka ma rd ao (k + 1) H1 → va_S A s.heap H1 locs1 → W p l e room_1 s m #[Value.ref b] below meth c H1 locs1 cells slots Q (F0 m 2028 ls [])) : W p l e room_1 s m #[Value.ref b] below meth c H locs cells slots Q (F0 m 1256 ls []) := by
  have hx := S0.1
  have hb := S0.2.1
  obtain ⟨ci, ca, cl, cj, K, M, mr, ri, ra, rk, ow, wd, wx, wi, wa, ⟨hc, ⟨nb, hnb, hb1, hb2⟩, ht, hT, hJ⟩, hw, hP, hD⟩ := I
  refine lv_aload_n hx hb dL_law_1256 rfl (lv_at hl 1 rfl) ?_
  refine lv_aload_n hx hb dL_law_1257 rfl (lv_at hl 0 rfl) ?_
  refine lv_iload hx hb dL_law_1258 (lv_at hl 4 rfl) ?_
  refine lv_iconst (v := 1) hx hb dL_law_1260 (by decide) ?_
  refine lv_iadd hx hb dL_law_1261 ?_
  refine va_sld hx hb hX hbl hbA hS (hin 1 (by decide)) dL_law_1262 ?_
  refine lv_aload_n hx hb dL_law_1263 rfl (lv_at hl 0 rfl) ?_
  refine lv_iload hx hb dL_law_1264 (lv_at hl 4 rfl) ?_
  refine lv_iconst (v := 2) hx hb dL_law_1266 (by decide) ?_
  refine lv_iadd hx hb dL_law_1267 ?_
  refine va_sld hx hb hX hbl hbA hS (hin 2 (by decide)) dL_law_1268 ?_
  refine lv_aload_n hx hb dL_law_1269 rfl (lv_at hl 0 rfl) ?_
  refine lv_iload hx hb dL_law_1270 (lv_at hl 4 rfl) ?_
  refine lv_iconst (v := 3) hx hb dL_law_1272 (by decide) ?_
  refine lv_iadd hx hb dL_law_1273 ?_
  refine va_sld hx hb hX hbl hbA hS (hin 3 (by decide)) dL_law_1274 ?_
  refine lv_aload_n hx hb dL_law_1275 rfl (lv_at hl 0 rfl) ?_
  refine lv_iload hx hb dL_law_1276 (lv_at hl 4 rfl) ?_
  refine lv_iconst (v := 4) hx hb dL_law_1278 (by decide) ?_
  refine lv_iadd hx hb dL_law_1279 ?_
  refine va_sld hx hb hX hbl hbA hS (hin 4 (by decide)) dL_law_1280 ?_
  obtain ⟨r, t, a1, a2, a3, a4, b1, b2, b3, b4, b5, e1, e2, h4⟩ := jW_marchAt hw (xs (x4 + 1).toNatClampNeg) (xs (x4 + 2).toNatClampNeg) (xs (x4 + 3).toNatClampNeg) (xs (x4 + 4).toNatClampNeg) (ci 1) (ri 0) (ri 1) (ri 2) (ci 31) (ci 32) (ri 14) (ri 15) (ca 23) (ca 24) (ra 7) (ra 8) (ra 9)
  have hf1 := e1
  refine k11_marchAt S0 hK hA hl.1 hf hP hD hS  hf1 (fun H1 locs1 hP hD hS => ?_)
  refine lv_aload_n hx hb dL_law_1284 rfl (lv_at hl 2 rfl) ?_
  refine lv_aload_n hx hb dL_law_1285 rfl (lv_at hl 0 rfl) ?_
  refine lv_iload hx hb dL_law_1286 (lv_at hl 4 rfl) ?_
  refine lv_iconst (v := 1) hx hb dL_law_1288 (by decide) ?_
  refine lv_iadd hx hb dL_law_1289 ?_
  refine va_sld hx hb hX hbl hbA hS (hin 1 (by decide)) dL_law_1290 ?_
  refine lv_aload_n hx hb dL_law_1291 rfl (lv_at hl 0 rfl) ?_
  refine lv_iload hx hb dL_law_1292 (lv_at hl 4 rfl) ?_
  refine lv_iconst (v := 2) hx hb dL_law_1294 (by decide) ?_
  refine lv_iadd hx hb dL_law_1295 ?_
  refine va_sld hx hb hX hbl hbA hS (hin 2 (by decide)) dL_law_1296 ?_
  refine lv_aload_n hx hb dL_law_1297 rfl (lv_at hl 0 rfl) ?_
  refine lv_iload hx hb dL_law_1298 (lv_at hl 4 rfl) ?_
  refine lv_iconst (v := 3) hx hb dL_law_1300 (by decide) ?_
  refine lv_iadd hx hb dL_law_1301 ?_
  refine va_sld hx hb hX hbl hbA hS (hin 3 (by decide)) dL_law_1302 ?_
  refine lv_aload_n hx hb dL_law_1303 rfl (lv_at hl 0 rfl) ?_
  refine lv_iload hx hb dL_law_1304 (lv_at hl 4 rfl) ?_
  refine lv_iconst (v := 4) hx hb dL_law_1306 (by decide) ?_
  refine lv_iadd hx hb dL_law_1307 ?_
  refine va_sld hx hb hX hbl hbA hS (hin 4 (by decide)) dL_law_1308 ?_
  refine k13_marchAt (.int r) (by show 1 ≤ 2; decide) S0 hK hA hl.1 hf (vaP_perm hP (toR _ _ _ _ _)) (vaD_perm hD (toR _ _ _ _ _)) hS e2 (fun H1 locs1 hP hD hS => ?_)
  refine lv_icmp_eq (tgt := 2028) hx hb dL_law_1312 (by decide) (fun _ => ?_) (fun cd => absurd rfl cd)
  refine kk H1 locs1 (Or.inr ⟨(u1 (u1 (u1 ci 1 t) 31 a1) 32 a2), (u1 (u1 ca 23 a3) 24 a4), cl, cj, K, M, mr, (u1 (u1 (u1 (u1 (u1 ri 0 0) 1 t) 2 (-1)) 14 b1) 15 b2), (u1 (u1 (u1 ra 7 b3) 8 b4) 9 b5), rk, ow, wd, wx, wi, wa, ⟨hc.t h4, ⟨nb, hnb, hb1, hb2⟩, ht, hT, hJ⟩, (hw.mono (Nat.le_succ k)), vaP_perm hP (toR _ _ _ _ _).symm, vaD_perm hD (toR _ _ _ _ _).symm⟩) hS

set_option maxHeartbeats 4000000 in
set_option maxRecDepth 100000 in
theorem csN_reach (S0 : CallFix p m c cL_law 7 s #[Value.ref b] wl_L RL) (hK : SK D cy s) (hA : ∀ q, s.heap.size ≤ q → A q) (hX : va_X b L xs s s.heap) (hbl : b < s.heap.size) (hbA : ¬ A b) (hf : cells ≤ room_1.cells ∧ slots ≤ room_1.slots) (hak : AK pk pm ka ma) (hk : k < 1000) (hin : ∀ j : Int32, j ∈ [1, 2, 3, 4, 5] → vp_in (x4 + j) L) (I : LN D cy A ad pk pm ka ma rd ao H) (hS : va_S A s.heap H locs) (hl : lv_has ls 7 [(0, .ref b), (1, .ref (ad 0)), (2, .ref (rd 0)), (3, .ref ao), (4, .int x4)]) (kk : ∀ (H1 : Heap) (locs1 : List Loc), LI D cy A ad pk pm ka ma rd ao (k + 1) H1 → va_S A s.heap H1 locs1 → W p l e room_1 s m #[Value.ref b] below meth c H1 locs1 cells slots Q (F0 m 2028 ls [])) : W p l e room_1 s m #[Value.ref b] below meth c H locs cells slots Q (F0 m 1317 ls []) := by
  have hx := S0.1
  have hb := S0.2.1
  obtain ⟨ci, ca, cl, cj, K, M, mr, ri, ra, rk, ow, ⟨hc, ⟨nb, hnb, hb1, hb2⟩, ht, hT, hJ⟩, hz, hP, hD⟩ := I
  obtain ⟨⟨z1, z2, z3, z4, z5, z6, z7⟩, ⟨z8, z9⟩, ⟨z10, z11⟩, Lt, hLt, zL⟩ := id hz
  refine lv_aload_n hx hb dL_law_1317 rfl (lv_at hl 1 rfl) ?_
  refine lv_aload_n hx hb dL_law_1318 rfl (lv_at hl 0 rfl) ?_
  refine lv_iload hx hb dL_law_1319 (lv_at hl 4 rfl) ?_
  refine lv_iconst (v := 1) hx hb dL_law_1321 (by decide) ?_
  refine lv_iadd hx hb dL_law_1322 ?_
  refine va_sld hx hb hX hbl hbA hS (hin 1 (by decide)) dL_law_1323 ?_
  have hf1 : f_X11_reach (ci 1) (ci 22) (ca 18) (xs (x4 + 1).toNatClampNeg) = some (-1, 1) := by rw [z5]; exact z_reach _ _ _
  refine k11_reach S0 hK hA hl.1 hf hP hD hS  hf1 (fun H1 locs1 hP hD hS => ?_)
  refine lv_aload_n hx hb dL_law_1327 rfl (lv_at hl 2 rfl) ?_
  refine lv_aload_n hx hb dL_law_1328 rfl (lv_at hl 0 rfl) ?_
  refine lv_iload hx hb dL_law_1329 (lv_at hl 4 rfl) ?_
  refine lv_iconst (v := 1) hx hb dL_law_1331 (by decide) ?_
  refine lv_iadd hx hb dL_law_1332 ?_
  refine va_sld hx hb hX hbl hbA hS (hin 1 (by decide)) dL_law_1333 ?_
  refine k13_reach_n (.int (-1 : Int32)) (by show 1 ≤ 2; decide) S0 hK hA hl.1 hf (vaP_perm hP (toR _ _ _ _ _)) (vaD_perm hD (toR _ _ _ _ _)) hS (zn_reach _ _ _ _) (fun H1 locs1 hP hD hS => ?_)
  refine lv_icmp_eq (tgt := 2028) hx hb dL_law_1337 (by decide) (fun _ => ?_) (fun cd => absurd rfl cd)
  refine kk H1 locs1 (Or.inl ⟨(u1 ci 1 1), ca, cl, cj, K, M, mr, (u1 (u1 (u1 ri 0 0) 1 1) 2 (-1)), ra, rk, ow, ⟨hc.t (t := 1) (show ¬ (1 : Int32) = 4 by decide), ⟨nb, hnb, hb1, hb2⟩, ht, hT, hJ⟩, hz, vaP_perm hP (toR _ _ _ _ _).symm, vaD_perm hD (toR _ _ _ _ _).symm⟩) hS

set_option maxHeartbeats 4000000 in
set_option maxRecDepth 100000 in
theorem csW_reach (S0 : CallFix p m c cL_law 7 s #[Value.ref b] wl_L RL) (hK : SK D cy s) (hA : ∀ q, s.heap.size ≤ q → A q) (hX : va_X b L xs s s.heap) (hbl : b < s.heap.size) (hbA : ¬ A b) (hf : cells ≤ room_1.cells ∧ slots ≤ room_1.slots) (hak : AK pk pm ka ma) (hk : k < 1000) (hin : ∀ j : Int32, j ∈ [1, 2, 3, 4, 5] → vp_in (x4 + j) L) (I : LW D cy A ad pk pm ka ma rd ao k H) (hS : va_S A s.heap H locs) (hl : lv_has ls 7 [(0, .ref b), (1, .ref (ad 0)), (2, .ref (rd 0)), (3, .ref ao), (4, .int x4)]) (kk : ∀ (H1 : Heap) (locs1 : List Loc), LI D cy A ad pk pm ka ma rd ao (k + 1) H1 → va_S A s.heap H1 locs1 → W p l e room_1 s m #[Value.ref b] below meth c H1 locs1 cells slots Q (F0 m 2028 ls [])) : W p l e room_1 s m #[Value.ref b] below meth c H locs cells slots Q (F0 m 1317 ls []) := by
  have hx := S0.1
  have hb := S0.2.1
  obtain ⟨ci, ca, cl, cj, K, M, mr, ri, ra, rk, ow, wd, wx, wi, wa, ⟨hc, ⟨nb, hnb, hb1, hb2⟩, ht, hT, hJ⟩, hw, hP, hD⟩ := I
  refine lv_aload_n hx hb dL_law_1317 rfl (lv_at hl 1 rfl) ?_
  refine lv_aload_n hx hb dL_law_1318 rfl (lv_at hl 0 rfl) ?_
  refine lv_iload hx hb dL_law_1319 (lv_at hl 4 rfl) ?_
  refine lv_iconst (v := 1) hx hb dL_law_1321 (by decide) ?_
  refine lv_iadd hx hb dL_law_1322 ?_
  refine va_sld hx hb hX hbl hbA hS (hin 1 (by decide)) dL_law_1323 ?_
  obtain ⟨r, t, e1, e2, h4⟩ := jW_reach hw (xs (x4 + 1).toNatClampNeg) (ci 1) (ri 0) (ri 1) (ri 2)
  have hf1 := e1
  refine k11_reach S0 hK hA hl.1 hf hP hD hS  hf1 (fun H1 locs1 hP hD hS => ?_)
  refine lv_aload_n hx hb dL_law_1327 rfl (lv_at hl 2 rfl) ?_
  refine lv_aload_n hx hb dL_law_1328 rfl (lv_at hl 0 rfl) ?_
  refine lv_iload hx hb dL_law_1329 (lv_at hl 4 rfl) ?_
  refine lv_iconst (v := 1) hx hb dL_law_1331 (by decide) ?_
  refine lv_iadd hx hb dL_law_1332 ?_
  refine va_sld hx hb hX hbl hbA hS (hin 1 (by decide)) dL_law_1333 ?_
  refine k13_reach (.int r) (by show 1 ≤ 2; decide) S0 hK hA hl.1 hf (vaP_perm hP (toR _ _ _ _ _)) (vaD_perm hD (toR _ _ _ _ _)) hS e2 (fun H1 locs1 hP hD hS => ?_)
  refine lv_icmp_eq (tgt := 2028) hx hb dL_law_1337 (by decide) (fun _ => ?_) (fun cd => absurd rfl cd)
  refine kk H1 locs1 (Or.inr ⟨(u1 ci 1 t), ca, cl, cj, K, M, mr, (u1 (u1 (u1 ri 0 0) 1 t) 2 (-1)), ra, rk, ow, wd, wx, wi, wa, ⟨hc.t h4, ⟨nb, hnb, hb1, hb2⟩, ht, hT, hJ⟩, (hw.mono (Nat.le_succ k)), vaP_perm hP (toR _ _ _ _ _).symm, vaD_perm hD (toR _ _ _ _ _).symm⟩) hS

set_option maxHeartbeats 4000000 in
set_option maxRecDepth 100000 in
theorem csN_worstPass (S0 : CallFix p m c cL_law 7 s #[Value.ref b] wl_L RL) (hK : SK D cy s) (hA : ∀ q, s.heap.size ≤ q → A q) (hX : va_X b L xs s s.heap) (hbl : b < s.heap.size) (hbA : ¬ A b) (hf : cells ≤ room_1.cells ∧ slots ≤ room_1.slots) (hak : AK pk pm ka ma) (hk : k < 1000) (hin : ∀ j : Int32, j ∈ [1, 2, 3, 4, 5] → vp_in (x4 + j) L) (I : LN D cy A ad pk pm ka ma rd ao H) (hS : va_S A s.heap H locs) (hl : lv_has ls 7 [(0, .ref b), (1, .ref (ad 0)), (2, .ref (rd 0)), (3, .ref ao), (4, .int x4)]) (kk : ∀ (H1 : Heap) (locs1 : List Loc), LI D cy A ad pk pm ka ma rd ao (k + 1) H1 → va_S A s.heap H1 locs1 → W p l e room_1 s m #[Value.ref b] below meth c H1 locs1 cells slots Q (F0 m 2028 ls [])) : W p l e room_1 s m #[Value.ref b] below meth c H locs cells slots Q (F0 m 1342 ls []) := by
  have hx := S0.1
  have hb := S0.2.1
  obtain ⟨ci, ca, cl, cj, K, M, mr, ri, ra, rk, ow, ⟨hc, ⟨nb, hnb, hb1, hb2⟩, ht, hT, hJ⟩, hz, hP, hD⟩ := I
  obtain ⟨⟨z1, z2, z3, z4, z5, z6, z7⟩, ⟨z8, z9⟩, ⟨z10, z11⟩, Lt, hLt, zL⟩ := id hz
  refine lv_aload_n hx hb dL_law_1342 rfl (lv_at hl 1 rfl) ?_
  refine lv_aload_n hx hb dL_law_1343 rfl (lv_at hl 0 rfl) ?_
  refine lv_iload hx hb dL_law_1344 (lv_at hl 4 rfl) ?_
  refine lv_iconst (v := 1) hx hb dL_law_1346 (by decide) ?_
  refine lv_iadd hx hb dL_law_1347 ?_
  refine va_sld hx hb hX hbl hbA hS (hin 1 (by decide)) dL_law_1348 ?_
  refine lv_aload_n hx hb dL_law_1349 rfl (lv_at hl 0 rfl) ?_
  refine lv_iload hx hb dL_law_1350 (lv_at hl 4 rfl) ?_
  refine lv_iconst (v := 2) hx hb dL_law_1352 (by decide) ?_
  refine lv_iadd hx hb dL_law_1353 ?_
  refine va_sld hx hb hX hbl hbA hS (hin 2 (by decide)) dL_law_1354 ?_
  refine lv_aload_n hx hb dL_law_1355 rfl (lv_at hl 0 rfl) ?_
  refine lv_iload hx hb dL_law_1356 (lv_at hl 4 rfl) ?_
  refine lv_iconst (v := 3) hx hb dL_law_1358 (by decide) ?_
  refine lv_iadd hx hb dL_law_1359 ?_
  refine va_sld hx hb hX hbl hbA hS (hin 3 (by decide)) dL_law_1360 ?_
  have hf1 : f_X11_worstPass (ci 1) (ci 22) (ca 18) (ci 31) (ci 32) (ca 23) (ca 24) (xs (x4 + 1).toNatClampNeg) (xs (x4 + 2).toNatClampNeg) (xs (x4 + 3).toNatClampNeg) = some (-1, 1, (ci 31), (ci 32), (ca 23), (ca 24)) := by rw [z5]; exact z_worstPass _ _ _ _ _ _ _ _ _
  refine k11_worstPass S0 hK hA hl.1 hf hP hD hS  hf1 (fun H1 locs1 hP hD hS => ?_)
  refine lv_aload_n hx hb dL_law_1364 rfl (lv_at hl 2 rfl) ?_
  refine lv_aload_n hx hb dL_law_1365 rfl (lv_at hl 0 rfl) ?_
  refine lv_iload hx hb dL_law_1366 (lv_at hl 4 rfl) ?_
  refine lv_iconst (v := 1) hx hb dL_law_1368 (by decide) ?_
  refine lv_iadd hx hb dL_law_1369 ?_
  refine va_sld hx hb hX hbl hbA hS (hin 1 (by decide)) dL_law_1370 ?_
  refine lv_aload_n hx hb dL_law_1371 rfl (lv_at hl 0 rfl) ?_
  refine lv_iload hx hb dL_law_1372 (lv_at hl 4 rfl) ?_
  refine lv_iconst (v := 2) hx hb dL_law_1374 (by decide) ?_
  refine lv_iadd hx hb dL_law_1375 ?_
  refine va_sld hx hb hX hbl hbA hS (hin 2 (by decide)) dL_law_1376 ?_
  refine lv_aload_n hx hb dL_law_1377 rfl (lv_at hl 0 rfl) ?_
  refine lv_iload hx hb dL_law_1378 (lv_at hl 4 rfl) ?_
  refine lv_iconst (v := 3) hx hb dL_law_1380 (by decide) ?_
  refine lv_iadd hx hb dL_law_1381 ?_
  refine va_sld hx hb hX hbl hbA hS (hin 3 (by decide)) dL_law_1382 ?_
  refine k13_worstPass_n (.int (-1 : Int32)) (by show 1 ≤ 2; decide) S0 hK hA hl.1 hf (vaP_perm hP (toR _ _ _ _ _)) (vaD_perm hD (toR _ _ _ _ _)) hS (zn_worstPass _ _ _ _ _ _) (fun H1 locs1 hP hD hS => ?_)
  refine lv_icmp_eq (tgt := 2028) hx hb dL_law_1386 (by decide) (fun _ => ?_) (fun cd => absurd rfl cd)
  refine kk H1 locs1 (Or.inl ⟨(u1 (u1 (u1 ci 1 1) 31 (ci 31)) 32 (ci 32)), (u1 (u1 ca 23 (ca 23)) 24 (ca 24)), cl, cj, K, M, mr, (u1 (u1 (u1 ri 0 0) 1 1) 2 (-1)), ra, rk, ow, ⟨hc.t (t := 1) (show ¬ (1 : Int32) = 4 by decide), ⟨nb, hnb, hb1, hb2⟩, ht, hT, hJ⟩, hz, vaP_perm hP (toR _ _ _ _ _).symm, vaD_perm hD (toR _ _ _ _ _).symm⟩) hS

set_option maxHeartbeats 4000000 in
set_option maxRecDepth 100000 in
theorem csW_worstPass (S0 : CallFix p m c cL_law 7 s #[Value.ref b] wl_L RL) (hK : SK D cy s) (hA : ∀ q, s.heap.size ≤ q → A q) (hX : va_X b L xs s s.heap) (hbl : b < s.heap.size) (hbA : ¬ A b) (hf : cells ≤ room_1.cells ∧ slots ≤ room_1.slots) (hak : AK pk pm ka ma) (hk : k < 1000) (hin : ∀ j : Int32, j ∈ [1, 2, 3, 4, 5] → vp_in (x4 + j) L) (I : LW D cy A ad pk pm ka ma rd ao k H) (hS : va_S A s.heap H locs) (hl : lv_has ls 7 [(0, .ref b), (1, .ref (ad 0)), (2, .ref (rd 0)), (3, .ref ao), (4, .int x4)]) (kk : ∀ (H1 : Heap) (locs1 : List Loc), LI D cy A ad pk pm ka ma rd ao (k + 1) H1 → va_S A s.heap H1 locs1 → W p l e room_1 s m #[Value.ref b] below meth c H1 locs1 cells slots Q (F0 m 2028 ls [])) : W p l e room_1 s m #[Value.ref b] below meth c H locs cells slots Q (F0 m 1342 ls []) := by
  have hx := S0.1
  have hb := S0.2.1
  obtain ⟨ci, ca, cl, cj, K, M, mr, ri, ra, rk, ow, wd, wx, wi, wa, ⟨hc, ⟨nb, hnb, hb1, hb2⟩, ht, hT, hJ⟩, hw, hP, hD⟩ := I
  refine lv_aload_n hx hb dL_law_1342 rfl (lv_at hl 1 rfl) ?_
  refine lv_aload_n hx hb dL_law_1343 rfl (lv_at hl 0 rfl) ?_
  refine lv_iload hx hb dL_law_1344 (lv_at hl 4 rfl) ?_
  refine lv_iconst (v := 1) hx hb dL_law_1346 (by decide) ?_
  refine lv_iadd hx hb dL_law_1347 ?_
  refine va_sld hx hb hX hbl hbA hS (hin 1 (by decide)) dL_law_1348 ?_
  refine lv_aload_n hx hb dL_law_1349 rfl (lv_at hl 0 rfl) ?_
  refine lv_iload hx hb dL_law_1350 (lv_at hl 4 rfl) ?_
  refine lv_iconst (v := 2) hx hb dL_law_1352 (by decide) ?_
  refine lv_iadd hx hb dL_law_1353 ?_
  refine va_sld hx hb hX hbl hbA hS (hin 2 (by decide)) dL_law_1354 ?_
  refine lv_aload_n hx hb dL_law_1355 rfl (lv_at hl 0 rfl) ?_
  refine lv_iload hx hb dL_law_1356 (lv_at hl 4 rfl) ?_
  refine lv_iconst (v := 3) hx hb dL_law_1358 (by decide) ?_
  refine lv_iadd hx hb dL_law_1359 ?_
  refine va_sld hx hb hX hbl hbA hS (hin 3 (by decide)) dL_law_1360 ?_
  obtain ⟨r, t, a1, a2, a3, a4, b1, b2, b3, b4, b5, e1, e2, h4⟩ := jW_worstPass hw (xs (x4 + 1).toNatClampNeg) (xs (x4 + 2).toNatClampNeg) (xs (x4 + 3).toNatClampNeg) (ci 1) (ri 0) (ri 1) (ri 2) (ci 31) (ci 32) (ri 14) (ri 15) (ca 23) (ca 24) (ra 7) (ra 8) (ra 9)
  have hf1 := e1
  refine k11_worstPass S0 hK hA hl.1 hf hP hD hS  hf1 (fun H1 locs1 hP hD hS => ?_)
  refine lv_aload_n hx hb dL_law_1364 rfl (lv_at hl 2 rfl) ?_
  refine lv_aload_n hx hb dL_law_1365 rfl (lv_at hl 0 rfl) ?_
  refine lv_iload hx hb dL_law_1366 (lv_at hl 4 rfl) ?_
  refine lv_iconst (v := 1) hx hb dL_law_1368 (by decide) ?_
  refine lv_iadd hx hb dL_law_1369 ?_
  refine va_sld hx hb hX hbl hbA hS (hin 1 (by decide)) dL_law_1370 ?_
  refine lv_aload_n hx hb dL_law_1371 rfl (lv_at hl 0 rfl) ?_
  refine lv_iload hx hb dL_law_1372 (lv_at hl 4 rfl) ?_
  refine lv_iconst (v := 2) hx hb dL_law_1374 (by decide) ?_
  refine lv_iadd hx hb dL_law_1375 ?_
  refine va_sld hx hb hX hbl hbA hS (hin 2 (by decide)) dL_law_1376 ?_
  refine lv_aload_n hx hb dL_law_1377 rfl (lv_at hl 0 rfl) ?_
  refine lv_iload hx hb dL_law_1378 (lv_at hl 4 rfl) ?_
  refine lv_iconst (v := 3) hx hb dL_law_1380 (by decide) ?_
  refine lv_iadd hx hb dL_law_1381 ?_
  refine va_sld hx hb hX hbl hbA hS (hin 3 (by decide)) dL_law_1382 ?_
  refine k13_worstPass (.int r) (by show 1 ≤ 2; decide) S0 hK hA hl.1 hf (vaP_perm hP (toR _ _ _ _ _)) (vaD_perm hD (toR _ _ _ _ _)) hS e2 (fun H1 locs1 hP hD hS => ?_)
  refine lv_icmp_eq (tgt := 2028) hx hb dL_law_1386 (by decide) (fun _ => ?_) (fun cd => absurd rfl cd)
  refine kk H1 locs1 (Or.inr ⟨(u1 (u1 (u1 ci 1 t) 31 a1) 32 a2), (u1 (u1 ca 23 a3) 24 a4), cl, cj, K, M, mr, (u1 (u1 (u1 (u1 (u1 ri 0 0) 1 t) 2 (-1)) 14 b1) 15 b2), (u1 (u1 (u1 ra 7 b3) 8 b4) 9 b5), rk, ow, wd, wx, wi, wa, ⟨hc.t h4, ⟨nb, hnb, hb1, hb2⟩, ht, hT, hJ⟩, (hw.mono (Nat.le_succ k)), vaP_perm hP (toR _ _ _ _ _).symm, vaD_perm hD (toR _ _ _ _ _).symm⟩) hS

set_option maxHeartbeats 4000000 in
set_option maxRecDepth 100000 in
theorem csN_setOut (S0 : CallFix p m c cL_law 7 s #[Value.ref b] wl_L RL) (hK : SK D cy s) (hA : ∀ q, s.heap.size ≤ q → A q) (hX : va_X b L xs s s.heap) (hbl : b < s.heap.size) (hbA : ¬ A b) (hf : cells ≤ room_1.cells ∧ slots ≤ room_1.slots) (hak : AK pk pm ka ma) (hk : k < 1000) (hin : ∀ j : Int32, j ∈ [1, 2, 3, 4, 5] → vp_in (x4 + j) L) (I : LN D cy A ad pk pm ka ma rd ao H) (hS : va_S A s.heap H locs) (hl : lv_has ls 7 [(0, .ref b), (1, .ref (ad 0)), (2, .ref (rd 0)), (3, .ref ao), (4, .int x4)]) (kk : ∀ (H1 : Heap) (locs1 : List Loc), LI D cy A ad pk pm ka ma rd ao (k + 1) H1 → va_S A s.heap H1 locs1 → W p l e room_1 s m #[Value.ref b] below meth c H1 locs1 cells slots Q (F0 m 2028 ls [])) : W p l e room_1 s m #[Value.ref b] below meth c H locs cells slots Q (F0 m 1391 ls []) := by
  have hx := S0.1
  have hb := S0.2.1
  obtain ⟨ci, ca, cl, cj, K, M, mr, ri, ra, rk, ow, ⟨hc, ⟨nb, hnb, hb1, hb2⟩, ht, hT, hJ⟩, hz, hP, hD⟩ := I
  obtain ⟨⟨z1, z2, z3, z4, z5, z6, z7⟩, ⟨z8, z9⟩, ⟨z10, z11⟩, Lt, hLt, zL⟩ := id hz
  refine lv_aload_n hx hb dL_law_1391 rfl (lv_at hl 1 rfl) ?_
  refine lv_aload_n hx hb dL_law_1392 rfl (lv_at hl 0 rfl) ?_
  refine lv_iload hx hb dL_law_1393 (lv_at hl 4 rfl) ?_
  refine lv_iconst (v := 1) hx hb dL_law_1395 (by decide) ?_
  refine lv_iadd hx hb dL_law_1396 ?_
  refine va_sld hx hb hX hbl hbA hS (hin 1 (by decide)) dL_law_1397 ?_
  refine lv_aload_n hx hb dL_law_1398 rfl (lv_at hl 0 rfl) ?_
  refine lv_iload hx hb dL_law_1399 (lv_at hl 4 rfl) ?_
  refine lv_iconst (v := 2) hx hb dL_law_1401 (by decide) ?_
  refine lv_iadd hx hb dL_law_1402 ?_
  refine va_sld hx hb hX hbl hbA hS (hin 2 (by decide)) dL_law_1403 ?_
  refine lv_aload_n hx hb dL_law_1404 rfl (lv_at hl 0 rfl) ?_
  refine lv_iload hx hb dL_law_1405 (lv_at hl 4 rfl) ?_
  refine lv_iconst (v := 3) hx hb dL_law_1407 (by decide) ?_
  refine lv_iadd hx hb dL_law_1408 ?_
  refine va_sld hx hb hX hbl hbA hS (hin 3 (by decide)) dL_law_1409 ?_
  have hf1 : f_X11_setOut (ci 1) (ci 22) (ca 18) (ci 31) (ci 32) (ca 23) (ca 24) (xs (x4 + 1).toNatClampNeg) (xs (x4 + 2).toNatClampNeg) (xs (x4 + 3).toNatClampNeg) = some (-1, 1, (ci 31), (ci 32), (ca 23), (ca 24)) := by rw [z5]; exact z_setOut _ _ _ _ _ _ _ _ _
  refine k11_setOut S0 hK hA hl.1 hf hP hD hS  hf1 (fun H1 locs1 hP hD hS => ?_)
  refine lv_aload_n hx hb dL_law_1413 rfl (lv_at hl 2 rfl) ?_
  refine lv_aload_n hx hb dL_law_1414 rfl (lv_at hl 0 rfl) ?_
  refine lv_iload hx hb dL_law_1415 (lv_at hl 4 rfl) ?_
  refine lv_iconst (v := 1) hx hb dL_law_1417 (by decide) ?_
  refine lv_iadd hx hb dL_law_1418 ?_
  refine va_sld hx hb hX hbl hbA hS (hin 1 (by decide)) dL_law_1419 ?_
  refine lv_aload_n hx hb dL_law_1420 rfl (lv_at hl 0 rfl) ?_
  refine lv_iload hx hb dL_law_1421 (lv_at hl 4 rfl) ?_
  refine lv_iconst (v := 2) hx hb dL_law_1423 (by decide) ?_
  refine lv_iadd hx hb dL_law_1424 ?_
  refine va_sld hx hb hX hbl hbA hS (hin 2 (by decide)) dL_law_1425 ?_
  refine lv_aload_n hx hb dL_law_1426 rfl (lv_at hl 0 rfl) ?_
  refine lv_iload hx hb dL_law_1427 (lv_at hl 4 rfl) ?_
  refine lv_iconst (v := 3) hx hb dL_law_1429 (by decide) ?_
  refine lv_iadd hx hb dL_law_1430 ?_
  refine va_sld hx hb hX hbl hbA hS (hin 3 (by decide)) dL_law_1431 ?_
  refine k13_setOut_n (.int (-1 : Int32)) (by show 1 ≤ 2; decide) S0 hK hA hl.1 hf (vaP_perm hP (toR _ _ _ _ _)) (vaD_perm hD (toR _ _ _ _ _)) hS (zn_setOut _ _ _ _ _ _) (fun H1 locs1 hP hD hS => ?_)
  refine lv_icmp_eq (tgt := 2028) hx hb dL_law_1435 (by decide) (fun _ => ?_) (fun cd => absurd rfl cd)
  refine kk H1 locs1 (Or.inl ⟨(u1 (u1 (u1 ci 1 1) 31 (ci 31)) 32 (ci 32)), (u1 (u1 ca 23 (ca 23)) 24 (ca 24)), cl, cj, K, M, mr, (u1 (u1 (u1 ri 0 0) 1 1) 2 (-1)), ra, rk, ow, ⟨hc.t (t := 1) (show ¬ (1 : Int32) = 4 by decide), ⟨nb, hnb, hb1, hb2⟩, ht, hT, hJ⟩, hz, vaP_perm hP (toR _ _ _ _ _).symm, vaD_perm hD (toR _ _ _ _ _).symm⟩) hS

set_option maxHeartbeats 4000000 in
set_option maxRecDepth 100000 in
theorem csW_setOut (S0 : CallFix p m c cL_law 7 s #[Value.ref b] wl_L RL) (hK : SK D cy s) (hA : ∀ q, s.heap.size ≤ q → A q) (hX : va_X b L xs s s.heap) (hbl : b < s.heap.size) (hbA : ¬ A b) (hf : cells ≤ room_1.cells ∧ slots ≤ room_1.slots) (hak : AK pk pm ka ma) (hk : k < 1000) (hin : ∀ j : Int32, j ∈ [1, 2, 3, 4, 5] → vp_in (x4 + j) L) (I : LW D cy A ad pk pm ka ma rd ao k H) (hS : va_S A s.heap H locs) (hl : lv_has ls 7 [(0, .ref b), (1, .ref (ad 0)), (2, .ref (rd 0)), (3, .ref ao), (4, .int x4)]) (kk : ∀ (H1 : Heap) (locs1 : List Loc), LI D cy A ad pk pm ka ma rd ao (k + 1) H1 → va_S A s.heap H1 locs1 → W p l e room_1 s m #[Value.ref b] below meth c H1 locs1 cells slots Q (F0 m 2028 ls [])) : W p l e room_1 s m #[Value.ref b] below meth c H locs cells slots Q (F0 m 1391 ls []) := by
  have hx := S0.1
  have hb := S0.2.1
  obtain ⟨ci, ca, cl, cj, K, M, mr, ri, ra, rk, ow, wd, wx, wi, wa, ⟨hc, ⟨nb, hnb, hb1, hb2⟩, ht, hT, hJ⟩, hw, hP, hD⟩ := I
  refine lv_aload_n hx hb dL_law_1391 rfl (lv_at hl 1 rfl) ?_
  refine lv_aload_n hx hb dL_law_1392 rfl (lv_at hl 0 rfl) ?_
  refine lv_iload hx hb dL_law_1393 (lv_at hl 4 rfl) ?_
  refine lv_iconst (v := 1) hx hb dL_law_1395 (by decide) ?_
  refine lv_iadd hx hb dL_law_1396 ?_
  refine va_sld hx hb hX hbl hbA hS (hin 1 (by decide)) dL_law_1397 ?_
  refine lv_aload_n hx hb dL_law_1398 rfl (lv_at hl 0 rfl) ?_
  refine lv_iload hx hb dL_law_1399 (lv_at hl 4 rfl) ?_
  refine lv_iconst (v := 2) hx hb dL_law_1401 (by decide) ?_
  refine lv_iadd hx hb dL_law_1402 ?_
  refine va_sld hx hb hX hbl hbA hS (hin 2 (by decide)) dL_law_1403 ?_
  refine lv_aload_n hx hb dL_law_1404 rfl (lv_at hl 0 rfl) ?_
  refine lv_iload hx hb dL_law_1405 (lv_at hl 4 rfl) ?_
  refine lv_iconst (v := 3) hx hb dL_law_1407 (by decide) ?_
  refine lv_iadd hx hb dL_law_1408 ?_
  refine va_sld hx hb hX hbl hbA hS (hin 3 (by decide)) dL_law_1409 ?_
  obtain ⟨r, t, a1, a2, a3, a4, b1, b2, b3, b4, b5, e1, e2, h4⟩ := jW_setOut hw (xs (x4 + 1).toNatClampNeg) (xs (x4 + 2).toNatClampNeg) (xs (x4 + 3).toNatClampNeg) (ci 1) (ri 0) (ri 1) (ri 2) (ci 31) (ci 32) (ri 14) (ri 15) (ca 23) (ca 24) (ra 7) (ra 8) (ra 9)
  have hf1 := e1
  refine k11_setOut S0 hK hA hl.1 hf hP hD hS  hf1 (fun H1 locs1 hP hD hS => ?_)
  refine lv_aload_n hx hb dL_law_1413 rfl (lv_at hl 2 rfl) ?_
  refine lv_aload_n hx hb dL_law_1414 rfl (lv_at hl 0 rfl) ?_
  refine lv_iload hx hb dL_law_1415 (lv_at hl 4 rfl) ?_
  refine lv_iconst (v := 1) hx hb dL_law_1417 (by decide) ?_
  refine lv_iadd hx hb dL_law_1418 ?_
  refine va_sld hx hb hX hbl hbA hS (hin 1 (by decide)) dL_law_1419 ?_
  refine lv_aload_n hx hb dL_law_1420 rfl (lv_at hl 0 rfl) ?_
  refine lv_iload hx hb dL_law_1421 (lv_at hl 4 rfl) ?_
  refine lv_iconst (v := 2) hx hb dL_law_1423 (by decide) ?_
  refine lv_iadd hx hb dL_law_1424 ?_
  refine va_sld hx hb hX hbl hbA hS (hin 2 (by decide)) dL_law_1425 ?_
  refine lv_aload_n hx hb dL_law_1426 rfl (lv_at hl 0 rfl) ?_
  refine lv_iload hx hb dL_law_1427 (lv_at hl 4 rfl) ?_
  refine lv_iconst (v := 3) hx hb dL_law_1429 (by decide) ?_
  refine lv_iadd hx hb dL_law_1430 ?_
  refine va_sld hx hb hX hbl hbA hS (hin 3 (by decide)) dL_law_1431 ?_
  refine k13_setOut (.int r) (by show 1 ≤ 2; decide) S0 hK hA hl.1 hf (vaP_perm hP (toR _ _ _ _ _)) (vaD_perm hD (toR _ _ _ _ _)) hS e2 (fun H1 locs1 hP hD hS => ?_)
  refine lv_icmp_eq (tgt := 2028) hx hb dL_law_1435 (by decide) (fun _ => ?_) (fun cd => absurd rfl cd)
  refine kk H1 locs1 (Or.inr ⟨(u1 (u1 (u1 ci 1 t) 31 a1) 32 a2), (u1 (u1 ca 23 a3) 24 a4), cl, cj, K, M, mr, (u1 (u1 (u1 (u1 (u1 ri 0 0) 1 t) 2 (-1)) 14 b1) 15 b2), (u1 (u1 (u1 ra 7 b3) 8 b4) 9 b5), rk, ow, wd, wx, wi, wa, ⟨hc.t h4, ⟨nb, hnb, hb1, hb2⟩, ht, hT, hJ⟩, (hw.mono (Nat.le_succ k)), vaP_perm hP (toR _ _ _ _ _).symm, vaD_perm hD (toR _ _ _ _ _).symm⟩) hS

set_option maxHeartbeats 4000000 in
set_option maxRecDepth 100000 in
theorem csN_fits (S0 : CallFix p m c cL_law 7 s #[Value.ref b] wl_L RL) (hK : SK D cy s) (hA : ∀ q, s.heap.size ≤ q → A q) (hX : va_X b L xs s s.heap) (hbl : b < s.heap.size) (hbA : ¬ A b) (hf : cells ≤ room_1.cells ∧ slots ≤ room_1.slots) (hak : AK pk pm ka ma) (hk : k < 1000) (hin : ∀ j : Int32, j ∈ [1, 2, 3, 4, 5] → vp_in (x4 + j) L) (I : LN D cy A ad pk pm ka ma rd ao H) (hS : va_S A s.heap H locs) (hl : lv_has ls 7 [(0, .ref b), (1, .ref (ad 0)), (2, .ref (rd 0)), (3, .ref ao), (4, .int x4)]) (kk : ∀ (H1 : Heap) (locs1 : List Loc), LI D cy A ad pk pm ka ma rd ao (k + 1) H1 → va_S A s.heap H1 locs1 → W p l e room_1 s m #[Value.ref b] below meth c H1 locs1 cells slots Q (F0 m 2028 ls [])) : W p l e room_1 s m #[Value.ref b] below meth c H locs cells slots Q (F0 m 1440 ls []) := by
  have hx := S0.1
  have hb := S0.2.1
  obtain ⟨ci, ca, cl, cj, K, M, mr, ri, ra, rk, ow, ⟨hc, ⟨nb, hnb, hb1, hb2⟩, ht, hT, hJ⟩, hz, hP, hD⟩ := I
  obtain ⟨⟨z1, z2, z3, z4, z5, z6, z7⟩, ⟨z8, z9⟩, ⟨z10, z11⟩, Lt, hLt, zL⟩ := id hz
  refine lv_aload_n hx hb dL_law_1440 rfl (lv_at hl 1 rfl) ?_
  have hf1 : f_X11_fits (ci 1) (ci 18) (ci 21) (ci 24) (ca 14) (ca 16) (ci 25) (ci 26) (ca 20) (ci 33) (ci 34) (ci 35) (ca 25) (ca 26) = some (-1, 1, (ci 33), (ci 34), (ci 35), (ca 25), (ca 26)) := by rw [z1, z4]; exact z_fits _ _ _ _ _ _ _ _ _ _ _ _
  refine k11_fits S0 hK hA hl.1 hf hP hD hS  hf1 (fun H1 locs1 hP hD hS => ?_)
  refine lv_aload_n hx hb dL_law_1444 rfl (lv_at hl 2 rfl) ?_
  refine k13_fits_n (.int (-1 : Int32)) (by show 1 ≤ 2; decide) S0 hK hA hl.1 hf (vaP_perm hP (toR _ _ _ _ _)) (vaD_perm hD (toR _ _ _ _ _)) hS (zn_fits _ _ _) (fun H1 locs1 hP hD hS => ?_)
  refine lv_icmp_eq (tgt := 2028) hx hb dL_law_1448 (by decide) (fun _ => ?_) (fun cd => absurd rfl cd)
  refine kk H1 locs1 (Or.inl ⟨(u1 (u1 (u1 (u1 ci 1 1) 33 (ci 33)) 34 (ci 34)) 35 (ci 35)), (u1 (u1 ca 25 (ca 25)) 26 (ca 26)), cl, cj, K, M, mr, (u1 (u1 (u1 ri 0 0) 1 1) 2 (-1)), ra, rk, ow, ⟨hc.t (t := 1) (show ¬ (1 : Int32) = 4 by decide), ⟨nb, hnb, hb1, hb2⟩, ht, hT, hJ⟩, hz, vaP_perm hP (toR _ _ _ _ _).symm, vaD_perm hD (toR _ _ _ _ _).symm⟩) hS

set_option maxHeartbeats 4000000 in
set_option maxRecDepth 100000 in
theorem csW_fits (S0 : CallFix p m c cL_law 7 s #[Value.ref b] wl_L RL) (hK : SK D cy s) (hA : ∀ q, s.heap.size ≤ q → A q) (hX : va_X b L xs s s.heap) (hbl : b < s.heap.size) (hbA : ¬ A b) (hf : cells ≤ room_1.cells ∧ slots ≤ room_1.slots) (hak : AK pk pm ka ma) (hk : k < 1000) (hin : ∀ j : Int32, j ∈ [1, 2, 3, 4, 5] → vp_in (x4 + j) L) (I : LW D cy A ad pk pm ka ma rd ao k H) (hS : va_S A s.heap H locs) (hl : lv_has ls 7 [(0, .ref b), (1, .ref (ad 0)), (2, .ref (rd 0)), (3, .ref ao), (4, .int x4)]) (kk : ∀ (H1 : Heap) (locs1 : List Loc), LI D cy A ad pk pm ka ma rd ao (k + 1) H1 → va_S A s.heap H1 locs1 → W p l e room_1 s m #[Value.ref b] below meth c H1 locs1 cells slots Q (F0 m 2028 ls [])) : W p l e room_1 s m #[Value.ref b] below meth c H locs cells slots Q (F0 m 1440 ls []) := by
  have hx := S0.1
  have hb := S0.2.1
  obtain ⟨ci, ca, cl, cj, K, M, mr, ri, ra, rk, ow, wd, wx, wi, wa, ⟨hc, ⟨nb, hnb, hb1, hb2⟩, ht, hT, hJ⟩, hw, hP, hD⟩ := I
  refine lv_aload_n hx hb dL_law_1440 rfl (lv_at hl 1 rfl) ?_
  obtain ⟨r, t, x1, x2, x3, x4, x5, y1, y2, e1, e2, h4⟩ := jW_fits hw (ci 24) (ci 1) (ri 0) (ri 1) (ri 2) (ci 33) (ci 34) (ci 35) (ri 16) (ca 25) (ca 26) (ra 10)
  have hf1 := e1
  refine k11_fits S0 hK hA hl.1 hf hP hD hS  hf1 (fun H1 locs1 hP hD hS => ?_)
  refine lv_aload_n hx hb dL_law_1444 rfl (lv_at hl 2 rfl) ?_
  refine k13_fits (.int r) (by show 1 ≤ 2; decide) S0 hK hA hl.1 hf (vaP_perm hP (toR _ _ _ _ _)) (vaD_perm hD (toR _ _ _ _ _)) hS e2 (fun H1 locs1 hP hD hS => ?_)
  refine lv_icmp_eq (tgt := 2028) hx hb dL_law_1448 (by decide) (fun _ => ?_) (fun cd => absurd rfl cd)
  refine kk H1 locs1 (Or.inr ⟨(u1 (u1 (u1 (u1 ci 1 t) 33 x1) 34 x2) 35 x3), (u1 (u1 ca 25 x4) 26 x5), cl, cj, K, M, mr, (u1 (u1 (u1 (u1 ri 0 0) 1 t) 2 (-1)) 16 y1), (u1 ra 10 y2), rk, ow, wd, wx, wi, wa, ⟨hc.t h4, ⟨nb, hnb, hb1, hb2⟩, ht, hT, hJ⟩, (hw.mono (Nat.le_succ k)), vaP_perm hP (toR _ _ _ _ _).symm, vaD_perm hD (toR _ _ _ _ _).symm⟩) hS

set_option maxHeartbeats 4000000 in
set_option maxRecDepth 100000 in
theorem csN_could (S0 : CallFix p m c cL_law 7 s #[Value.ref b] wl_L RL) (hK : SK D cy s) (hA : ∀ q, s.heap.size ≤ q → A q) (hX : va_X b L xs s s.heap) (hbl : b < s.heap.size) (hbA : ¬ A b) (hf : cells ≤ room_1.cells ∧ slots ≤ room_1.slots) (hak : AK pk pm ka ma) (hk : k < 1000) (hin : ∀ j : Int32, j ∈ [1, 2, 3, 4, 5] → vp_in (x4 + j) L) (I : LN D cy A ad pk pm ka ma rd ao H) (hS : va_S A s.heap H locs) (hl : lv_has ls 7 [(0, .ref b), (1, .ref (ad 0)), (2, .ref (rd 0)), (3, .ref ao), (4, .int x4)]) (kk : ∀ (H1 : Heap) (locs1 : List Loc), LI D cy A ad pk pm ka ma rd ao (k + 1) H1 → va_S A s.heap H1 locs1 → W p l e room_1 s m #[Value.ref b] below meth c H1 locs1 cells slots Q (F0 m 2028 ls [])) : W p l e room_1 s m #[Value.ref b] below meth c H locs cells slots Q (F0 m 1453 ls []) := by
  have hx := S0.1
  have hb := S0.2.1
  obtain ⟨ci, ca, cl, cj, K, M, mr, ri, ra, rk, ow, ⟨hc, ⟨nb, hnb, hb1, hb2⟩, ht, hT, hJ⟩, hz, hP, hD⟩ := I
  obtain ⟨⟨z1, z2, z3, z4, z5, z6, z7⟩, ⟨z8, z9⟩, ⟨z10, z11⟩, Lt, hLt, zL⟩ := id hz
  refine lv_aload_n hx hb dL_law_1453 rfl (lv_at hl 1 rfl) ?_
  have hf1 : f_X11_could (ci 1) (ci 18) (ci 21) (ci 24) (ca 14) (ca 16) (ci 25) (ci 26) (ca 20) (ci 33) (ci 34) (ci 35) (ca 25) (ca 26) = some (-1, 1, (ci 33), (ci 34), (ci 35), (ca 25), (ca 26)) := by rw [z1, z4]; exact z_could _ _ _ _ _ _ _ _ _ _ _ _
  refine k11_could S0 hK hA hl.1 hf hP hD hS  hf1 (fun H1 locs1 hP hD hS => ?_)
  refine lv_aload_n hx hb dL_law_1457 rfl (lv_at hl 2 rfl) ?_
  refine k13_could_n (.int (-1 : Int32)) (by show 1 ≤ 2; decide) S0 hK hA hl.1 hf (vaP_perm hP (toR _ _ _ _ _)) (vaD_perm hD (toR _ _ _ _ _)) hS (zn_could _ _ _) (fun H1 locs1 hP hD hS => ?_)
  refine lv_icmp_eq (tgt := 2028) hx hb dL_law_1461 (by decide) (fun _ => ?_) (fun cd => absurd rfl cd)
  refine kk H1 locs1 (Or.inl ⟨(u1 (u1 (u1 (u1 ci 1 1) 33 (ci 33)) 34 (ci 34)) 35 (ci 35)), (u1 (u1 ca 25 (ca 25)) 26 (ca 26)), cl, cj, K, M, mr, (u1 (u1 (u1 ri 0 0) 1 1) 2 (-1)), ra, rk, ow, ⟨hc.t (t := 1) (show ¬ (1 : Int32) = 4 by decide), ⟨nb, hnb, hb1, hb2⟩, ht, hT, hJ⟩, hz, vaP_perm hP (toR _ _ _ _ _).symm, vaD_perm hD (toR _ _ _ _ _).symm⟩) hS

set_option maxHeartbeats 4000000 in
set_option maxRecDepth 100000 in
theorem csW_could (S0 : CallFix p m c cL_law 7 s #[Value.ref b] wl_L RL) (hK : SK D cy s) (hA : ∀ q, s.heap.size ≤ q → A q) (hX : va_X b L xs s s.heap) (hbl : b < s.heap.size) (hbA : ¬ A b) (hf : cells ≤ room_1.cells ∧ slots ≤ room_1.slots) (hak : AK pk pm ka ma) (hk : k < 1000) (hin : ∀ j : Int32, j ∈ [1, 2, 3, 4, 5] → vp_in (x4 + j) L) (I : LW D cy A ad pk pm ka ma rd ao k H) (hS : va_S A s.heap H locs) (hl : lv_has ls 7 [(0, .ref b), (1, .ref (ad 0)), (2, .ref (rd 0)), (3, .ref ao), (4, .int x4)]) (kk : ∀ (H1 : Heap) (locs1 : List Loc), LI D cy A ad pk pm ka ma rd ao (k + 1) H1 → va_S A s.heap H1 locs1 → W p l e room_1 s m #[Value.ref b] below meth c H1 locs1 cells slots Q (F0 m 2028 ls [])) : W p l e room_1 s m #[Value.ref b] below meth c H locs cells slots Q (F0 m 1453 ls []) := by
  have hx := S0.1
  have hb := S0.2.1
  obtain ⟨ci, ca, cl, cj, K, M, mr, ri, ra, rk, ow, wd, wx, wi, wa, ⟨hc, ⟨nb, hnb, hb1, hb2⟩, ht, hT, hJ⟩, hw, hP, hD⟩ := I
  refine lv_aload_n hx hb dL_law_1453 rfl (lv_at hl 1 rfl) ?_
  obtain ⟨r, t, x1, x2, x3, x4, x5, y1, y2, e1, e2, h4⟩ := jW_could hw (ci 24) (ci 1) (ri 0) (ri 1) (ri 2) (ci 33) (ci 34) (ci 35) (ri 16) (ca 25) (ca 26) (ra 10)
  have hf1 := e1
  refine k11_could S0 hK hA hl.1 hf hP hD hS  hf1 (fun H1 locs1 hP hD hS => ?_)
  refine lv_aload_n hx hb dL_law_1457 rfl (lv_at hl 2 rfl) ?_
  refine k13_could (.int r) (by show 1 ≤ 2; decide) S0 hK hA hl.1 hf (vaP_perm hP (toR _ _ _ _ _)) (vaD_perm hD (toR _ _ _ _ _)) hS e2 (fun H1 locs1 hP hD hS => ?_)
  refine lv_icmp_eq (tgt := 2028) hx hb dL_law_1461 (by decide) (fun _ => ?_) (fun cd => absurd rfl cd)
  refine kk H1 locs1 (Or.inr ⟨(u1 (u1 (u1 (u1 ci 1 t) 33 x1) 34 x2) 35 x3), (u1 (u1 ca 25 x4) 26 x5), cl, cj, K, M, mr, (u1 (u1 (u1 (u1 ri 0 0) 1 t) 2 (-1)) 16 y1), (u1 ra 10 y2), rk, ow, wd, wx, wi, wa, ⟨hc.t h4, ⟨nb, hnb, hb1, hb2⟩, ht, hT, hJ⟩, (hw.mono (Nat.le_succ k)), vaP_perm hP (toR _ _ _ _ _).symm, vaD_perm hD (toR _ _ _ _ _).symm⟩) hS

set_option maxHeartbeats 4000000 in
set_option maxRecDepth 100000 in
theorem csN_surely (S0 : CallFix p m c cL_law 7 s #[Value.ref b] wl_L RL) (hK : SK D cy s) (hA : ∀ q, s.heap.size ≤ q → A q) (hX : va_X b L xs s s.heap) (hbl : b < s.heap.size) (hbA : ¬ A b) (hf : cells ≤ room_1.cells ∧ slots ≤ room_1.slots) (hak : AK pk pm ka ma) (hk : k < 1000) (hin : ∀ j : Int32, j ∈ [1, 2, 3, 4, 5] → vp_in (x4 + j) L) (I : LN D cy A ad pk pm ka ma rd ao H) (hS : va_S A s.heap H locs) (hl : lv_has ls 7 [(0, .ref b), (1, .ref (ad 0)), (2, .ref (rd 0)), (3, .ref ao), (4, .int x4)]) (kk : ∀ (H1 : Heap) (locs1 : List Loc), LI D cy A ad pk pm ka ma rd ao (k + 1) H1 → va_S A s.heap H1 locs1 → W p l e room_1 s m #[Value.ref b] below meth c H1 locs1 cells slots Q (F0 m 2028 ls [])) : W p l e room_1 s m #[Value.ref b] below meth c H locs cells slots Q (F0 m 1466 ls []) := by
  have hx := S0.1
  have hb := S0.2.1
  obtain ⟨ci, ca, cl, cj, K, M, mr, ri, ra, rk, ow, ⟨hc, ⟨nb, hnb, hb1, hb2⟩, ht, hT, hJ⟩, hz, hP, hD⟩ := I
  obtain ⟨⟨z1, z2, z3, z4, z5, z6, z7⟩, ⟨z8, z9⟩, ⟨z10, z11⟩, Lt, hLt, zL⟩ := id hz
  refine lv_aload_n hx hb dL_law_1466 rfl (lv_at hl 1 rfl) ?_
  have hf1 : f_X11_surely (ci 1) (ci 18) (ci 21) (ci 24) (ca 14) (ca 16) (ci 25) (ci 26) (ca 20) (ci 33) (ci 34) (ci 35) (ca 25) (ca 26) = some (-1, 1, (ci 33), (ci 34), (ci 35), (ca 25), (ca 26)) := by rw [z1, z4]; exact z_surely _ _ _ _ _ _ _ _ _ _ _ _
  refine k11_surely S0 hK hA hl.1 hf hP hD hS  hf1 (fun H1 locs1 hP hD hS => ?_)
  refine lv_aload_n hx hb dL_law_1470 rfl (lv_at hl 2 rfl) ?_
  refine k13_surely_n (.int (-1 : Int32)) (by show 1 ≤ 2; decide) S0 hK hA hl.1 hf (vaP_perm hP (toR _ _ _ _ _)) (vaD_perm hD (toR _ _ _ _ _)) hS (zn_surely _ _ _) (fun H1 locs1 hP hD hS => ?_)
  refine lv_icmp_eq (tgt := 2028) hx hb dL_law_1474 (by decide) (fun _ => ?_) (fun cd => absurd rfl cd)
  refine kk H1 locs1 (Or.inl ⟨(u1 (u1 (u1 (u1 ci 1 1) 33 (ci 33)) 34 (ci 34)) 35 (ci 35)), (u1 (u1 ca 25 (ca 25)) 26 (ca 26)), cl, cj, K, M, mr, (u1 (u1 (u1 ri 0 0) 1 1) 2 (-1)), ra, rk, ow, ⟨hc.t (t := 1) (show ¬ (1 : Int32) = 4 by decide), ⟨nb, hnb, hb1, hb2⟩, ht, hT, hJ⟩, hz, vaP_perm hP (toR _ _ _ _ _).symm, vaD_perm hD (toR _ _ _ _ _).symm⟩) hS

set_option maxHeartbeats 4000000 in
set_option maxRecDepth 100000 in
theorem csW_surely (S0 : CallFix p m c cL_law 7 s #[Value.ref b] wl_L RL) (hK : SK D cy s) (hA : ∀ q, s.heap.size ≤ q → A q) (hX : va_X b L xs s s.heap) (hbl : b < s.heap.size) (hbA : ¬ A b) (hf : cells ≤ room_1.cells ∧ slots ≤ room_1.slots) (hak : AK pk pm ka ma) (hk : k < 1000) (hin : ∀ j : Int32, j ∈ [1, 2, 3, 4, 5] → vp_in (x4 + j) L) (I : LW D cy A ad pk pm ka ma rd ao k H) (hS : va_S A s.heap H locs) (hl : lv_has ls 7 [(0, .ref b), (1, .ref (ad 0)), (2, .ref (rd 0)), (3, .ref ao), (4, .int x4)]) (kk : ∀ (H1 : Heap) (locs1 : List Loc), LI D cy A ad pk pm ka ma rd ao (k + 1) H1 → va_S A s.heap H1 locs1 → W p l e room_1 s m #[Value.ref b] below meth c H1 locs1 cells slots Q (F0 m 2028 ls [])) : W p l e room_1 s m #[Value.ref b] below meth c H locs cells slots Q (F0 m 1466 ls []) := by
  have hx := S0.1
  have hb := S0.2.1
  obtain ⟨ci, ca, cl, cj, K, M, mr, ri, ra, rk, ow, wd, wx, wi, wa, ⟨hc, ⟨nb, hnb, hb1, hb2⟩, ht, hT, hJ⟩, hw, hP, hD⟩ := I
  refine lv_aload_n hx hb dL_law_1466 rfl (lv_at hl 1 rfl) ?_
  obtain ⟨r, t, x1, x2, x3, x4, x5, y1, y2, e1, e2, h4⟩ := jW_surely hw (ci 24) (ci 1) (ri 0) (ri 1) (ri 2) (ci 33) (ci 34) (ci 35) (ri 16) (ca 25) (ca 26) (ra 10)
  have hf1 := e1
  refine k11_surely S0 hK hA hl.1 hf hP hD hS  hf1 (fun H1 locs1 hP hD hS => ?_)
  refine lv_aload_n hx hb dL_law_1470 rfl (lv_at hl 2 rfl) ?_
  refine k13_surely (.int r) (by show 1 ≤ 2; decide) S0 hK hA hl.1 hf (vaP_perm hP (toR _ _ _ _ _)) (vaD_perm hD (toR _ _ _ _ _)) hS e2 (fun H1 locs1 hP hD hS => ?_)
  refine lv_icmp_eq (tgt := 2028) hx hb dL_law_1474 (by decide) (fun _ => ?_) (fun cd => absurd rfl cd)
  refine kk H1 locs1 (Or.inr ⟨(u1 (u1 (u1 (u1 ci 1 t) 33 x1) 34 x2) 35 x3), (u1 (u1 ca 25 x4) 26 x5), cl, cj, K, M, mr, (u1 (u1 (u1 (u1 ri 0 0) 1 t) 2 (-1)) 16 y1), (u1 ra 10 y2), rk, ow, wd, wx, wi, wa, ⟨hc.t h4, ⟨nb, hnb, hb1, hb2⟩, ht, hT, hJ⟩, (hw.mono (Nat.le_succ k)), vaP_perm hP (toR _ _ _ _ _).symm, vaD_perm hD (toR _ _ _ _ _).symm⟩) hS

set_option maxHeartbeats 4000000 in
set_option maxRecDepth 100000 in
theorem csN_ask (S0 : CallFix p m c cL_law 7 s #[Value.ref b] wl_L RL) (hK : SK D cy s) (hA : ∀ q, s.heap.size ≤ q → A q) (hX : va_X b L xs s s.heap) (hbl : b < s.heap.size) (hbA : ¬ A b) (hf : cells ≤ room_1.cells ∧ slots ≤ room_1.slots) (hak : AK pk pm ka ma) (hk : k < 1000) (hin : ∀ j : Int32, j ∈ [1, 2, 3, 4, 5] → vp_in (x4 + j) L) (I : LN D cy A ad pk pm ka ma rd ao H) (hS : va_S A s.heap H locs) (hl : lv_has ls 7 [(0, .ref b), (1, .ref (ad 0)), (2, .ref (rd 0)), (3, .ref ao), (4, .int x4)]) (kk : ∀ (H1 : Heap) (locs1 : List Loc), LI D cy A ad pk pm ka ma rd ao (k + 1) H1 → va_S A s.heap H1 locs1 → W p l e room_1 s m #[Value.ref b] below meth c H1 locs1 cells slots Q (F0 m 2028 ls [])) : W p l e room_1 s m #[Value.ref b] below meth c H locs cells slots Q (F0 m 1479 ls []) := by
  have hx := S0.1
  have hb := S0.2.1
  obtain ⟨ci, ca, cl, cj, K, M, mr, ri, ra, rk, ow, ⟨hc, ⟨nb, hnb, hb1, hb2⟩, ht, hT, hJ⟩, hz, hP, hD⟩ := I
  obtain ⟨⟨z1, z2, z3, z4, z5, z6, z7⟩, ⟨z8, z9⟩, ⟨z10, z11⟩, Lt, hLt, zL⟩ := id hz
  refine lv_aload_n hx hb dL_law_1479 rfl (lv_at hl 1 rfl) ?_
  have hf1 : f_X11_ask (ci 1) (ci 18) (ci 21) (ci 24) (ca 14) (ca 16) (ci 25) (ci 26) (ca 20) (ci 33) (ci 34) (ci 35) (ca 25) (ca 26) = some (-1, 1, (ci 33), (ci 34), (ci 35), (ca 25), (ca 26)) := by rw [z1, z4]; exact z_ask _ _ _ _ _ _ _ _ _ _ _ _
  refine k11_ask S0 hK hA hl.1 hf hP hD hS  hf1 (fun H1 locs1 hP hD hS => ?_)
  refine lv_aload_n hx hb dL_law_1483 rfl (lv_at hl 2 rfl) ?_
  refine k13_ask_n (.int (-1 : Int32)) (by show 1 ≤ 2; decide) S0 hK hA hl.1 hf (vaP_perm hP (toR _ _ _ _ _)) (vaD_perm hD (toR _ _ _ _ _)) hS (zn_ask _ _ _) (fun H1 locs1 hP hD hS => ?_)
  refine lv_icmp_eq (tgt := 2028) hx hb dL_law_1487 (by decide) (fun _ => ?_) (fun cd => absurd rfl cd)
  refine kk H1 locs1 (Or.inl ⟨(u1 (u1 (u1 (u1 ci 1 1) 33 (ci 33)) 34 (ci 34)) 35 (ci 35)), (u1 (u1 ca 25 (ca 25)) 26 (ca 26)), cl, cj, K, M, mr, (u1 (u1 (u1 ri 0 0) 1 1) 2 (-1)), ra, rk, ow, ⟨hc.t (t := 1) (show ¬ (1 : Int32) = 4 by decide), ⟨nb, hnb, hb1, hb2⟩, ht, hT, hJ⟩, hz, vaP_perm hP (toR _ _ _ _ _).symm, vaD_perm hD (toR _ _ _ _ _).symm⟩) hS

set_option maxHeartbeats 4000000 in
set_option maxRecDepth 100000 in
theorem csW_ask (S0 : CallFix p m c cL_law 7 s #[Value.ref b] wl_L RL) (hK : SK D cy s) (hA : ∀ q, s.heap.size ≤ q → A q) (hX : va_X b L xs s s.heap) (hbl : b < s.heap.size) (hbA : ¬ A b) (hf : cells ≤ room_1.cells ∧ slots ≤ room_1.slots) (hak : AK pk pm ka ma) (hk : k < 1000) (hin : ∀ j : Int32, j ∈ [1, 2, 3, 4, 5] → vp_in (x4 + j) L) (I : LW D cy A ad pk pm ka ma rd ao k H) (hS : va_S A s.heap H locs) (hl : lv_has ls 7 [(0, .ref b), (1, .ref (ad 0)), (2, .ref (rd 0)), (3, .ref ao), (4, .int x4)]) (kk : ∀ (H1 : Heap) (locs1 : List Loc), LI D cy A ad pk pm ka ma rd ao (k + 1) H1 → va_S A s.heap H1 locs1 → W p l e room_1 s m #[Value.ref b] below meth c H1 locs1 cells slots Q (F0 m 2028 ls [])) : W p l e room_1 s m #[Value.ref b] below meth c H locs cells slots Q (F0 m 1479 ls []) := by
  have hx := S0.1
  have hb := S0.2.1
  obtain ⟨ci, ca, cl, cj, K, M, mr, ri, ra, rk, ow, wd, wx, wi, wa, ⟨hc, ⟨nb, hnb, hb1, hb2⟩, ht, hT, hJ⟩, hw, hP, hD⟩ := I
  refine lv_aload_n hx hb dL_law_1479 rfl (lv_at hl 1 rfl) ?_
  obtain ⟨r, t, x1, x2, x3, x4, x5, y1, y2, e1, e2, h4⟩ := jW_ask hw (ci 24) (ci 1) (ri 0) (ri 1) (ri 2) (ci 33) (ci 34) (ci 35) (ri 16) (ca 25) (ca 26) (ra 10)
  have hf1 := e1
  refine k11_ask S0 hK hA hl.1 hf hP hD hS  hf1 (fun H1 locs1 hP hD hS => ?_)
  refine lv_aload_n hx hb dL_law_1483 rfl (lv_at hl 2 rfl) ?_
  refine k13_ask (.int r) (by show 1 ≤ 2; decide) S0 hK hA hl.1 hf (vaP_perm hP (toR _ _ _ _ _)) (vaD_perm hD (toR _ _ _ _ _)) hS e2 (fun H1 locs1 hP hD hS => ?_)
  refine lv_icmp_eq (tgt := 2028) hx hb dL_law_1487 (by decide) (fun _ => ?_) (fun cd => absurd rfl cd)
  refine kk H1 locs1 (Or.inr ⟨(u1 (u1 (u1 (u1 ci 1 t) 33 x1) 34 x2) 35 x3), (u1 (u1 ca 25 x4) 26 x5), cl, cj, K, M, mr, (u1 (u1 (u1 (u1 ri 0 0) 1 t) 2 (-1)) 16 y1), (u1 ra 10 y2), rk, ow, wd, wx, wi, wa, ⟨hc.t h4, ⟨nb, hnb, hb1, hb2⟩, ht, hT, hJ⟩, (hw.mono (Nat.le_succ k)), vaP_perm hP (toR _ _ _ _ _).symm, vaD_perm hD (toR _ _ _ _ _).symm⟩) hS

set_option maxHeartbeats 4000000 in
set_option maxRecDepth 100000 in
theorem csN_turnedBy (S0 : CallFix p m c cL_law 7 s #[Value.ref b] wl_L RL) (hK : SK D cy s) (hA : ∀ q, s.heap.size ≤ q → A q) (hX : va_X b L xs s s.heap) (hbl : b < s.heap.size) (hbA : ¬ A b) (hf : cells ≤ room_1.cells ∧ slots ≤ room_1.slots) (hak : AK pk pm ka ma) (hk : k < 1000) (hin : ∀ j : Int32, j ∈ [1, 2, 3, 4, 5] → vp_in (x4 + j) L) (I : LN D cy A ad pk pm ka ma rd ao H) (hS : va_S A s.heap H locs) (hl : lv_has ls 7 [(0, .ref b), (1, .ref (ad 0)), (2, .ref (rd 0)), (3, .ref ao), (4, .int x4)]) (kk : ∀ (H1 : Heap) (locs1 : List Loc), LI D cy A ad pk pm ka ma rd ao (k + 1) H1 → va_S A s.heap H1 locs1 → W p l e room_1 s m #[Value.ref b] below meth c H1 locs1 cells slots Q (F0 m 2028 ls [])) : W p l e room_1 s m #[Value.ref b] below meth c H locs cells slots Q (F0 m 1492 ls []) := by
  have hx := S0.1
  have hb := S0.2.1
  obtain ⟨ci, ca, cl, cj, K, M, mr, ri, ra, rk, ow, ⟨hc, ⟨nb, hnb, hb1, hb2⟩, ht, hT, hJ⟩, hz, hP, hD⟩ := I
  obtain ⟨⟨z1, z2, z3, z4, z5, z6, z7⟩, ⟨z8, z9⟩, ⟨z10, z11⟩, Lt, hLt, zL⟩ := id hz
  refine lv_aload_n hx hb dL_law_1492 rfl (lv_at hl 1 rfl) ?_
  refine lv_aload_n hx hb dL_law_1493 rfl (lv_at hl 0 rfl) ?_
  refine lv_iload hx hb dL_law_1494 (lv_at hl 4 rfl) ?_
  refine lv_iconst (v := 1) hx hb dL_law_1496 (by decide) ?_
  refine lv_iadd hx hb dL_law_1497 ?_
  refine va_sld hx hb hX hbl hbA hS (hin 1 (by decide)) dL_law_1498 ?_
  have hf1 : f_X11_turnedBy (ci 1) (ci 21) (ca 14) (ca 16) (ci 25) (ci 26) (ca 20) (xs (x4 + 1).toNatClampNeg) = some (-1, 1) := by rw [z4]; exact z_turnedBy _ _ _ _ _ _ _
  refine k11_turnedBy S0 hK hA hl.1 hf hP hD hS  hf1 (fun H1 locs1 hP hD hS => ?_)
  refine lv_aload_n hx hb dL_law_1502 rfl (lv_at hl 2 rfl) ?_
  refine lv_aload_n hx hb dL_law_1503 rfl (lv_at hl 0 rfl) ?_
  refine lv_iload hx hb dL_law_1504 (lv_at hl 4 rfl) ?_
  refine lv_iconst (v := 1) hx hb dL_law_1506 (by decide) ?_
  refine lv_iadd hx hb dL_law_1507 ?_
  refine va_sld hx hb hX hbl hbA hS (hin 1 (by decide)) dL_law_1508 ?_
  refine k13_turnedBy_n (.int (-1 : Int32)) (by show 1 ≤ 2; decide) S0 hK hA hl.1 hf (vaP_perm hP (toR _ _ _ _ _)) (vaD_perm hD (toR _ _ _ _ _)) hS (zn_turnedBy _ _ _ _) (fun H1 locs1 hP hD hS => ?_)
  refine lv_icmp_eq (tgt := 2028) hx hb dL_law_1512 (by decide) (fun _ => ?_) (fun cd => absurd rfl cd)
  refine kk H1 locs1 (Or.inl ⟨(u1 ci 1 1), ca, cl, cj, K, M, mr, (u1 (u1 (u1 ri 0 0) 1 1) 2 (-1)), ra, rk, ow, ⟨hc.t (t := 1) (show ¬ (1 : Int32) = 4 by decide), ⟨nb, hnb, hb1, hb2⟩, ht, hT, hJ⟩, hz, vaP_perm hP (toR _ _ _ _ _).symm, vaD_perm hD (toR _ _ _ _ _).symm⟩) hS

set_option maxHeartbeats 4000000 in
set_option maxRecDepth 100000 in
theorem csW_turnedBy (S0 : CallFix p m c cL_law 7 s #[Value.ref b] wl_L RL) (hK : SK D cy s) (hA : ∀ q, s.heap.size ≤ q → A q) (hX : va_X b L xs s s.heap) (hbl : b < s.heap.size) (hbA : ¬ A b) (hf : cells ≤ room_1.cells ∧ slots ≤ room_1.slots) (hak : AK pk pm ka ma) (hk : k < 1000) (hin : ∀ j : Int32, j ∈ [1, 2, 3, 4, 5] → vp_in (x4 + j) L) (I : LW D cy A ad pk pm ka ma rd ao k H) (hS : va_S A s.heap H locs) (hl : lv_has ls 7 [(0, .ref b), (1, .ref (ad 0)), (2, .ref (rd 0)), (3, .ref ao), (4, .int x4)]) (kk : ∀ (H1 : Heap) (locs1 : List Loc), LI D cy A ad pk pm ka ma rd ao (k + 1) H1 → va_S A s.heap H1 locs1 → W p l e room_1 s m #[Value.ref b] below meth c H1 locs1 cells slots Q (F0 m 2028 ls [])) : W p l e room_1 s m #[Value.ref b] below meth c H locs cells slots Q (F0 m 1492 ls []) := by
  have hx := S0.1
  have hb := S0.2.1
  obtain ⟨ci, ca, cl, cj, K, M, mr, ri, ra, rk, ow, wd, wx, wi, wa, ⟨hc, ⟨nb, hnb, hb1, hb2⟩, ht, hT, hJ⟩, hw, hP, hD⟩ := I
  refine lv_aload_n hx hb dL_law_1492 rfl (lv_at hl 1 rfl) ?_
  refine lv_aload_n hx hb dL_law_1493 rfl (lv_at hl 0 rfl) ?_
  refine lv_iload hx hb dL_law_1494 (lv_at hl 4 rfl) ?_
  refine lv_iconst (v := 1) hx hb dL_law_1496 (by decide) ?_
  refine lv_iadd hx hb dL_law_1497 ?_
  refine va_sld hx hb hX hbl hbA hS (hin 1 (by decide)) dL_law_1498 ?_
  obtain ⟨r, t, e1, e2, h4⟩ := jW_turnedBy hw (xs (x4 + 1).toNatClampNeg) (ci 1) (ri 0) (ri 1) (ri 2)
  have hf1 := e1
  refine k11_turnedBy S0 hK hA hl.1 hf hP hD hS  hf1 (fun H1 locs1 hP hD hS => ?_)
  refine lv_aload_n hx hb dL_law_1502 rfl (lv_at hl 2 rfl) ?_
  refine lv_aload_n hx hb dL_law_1503 rfl (lv_at hl 0 rfl) ?_
  refine lv_iload hx hb dL_law_1504 (lv_at hl 4 rfl) ?_
  refine lv_iconst (v := 1) hx hb dL_law_1506 (by decide) ?_
  refine lv_iadd hx hb dL_law_1507 ?_
  refine va_sld hx hb hX hbl hbA hS (hin 1 (by decide)) dL_law_1508 ?_
  refine k13_turnedBy (.int r) (by show 1 ≤ 2; decide) S0 hK hA hl.1 hf (vaP_perm hP (toR _ _ _ _ _)) (vaD_perm hD (toR _ _ _ _ _)) hS e2 (fun H1 locs1 hP hD hS => ?_)
  refine lv_icmp_eq (tgt := 2028) hx hb dL_law_1512 (by decide) (fun _ => ?_) (fun cd => absurd rfl cd)
  refine kk H1 locs1 (Or.inr ⟨(u1 ci 1 t), ca, cl, cj, K, M, mr, (u1 (u1 (u1 ri 0 0) 1 t) 2 (-1)), ra, rk, ow, wd, wx, wi, wa, ⟨hc.t h4, ⟨nb, hnb, hb1, hb2⟩, ht, hT, hJ⟩, (hw.mono (Nat.le_succ k)), vaP_perm hP (toR _ _ _ _ _).symm, vaD_perm hD (toR _ _ _ _ _).symm⟩) hS

set_option maxHeartbeats 4000000 in
set_option maxRecDepth 100000 in
theorem csN_battles (S0 : CallFix p m c cL_law 7 s #[Value.ref b] wl_L RL) (hK : SK D cy s) (hA : ∀ q, s.heap.size ≤ q → A q) (hX : va_X b L xs s s.heap) (hbl : b < s.heap.size) (hbA : ¬ A b) (hf : cells ≤ room_1.cells ∧ slots ≤ room_1.slots) (hak : AK pk pm ka ma) (hk : k < 1000) (hin : ∀ j : Int32, j ∈ [1, 2, 3, 4, 5] → vp_in (x4 + j) L) (I : LN D cy A ad pk pm ka ma rd ao H) (hS : va_S A s.heap H locs) (hl : lv_has ls 7 [(0, .ref b), (1, .ref (ad 0)), (2, .ref (rd 0)), (3, .ref ao), (4, .int x4)]) (kk : ∀ (H1 : Heap) (locs1 : List Loc), LI D cy A ad pk pm ka ma rd ao (k + 1) H1 → va_S A s.heap H1 locs1 → W p l e room_1 s m #[Value.ref b] below meth c H1 locs1 cells slots Q (F0 m 2028 ls [])) : W p l e room_1 s m #[Value.ref b] below meth c H locs cells slots Q (F0 m 1517 ls []) := by
  have hx := S0.1
  have hb := S0.2.1
  obtain ⟨ci, ca, cl, cj, K, M, mr, ri, ra, rk, ow, ⟨hc, ⟨nb, hnb, hb1, hb2⟩, ht, hT, hJ⟩, hz, hP, hD⟩ := I
  obtain ⟨⟨z1, z2, z3, z4, z5, z6, z7⟩, ⟨z8, z9⟩, ⟨z10, z11⟩, Lt, hLt, zL⟩ := id hz
  refine lv_aload_n hx hb dL_law_1517 rfl (lv_at hl 1 rfl) ?_
  refine lv_aload_n hx hb dL_law_1518 rfl (lv_at hl 0 rfl) ?_
  refine lv_iload hx hb dL_law_1519 (lv_at hl 4 rfl) ?_
  refine lv_iconst (v := 1) hx hb dL_law_1521 (by decide) ?_
  refine lv_iadd hx hb dL_law_1522 ?_
  refine va_sld hx hb hX hbl hbA hS (hin 1 (by decide)) dL_law_1523 ?_
  refine lv_aload_n hx hb dL_law_1524 rfl (lv_at hl 0 rfl) ?_
  refine lv_iload hx hb dL_law_1525 (lv_at hl 4 rfl) ?_
  refine lv_iconst (v := 2) hx hb dL_law_1527 (by decide) ?_
  refine lv_iadd hx hb dL_law_1528 ?_
  refine va_sld hx hb hX hbl hbA hS (hin 2 (by decide)) dL_law_1529 ?_
  refine lv_aload_n hx hb dL_law_1530 rfl (lv_at hl 0 rfl) ?_
  refine lv_iload hx hb dL_law_1531 (lv_at hl 4 rfl) ?_
  refine lv_iconst (v := 3) hx hb dL_law_1533 (by decide) ?_
  refine lv_iadd hx hb dL_law_1534 ?_
  refine va_sld hx hb hX hbl hbA hS (hin 3 (by decide)) dL_law_1535 ?_
  refine lv_bool hx hb dL_law_1536 dL_law_1539 dL_law_1540 dL_law_1543 ?_
  have hf1 : f_X11_battles (ci 1) (ci 18) (ci 19) (ci 21) (ca 12) (ca 14) (ca 16) (ci 25) (ci 26) (ca 19) (ca 20) (ca 21) (ci 36) (ci 37) (ci 38) (ci 39) (ci 40) (ci 41) (ci 42) (ca 27) (ca 28) (xs (x4 + 1).toNatClampNeg) (xs (x4 + 2).toNatClampNeg) (if decide (¬ xs (x4 + 3).toNatClampNeg = 0) = true then 1 else 0) = some (-1, 1, (ci 36), (ci 37), (ci 38), (ci 39), (ci 40), (ci 41), (ci 42), (ca 27), (ca 28)) := by rw [z1, z4]; exact z_battles _ _ _ _ _ _ _ _ _ _ _ _ _ _ _ _ _ _ _ _ _ _
  refine k11_battles S0 hK hA hl.1 hf hP hD hS  hf1 (fun H1 locs1 hP hD hS => ?_)
  refine lv_aload_n hx hb dL_law_1547 rfl (lv_at hl 2 rfl) ?_
  refine lv_aload_n hx hb dL_law_1548 rfl (lv_at hl 0 rfl) ?_
  refine lv_iload hx hb dL_law_1549 (lv_at hl 4 rfl) ?_
  refine lv_iconst (v := 1) hx hb dL_law_1551 (by decide) ?_
  refine lv_iadd hx hb dL_law_1552 ?_
  refine va_sld hx hb hX hbl hbA hS (hin 1 (by decide)) dL_law_1553 ?_
  refine lv_aload_n hx hb dL_law_1554 rfl (lv_at hl 0 rfl) ?_
  refine lv_iload hx hb dL_law_1555 (lv_at hl 4 rfl) ?_
  refine lv_iconst (v := 2) hx hb dL_law_1557 (by decide) ?_
  refine lv_iadd hx hb dL_law_1558 ?_
  refine va_sld hx hb hX hbl hbA hS (hin 2 (by decide)) dL_law_1559 ?_
  refine lv_aload_n hx hb dL_law_1560 rfl (lv_at hl 0 rfl) ?_
  refine lv_iload hx hb dL_law_1561 (lv_at hl 4 rfl) ?_
  refine lv_iconst (v := 3) hx hb dL_law_1563 (by decide) ?_
  refine lv_iadd hx hb dL_law_1564 ?_
  refine va_sld hx hb hX hbl hbA hS (hin 3 (by decide)) dL_law_1565 ?_
  refine lv_bool hx hb dL_law_1566 dL_law_1569 dL_law_1570 dL_law_1573 ?_
  refine k13_battles_n (.int (-1 : Int32)) (by show 1 ≤ 2; decide) S0 hK hA hl.1 hf (vaP_perm hP (toR _ _ _ _ _)) (vaD_perm hD (toR _ _ _ _ _)) hS (zn_battles _ _ _ _ _ _) (fun H1 locs1 hP hD hS => ?_)
  refine lv_icmp_eq (tgt := 2028) hx hb dL_law_1577 (by decide) (fun _ => ?_) (fun cd => absurd rfl cd)
  refine kk H1 locs1 (Or.inl ⟨(u1 (u1 (u1 (u1 (u1 (u1 (u1 (u1 ci 1 1) 36 (ci 36)) 37 (ci 37)) 38 (ci 38)) 39 (ci 39)) 40 (ci 40)) 41 (ci 41)) 42 (ci 42)), (u1 (u1 ca 27 (ca 27)) 28 (ca 28)), cl, cj, K, M, mr, (u1 (u1 (u1 ri 0 0) 1 1) 2 (-1)), ra, rk, ow, ⟨hc.t (t := 1) (show ¬ (1 : Int32) = 4 by decide), ⟨nb, hnb, hb1, hb2⟩, ht, hT, hJ⟩, hz, vaP_perm hP (toR _ _ _ _ _).symm, vaD_perm hD (toR _ _ _ _ _).symm⟩) hS

set_option maxHeartbeats 4000000 in
set_option maxRecDepth 100000 in
theorem csW_battles (S0 : CallFix p m c cL_law 7 s #[Value.ref b] wl_L RL) (hK : SK D cy s) (hA : ∀ q, s.heap.size ≤ q → A q) (hX : va_X b L xs s s.heap) (hbl : b < s.heap.size) (hbA : ¬ A b) (hf : cells ≤ room_1.cells ∧ slots ≤ room_1.slots) (hak : AK pk pm ka ma) (hk : k < 1000) (hin : ∀ j : Int32, j ∈ [1, 2, 3, 4, 5] → vp_in (x4 + j) L) (I : LW D cy A ad pk pm ka ma rd ao k H) (hS : va_S A s.heap H locs) (hl : lv_has ls 7 [(0, .ref b), (1, .ref (ad 0)), (2, .ref (rd 0)), (3, .ref ao), (4, .int x4)]) (kk : ∀ (H1 : Heap) (locs1 : List Loc), LI D cy A ad pk pm ka ma rd ao (k + 1) H1 → va_S A s.heap H1 locs1 → W p l e room_1 s m #[Value.ref b] below meth c H1 locs1 cells slots Q (F0 m 2028 ls [])) : W p l e room_1 s m #[Value.ref b] below meth c H locs cells slots Q (F0 m 1517 ls []) := by
  have hx := S0.1
  have hb := S0.2.1
  obtain ⟨ci, ca, cl, cj, K, M, mr, ri, ra, rk, ow, wd, wx, wi, wa, ⟨hc, ⟨nb, hnb, hb1, hb2⟩, ht, hT, hJ⟩, hw, hP, hD⟩ := I
  refine lv_aload_n hx hb dL_law_1517 rfl (lv_at hl 1 rfl) ?_
  refine lv_aload_n hx hb dL_law_1518 rfl (lv_at hl 0 rfl) ?_
  refine lv_iload hx hb dL_law_1519 (lv_at hl 4 rfl) ?_
  refine lv_iconst (v := 1) hx hb dL_law_1521 (by decide) ?_
  refine lv_iadd hx hb dL_law_1522 ?_
  refine va_sld hx hb hX hbl hbA hS (hin 1 (by decide)) dL_law_1523 ?_
  refine lv_aload_n hx hb dL_law_1524 rfl (lv_at hl 0 rfl) ?_
  refine lv_iload hx hb dL_law_1525 (lv_at hl 4 rfl) ?_
  refine lv_iconst (v := 2) hx hb dL_law_1527 (by decide) ?_
  refine lv_iadd hx hb dL_law_1528 ?_
  refine va_sld hx hb hX hbl hbA hS (hin 2 (by decide)) dL_law_1529 ?_
  refine lv_aload_n hx hb dL_law_1530 rfl (lv_at hl 0 rfl) ?_
  refine lv_iload hx hb dL_law_1531 (lv_at hl 4 rfl) ?_
  refine lv_iconst (v := 3) hx hb dL_law_1533 (by decide) ?_
  refine lv_iadd hx hb dL_law_1534 ?_
  refine va_sld hx hb hX hbl hbA hS (hin 3 (by decide)) dL_law_1535 ?_
  refine lv_bool hx hb dL_law_1536 dL_law_1539 dL_law_1540 dL_law_1543 ?_
  obtain ⟨r, t, y1, y2, y3, y4, y5, y6, y7, y8, y9, z1, z2, z3, z4, z5, z6, z7, z8, e1, e2, h4⟩ := jW_battles hw (xs (x4 + 1).toNatClampNeg) (xs (x4 + 2).toNatClampNeg) (decide (¬ xs (x4 + 3).toNatClampNeg = 0)) (ci 1) (ci 36) (ci 37) (ci 38) (ci 39) (ci 40) (ci 41) (ci 42) (ca 27) (ca 28) (ri 0) (ri 1) (ri 2) (ri 17) (ri 18) (ri 19) (ri 20) (ri 21) (ri 22) (ri 23) (ra 2)
  have hf1 := e1
  refine k11_battles S0 hK hA hl.1 hf hP hD hS  hf1 (fun H1 locs1 hP hD hS => ?_)
  refine lv_aload_n hx hb dL_law_1547 rfl (lv_at hl 2 rfl) ?_
  refine lv_aload_n hx hb dL_law_1548 rfl (lv_at hl 0 rfl) ?_
  refine lv_iload hx hb dL_law_1549 (lv_at hl 4 rfl) ?_
  refine lv_iconst (v := 1) hx hb dL_law_1551 (by decide) ?_
  refine lv_iadd hx hb dL_law_1552 ?_
  refine va_sld hx hb hX hbl hbA hS (hin 1 (by decide)) dL_law_1553 ?_
  refine lv_aload_n hx hb dL_law_1554 rfl (lv_at hl 0 rfl) ?_
  refine lv_iload hx hb dL_law_1555 (lv_at hl 4 rfl) ?_
  refine lv_iconst (v := 2) hx hb dL_law_1557 (by decide) ?_
  refine lv_iadd hx hb dL_law_1558 ?_
  refine va_sld hx hb hX hbl hbA hS (hin 2 (by decide)) dL_law_1559 ?_
  refine lv_aload_n hx hb dL_law_1560 rfl (lv_at hl 0 rfl) ?_
  refine lv_iload hx hb dL_law_1561 (lv_at hl 4 rfl) ?_
  refine lv_iconst (v := 3) hx hb dL_law_1563 (by decide) ?_
  refine lv_iadd hx hb dL_law_1564 ?_
  refine va_sld hx hb hX hbl hbA hS (hin 3 (by decide)) dL_law_1565 ?_
  refine lv_bool hx hb dL_law_1566 dL_law_1569 dL_law_1570 dL_law_1573 ?_
  refine k13_battles (.int r) (by show 1 ≤ 2; decide) S0 hK hA hl.1 hf (vaP_perm hP (toR _ _ _ _ _)) (vaD_perm hD (toR _ _ _ _ _)) hS e2 (fun H1 locs1 hP hD hS => ?_)
  refine lv_icmp_eq (tgt := 2028) hx hb dL_law_1577 (by decide) (fun _ => ?_) (fun cd => absurd rfl cd)
  refine kk H1 locs1 (Or.inr ⟨(u1 (u1 (u1 (u1 (u1 (u1 (u1 (u1 ci 1 t) 36 y1) 37 y2) 38 y3) 39 y4) 40 y5) 41 y6) 42 y7), (u1 (u1 ca 27 y8) 28 y9), cl, cj, K, M, mr, (u1 (u1 (u1 (u1 (u1 (u1 (u1 (u1 (u1 (u1 ri 0 0) 1 t) 2 (-1)) 17 z1) 18 z2) 19 z3) 20 z4) 21 z5) 22 z6) 23 z7), (u1 ra 2 z8), rk, ow, wd, wx, wi, wa, ⟨hc.t h4, ⟨nb, hnb, hb1, hb2⟩, ht, hT, hJ⟩, (hw.mono (Nat.le_succ k)), vaP_perm hP (toR _ _ _ _ _).symm, vaD_perm hD (toR _ _ _ _ _).symm⟩) hS

set_option maxHeartbeats 4000000 in
set_option maxRecDepth 100000 in
theorem csN_won (S0 : CallFix p m c cL_law 7 s #[Value.ref b] wl_L RL) (hK : SK D cy s) (hA : ∀ q, s.heap.size ≤ q → A q) (hX : va_X b L xs s s.heap) (hbl : b < s.heap.size) (hbA : ¬ A b) (hf : cells ≤ room_1.cells ∧ slots ≤ room_1.slots) (hak : AK pk pm ka ma) (hk : k < 1000) (hin : ∀ j : Int32, j ∈ [1, 2, 3, 4, 5] → vp_in (x4 + j) L) (I : LN D cy A ad pk pm ka ma rd ao H) (hS : va_S A s.heap H locs) (hl : lv_has ls 7 [(0, .ref b), (1, .ref (ad 0)), (2, .ref (rd 0)), (3, .ref ao), (4, .int x4)]) (kk : ∀ (H1 : Heap) (locs1 : List Loc), LI D cy A ad pk pm ka ma rd ao (k + 1) H1 → va_S A s.heap H1 locs1 → W p l e room_1 s m #[Value.ref b] below meth c H1 locs1 cells slots Q (F0 m 2028 ls [])) : W p l e room_1 s m #[Value.ref b] below meth c H locs cells slots Q (F0 m 1582 ls []) := by
  have hx := S0.1
  have hb := S0.2.1
  obtain ⟨ci, ca, cl, cj, K, M, mr, ri, ra, rk, ow, ⟨hc, ⟨nb, hnb, hb1, hb2⟩, ht, hT, hJ⟩, hz, hP, hD⟩ := I
  obtain ⟨⟨z1, z2, z3, z4, z5, z6, z7⟩, ⟨z8, z9⟩, ⟨z10, z11⟩, Lt, hLt, zL⟩ := id hz
  refine lv_aload_n hx hb dL_law_1582 rfl (lv_at hl 1 rfl) ?_
  refine lv_aload_n hx hb dL_law_1583 rfl (lv_at hl 0 rfl) ?_
  refine lv_iload hx hb dL_law_1584 (lv_at hl 4 rfl) ?_
  refine lv_iconst (v := 1) hx hb dL_law_1586 (by decide) ?_
  refine lv_iadd hx hb dL_law_1587 ?_
  refine va_sld hx hb hX hbl hbA hS (hin 1 (by decide)) dL_law_1588 ?_
  refine lv_aload_n hx hb dL_law_1589 rfl (lv_at hl 0 rfl) ?_
  refine lv_iload hx hb dL_law_1590 (lv_at hl 4 rfl) ?_
  refine lv_iconst (v := 2) hx hb dL_law_1592 (by decide) ?_
  refine lv_iadd hx hb dL_law_1593 ?_
  refine va_sld hx hb hX hbl hbA hS (hin 2 (by decide)) dL_law_1594 ?_
  have hf1 : f_X11_won (ci 1) (ci 18) (ci 19) (ci 21) (ca 12) (ca 14) (ca 16) (ci 25) (ci 26) (ca 19) (ca 20) (ca 21) (ci 36) (ci 37) (ci 38) (ci 39) (ci 40) (ci 41) (ci 42) (ca 27) (ca 28) (xs (x4 + 1).toNatClampNeg) (xs (x4 + 2).toNatClampNeg) = some (-1, 1, (ci 36), (ci 37), (ci 38), (ci 39), (ci 40), (ci 41), (ci 42), (ca 27), (ca 28)) := by rw [z1, z4]; exact z_won _ _ _ _ _ _ _ _ _ _ _ _ _ _ _ _ _ _ _ _ _
  refine k11_won S0 hK hA hl.1 hf hP hD hS  hf1 (fun H1 locs1 hP hD hS => ?_)
  refine lv_aload_n hx hb dL_law_1598 rfl (lv_at hl 2 rfl) ?_
  refine lv_aload_n hx hb dL_law_1599 rfl (lv_at hl 0 rfl) ?_
  refine lv_iload hx hb dL_law_1600 (lv_at hl 4 rfl) ?_
  refine lv_iconst (v := 1) hx hb dL_law_1602 (by decide) ?_
  refine lv_iadd hx hb dL_law_1603 ?_
  refine va_sld hx hb hX hbl hbA hS (hin 1 (by decide)) dL_law_1604 ?_
  refine lv_aload_n hx hb dL_law_1605 rfl (lv_at hl 0 rfl) ?_
  refine lv_iload hx hb dL_law_1606 (lv_at hl 4 rfl) ?_
  refine lv_iconst (v := 2) hx hb dL_law_1608 (by decide) ?_
  refine lv_iadd hx hb dL_law_1609 ?_
  refine va_sld hx hb hX hbl hbA hS (hin 2 (by decide)) dL_law_1610 ?_
  refine k13_won_n (.int (-1 : Int32)) (by show 1 ≤ 2; decide) S0 hK hA hl.1 hf (vaP_perm hP (toR _ _ _ _ _)) (vaD_perm hD (toR _ _ _ _ _)) hS (zn_won _ _ _ _ _) (fun H1 locs1 hP hD hS => ?_)
  refine lv_icmp_eq (tgt := 2028) hx hb dL_law_1614 (by decide) (fun _ => ?_) (fun cd => absurd rfl cd)
  refine kk H1 locs1 (Or.inl ⟨(u1 (u1 (u1 (u1 (u1 (u1 (u1 (u1 ci 1 1) 36 (ci 36)) 37 (ci 37)) 38 (ci 38)) 39 (ci 39)) 40 (ci 40)) 41 (ci 41)) 42 (ci 42)), (u1 (u1 ca 27 (ca 27)) 28 (ca 28)), cl, cj, K, M, mr, (u1 (u1 (u1 ri 0 0) 1 1) 2 (-1)), ra, rk, ow, ⟨hc.t (t := 1) (show ¬ (1 : Int32) = 4 by decide), ⟨nb, hnb, hb1, hb2⟩, ht, hT, hJ⟩, hz, vaP_perm hP (toR _ _ _ _ _).symm, vaD_perm hD (toR _ _ _ _ _).symm⟩) hS

set_option maxHeartbeats 4000000 in
set_option maxRecDepth 100000 in
theorem csW_won (S0 : CallFix p m c cL_law 7 s #[Value.ref b] wl_L RL) (hK : SK D cy s) (hA : ∀ q, s.heap.size ≤ q → A q) (hX : va_X b L xs s s.heap) (hbl : b < s.heap.size) (hbA : ¬ A b) (hf : cells ≤ room_1.cells ∧ slots ≤ room_1.slots) (hak : AK pk pm ka ma) (hk : k < 1000) (hin : ∀ j : Int32, j ∈ [1, 2, 3, 4, 5] → vp_in (x4 + j) L) (I : LW D cy A ad pk pm ka ma rd ao k H) (hS : va_S A s.heap H locs) (hl : lv_has ls 7 [(0, .ref b), (1, .ref (ad 0)), (2, .ref (rd 0)), (3, .ref ao), (4, .int x4)]) (kk : ∀ (H1 : Heap) (locs1 : List Loc), LI D cy A ad pk pm ka ma rd ao (k + 1) H1 → va_S A s.heap H1 locs1 → W p l e room_1 s m #[Value.ref b] below meth c H1 locs1 cells slots Q (F0 m 2028 ls [])) : W p l e room_1 s m #[Value.ref b] below meth c H locs cells slots Q (F0 m 1582 ls []) := by
  have hx := S0.1
  have hb := S0.2.1
  obtain ⟨ci, ca, cl, cj, K, M, mr, ri, ra, rk, ow, wd, wx, wi, wa, ⟨hc, ⟨nb, hnb, hb1, hb2⟩, ht, hT, hJ⟩, hw, hP, hD⟩ := I
  refine lv_aload_n hx hb dL_law_1582 rfl (lv_at hl 1 rfl) ?_
  refine lv_aload_n hx hb dL_law_1583 rfl (lv_at hl 0 rfl) ?_
  refine lv_iload hx hb dL_law_1584 (lv_at hl 4 rfl) ?_
  refine lv_iconst (v := 1) hx hb dL_law_1586 (by decide) ?_
  refine lv_iadd hx hb dL_law_1587 ?_
  refine va_sld hx hb hX hbl hbA hS (hin 1 (by decide)) dL_law_1588 ?_
  refine lv_aload_n hx hb dL_law_1589 rfl (lv_at hl 0 rfl) ?_
  refine lv_iload hx hb dL_law_1590 (lv_at hl 4 rfl) ?_
  refine lv_iconst (v := 2) hx hb dL_law_1592 (by decide) ?_
  refine lv_iadd hx hb dL_law_1593 ?_
  refine va_sld hx hb hX hbl hbA hS (hin 2 (by decide)) dL_law_1594 ?_
  obtain ⟨r, t, y1, y2, y3, y4, y5, y6, y7, y8, y9, z1, z2, z3, z4, z5, z6, z7, z8, e1, e2, h4⟩ := jW_won hw (xs (x4 + 1).toNatClampNeg) (xs (x4 + 2).toNatClampNeg) (ci 1) (ci 36) (ci 37) (ci 38) (ci 39) (ci 40) (ci 41) (ci 42) (ca 27) (ca 28) (ri 0) (ri 1) (ri 2) (ri 17) (ri 18) (ri 19) (ri 20) (ri 21) (ri 22) (ri 23) (ra 2)
  have hf1 := e1
  refine k11_won S0 hK hA hl.1 hf hP hD hS  hf1 (fun H1 locs1 hP hD hS => ?_)
  refine lv_aload_n hx hb dL_law_1598 rfl (lv_at hl 2 rfl) ?_
  refine lv_aload_n hx hb dL_law_1599 rfl (lv_at hl 0 rfl) ?_
  refine lv_iload hx hb dL_law_1600 (lv_at hl 4 rfl) ?_
  refine lv_iconst (v := 1) hx hb dL_law_1602 (by decide) ?_
  refine lv_iadd hx hb dL_law_1603 ?_
  refine va_sld hx hb hX hbl hbA hS (hin 1 (by decide)) dL_law_1604 ?_
  refine lv_aload_n hx hb dL_law_1605 rfl (lv_at hl 0 rfl) ?_
  refine lv_iload hx hb dL_law_1606 (lv_at hl 4 rfl) ?_
  refine lv_iconst (v := 2) hx hb dL_law_1608 (by decide) ?_
  refine lv_iadd hx hb dL_law_1609 ?_
  refine va_sld hx hb hX hbl hbA hS (hin 2 (by decide)) dL_law_1610 ?_
  refine k13_won (.int r) (by show 1 ≤ 2; decide) S0 hK hA hl.1 hf (vaP_perm hP (toR _ _ _ _ _)) (vaD_perm hD (toR _ _ _ _ _)) hS e2 (fun H1 locs1 hP hD hS => ?_)
  refine lv_icmp_eq (tgt := 2028) hx hb dL_law_1614 (by decide) (fun _ => ?_) (fun cd => absurd rfl cd)
  refine kk H1 locs1 (Or.inr ⟨(u1 (u1 (u1 (u1 (u1 (u1 (u1 (u1 ci 1 t) 36 y1) 37 y2) 38 y3) 39 y4) 40 y5) 41 y6) 42 y7), (u1 (u1 ca 27 y8) 28 y9), cl, cj, K, M, mr, (u1 (u1 (u1 (u1 (u1 (u1 (u1 (u1 (u1 (u1 ri 0 0) 1 t) 2 (-1)) 17 z1) 18 z2) 19 z3) 20 z4) 21 z5) 22 z6) 23 z7), (u1 ra 2 z8), rk, ow, wd, wx, wi, wa, ⟨hc.t h4, ⟨nb, hnb, hb1, hb2⟩, ht, hT, hJ⟩, (hw.mono (Nat.le_succ k)), vaP_perm hP (toR _ _ _ _ _).symm, vaD_perm hD (toR _ _ _ _ _).symm⟩) hS

set_option maxHeartbeats 4000000 in
set_option maxRecDepth 100000 in
theorem csN_acrossIn (S0 : CallFix p m c cL_law 7 s #[Value.ref b] wl_L RL) (hK : SK D cy s) (hA : ∀ q, s.heap.size ≤ q → A q) (hX : va_X b L xs s s.heap) (hbl : b < s.heap.size) (hbA : ¬ A b) (hf : cells ≤ room_1.cells ∧ slots ≤ room_1.slots) (hak : AK pk pm ka ma) (hk : k < 1000) (hin : ∀ j : Int32, j ∈ [1, 2, 3, 4, 5] → vp_in (x4 + j) L) (I : LN D cy A ad pk pm ka ma rd ao H) (hS : va_S A s.heap H locs) (hl : lv_has ls 7 [(0, .ref b), (1, .ref (ad 0)), (2, .ref (rd 0)), (3, .ref ao), (4, .int x4)]) (kk : ∀ (H1 : Heap) (locs1 : List Loc), LI D cy A ad pk pm ka ma rd ao (k + 1) H1 → va_S A s.heap H1 locs1 → W p l e room_1 s m #[Value.ref b] below meth c H1 locs1 cells slots Q (F0 m 2028 ls [])) : W p l e room_1 s m #[Value.ref b] below meth c H locs cells slots Q (F0 m 1619 ls []) := by
  have hx := S0.1
  have hb := S0.2.1
  obtain ⟨ci, ca, cl, cj, K, M, mr, ri, ra, rk, ow, ⟨hc, ⟨nb, hnb, hb1, hb2⟩, ht, hT, hJ⟩, hz, hP, hD⟩ := I
  obtain ⟨⟨z1, z2, z3, z4, z5, z6, z7⟩, ⟨z8, z9⟩, ⟨z10, z11⟩, Lt, hLt, zL⟩ := id hz
  refine lv_aload_n hx hb dL_law_1619 rfl (lv_at hl 1 rfl) ?_
  refine lv_aload_n hx hb dL_law_1620 rfl (lv_at hl 0 rfl) ?_
  refine lv_iload hx hb dL_law_1621 (lv_at hl 4 rfl) ?_
  refine lv_iconst (v := 1) hx hb dL_law_1623 (by decide) ?_
  refine lv_iadd hx hb dL_law_1624 ?_
  refine va_sld hx hb hX hbl hbA hS (hin 1 (by decide)) dL_law_1625 ?_
  refine lv_aload_n hx hb dL_law_1626 rfl (lv_at hl 0 rfl) ?_
  refine lv_iload hx hb dL_law_1627 (lv_at hl 4 rfl) ?_
  refine lv_iconst (v := 2) hx hb dL_law_1629 (by decide) ?_
  refine lv_iadd hx hb dL_law_1630 ?_
  refine va_sld hx hb hX hbl hbA hS (hin 2 (by decide)) dL_law_1631 ?_
  refine lv_aload_n hx hb dL_law_1632 rfl (lv_at hl 0 rfl) ?_
  refine lv_iload hx hb dL_law_1633 (lv_at hl 4 rfl) ?_
  refine lv_iconst (v := 3) hx hb dL_law_1635 (by decide) ?_
  refine lv_iadd hx hb dL_law_1636 ?_
  refine va_sld hx hb hX hbl hbA hS (hin 3 (by decide)) dL_law_1637 ?_
  have hf1 : f_X11_acrossIn (ci 1) (ci 19) (ci 21) (ca 12) (ca 14) (ca 16) (ci 25) (ci 26) (ca 19) (ca 20) (ca 21) (ci 36) (ci 37) (ci 38) (ci 39) (ci 40) (ci 41) (ci 42) (ca 27) (ca 28) (xs (x4 + 1).toNatClampNeg) (xs (x4 + 2).toNatClampNeg) (xs (x4 + 3).toNatClampNeg) = some (-1, 1, (ci 36), (ci 37), (ci 38), (ci 39), (ci 40), (ci 41), (ci 42), (ca 27), (ca 28)) := by rw [z4]; exact z_acrossIn _ _ _ _ _ _ _ _ _ _ _ _ _ _ _ _ _ _ _ _ _ _
  refine k11_acrossIn S0 hK hA hl.1 hf hP hD hS  hf1 (fun H1 locs1 hP hD hS => ?_)
  refine lv_aload_n hx hb dL_law_1641 rfl (lv_at hl 2 rfl) ?_
  refine lv_aload_n hx hb dL_law_1642 rfl (lv_at hl 0 rfl) ?_
  refine lv_iload hx hb dL_law_1643 (lv_at hl 4 rfl) ?_
  refine lv_iconst (v := 1) hx hb dL_law_1645 (by decide) ?_
  refine lv_iadd hx hb dL_law_1646 ?_
  refine va_sld hx hb hX hbl hbA hS (hin 1 (by decide)) dL_law_1647 ?_
  refine lv_aload_n hx hb dL_law_1648 rfl (lv_at hl 0 rfl) ?_
  refine lv_iload hx hb dL_law_1649 (lv_at hl 4 rfl) ?_
  refine lv_iconst (v := 2) hx hb dL_law_1651 (by decide) ?_
  refine lv_iadd hx hb dL_law_1652 ?_
  refine va_sld hx hb hX hbl hbA hS (hin 2 (by decide)) dL_law_1653 ?_
  refine lv_aload_n hx hb dL_law_1654 rfl (lv_at hl 0 rfl) ?_
  refine lv_iload hx hb dL_law_1655 (lv_at hl 4 rfl) ?_
  refine lv_iconst (v := 3) hx hb dL_law_1657 (by decide) ?_
  refine lv_iadd hx hb dL_law_1658 ?_
  refine va_sld hx hb hX hbl hbA hS (hin 3 (by decide)) dL_law_1659 ?_
  refine k13_acrossIn_n (.int (-1 : Int32)) (by show 1 ≤ 2; decide) S0 hK hA hl.1 hf (vaP_perm hP (toR _ _ _ _ _)) (vaD_perm hD (toR _ _ _ _ _)) hS (zn_acrossIn _ _ _ _ _ _) (fun H1 locs1 hP hD hS => ?_)
  refine lv_icmp_eq (tgt := 2028) hx hb dL_law_1663 (by decide) (fun _ => ?_) (fun cd => absurd rfl cd)
  refine kk H1 locs1 (Or.inl ⟨(u1 (u1 (u1 (u1 (u1 (u1 (u1 (u1 ci 1 1) 36 (ci 36)) 37 (ci 37)) 38 (ci 38)) 39 (ci 39)) 40 (ci 40)) 41 (ci 41)) 42 (ci 42)), (u1 (u1 ca 27 (ca 27)) 28 (ca 28)), cl, cj, K, M, mr, (u1 (u1 (u1 ri 0 0) 1 1) 2 (-1)), ra, rk, ow, ⟨hc.t (t := 1) (show ¬ (1 : Int32) = 4 by decide), ⟨nb, hnb, hb1, hb2⟩, ht, hT, hJ⟩, hz, vaP_perm hP (toR _ _ _ _ _).symm, vaD_perm hD (toR _ _ _ _ _).symm⟩) hS

set_option maxHeartbeats 4000000 in
set_option maxRecDepth 100000 in
theorem csW_acrossIn (S0 : CallFix p m c cL_law 7 s #[Value.ref b] wl_L RL) (hK : SK D cy s) (hA : ∀ q, s.heap.size ≤ q → A q) (hX : va_X b L xs s s.heap) (hbl : b < s.heap.size) (hbA : ¬ A b) (hf : cells ≤ room_1.cells ∧ slots ≤ room_1.slots) (hak : AK pk pm ka ma) (hk : k < 1000) (hin : ∀ j : Int32, j ∈ [1, 2, 3, 4, 5] → vp_in (x4 + j) L) (I : LW D cy A ad pk pm ka ma rd ao k H) (hS : va_S A s.heap H locs) (hl : lv_has ls 7 [(0, .ref b), (1, .ref (ad 0)), (2, .ref (rd 0)), (3, .ref ao), (4, .int x4)]) (kk : ∀ (H1 : Heap) (locs1 : List Loc), LI D cy A ad pk pm ka ma rd ao (k + 1) H1 → va_S A s.heap H1 locs1 → W p l e room_1 s m #[Value.ref b] below meth c H1 locs1 cells slots Q (F0 m 2028 ls [])) : W p l e room_1 s m #[Value.ref b] below meth c H locs cells slots Q (F0 m 1619 ls []) := by
  have hx := S0.1
  have hb := S0.2.1
  obtain ⟨ci, ca, cl, cj, K, M, mr, ri, ra, rk, ow, wd, wx, wi, wa, ⟨hc, ⟨nb, hnb, hb1, hb2⟩, ht, hT, hJ⟩, hw, hP, hD⟩ := I
  refine lv_aload_n hx hb dL_law_1619 rfl (lv_at hl 1 rfl) ?_
  refine lv_aload_n hx hb dL_law_1620 rfl (lv_at hl 0 rfl) ?_
  refine lv_iload hx hb dL_law_1621 (lv_at hl 4 rfl) ?_
  refine lv_iconst (v := 1) hx hb dL_law_1623 (by decide) ?_
  refine lv_iadd hx hb dL_law_1624 ?_
  refine va_sld hx hb hX hbl hbA hS (hin 1 (by decide)) dL_law_1625 ?_
  refine lv_aload_n hx hb dL_law_1626 rfl (lv_at hl 0 rfl) ?_
  refine lv_iload hx hb dL_law_1627 (lv_at hl 4 rfl) ?_
  refine lv_iconst (v := 2) hx hb dL_law_1629 (by decide) ?_
  refine lv_iadd hx hb dL_law_1630 ?_
  refine va_sld hx hb hX hbl hbA hS (hin 2 (by decide)) dL_law_1631 ?_
  refine lv_aload_n hx hb dL_law_1632 rfl (lv_at hl 0 rfl) ?_
  refine lv_iload hx hb dL_law_1633 (lv_at hl 4 rfl) ?_
  refine lv_iconst (v := 3) hx hb dL_law_1635 (by decide) ?_
  refine lv_iadd hx hb dL_law_1636 ?_
  refine va_sld hx hb hX hbl hbA hS (hin 3 (by decide)) dL_law_1637 ?_
  obtain ⟨r, t, y1, y2, y3, y4, y5, y6, y7, y8, y9, z1, z2, z3, z4, z5, z6, z7, z8, e1, e2, h4⟩ := jW_acrossIn hw (xs (x4 + 1).toNatClampNeg) (xs (x4 + 2).toNatClampNeg) (xs (x4 + 3).toNatClampNeg) (ci 1) (ci 36) (ci 37) (ci 38) (ci 39) (ci 40) (ci 41) (ci 42) (ca 27) (ca 28) (ri 0) (ri 1) (ri 2) (ri 17) (ri 18) (ri 19) (ri 20) (ri 21) (ri 22) (ri 23) (ra 2)
  have hf1 := e1
  refine k11_acrossIn S0 hK hA hl.1 hf hP hD hS  hf1 (fun H1 locs1 hP hD hS => ?_)
  refine lv_aload_n hx hb dL_law_1641 rfl (lv_at hl 2 rfl) ?_
  refine lv_aload_n hx hb dL_law_1642 rfl (lv_at hl 0 rfl) ?_
  refine lv_iload hx hb dL_law_1643 (lv_at hl 4 rfl) ?_
  refine lv_iconst (v := 1) hx hb dL_law_1645 (by decide) ?_
  refine lv_iadd hx hb dL_law_1646 ?_
  refine va_sld hx hb hX hbl hbA hS (hin 1 (by decide)) dL_law_1647 ?_
  refine lv_aload_n hx hb dL_law_1648 rfl (lv_at hl 0 rfl) ?_
  refine lv_iload hx hb dL_law_1649 (lv_at hl 4 rfl) ?_
  refine lv_iconst (v := 2) hx hb dL_law_1651 (by decide) ?_
  refine lv_iadd hx hb dL_law_1652 ?_
  refine va_sld hx hb hX hbl hbA hS (hin 2 (by decide)) dL_law_1653 ?_
  refine lv_aload_n hx hb dL_law_1654 rfl (lv_at hl 0 rfl) ?_
  refine lv_iload hx hb dL_law_1655 (lv_at hl 4 rfl) ?_
  refine lv_iconst (v := 3) hx hb dL_law_1657 (by decide) ?_
  refine lv_iadd hx hb dL_law_1658 ?_
  refine va_sld hx hb hX hbl hbA hS (hin 3 (by decide)) dL_law_1659 ?_
  refine k13_acrossIn (.int r) (by show 1 ≤ 2; decide) S0 hK hA hl.1 hf (vaP_perm hP (toR _ _ _ _ _)) (vaD_perm hD (toR _ _ _ _ _)) hS e2 (fun H1 locs1 hP hD hS => ?_)
  refine lv_icmp_eq (tgt := 2028) hx hb dL_law_1663 (by decide) (fun _ => ?_) (fun cd => absurd rfl cd)
  refine kk H1 locs1 (Or.inr ⟨(u1 (u1 (u1 (u1 (u1 (u1 (u1 (u1 ci 1 t) 36 y1) 37 y2) 38 y3) 39 y4) 40 y5) 41 y6) 42 y7), (u1 (u1 ca 27 y8) 28 y9), cl, cj, K, M, mr, (u1 (u1 (u1 (u1 (u1 (u1 (u1 (u1 (u1 (u1 ri 0 0) 1 t) 2 (-1)) 17 z1) 18 z2) 19 z3) 20 z4) 21 z5) 22 z6) 23 z7), (u1 ra 2 z8), rk, ow, wd, wx, wi, wa, ⟨hc.t h4, ⟨nb, hnb, hb1, hb2⟩, ht, hT, hJ⟩, (hw.mono (Nat.le_succ k)), vaP_perm hP (toR _ _ _ _ _).symm, vaD_perm hD (toR _ _ _ _ _).symm⟩) hS

end LC
