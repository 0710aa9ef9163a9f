theorem JW.new {k : Nat} {a : AS} {C : Nat} {q : Nat → Nat} {B U ps L : Nat} {wh kd md pr pb st at' wd v' rwh rkd rmd rpr rlo : Nat → Int32} (ok : okA a) (kw : okW 0 a) (rc : rCl a wh kd md st wd) (ra : rI (a 0 2) at' (a 5)) (rp : rI (a 0 2) pr (a 3)) (rm : rMo a rwh rkd rmd v') (rp' : rI (a 0 2) rpr (a 3)) (ci : rCi C q pb rlo) (hB : B < 64) (hU : U < 64) (e0 : a 0 3 = 0 ∧ a 0 4 = 0 ∧ a 0 5 = 0) (hL : L < 16) (K M : Nat → ST) (past kept : Nat → Int32) : JW k (nI (a 0 0)) (nI (a 0 1)) (nI B) (nI (a 0 2)) (nI C) (nI ps) (nI U) wh kd md pr pb (0, 0, 0, st, at', wd) (nI L) 0 0 K M 0 0 v' past kept (nI (a 0 0)) (nI (a 0 1)) (nI (popN B)) (nI (a 0 2)) (nI C) (nI ps) (nI U) rwh rkd rmd rpr rlo := by
  refine ⟨a, 0, L, 0, C, q, B, U, nI ps, ⟨⟨rfl, rfl, rfl, rfl, rfl, rfl, rfl⟩, ⟨rfl, rfl, rfl, rfl, rfl⟩, rfl, rfl, rfl, rfl, rfl, rfl, rfl⟩, ⟨⟨rc.1, rc.2.1, rc.2.2.1, rp⟩, ⟨rm.1, rm.2.1, rm.2.2.1, rp'⟩, ci, hB, hU⟩, ok, kw.mono (Nat.zero_le k), ⟨?_, ?_, ?_, rc.2.2.2.1, ra, rc.2.2.2.2⟩, rm.2.2.2, ⟨Nat.zero_le _, hL, fun j hj => absurd hj (Nat.not_lt_zero j)⟩, Nat.zero_le _, fun j hj => absurd hj (Nat.not_lt_zero j)⟩
  · rw [e0.1]; rfl
  · rw [e0.2.1]; rfl
  · rw [e0.2.2]; rfl

theorem dropS (P V X : va_W) : (P ++ X).Sublist (P ++ (V ++ X)) := (List.sublist_append_right V X).append_left P
theorem dropV {P V X : va_W} {q : Nat × va_E} (h : q ∈ P ++ X) : q ∈ P ++ (V ++ X) := (dropS P V X).subset h

section LC
variable {p : Program} {l : Launch} {e : Env} {s : State} {m : MethodId} {below : List Frame} {meth : Method} {c : Code} {H : Heap} {locs : List Loc} {cells slots : Nat} {Q : State → Prop} {b L : Nat} {xs : Nat → Int32} {D : va_G} {cy : Nat → ClassId} {A : Nat → Prop} {ls : Array Slot} {ad rd : Nat → Nat} {pk pm : Nat → Option Nat} {ka ma : Nat → Nat → Nat} {ao k : Nat} {x4 : Int32}
variable {sa sv : Nat → Nat}

set_option maxHeartbeats 4000000 in
set_option maxRecDepth 100000 in
theorem csN_fault (S0 : CallFix p m c cL_law 7 s #[Value.ref b] wl_L RL) (hK : SK D cy s) (hA : ∀ q, s.heap.size ≤ q → A q) (hX : va_X b L xs s s.heap) (hbl : b < s.heap.size) (hbA : ¬ A b) (hf : cells ≤ room_1.cells ∧ slots ≤ room_1.slots) (hak : AK pk pm ka ma) (hk : k < 1000) (hin : ∀ j : Int32, j ∈ [1, 2, 3, 4, 5] → vp_in (x4 + j) L) (I : LN D cy A ad pk pm ka ma rd ao H) (hS : va_S A s.heap H locs) (hl : lv_has ls 7 [(0, .ref b), (1, .ref (ad 0)), (2, .ref (rd 0)), (3, .ref ao), (4, .int x4)]) (kk : ∀ (H1 : Heap) (locs1 : List Loc), LI D cy A ad pk pm ka ma rd ao (k + 1) H1 → va_S A s.heap H1 locs1 → W p l e room_1 s m #[Value.ref b] below meth c H1 locs1 cells slots Q (F0 m 2028 ls [])) : W p l e room_1 s m #[Value.ref b] below meth c H locs cells slots Q (F0 m 358 ls []) := by
  have hx := S0.1
  have hb := S0.2.1
  obtain ⟨ci, ca, cl, cj, K, M, mr, ri, ra, rk, ow, ⟨hc, ⟨nb, hnb, hb1, hb2⟩, ht, hT, hJ⟩, hz, hP, hD⟩ := I
  refine lv_aload_n hx hb dL_law_358 rfl (lv_at hl 1 rfl) ?_
  refine k11_fault S0 hK hA hl.1 hf hP hD hS (rfl : f_X11_fault (ci 2) = some (ci 2)) ?_
  refine lv_aload_n hx hb dL_law_362 rfl (lv_at hl 2 rfl) ?_
  refine k13_fault (.int (ci 2)) (by show 1 ≤ 2; decide) S0 hK hA hl.1 hf (vaP_perm hP (toR _ _ _ _ _)) (vaD_perm hD (toR _ _ _ _ _)) hS (rfl : f_X13_fault (ri 0) (ri 9) = some ((ri 9), 0)) (fun H1 locs1 hP hD hS => ?_)
  refine lv_icmp_eq (tgt := 2028) hx hb dL_law_366 (by decide) (fun _ => ?_) (fun cd => absurd (hc.2.1.symm) cd)
  exact kk H1 locs1 (Or.inl ⟨ci, ca, cl, cj, K, M, mr, (u1 ri 0 0), ra, rk, ow, ⟨hc, ⟨nb, hnb, hb1, hb2⟩, ht, hT, hJ⟩, hz, vaP_perm hP (toR _ _ _ _ _).symm, vaD_perm hD (toR _ _ _ _ _).symm⟩) hS

set_option maxHeartbeats 4000000 in
set_option maxRecDepth 100000 in
theorem csW_fault (S0 : CallFix p m c cL_law 7 s #[Value.ref b] wl_L RL) (hK : SK D cy s) (hA : ∀ q, s.heap.size ≤ q → A q) (hX : va_X b L xs s s.heap) (hbl : b < s.heap.size) (hbA : ¬ A b) (hf : cells ≤ room_1.cells ∧ slots ≤ room_1.slots) (hak : AK pk pm ka ma) (hk : k < 1000) (hin : ∀ j : Int32, j ∈ [1, 2, 3, 4, 5] → vp_in (x4 + j) L) (I : LW D cy A ad pk pm ka ma rd ao k H) (hS : va_S A s.heap H locs) (hl : lv_has ls 7 [(0, .ref b), (1, .ref (ad 0)), (2, .ref (rd 0)), (3, .ref ao), (4, .int x4)]) (kk : ∀ (H1 : Heap) (locs1 : List Loc), LI D cy A ad pk pm ka ma rd ao (k + 1) H1 → va_S A s.heap H1 locs1 → W p l e room_1 s m #[Value.ref b] below meth c H1 locs1 cells slots Q (F0 m 2028 ls [])) : W p l e room_1 s m #[Value.ref b] below meth c H locs cells slots Q (F0 m 358 ls []) := by
  have hx := S0.1
  have hb := S0.2.1
  obtain ⟨ci, ca, cl, cj, K, M, mr, ri, ra, rk, ow, wd, wx, wi, wa, ⟨hc, ⟨nb, hnb, hb1, hb2⟩, ht, hT, hJ⟩, hw, hP, hD⟩ := I
  refine lv_aload_n hx hb dL_law_358 rfl (lv_at hl 1 rfl) ?_
  refine k11_fault S0 hK hA hl.1 hf hP hD hS (rfl : f_X11_fault (ci 2) = some (ci 2)) ?_
  refine lv_aload_n hx hb dL_law_362 rfl (lv_at hl 2 rfl) ?_
  refine k13_fault (.int (ci 2)) (by show 1 ≤ 2; decide) S0 hK hA hl.1 hf (vaP_perm hP (toR2 _ _ _ _ _ _)) (vaD_perm hD (toR2 _ _ _ _ _ _)) hS (rfl : f_X13_fault (ri 0) (ri 9) = some ((ri 9), 0)) (fun H1 locs1 hP hD hS => ?_)
  refine lv_icmp_eq (tgt := 2028) hx hb dL_law_366 (by decide) (fun _ => ?_) (fun cd => absurd (hc.2.1.symm) cd)
  exact kk H1 locs1 (Or.inr ⟨ci, ca, cl, cj, K, M, mr, (u1 ri 0 0), ra, rk, ow, wd, wx, wi, wa, ⟨hc, ⟨nb, hnb, hb1, hb2⟩, ht, hT, hJ⟩, hw.mono (Nat.le_succ k), vaP_perm hP (toR2 _ _ _ _ _ _).symm, vaD_perm hD (toR2 _ _ _ _ _ _).symm⟩) hS

set_option maxHeartbeats 4000000 in
set_option maxRecDepth 100000 in
theorem csN_where (S0 : CallFix p m c cL_law 7 s #[Value.ref b] wl_L RL) (hK : SK D cy s) (hA : ∀ q, s.heap.size ≤ q → A q) (hX : va_X b L xs s s.heap) (hbl : b < s.heap.size) (hbA : ¬ A b) (hf : cells ≤ room_1.cells ∧ slots ≤ room_1.slots) (hak : AK pk pm ka ma) (hk : k < 1000) (hin : ∀ j : Int32, j ∈ [1, 2, 3, 4, 5] → vp_in (x4 + j) L) (I : LN D cy A ad pk pm ka ma rd ao H) (hS : va_S A s.heap H locs) (hl : lv_has ls 7 [(0, .ref b), (1, .ref (ad 0)), (2, .ref (rd 0)), (3, .ref ao), (4, .int x4)]) (kk : ∀ (H1 : Heap) (locs1 : List Loc), LI D cy A ad pk pm ka ma rd ao (k + 1) H1 → va_S A s.heap H1 locs1 → W p l e room_1 s m #[Value.ref b] below meth c H1 locs1 cells slots Q (F0 m 2028 ls [])) : W p l e room_1 s m #[Value.ref b] below meth c H locs cells slots Q (F0 m 371 ls []) := by
  have hx := S0.1
  have hb := S0.2.1
  obtain ⟨ci, ca, cl, cj, K, M, mr, ri, ra, rk, ow, ⟨hc, ⟨nb, hnb, hb1, hb2⟩, ht, hT, hJ⟩, hz, hP, hD⟩ := I
  refine lv_aload_n hx hb dL_law_371 rfl (lv_at hl 1 rfl) ?_
  have hf1 : f_X11_where (ci 1) (ci 3) = some (if (ci 1) = 4 then (ci 3) else -1) := by
    unfold f_X11_where
    by_cases h4 : (ci 1) = 4
    · rw [if_pos h4, if_pos h4]
    · rw [if_neg h4, if_neg h4]
  refine k11_where S0 hK hA hl.1 hf hP hD hS hf1 ?_
  refine lv_aload_n hx hb dL_law_375 rfl (lv_at hl 2 rfl) ?_
  refine k13_where (.int (if (ci 1) = 4 then (ci 3) else -1)) (by show 1 ≤ 2; decide) S0 hK hA hl.1 hf (vaP_perm hP (toR _ _ _ _ _)) (vaD_perm hD (toR _ _ _ _ _)) hS (rfl : f_X13_where (ri 0) (ri 2) = some ((ri 2), 0)) (fun H1 locs1 hP hD hS => ?_)
  refine lv_icmp_eq (tgt := 2028) hx hb dL_law_379 (by decide) (fun _ => ?_) (fun cd => absurd (hc.2.2.symm) cd)
  exact kk H1 locs1 (Or.inl ⟨ci, ca, cl, cj, K, M, mr, (u1 ri 0 0), ra, rk, ow, ⟨hc, ⟨nb, hnb, hb1, hb2⟩, ht, hT, hJ⟩, hz, vaP_perm hP (toR _ _ _ _ _).symm, vaD_perm hD (toR _ _ _ _ _).symm⟩) hS

set_option maxHeartbeats 4000000 in
set_option maxRecDepth 100000 in
theorem csW_where (S0 : CallFix p m c cL_law 7 s #[Value.ref b] wl_L RL) (hK : SK D cy s) (hA : ∀ q, s.heap.size ≤ q → A q) (hX : va_X b L xs s s.heap) (hbl : b < s.heap.size) (hbA : ¬ A b) (hf : cells ≤ room_1.cells ∧ slots ≤ room_1.slots) (hak : AK pk pm ka ma) (hk : k < 1000) (hin : ∀ j : Int32, j ∈ [1, 2, 3, 4, 5] → vp_in (x4 + j) L) (I : LW D cy A ad pk pm ka ma rd ao k H) (hS : va_S A s.heap H locs) (hl : lv_has ls 7 [(0, .ref b), (1, .ref (ad 0)), (2, .ref (rd 0)), (3, .ref ao), (4, .int x4)]) (kk : ∀ (H1 : Heap) (locs1 : List Loc), LI D cy A ad pk pm ka ma rd ao (k + 1) H1 → va_S A s.heap H1 locs1 → W p l e room_1 s m #[Value.ref b] below meth c H1 locs1 cells slots Q (F0 m 2028 ls [])) : W p l e room_1 s m #[Value.ref b] below meth c H locs cells slots Q (F0 m 371 ls []) := by
  have hx := S0.1
  have hb := S0.2.1
  obtain ⟨ci, ca, cl, cj, K, M, mr, ri, ra, rk, ow, wd, wx, wi, wa, ⟨hc, ⟨nb, hnb, hb1, hb2⟩, ht, hT, hJ⟩, hw, hP, hD⟩ := I
  refine lv_aload_n hx hb dL_law_371 rfl (lv_at hl 1 rfl) ?_
  have hf1 : f_X11_where (ci 1) (ci 3) = some (if (ci 1) = 4 then (ci 3) else -1) := by
    unfold f_X11_where
    by_cases h4 : (ci 1) = 4
    · rw [if_pos h4, if_pos h4]
    · rw [if_neg h4, if_neg h4]
  refine k11_where S0 hK hA hl.1 hf hP hD hS hf1 ?_
  refine lv_aload_n hx hb dL_law_375 rfl (lv_at hl 2 rfl) ?_
  refine k13_where (.int (if (ci 1) = 4 then (ci 3) else -1)) (by show 1 ≤ 2; decide) S0 hK hA hl.1 hf (vaP_perm hP (toR2 _ _ _ _ _ _)) (vaD_perm hD (toR2 _ _ _ _ _ _)) hS (rfl : f_X13_where (ri 0) (ri 2) = some ((ri 2), 0)) (fun H1 locs1 hP hD hS => ?_)
  refine lv_icmp_eq (tgt := 2028) hx hb dL_law_379 (by decide) (fun _ => ?_) (fun cd => absurd (hc.2.2.symm) cd)
  exact kk H1 locs1 (Or.inr ⟨ci, ca, cl, cj, K, M, mr, (u1 ri 0 0), ra, rk, ow, wd, wx, wi, wa, ⟨hc, ⟨nb, hnb, hb1, hb2⟩, ht, hT, hJ⟩, hw.mono (Nat.le_succ k), vaP_perm hP (toR2 _ _ _ _ _ _).symm, vaD_perm hD (toR2 _ _ _ _ _ _).symm⟩) hS

set_option maxHeartbeats 4000000 in
set_option maxRecDepth 100000 in
theorem csN_trouble (S0 : CallFix p m c cL_law 7 s #[Value.ref b] wl_L RL) (hK : SK D cy s) (hA : ∀ q, s.heap.size ≤ q → A q) (hX : va_X b L xs s s.heap) (hbl : b < s.heap.size) (hbA : ¬ A b) (hf : cells ≤ room_1.cells ∧ slots ≤ room_1.slots) (hak : AK pk pm ka ma) (hk : k < 1000) (hin : ∀ j : Int32, j ∈ [1, 2, 3, 4, 5] → vp_in (x4 + j) L) (I : LN D cy A ad pk pm ka ma rd ao H) (hS : va_S A s.heap H locs) (hl : lv_has ls 7 [(0, .ref b), (1, .ref (ad 0)), (2, .ref (rd 0)), (3, .ref ao), (4, .int x4)]) (kk : ∀ (H1 : Heap) (locs1 : List Loc), LI D cy A ad pk pm ka ma rd ao (k + 1) H1 → va_S A s.heap H1 locs1 → W p l e room_1 s m #[Value.ref b] below meth c H1 locs1 cells slots Q (F0 m 2028 ls [])) : W p l e room_1 s m #[Value.ref b] below meth c H locs cells slots Q (F0 m 2015 ls []) := by
  have hx := S0.1
  have hb := S0.2.1
  obtain ⟨ci, ca, cl, cj, K, M, mr, ri, ra, rk, ow, ⟨hc, ⟨nb, hnb, hb1, hb2⟩, ht, hT, hJ⟩, hz, hP, hD⟩ := I
  refine lv_aload_n hx hb dL_law_2015 rfl (lv_at hl 1 rfl) ?_
  refine k11_trouble S0 hK hA hl.1 hf hP hD hS (rfl : f_X11_trouble (ci 1) = some (ci 1)) ?_
  refine lv_aload_n hx hb dL_law_2019 rfl (lv_at hl 2 rfl) ?_
  refine k13_trouble (.int (ci 1)) (by show 1 ≤ 2; decide) S0 hK hA hl.1 hf (vaP_perm hP (toR _ _ _ _ _)) (vaD_perm hD (toR _ _ _ _ _)) hS (rfl : f_X13_trouble (ri 0) (ri 1) = some ((ri 1), 0)) (fun H1 locs1 hP hD hS => ?_)
  refine lv_icmp_eq (tgt := 2028) hx hb dL_law_2023 (by decide) (fun _ => ?_) (fun cd => absurd (hc.1.symm) cd)
  exact kk H1 locs1 (Or.inl ⟨ci, ca, cl, cj, K, M, mr, (u1 ri 0 0), ra, rk, ow, ⟨hc, ⟨nb, hnb, hb1, hb2⟩, ht, hT, hJ⟩, hz, vaP_perm hP (toR _ _ _ _ _).symm, vaD_perm hD (toR _ _ _ _ _).symm⟩) hS

set_option maxHeartbeats 4000000 in
set_option maxRecDepth 100000 in
theorem csW_trouble (S0 : CallFix p m c cL_law 7 s #[Value.ref b] wl_L RL) (hK : SK D cy s) (hA : ∀ q, s.heap.size ≤ q → A q) (hX : va_X b L xs s s.heap) (hbl : b < s.heap.size) (hbA : ¬ A b) (hf : cells ≤ room_1.cells ∧ slots ≤ room_1.slots) (hak : AK pk pm ka ma) (hk : k < 1000) (hin : ∀ j : Int32, j ∈ [1, 2, 3, 4, 5] → vp_in (x4 + j) L) (I : LW D cy A ad pk pm ka ma rd ao k H) (hS : va_S A s.heap H locs) (hl : lv_has ls 7 [(0, .ref b), (1, .ref (ad 0)), (2, .ref (rd 0)), (3, .ref ao), (4, .int x4)]) (kk : ∀ (H1 : Heap) (locs1 : List Loc), LI D cy A ad pk pm ka ma rd ao (k + 1) H1 → va_S A s.heap H1 locs1 → W p l e room_1 s m #[Value.ref b] below meth c H1 locs1 cells slots Q (F0 m 2028 ls [])) : W p l e room_1 s m #[Value.ref b] below meth c H locs cells slots Q (F0 m 2015 ls []) := by
  have hx := S0.1
  have hb := S0.2.1
  obtain ⟨ci, ca, cl, cj, K, M, mr, ri, ra, rk, ow, wd, wx, wi, wa, ⟨hc, ⟨nb, hnb, hb1, hb2⟩, ht, hT, hJ⟩, hw, hP, hD⟩ := I
  refine lv_aload_n hx hb dL_law_2015 rfl (lv_at hl 1 rfl) ?_
  refine k11_trouble S0 hK hA hl.1 hf hP hD hS (rfl : f_X11_trouble (ci 1) = some (ci 1)) ?_
  refine lv_aload_n hx hb dL_law_2019 rfl (lv_at hl 2 rfl) ?_
  refine k13_trouble (.int (ci 1)) (by show 1 ≤ 2; decide) S0 hK hA hl.1 hf (vaP_perm hP (toR2 _ _ _ _ _ _)) (vaD_perm hD (toR2 _ _ _ _ _ _)) hS (rfl : f_X13_trouble (ri 0) (ri 1) = some ((ri 1), 0)) (fun H1 locs1 hP hD hS => ?_)
  refine lv_icmp_eq (tgt := 2028) hx hb dL_law_2023 (by decide) (fun _ => ?_) (fun cd => absurd (hc.1.symm) cd)
  exact kk H1 locs1 (Or.inr ⟨ci, ca, cl, cj, K, M, mr, (u1 ri 0 0), ra, rk, ow, wd, wx, wi, wa, ⟨hc, ⟨nb, hnb, hb1, hb2⟩, ht, hT, hJ⟩, hw.mono (Nat.le_succ k), vaP_perm hP (toR2 _ _ _ _ _ _).symm, vaD_perm hD (toR2 _ _ _ _ _ _).symm⟩) hS

set_option maxHeartbeats 4000000 in
set_option maxRecDepth 100000 in
theorem csN_size (S0 : CallFix p m c cL_law 7 s #[Value.ref b] wl_L RL) (hK : SK D cy s) (hA : ∀ q, s.heap.size ≤ q → A q) (hX : va_X b L xs s s.heap) (hbl : b < s.heap.size) (hbA : ¬ A b) (hf : cells ≤ room_1.cells ∧ slots ≤ room_1.slots) (hak : AK pk pm ka ma) (hk : k < 1000) (hin : ∀ j : Int32, j ∈ [1, 2, 3, 4, 5] → vp_in (x4 + j) L) (I : LN D cy A ad pk pm ka ma rd ao H) (hS : va_S A s.heap H locs) (hl : lv_has ls 7 [(0, .ref b), (1, .ref (ad 0)), (2, .ref (rd 0)), (3, .ref ao), (4, .int x4)]) (kk : ∀ (H1 : Heap) (locs1 : List Loc), LI D cy A ad pk pm ka ma rd ao (k + 1) H1 → va_S A s.heap H1 locs1 → W p l e room_1 s m #[Value.ref b] below meth c H1 locs1 cells slots Q (F0 m 2028 ls [])) : W p l e room_1 s m #[Value.ref b] below meth c H locs cells slots Q (F0 m 1990 ls []) := by
  have hx := S0.1
  have hb := S0.2.1
  obtain ⟨ci, ca, cl, cj, K, M, mr, ri, ra, rk, ow, ⟨hc, ⟨nb, hnb, hb1, hb2⟩, ht, hT, hJ⟩, hz, hP, hD⟩ := I
  refine lv_aload_n hx hb dL_law_1990 rfl (lv_at hl 1 rfl) ?_
  refine lv_aload_n hx hb dL_law_1991 rfl (lv_at hl 0 rfl) ?_
  refine lv_iload hx hb dL_law_1992 (lv_at hl 4 rfl) ?_
  refine lv_iconst (v := 1) hx hb dL_law_1994 (by decide) ?_
  refine lv_iadd hx hb dL_law_1995 ?_
  refine va_sld hx hb hX hbl hbA hS (hin 1 (by decide)) dL_law_1996 ?_
  obtain ⟨r, e1, e2⟩ := jZ_size hz (ci 0) (xs (x4 + 1).toNatClampNeg) (ri 0)
  rw [hb1, ← hb2] at e2
  refine k11_size S0 hK hA hl.1 hf hP hD hS e1 ?_
  refine lv_aload_n hx hb dL_law_2000 rfl (lv_at hl 2 rfl) ?_
  refine lv_aload_n hx hb dL_law_2001 rfl (lv_at hl 0 rfl) ?_
  refine lv_iload hx hb dL_law_2002 (lv_at hl 4 rfl) ?_
  refine lv_iconst (v := 1) hx hb dL_law_2004 (by decide) ?_
  refine lv_iadd hx hb dL_law_2005 ?_
  refine va_sld hx hb hX hbl hbA hS (hin 1 (by decide)) dL_law_2006 ?_
  refine k13_size_n (.int r) (by show 1 ≤ 2; decide) S0 hK hA hl.1 hf (vaP_perm hP (toR _ _ _ _ _)) (vaD_perm hD (toR _ _ _ _ _)) hS e2 (fun H1 locs1 hP hD hS => ?_)
  refine lv_icmp_eq (tgt := 2028) hx hb dL_law_2010 (by decide) (fun _ => ?_) (fun cd => absurd (rfl) cd)
  exact kk H1 locs1 (Or.inl ⟨ci, ca, cl, cj, K, M, mr, (u1 ri 0 0), ra, rk, ow, ⟨hc, ⟨nb, hnb, hb1, hb2⟩, ht, hT, hJ⟩, hz, vaP_perm hP (toR _ _ _ _ _).symm, vaD_perm hD (toR _ _ _ _ _).symm⟩) hS

set_option maxHeartbeats 4000000 in
set_option maxRecDepth 100000 in
theorem csW_size (S0 : CallFix p m c cL_law 7 s #[Value.ref b] wl_L RL) (hK : SK D cy s) (hA : ∀ q, s.heap.size ≤ q → A q) (hX : va_X b L xs s s.heap) (hbl : b < s.heap.size) (hbA : ¬ A b) (hf : cells ≤ room_1.cells ∧ slots ≤ room_1.slots) (hak : AK pk pm ka ma) (hk : k < 1000) (hin : ∀ j : Int32, j ∈ [1, 2, 3, 4, 5] → vp_in (x4 + j) L) (I : LW D cy A ad pk pm ka ma rd ao k H) (hS : va_S A s.heap H locs) (hl : lv_has ls 7 [(0, .ref b), (1, .ref (ad 0)), (2, .ref (rd 0)), (3, .ref ao), (4, .int x4)]) (kk : ∀ (H1 : Heap) (locs1 : List Loc), LI D cy A ad pk pm ka ma rd ao (k + 1) H1 → va_S A s.heap H1 locs1 → W p l e room_1 s m #[Value.ref b] below meth c H1 locs1 cells slots Q (F0 m 2028 ls [])) : W p l e room_1 s m #[Value.ref b] below meth c H locs cells slots Q (F0 m 1990 ls []) := by
  have hx := S0.1
  have hb := S0.2.1
  obtain ⟨ci, ca, cl, cj, K, M, mr, ri, ra, rk, ow, wd, wx, wi, wa, ⟨hc, ⟨nb, hnb, hb1, hb2⟩, ht, hT, hJ⟩, hw, hP, hD⟩ := I
  refine lv_aload_n hx hb dL_law_1990 rfl (lv_at hl 1 rfl) ?_
  refine lv_aload_n hx hb dL_law_1991 rfl (lv_at hl 0 rfl) ?_
  refine lv_iload hx hb dL_law_1992 (lv_at hl 4 rfl) ?_
  refine lv_iconst (v := 1) hx hb dL_law_1994 (by decide) ?_
  refine lv_iadd hx hb dL_law_1995 ?_
  refine va_sld hx hb hX hbl hbA hS (hin 1 (by decide)) dL_law_1996 ?_
  obtain ⟨r, e1, e2⟩ := jW_size hw (ci 0) (xs (x4 + 1).toNatClampNeg) (ri 0)
  rw [hb1, ← hb2] at e2
  refine k11_size S0 hK hA hl.1 hf hP hD hS e1 ?_
  refine lv_aload_n hx hb dL_law_2000 rfl (lv_at hl 2 rfl) ?_
  refine lv_aload_n hx hb dL_law_2001 rfl (lv_at hl 0 rfl) ?_
  refine lv_iload hx hb dL_law_2002 (lv_at hl 4 rfl) ?_
  refine lv_iconst (v := 1) hx hb dL_law_2004 (by decide) ?_
  refine lv_iadd hx hb dL_law_2005 ?_
  refine va_sld hx hb hX hbl hbA hS (hin 1 (by decide)) dL_law_2006 ?_
  refine k13_size (.int r) (by show 1 ≤ 2; decide) S0 hK hA hl.1 hf (vaP_perm hP (toR _ _ _ _ _)) (vaD_perm hD (toR _ _ _ _ _)) hS e2 (fun H1 locs1 hP hD hS => ?_)
  refine lv_icmp_eq (tgt := 2028) hx hb dL_law_2010 (by decide) (fun _ => ?_) (fun cd => absurd (rfl) cd)
  exact kk H1 locs1 (Or.inr ⟨ci, ca, cl, cj, K, M, mr, (u1 ri 0 0), ra, rk, ow, wd, wx, wi, wa, ⟨hc, ⟨nb, hnb, hb1, hb2⟩, ht, hT, hJ⟩, hw.mono (Nat.le_succ k), vaP_perm hP (toR _ _ _ _ _).symm, vaD_perm hD (toR _ _ _ _ _).symm⟩) hS

set_option maxHeartbeats 4000000 in
set_option maxRecDepth 100000 in
theorem csN_feed (S0 : CallFix p m c cL_law 7 s #[Value.ref b] wl_L RL) (hK : SK D cy s) (hA : ∀ q, s.heap.size ≤ q → A q) (hX : va_X b L xs s s.heap) (hbl : b < s.heap.size) (hbA : ¬ A b) (hf : cells ≤ room_1.cells ∧ slots ≤ room_1.slots) (hak : AK pk pm ka ma) (hk : k < 1000) (hin : ∀ j : Int32, j ∈ [1, 2, 3, 4, 5] → vp_in (x4 + j) L) (I : LN D cy A ad pk pm ka ma rd ao H) (hS : va_S A s.heap H locs) (hl : lv_has ls 7 [(0, .ref b), (1, .ref (ad 0)), (2, .ref (rd 0)), (3, .ref ao), (4, .int x4)]) (kk : ∀ (H1 : Heap) (locs1 : List Loc), LI D cy A ad pk pm ka ma rd ao (k + 1) H1 → va_S A s.heap H1 locs1 → W p l e room_1 s m #[Value.ref b] below meth c H1 locs1 cells slots Q (F0 m 2028 ls [])) : W p l e room_1 s m #[Value.ref b] below meth c H locs cells slots Q (F0 m 260 ls []) := by
  have hx := S0.1
  have hb := S0.2.1
  obtain ⟨ci, ca, cl, cj, K, M, mr, ri, ra, rk, ow, ⟨hc, ⟨nb, hnb, hb1, hb2⟩, ht, hT, hJ⟩, hz, hP, hD⟩ := I
  refine lv_aload_n hx hb dL_law_260 rfl (lv_at hl 1 rfl) ?_
  refine lv_aload_n hx hb dL_law_261 rfl (lv_at hl 0 rfl) ?_
  refine lv_iload hx hb dL_law_262 (lv_at hl 4 rfl) ?_
  refine lv_iconst (v := 1) hx hb dL_law_264 (by decide) ?_
  refine lv_iadd hx hb dL_law_265 ?_
  refine va_sld hx hb hX hbl hbA hS (hin 1 (by decide)) dL_law_266 ?_
  refine lv_aload_n hx hb dL_law_267 rfl (lv_at hl 0 rfl) ?_
  refine lv_iload hx hb dL_law_268 (lv_at hl 4 rfl) ?_
  refine lv_iconst (v := 2) hx hb dL_law_270 (by decide) ?_
  refine lv_iadd hx hb dL_law_271 ?_
  refine va_sld hx hb hX hbl hbA hS (hin 2 (by decide)) dL_law_272 ?_
  refine lv_aload_n hx hb dL_law_273 rfl (lv_at hl 0 rfl) ?_
  refine lv_iload hx hb dL_law_274 (lv_at hl 4 rfl) ?_
  refine lv_iconst (v := 3) hx hb dL_law_276 (by decide) ?_
  refine lv_iadd hx hb dL_law_277 ?_
  refine va_sld hx hb hX hbl hbA hS (hin 3 (by decide)) dL_law_278 ?_
  refine lv_aload_n hx hb dL_law_279 rfl (lv_at hl 0 rfl) ?_
  refine lv_iload hx hb dL_law_280 (lv_at hl 4 rfl) ?_
  refine lv_iconst (v := 4) hx hb dL_law_282 (by decide) ?_
  refine lv_iadd hx hb dL_law_283 ?_
  refine va_sld hx hb hX hbl hbA hS (hin 4 (by decide)) dL_law_284 ?_
  refine lv_aload_n hx hb dL_law_285 rfl (lv_at hl 0 rfl) ?_
  refine lv_iload hx hb dL_law_286 (lv_at hl 4 rfl) ?_
  refine lv_iconst (v := 5) hx hb dL_law_288 (by decide) ?_
  refine lv_iadd hx hb dL_law_289 ?_
  refine va_sld hx hb hX hbl hbA hS (hin 5 (by decide)) dL_law_290 ?_
  obtain ⟨r, n', tp', hn', e1, e2⟩ := q_feed hnb (ca 0) (xs (x4 + 1).toNatClampNeg) (xs (x4 + 2).toNatClampNeg) (xs (x4 + 3).toNatClampNeg) (xs (x4 + 4).toNatClampNeg) (xs (x4 + 5).toNatClampNeg) (ri 0)
  have hT' := feedB hnb hT e1
  rw [← hb1] at e1
  rw [← hb2, ← ht] at e2
  refine k11_feed S0 hK hA hl.1 hf hP hD hS e1 (fun H1 locs1 hP hD hS => ?_)
  refine lv_aload_n hx hb dL_law_294 rfl (lv_at hl 2 rfl) ?_
  refine lv_aload_n hx hb dL_law_295 rfl (lv_at hl 0 rfl) ?_
  refine lv_iload hx hb dL_law_296 (lv_at hl 4 rfl) ?_
  refine lv_iconst (v := 1) hx hb dL_law_298 (by decide) ?_
  refine lv_iadd hx hb dL_law_299 ?_
  refine va_sld hx hb hX hbl hbA hS (hin 1 (by decide)) dL_law_300 ?_
  refine lv_aload_n hx hb dL_law_301 rfl (lv_at hl 0 rfl) ?_
  refine lv_iload hx hb dL_law_302 (lv_at hl 4 rfl) ?_
  refine lv_iconst (v := 2) hx hb dL_law_304 (by decide) ?_
  refine lv_iadd hx hb dL_law_305 ?_
  refine va_sld hx hb hX hbl hbA hS (hin 2 (by decide)) dL_law_306 ?_
  refine lv_aload_n hx hb dL_law_307 rfl (lv_at hl 0 rfl) ?_
  refine lv_iload hx hb dL_law_308 (lv_at hl 4 rfl) ?_
  refine lv_iconst (v := 3) hx hb dL_law_310 (by decide) ?_
  refine lv_iadd hx hb dL_law_311 ?_
  refine va_sld hx hb hX hbl hbA hS (hin 3 (by decide)) dL_law_312 ?_
  refine lv_aload_n hx hb dL_law_313 rfl (lv_at hl 0 rfl) ?_
  refine lv_iload hx hb dL_law_314 (lv_at hl 4 rfl) ?_
  refine lv_iconst (v := 4) hx hb dL_law_316 (by decide) ?_
  refine lv_iadd hx hb dL_law_317 ?_
  refine va_sld hx hb hX hbl hbA hS (hin 4 (by decide)) dL_law_318 ?_
  refine lv_aload_n hx hb dL_law_319 rfl (lv_at hl 0 rfl) ?_
  refine lv_iload hx hb dL_law_320 (lv_at hl 4 rfl) ?_
  refine lv_iconst (v := 5) hx hb dL_law_322 (by decide) ?_
  refine lv_iadd hx hb dL_law_323 ?_
  refine va_sld hx hb hX hbl hbA hS (hin 5 (by decide)) dL_law_324 ?_
  refine k13_feed (.int r) (by show 1 ≤ 2; decide) S0 hK hA hl.1 hf (vaP_perm hP (toR _ _ _ _ _)) (vaD_perm hD (toR _ _ _ _ _)) hS e2 (fun H1 locs1 hP hD hS => ?_)
  refine lv_icmp_eq (tgt := 2028) hx hb dL_law_328 (by decide) (fun _ => ?_) (fun cd => absurd rfl cd)
  exact kk H1 locs1 (Or.inl ⟨(u1 ci 0 (nI n')), (u1 ca 0 tp'), cl, cj, K, M, mr, (u1 (u1 ri 0 0) 3 (nI n')), (u1 ra 0 tp'), rk, ow, ⟨hc, ⟨n', hn', rfl, rfl⟩, rfl, hT', hJ⟩, hz, vaP_perm hP (toR _ _ _ _ _).symm, vaD_perm hD (toR _ _ _ _ _).symm⟩) hS

set_option maxHeartbeats 4000000 in
set_option maxRecDepth 100000 in
theorem csW_feed (S0 : CallFix p m c cL_law 7 s #[Value.ref b] wl_L RL) (hK : SK D cy s) (hA : ∀ q, s.heap.size ≤ q → A q) (hX : va_X b L xs s s.heap) (hbl : b < s.heap.size) (hbA : ¬ A b) (hf : cells ≤ room_1.cells ∧ slots ≤ room_1.slots) (hak : AK pk pm ka ma) (hk : k < 1000) (hin : ∀ j : Int32, j ∈ [1, 2, 3, 4, 5] → vp_in (x4 + j) L) (I : LW D cy A ad pk pm ka ma rd ao k H) (hS : va_S A s.heap H locs) (hl : lv_has ls 7 [(0, .ref b), (1, .ref (ad 0)), (2, .ref (rd 0)), (3, .ref ao), (4, .int x4)]) (kk : ∀ (H1 : Heap) (locs1 : List Loc), LI D cy A ad pk pm ka ma rd ao (k + 1) H1 → va_S A s.heap H1 locs1 → W p l e room_1 s m #[Value.ref b] below meth c H1 locs1 cells slots Q (F0 m 2028 ls [])) : W p l e room_1 s m #[Value.ref b] below meth c H locs cells slots Q (F0 m 260 ls []) := by
  have hx := S0.1
  have hb := S0.2.1
  obtain ⟨ci, ca, cl, cj, K, M, mr, ri, ra, rk, ow, wd, wx, wi, wa, ⟨hc, ⟨nb, hnb, hb1, hb2⟩, ht, hT, hJ⟩, hw, hP, hD⟩ := I
  refine lv_aload_n hx hb dL_law_260 rfl (lv_at hl 1 rfl) ?_
  refine lv_aload_n hx hb dL_law_261 rfl (lv_at hl 0 rfl) ?_
  refine lv_iload hx hb dL_law_262 (lv_at hl 4 rfl) ?_
  refine lv_iconst (v := 1) hx hb dL_law_264 (by decide) ?_
  refine lv_iadd hx hb dL_law_265 ?_
  refine va_sld hx hb hX hbl hbA hS (hin 1 (by decide)) dL_law_266 ?_
  refine lv_aload_n hx hb dL_law_267 rfl (lv_at hl 0 rfl) ?_
  refine lv_iload hx hb dL_law_268 (lv_at hl 4 rfl) ?_
  refine lv_iconst (v := 2) hx hb dL_law_270 (by decide) ?_
  refine lv_iadd hx hb dL_law_271 ?_
  refine va_sld hx hb hX hbl hbA hS (hin 2 (by decide)) dL_law_272 ?_
  refine lv_aload_n hx hb dL_law_273 rfl (lv_at hl 0 rfl) ?_
  refine lv_iload hx hb dL_law_274 (lv_at hl 4 rfl) ?_
  refine lv_iconst (v := 3) hx hb dL_law_276 (by decide) ?_
  refine lv_iadd hx hb dL_law_277 ?_
  refine va_sld hx hb hX hbl hbA hS (hin 3 (by decide)) dL_law_278 ?_
  refine lv_aload_n hx hb dL_law_279 rfl (lv_at hl 0 rfl) ?_
  refine lv_iload hx hb dL_law_280 (lv_at hl 4 rfl) ?_
  refine lv_iconst (v := 4) hx hb dL_law_282 (by decide) ?_
  refine lv_iadd hx hb dL_law_283 ?_
  refine va_sld hx hb hX hbl hbA hS (hin 4 (by decide)) dL_law_284 ?_
  refine lv_aload_n hx hb dL_law_285 rfl (lv_at hl 0 rfl) ?_
  refine lv_iload hx hb dL_law_286 (lv_at hl 4 rfl) ?_
  refine lv_iconst (v := 5) hx hb dL_law_288 (by decide) ?_
  refine lv_iadd hx hb dL_law_289 ?_
  refine va_sld hx hb hX hbl hbA hS (hin 5 (by decide)) dL_law_290 ?_
  obtain ⟨r, n', tp', hn', e1, e2⟩ := q_feed hnb (ca 0) (xs (x4 + 1).toNatClampNeg) (xs (x4 + 2).toNatClampNeg) (xs (x4 + 3).toNatClampNeg) (xs (x4 + 4).toNatClampNeg) (xs (x4 + 5).toNatClampNeg) (ri 0)
  have hT' := feedB hnb hT e1
  rw [← hb1] at e1
  rw [← hb2, ← ht] at e2
  refine k11_feed S0 hK hA hl.1 hf hP hD hS e1 (fun H1 locs1 hP hD hS => ?_)
  refine lv_aload_n hx hb dL_law_294 rfl (lv_at hl 2 rfl) ?_
  refine lv_aload_n hx hb dL_law_295 rfl (lv_at hl 0 rfl) ?_
  refine lv_iload hx hb dL_law_296 (lv_at hl 4 rfl) ?_
  refine lv_iconst (v := 1) hx hb dL_law_298 (by decide) ?_
  refine lv_iadd hx hb dL_law_299 ?_
  refine va_sld hx hb hX hbl hbA hS (hin 1 (by decide)) dL_law_300 ?_
  refine lv_aload_n hx hb dL_law_301 rfl (lv_at hl 0 rfl) ?_
  refine lv_iload hx hb dL_law_302 (lv_at hl 4 rfl) ?_
  refine lv_iconst (v := 2) hx hb dL_law_304 (by decide) ?_
  refine lv_iadd hx hb dL_law_305 ?_
  refine va_sld hx hb hX hbl hbA hS (hin 2 (by decide)) dL_law_306 ?_
  refine lv_aload_n hx hb dL_law_307 rfl (lv_at hl 0 rfl) ?_
  refine lv_iload hx hb dL_law_308 (lv_at hl 4 rfl) ?_
  refine lv_iconst (v := 3) hx hb dL_law_310 (by decide) ?_
  refine lv_iadd hx hb dL_law_311 ?_
  refine va_sld hx hb hX hbl hbA hS (hin 3 (by decide)) dL_law_312 ?_
  refine lv_aload_n hx hb dL_law_313 rfl (lv_at hl 0 rfl) ?_
  refine lv_iload hx hb dL_law_314 (lv_at hl 4 rfl) ?_
  refine lv_iconst (v := 4) hx hb dL_law_316 (by decide) ?_
  refine lv_iadd hx hb dL_law_317 ?_
  refine va_sld hx hb hX hbl hbA hS (hin 4 (by decide)) dL_law_318 ?_
  refine lv_aload_n hx hb dL_law_319 rfl (lv_at hl 0 rfl) ?_
  refine lv_iload hx hb dL_law_320 (lv_at hl 4 rfl) ?_
  refine lv_iconst (v := 5) hx hb dL_law_322 (by decide) ?_
  refine lv_iadd hx hb dL_law_323 ?_
  refine va_sld hx hb hX hbl hbA hS (hin 5 (by decide)) dL_law_324 ?_
  refine k13_feed (.int r) (by show 1 ≤ 2; decide) S0 hK hA hl.1 hf (vaP_perm hP (toR2 _ _ _ _ _ _)) (vaD_perm hD (toR2 _ _ _ _ _ _)) hS e2 (fun H1 locs1 hP hD hS => ?_)
  refine lv_icmp_eq (tgt := 2028) hx hb dL_law_328 (by decide) (fun _ => ?_) (fun cd => absurd rfl cd)
  exact kk H1 locs1 (Or.inr ⟨(u1 ci 0 (nI n')), (u1 ca 0 tp'), cl, cj, K, M, mr, (u1 (u1 ri 0 0) 3 (nI n')), (u1 ra 0 tp'), rk, ow, wd, wx, wi, wa, ⟨hc, ⟨n', hn', rfl, rfl⟩, rfl, hT', hJ⟩, hw.mono (Nat.le_succ k), vaP_perm hP (toR2 _ _ _ _ _ _).symm, vaD_perm hD (toR2 _ _ _ _ _ _).symm⟩) hS

set_option maxHeartbeats 4000000 in
set_option maxRecDepth 100000 in
theorem csN_war (S0 : CallFix p m c cL_law 7 s #[Value.ref b] wl_L RL) (hK : SK D cy s) (hA : ∀ q, s.heap.size ≤ q → A q) (hX : va_X b L xs s s.heap) (hbl : b < s.heap.size) (hbA : ¬ A b) (hSS : SS sa sv A s s.heap) (hf : cells + 11 ≤ room_1.cells ∧ slots + 119 ≤ room_1.slots) (hak : AK pk pm ka ma) (hk : k < 1000) (hin : ∀ j : Int32, j ∈ [1, 2, 3, 4, 5] → vp_in (x4 + j) L) (I : LN D cy A ad pk pm ka ma rd ao H) (hS : va_S A s.heap H locs) (hl : lv_has ls 7 [(0, .ref b), (1, .ref (ad 0)), (2, .ref (rd 0)), (3, .ref ao), (4, .int x4)]) (kk : ∀ (H1 : Heap) (locs1 : List Loc), LI D cy A ad pk pm ka ma rd ao (k + 1) H1 → va_S A s.heap H1 locs1 → W p l e room_1 s m #[Value.ref b] below meth c H1 locs1 (cells + 11) (slots + 119) Q (F0 m 2028 ls [])) : W p l e room_1 s m #[Value.ref b] below meth c H locs cells slots Q (F0 m 333 ls []) := by
  have hx := S0.1
  have hb := S0.2.1
  obtain ⟨ci, ca, cl, cj, K, M, mr, ri, ra, rk, ow, ⟨hc, ⟨nb, hnb, hb1, hb2⟩, ht, hT, hJ⟩, hz, hP, hD⟩ := I
  refine lv_aload_n hx hb dL_law_333 rfl (lv_at hl 1 rfl) ?_
  refine lv_aload_n hx hb dL_law_334 rfl (lv_at hl 0 rfl) ?_
  refine lv_iload hx hb dL_law_335 (lv_at hl 4 rfl) ?_
  refine lv_iconst (v := 1) hx hb dL_law_337 (by decide) ?_
  refine lv_iadd hx hb dL_law_338 ?_
  refine va_sld hx hb hX hbl hbA hS (hin 1 (by decide)) dL_law_339 ?_
  obtain ⟨Lt, hLt, zL⟩ := hz.2.2.2
  have qw := q_war hnb hT (xs (x4 + 1).toNatClampNeg) (ci 1) (ci 2) (ci 3) (ci 4) (ci 5) (ci 6) (ca 1) (ca 2) (ca 3) (ca 4) (ci 7) (ci 8) (ci 9) (ci 10) (ci 11) (ci 12) (ci 13) (ci 14) (ci 15) (ci 16) (ci 17) (ca 5) (ca 6) (ca 7) (ca 8) (ca 9) (ca 10) (ca 11) (ci 18) (ci 19) (ci 20) (ci 21) (ci 22) (ci 23) (ci 24) (ca 12) (ca 13) (ca 14) (ca 15) (ca 16) (ca 17) (ca 18) (ci 25) (ci 26) (ci 27) (ca 19) (ca 20) (ca 21) (ci 29) (ci 30) (ri 0) (ri 1) (ri 2) (ri 4) (ri 5) (ri 6) (ri 7) (ri 8) (ri 9) (ri 10) (ri 11) (rk 0) (ri 12) (ri 13) (ra 1)
  rw [← hb1] at qw
  rcases qw with ⟨e1, e2⟩ | ⟨k0, a0, y1, y2, y3, y4, y5, y6, y7, y8, y9, y10, y11, y12, y13, y14, y15, y16, y17, y18, y19, y20, y21, y22, y23, v1, v2, v3, v4, v5, v6, v7, v8, v9, v10, v11, v12, v13, v14, v15, v16, v17, v18, v19, v20, v21, v22, v23, e1, e2⟩ | ⟨a, C, q, B, U, ps, s1, s2, s3, s4, s5, s6, s7, s8, s9, s10, s11, s12, s13, s14, s15, s16, s17, s18, s19, s20, s21, s22, s23, s24, s25, wh, fs, kd, fla, md, pr, pb, st, at', wdd, m1, m2, m3, m4, m5, m6, m7, m8, v', rwh, rst, rkd, rln, rmd, rpr, rlo, rnm, rso, rno, ok, kw, rc, rA, rp, rm, rp', cI, hB, hU, e0, e1, e2⟩
  · rw [hb1, ← hb2] at e2
    refine k11_war S0 hK hSS hA hl.1 ⟨Nat.le_trans (Nat.le_add_right _ _) hf.1, Nat.le_trans (Nat.le_add_right _ _) hf.2⟩ hP hD hS e1 (fun H1 locs1 hP hD hS => ?_)
    refine lv_aload_n hx hb dL_law_343 rfl (lv_at hl 2 rfl) ?_
    refine lv_aload_n hx hb dL_law_344 rfl (lv_at hl 0 rfl) ?_
    refine lv_iload hx hb dL_law_345 (lv_at hl 4 rfl) ?_
    refine lv_iconst (v := 1) hx hb dL_law_347 (by decide) ?_
    refine lv_iadd hx hb dL_law_348 ?_
    refine va_sld hx hb hX hbl hbA hS (hin 1 (by decide)) dL_law_349 ?_
    refine k13_war_r (.int (-1)) (by show 1 ≤ 2; decide) S0 hK hA hl.1 ⟨Nat.le_trans (Nat.le_add_right _ _) hf.1, Nat.le_trans (Nat.le_add_right _ _) hf.2⟩ (vaP_perm hP (toR _ _ _ _ _)) (vaD_perm hD (toR _ _ _ _ _)) hS e2 (fun H1 locs1 hP hD hS => ?_)
    refine lv_icmp_eq (tgt := 2028) hx hb dL_law_353 (by decide) (fun _ => ?_) (fun cd => absurd rfl cd)
    refine W.widen (Nat.le_add_right _ 11) (Nat.le_add_right _ 119) ?_
    exact kk H1 locs1 (Or.inl ⟨(u1 (u1 (u1 (u1 (u1 (u1 (u1 (u1 (u1 (u1 (u1 (u1 (u1 (u1 (u1 (u1 (u1 (u1 (u1 (u1 (u1 (u1 (u1 (u1 (u1 (u1 (u1 (u1 (u1 (u1 ci 0 (ci 0)) 1 2) 2 (ci 2)) 3 (ci 3)) 4 (ci 4)) 5 (ci 5)) 6 (ci 6)) 7 (ci 7)) 8 (ci 8)) 9 (ci 9)) 10 (ci 10)) 11 (ci 11)) 12 (ci 12)) 13 (ci 13)) 14 (ci 14)) 15 (ci 15)) 16 (ci 16)) 17 (ci 17)) 18 (ci 18)) 19 (ci 19)) 20 (ci 20)) 21 (ci 21)) 22 (ci 22)) 23 (ci 23)) 24 (ci 24)) 25 (ci 25)) 26 (ci 26)) 27 (ci 27)) 29 (ci 29)) 30 (ci 30)), (u1 (u1 (u1 (u1 (u1 (u1 (u1 (u1 (u1 (u1 (u1 (u1 (u1 (u1 (u1 (u1 (u1 (u1 (u1 (u1 (u1 ca 1 (ca 1)) 2 (ca 2)) 3 (ca 3)) 4 (ca 4)) 5 (ca 5)) 6 (ca 6)) 7 (ca 7)) 8 (ca 8)) 9 (ca 9)) 10 (ca 10)) 11 (ca 11)) 12 (ca 12)) 13 (ca 13)) 14 (ca 14)) 15 (ca 15)) 16 (ca 16)) 17 (ca 17)) 18 (ca 18)) 19 (ca 19)) 20 (ca 20)) 21 (ca 21)), cl, cj, K, M, mr, (u1 (u1 (u1 ri 0 0) 1 2) 2 (-1)), ra, rk, ow, ⟨hc.t (t := 2) (show ¬ (2 : Int32) = 4 by decide), ⟨nb, hnb, hb1, hb2⟩, ht, hT, hJ⟩, hz, vaP_perm hP (toR _ _ _ _ _).symm, vaD_perm hD (toR _ _ _ _ _).symm⟩) hS
  · rw [hb1, ← hb2, ← ht] at e2
    refine k11_war S0 hK hSS hA hl.1 ⟨Nat.le_trans (Nat.le_add_right _ _) hf.1, Nat.le_trans (Nat.le_add_right _ _) hf.2⟩ hP hD hS e1 (fun H1 locs1 hP hD hS => ?_)
    refine lv_aload_n hx hb dL_law_343 rfl (lv_at hl 2 rfl) ?_
    refine lv_aload_n hx hb dL_law_344 rfl (lv_at hl 0 rfl) ?_
    refine lv_iload hx hb dL_law_345 (lv_at hl 4 rfl) ?_
    refine lv_iconst (v := 1) hx hb dL_law_347 (by decide) ?_
    refine lv_iadd hx hb dL_law_348 ?_
    refine va_sld hx hb hX hbl hbA hS (hin 1 (by decide)) dL_law_349 ?_
    refine k13_war_f (.int (-1)) (by show 1 ≤ 2; decide) S0 hK hSS hA hl.1 hf (vaP_perm hP (toR _ _ _ _ _)) (vaD_perm hD (toR _ _ _ _ _)) hS e2 (fun u H1 locs1 hP hD hS => ?_)
    refine lv_icmp_eq (tgt := 2028) hx hb dL_law_353 (by decide) (fun _ => ?_) (fun cd => absurd rfl cd)
    exact kk H1 locs1 (Or.inl ⟨(u1 (u1 (u1 (u1 (u1 (u1 (u1 (u1 (u1 (u1 (u1 (u1 (u1 (u1 (u1 (u1 (u1 (u1 (u1 (u1 (u1 (u1 (u1 (u1 (u1 (u1 (u1 (u1 (u1 (u1 ci 0 0) 1 4) 2 (nI k0)) 3 (nI a0)) 4 y1) 5 (nI k0)) 6 (nI a0)) 7 y6) 8 y7) 9 y8) 10 y9) 11 y10) 12 y11) 13 y12) 14 y13) 15 y14) 16 y15) 17 y16) 18 (ci 18)) 19 (ci 19)) 20 (ci 20)) 21 (ci 21)) 22 (ci 22)) 23 (ci 23)) 24 (ci 24)) 25 (ci 25)) 26 (ci 26)) 27 (ci 27)) 29 (ci 29)) 30 (ci 30)), (u1 (u1 (u1 (u1 (u1 (u1 (u1 (u1 (u1 (u1 (u1 (u1 (u1 (u1 (u1 (u1 (u1 (u1 (u1 (u1 (u1 ca 1 y2) 2 y3) 3 y4) 4 y5) 5 y17) 6 y18) 7 y19) 8 y20) 9 y21) 10 y22) 11 y23) 12 (ca 12)) 13 (ca 13)) 14 (ca 14)) 15 (ca 15)) 16 (ca 16)) 17 (ca 17)) 18 (ca 18)) 19 (ca 19)) 20 (ca 20)) 21 (ca 21)), cl, cj, K, M, (.ref u.1), (u1 (u1 (u1 (u1 (u1 (u1 (u1 (u1 (u1 (u1 (u1 (u1 ri 0 0) 1 4) 2 (nI a0)) 3 0) 4 (xs (x4 + 1).toNatClampNeg)) 5 v1) 6 5) 7 v2) 8 v3) 9 (nI k0)) 10 (nI a0)) 11 v4), ra, (u1 rk 0 v5), ow, ⟨⟨rfl, rfl, (if_pos rfl).symm⟩, ⟨0, Nat.zero_le _, rfl, rfl⟩, ht, hT, hJ⟩, hz, vaP_perm hP (toR _ _ _ _ _).symm, vaD_perm hD (toR _ _ _ _ _).symm⟩) hS
  · rw [hb1, ← hb2, ← ht] at e2
    refine k11_war S0 hK hSS hA hl.1 ⟨Nat.le_trans (Nat.le_add_right _ _) hf.1, Nat.le_trans (Nat.le_add_right _ _) hf.2⟩ hP hD hS e1 (fun H1 locs1 hP hD hS => ?_)
    refine lv_aload_n hx hb dL_law_343 rfl (lv_at hl 2 rfl) ?_
    refine lv_aload_n hx hb dL_law_344 rfl (lv_at hl 0 rfl) ?_
    refine lv_iload hx hb dL_law_345 (lv_at hl 4 rfl) ?_
    refine lv_iconst (v := 1) hx hb dL_law_347 (by decide) ?_
    refine lv_iadd hx hb dL_law_348 ?_
    refine va_sld hx hb hX hbl hbA hS (hin 1 (by decide)) dL_law_349 ?_
    have JWn := JW.new (k := k + 1) (ps := ps) ok kw rc rA rp rm rp' cI hB hU e0 hLt K M (ra 3) (ra 4)
    rw [← zL] at JWn
    refine k13_war_s (.int (nI (a 0 2))) (by show 1 ≤ 2; decide) S0 hK hSS hA hl.1 hf (vaP_perm hP (toR _ _ _ _ _)) (vaD_perm hD (toR _ _ _ _ _)) hS e2 (fun u H1 locs1 hP hD hS => ?_)
    refine lv_icmp_eq (tgt := 2028) hx hb dL_law_353 (by decide) (fun _ => ?_) (fun cd => absurd rfl cd)
    exact kk H1 locs1 (Or.inr ⟨(u1 (u1 (u1 (u1 (u1 (u1 (u1 (u1 (u1 (u1 (u1 (u1 (u1 (u1 (u1 (u1 (u1 (u1 (u1 (u1 (u1 (u1 (u1 (u1 (u1 (u1 (u1 (u1 (u1 (u1 ci 0 0) 1 0) 2 0) 3 (-1)) 4 s1) 5 s2) 6 s3) 7 s8) 8 s9) 9 s10) 10 s11) 11 s12) 12 s13) 13 s14) 14 s15) 15 s16) 16 s17) 17 s18) 18 (nI (a 0 0))) 19 (nI (a 0 1))) 20 (nI B)) 21 (nI (a 0 2))) 22 (nI C)) 23 (nI ps)) 24 (nI U)) 25 0) 26 0) 27 0) 29 0) 30 0), (u1 (u1 (u1 (u1 (u1 (u1 (u1 (u1 (u1 (u1 (u1 (u1 (u1 (u1 (u1 (u1 (u1 (u1 (u1 (u1 (u1 ca 1 s4) 2 s5) 3 s6) 4 s7) 5 s19) 6 s20) 7 s21) 8 s22) 9 s23) 10 s24) 11 s25) 12 wh) 13 fs) 14 kd) 15 fla) 16 md) 17 pr) 18 pb) 19 st) 20 at') 21 wdd), cl, cj, K, M, (.ref u.1), (u1 (u1 (u1 (u1 (u1 (u1 (u1 (u1 (u1 (u1 (u1 (u1 (u1 (u1 ri 0 0) 1 0) 2 (-1)) 3 0) 4 (xs (x4 + 1).toNatClampNeg)) 5 m1) 6 m2) 7 m3) 8 m4) 9 0) 10 m5) 11 m6) 12 0) 13 0), (u1 ra 1 v'), (u1 rk 0 m7), ow, (wdU u), (wxU u), (fun k => [nI (a 0 0), nI (a 0 1), nI (popN B), nI (a 0 2), nI C, nI ps, nI U, m8].getD k 0), (fun k => [rwh, rkd, rmd, rpr, rlo].getD k (fun _ => 0)), ⟨⟨rfl, rfl, (if_neg (show ¬ (0 : Int32) = 4 by decide)).symm⟩, ⟨0, Nat.zero_le _, rfl, rfl⟩, ht, hT, hJ⟩, JWn, vaP_perm hP (toR _ _ _ _ _).symm, vaD_perm hD (toR _ _ _ _ _).symm⟩) hS

set_option maxHeartbeats 4000000 in
set_option maxRecDepth 100000 in
theorem csW_war (S0 : CallFix p m c cL_law 7 s #[Value.ref b] wl_L RL) (hK : SK D cy s) (hA : ∀ q, s.heap.size ≤ q → A q) (hX : va_X b L xs s s.heap) (hbl : b < s.heap.size) (hbA : ¬ A b) (hSS : SS sa sv A s s.heap) (hf : cells + 11 ≤ room_1.cells ∧ slots + 119 ≤ room_1.slots) (hak : AK pk pm ka ma) (hk : k < 1000) (hin : ∀ j : Int32, j ∈ [1, 2, 3, 4, 5] → vp_in (x4 + j) L) (I : LW D cy A ad pk pm ka ma rd ao k H) (hS : va_S A s.heap H locs) (hl : lv_has ls 7 [(0, .ref b), (1, .ref (ad 0)), (2, .ref (rd 0)), (3, .ref ao), (4, .int x4)]) (kk : ∀ (H1 : Heap) (locs1 : List Loc), LI D cy A ad pk pm ka ma rd ao (k + 1) H1 → va_S A s.heap H1 locs1 → W p l e room_1 s m #[Value.ref b] below meth c H1 locs1 (cells + 11) (slots + 119) Q (F0 m 2028 ls [])) : W p l e room_1 s m #[Value.ref b] below meth c H locs cells slots Q (F0 m 333 ls []) := by
  have hx := S0.1
  have hb := S0.2.1
  obtain ⟨ci, ca, cl, cj, K, M, mr, ri, ra, rk, ow, wd, wx, wi, wa, ⟨hc, ⟨nb, hnb, hb1, hb2⟩, ht, hT, hJ⟩, hw, hP, hD⟩ := I
  refine lv_aload_n hx hb dL_law_333 rfl (lv_at hl 1 rfl) ?_
  refine lv_aload_n hx hb dL_law_334 rfl (lv_at hl 0 rfl) ?_
  refine lv_iload hx hb dL_law_335 (lv_at hl 4 rfl) ?_
  refine lv_iconst (v := 1) hx hb dL_law_337 (by decide) ?_
  refine lv_iadd hx hb dL_law_338 ?_
  refine va_sld hx hb hX hbl hbA hS (hin 1 (by decide)) dL_law_339 ?_
  have hLt : ∃ Lt, Lt < 16 ∧ (ci 28) = nI Lt := by
    obtain ⟨a, n, L, m, C, q, B, U, ps, je, ji, r⟩ := id hw
    exact ⟨L, r.2.2.2.2.1.2.1, je.2.1.1⟩
  obtain ⟨Lt, hLt, zL⟩ := hLt
  have qw := q_war hnb hT (xs (x4 + 1).toNatClampNeg) (ci 1) (ci 2) (ci 3) (ci 4) (ci 5) (ci 6) (ca 1) (ca 2) (ca 3) (ca 4) (ci 7) (ci 8) (ci 9) (ci 10) (ci 11) (ci 12) (ci 13) (ci 14) (ci 15) (ci 16) (ci 17) (ca 5) (ca 6) (ca 7) (ca 8) (ca 9) (ca 10) (ca 11) (ci 18) (ci 19) (ci 20) (ci 21) (ci 22) (ci 23) (ci 24) (ca 12) (ca 13) (ca 14) (ca 15) (ca 16) (ca 17) (ca 18) (ci 25) (ci 26) (ci 27) (ca 19) (ca 20) (ca 21) (ci 29) (ci 30) (ri 0) (ri 1) (ri 2) (ri 4) (ri 5) (ri 6) (ri 7) (ri 8) (ri 9) (ri 10) (ri 11) (rk 0) (ri 12) (ri 13) (ra 1)
  rw [← hb1] at qw
  rcases qw with ⟨e1, e2⟩ | ⟨k0, a0, y1, y2, y3, y4, y5, y6, y7, y8, y9, y10, y11, y12, y13, y14, y15, y16, y17, y18, y19, y20, y21, y22, y23, v1, v2, v3, v4, v5, v6, v7, v8, v9, v10, v11, v12, v13, v14, v15, v16, v17, v18, v19, v20, v21, v22, v23, e1, e2⟩ | ⟨a, C, q, B, U, ps, s1, s2, s3, s4, s5, s6, s7, s8, s9, s10, s11, s12, s13, s14, s15, s16, s17, s18, s19, s20, s21, s22, s23, s24, s25, wh, fs, kd, fla, md, pr, pb, st, at', wdd, m1, m2, m3, m4, m5, m6, m7, m8, v', rwh, rst, rkd, rln, rmd, rpr, rlo, rnm, rso, rno, ok, kw, rc, rA, rp, rm, rp', cI, hB, hU, e0, e1, e2⟩
  · rw [hb1, ← hb2] at e2
    refine k11_war S0 hK hSS hA hl.1 ⟨Nat.le_trans (Nat.le_add_right _ _) hf.1, Nat.le_trans (Nat.le_add_right _ _) hf.2⟩ hP hD hS e1 (fun H1 locs1 hP hD hS => ?_)
    refine lv_aload_n hx hb dL_law_343 rfl (lv_at hl 2 rfl) ?_
    refine lv_aload_n hx hb dL_law_344 rfl (lv_at hl 0 rfl) ?_
    refine lv_iload hx hb dL_law_345 (lv_at hl 4 rfl) ?_
    refine lv_iconst (v := 1) hx hb dL_law_347 (by decide) ?_
    refine lv_iadd hx hb dL_law_348 ?_
    refine va_sld hx hb hX hbl hbA hS (hin 1 (by decide)) dL_law_349 ?_
    refine k13_war_r (.int (-1)) (by show 1 ≤ 2; decide) S0 hK hA hl.1 ⟨Nat.le_trans (Nat.le_add_right _ _) hf.1, Nat.le_trans (Nat.le_add_right _ _) hf.2⟩ (vaP_perm hP (toR2 _ _ _ _ _ _)) (vaD_perm hD (toR2 _ _ _ _ _ _)) hS e2 (fun H1 locs1 hP hD hS => ?_)
    refine lv_icmp_eq (tgt := 2028) hx hb dL_law_353 (by decide) (fun _ => ?_) (fun cd => absurd rfl cd)
    refine W.widen (Nat.le_add_right _ 11) (Nat.le_add_right _ 119) ?_
    exact kk H1 locs1 (Or.inr ⟨(u1 (u1 (u1 (u1 (u1 (u1 (u1 (u1 (u1 (u1 (u1 (u1 (u1 (u1 (u1 (u1 (u1 (u1 (u1 (u1 (u1 (u1 (u1 (u1 (u1 (u1 (u1 (u1 (u1 (u1 ci 0 (ci 0)) 1 2) 2 (ci 2)) 3 (ci 3)) 4 (ci 4)) 5 (ci 5)) 6 (ci 6)) 7 (ci 7)) 8 (ci 8)) 9 (ci 9)) 10 (ci 10)) 11 (ci 11)) 12 (ci 12)) 13 (ci 13)) 14 (ci 14)) 15 (ci 15)) 16 (ci 16)) 17 (ci 17)) 18 (ci 18)) 19 (ci 19)) 20 (ci 20)) 21 (ci 21)) 22 (ci 22)) 23 (ci 23)) 24 (ci 24)) 25 (ci 25)) 26 (ci 26)) 27 (ci 27)) 29 (ci 29)) 30 (ci 30)), (u1 (u1 (u1 (u1 (u1 (u1 (u1 (u1 (u1 (u1 (u1 (u1 (u1 (u1 (u1 (u1 (u1 (u1 (u1 (u1 (u1 ca 1 (ca 1)) 2 (ca 2)) 3 (ca 3)) 4 (ca 4)) 5 (ca 5)) 6 (ca 6)) 7 (ca 7)) 8 (ca 8)) 9 (ca 9)) 10 (ca 10)) 11 (ca 11)) 12 (ca 12)) 13 (ca 13)) 14 (ca 14)) 15 (ca 15)) 16 (ca 16)) 17 (ca 17)) 18 (ca 18)) 19 (ca 19)) 20 (ca 20)) 21 (ca 21)), cl, cj, K, M, mr, (u1 (u1 (u1 ri 0 0) 1 2) 2 (-1)), ra, rk, ow, wd, wx, wi, wa, ⟨hc.t (t := 2) (show ¬ (2 : Int32) = 4 by decide), ⟨nb, hnb, hb1, hb2⟩, ht, hT, hJ⟩, hw.mono (Nat.le_succ k), vaP_perm hP (toR2 _ _ _ _ _ _).symm, vaD_perm hD (toR2 _ _ _ _ _ _).symm⟩) hS
  · rw [hb1, ← hb2, ← ht] at e2
    refine k11_war S0 hK hSS hA hl.1 ⟨Nat.le_trans (Nat.le_add_right _ _) hf.1, Nat.le_trans (Nat.le_add_right _ _) hf.2⟩ hP hD hS e1 (fun H1 locs1 hP hD hS => ?_)
    refine lv_aload_n hx hb dL_law_343 rfl (lv_at hl 2 rfl) ?_
    refine lv_aload_n hx hb dL_law_344 rfl (lv_at hl 0 rfl) ?_
    refine lv_iload hx hb dL_law_345 (lv_at hl 4 rfl) ?_
    refine lv_iconst (v := 1) hx hb dL_law_347 (by decide) ?_
    refine lv_iadd hx hb dL_law_348 ?_
    refine va_sld hx hb hX hbl hbA hS (hin 1 (by decide)) dL_law_349 ?_
    refine k13_war_f (.int (-1)) (by show 1 ≤ 2; decide) S0 hK hSS hA hl.1 hf (vaP_perm hP (toR2 _ _ _ _ _ _)) (vaD_perm hD (toR2 _ _ _ _ _ _)) hS e2 (fun u H1 locs1 hP hD hS => ?_)
    refine lv_icmp_eq (tgt := 2028) hx hb dL_law_353 (by decide) (fun _ => ?_) (fun cd => absurd rfl cd)
    exact kk H1 locs1 (Or.inr ⟨(u1 (u1 (u1 (u1 (u1 (u1 (u1 (u1 (u1 (u1 (u1 (u1 (u1 (u1 (u1 (u1 (u1 (u1 (u1 (u1 (u1 (u1 (u1 (u1 (u1 (u1 (u1 (u1 (u1 (u1 ci 0 0) 1 4) 2 (nI k0)) 3 (nI a0)) 4 y1) 5 (nI k0)) 6 (nI a0)) 7 y6) 8 y7) 9 y8) 10 y9) 11 y10) 12 y11) 13 y12) 14 y13) 15 y14) 16 y15) 17 y16) 18 (ci 18)) 19 (ci 19)) 20 (ci 20)) 21 (ci 21)) 22 (ci 22)) 23 (ci 23)) 24 (ci 24)) 25 (ci 25)) 26 (ci 26)) 27 (ci 27)) 29 (ci 29)) 30 (ci 30)), (u1 (u1 (u1 (u1 (u1 (u1 (u1 (u1 (u1 (u1 (u1 (u1 (u1 (u1 (u1 (u1 (u1 (u1 (u1 (u1 (u1 ca 1 y2) 2 y3) 3 y4) 4 y5) 5 y17) 6 y18) 7 y19) 8 y20) 9 y21) 10 y22) 11 y23) 12 (ca 12)) 13 (ca 13)) 14 (ca 14)) 15 (ca 15)) 16 (ca 16)) 17 (ca 17)) 18 (ca 18)) 19 (ca 19)) 20 (ca 20)) 21 (ca 21)), cl, cj, K, M, (.ref u.1), (u1 (u1 (u1 (u1 (u1 (u1 (u1 (u1 (u1 (u1 (u1 (u1 ri 0 0) 1 4) 2 (nI a0)) 3 0) 4 (xs (x4 + 1).toNatClampNeg)) 5 v1) 6 5) 7 v2) 8 v3) 9 (nI k0)) 10 (nI a0)) 11 v4), ra, (u1 rk 0 v5), ow, wd, wx, wi, wa, ⟨⟨rfl, rfl, (if_pos rfl).symm⟩, ⟨0, Nat.zero_le _, rfl, rfl⟩, ht, hT, hJ⟩, hw.mono (Nat.le_succ k), vaP_perm hP (toR2 _ _ _ _ _ _).symm, vaD_perm hD (toR2 _ _ _ _ _ _).symm⟩) hS
  · rw [hb1, ← hb2, ← ht] at e2
    refine k11_war S0 hK hSS hA hl.1 ⟨Nat.le_trans (Nat.le_add_right _ _) hf.1, Nat.le_trans (Nat.le_add_right _ _) hf.2⟩ hP hD hS e1 (fun H1 locs1 hP hD hS => ?_)
    refine lv_aload_n hx hb dL_law_343 rfl (lv_at hl 2 rfl) ?_
    refine lv_aload_n hx hb dL_law_344 rfl (lv_at hl 0 rfl) ?_
    refine lv_iload hx hb dL_law_345 (lv_at hl 4 rfl) ?_
    refine lv_iconst (v := 1) hx hb dL_law_347 (by decide) ?_
    refine lv_iadd hx hb dL_law_348 ?_
    refine va_sld hx hb hX hbl hbA hS (hin 1 (by decide)) dL_law_349 ?_
    have JWn := JW.new (k := k + 1) (ps := ps) ok kw rc rA rp rm rp' cI hB hU e0 hLt K M (ra 3) (ra 4)
    rw [← zL] at JWn
    refine k13_war_s (.int (nI (a 0 2))) (by show 1 ≤ 2; decide) S0 hK hSS hA hl.1 hf (vaP_perm hP (toR2 _ _ _ _ _ _)) (vaD_perm hD (toR2 _ _ _ _ _ _)) hS e2 (fun u H1 locs1 hP hD hS => ?_)
    refine lv_icmp_eq (tgt := 2028) hx hb dL_law_353 (by decide) (fun _ => ?_) (fun cd => absurd rfl cd)
    have hP := vaP_mem hP (fun q hq => dropV hq)
    have hD := vaD_sub hD (dropS _ _ _)
    exact kk H1 locs1 (Or.inr ⟨(u1 (u1 (u1 (u1 (u1 (u1 (u1 (u1 (u1 (u1 (u1 (u1 (u1 (u1 (u1 (u1 (u1 (u1 (u1 (u1 (u1 (u1 (u1 (u1 (u1 (u1 (u1 (u1 (u1 (u1 ci 0 0) 1 0) 2 0) 3 (-1)) 4 s1) 5 s2) 6 s3) 7 s8) 8 s9) 9 s10) 10 s11) 11 s12) 12 s13) 13 s14) 14 s15) 15 s16) 16 s17) 17 s18) 18 (nI (a 0 0))) 19 (nI (a 0 1))) 20 (nI B)) 21 (nI (a 0 2))) 22 (nI C)) 23 (nI ps)) 24 (nI U)) 25 0) 26 0) 27 0) 29 0) 30 0), (u1 (u1 (u1 (u1 (u1 (u1 (u1 (u1 (u1 (u1 (u1 (u1 (u1 (u1 (u1 (u1 (u1 (u1 (u1 (u1 (u1 ca 1 s4) 2 s5) 3 s6) 4 s7) 5 s19) 6 s20) 7 s21) 8 s22) 9 s23) 10 s24) 11 s25) 12 wh) 13 fs) 14 kd) 15 fla) 16 md) 17 pr) 18 pb) 19 st) 20 at') 21 wdd), cl, cj, K, M, (.ref u.1), (u1 (u1 (u1 (u1 (u1 (u1 (u1 (u1 (u1 (u1 (u1 (u1 (u1 (u1 ri 0 0) 1 0) 2 (-1)) 3 0) 4 (xs (x4 + 1).toNatClampNeg)) 5 m1) 6 m2) 7 m3) 8 m4) 9 0) 10 m5) 11 m6) 12 0) 13 0), (u1 ra 1 v'), (u1 rk 0 m7), ow, (wdU u), (wxU u), (fun k => [nI (a 0 0), nI (a 0 1), nI (popN B), nI (a 0 2), nI C, nI ps, nI U, m8].getD k 0), (fun k => [rwh, rkd, rmd, rpr, rlo].getD k (fun _ => 0)), ⟨⟨rfl, rfl, (if_neg (show ¬ (0 : Int32) = 4 by decide)).symm⟩, ⟨0, Nat.zero_le _, rfl, rfl⟩, ht, hT, hJ⟩, JWn, vaP_perm hP (toR _ _ _ _ _).symm, vaD_perm hD (toR _ _ _ _ _).symm⟩) hS

end LC
