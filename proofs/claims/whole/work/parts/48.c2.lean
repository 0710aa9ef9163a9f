section LC
variable {p : Program} {l : Launch} {e : Env} {s : State} {m : MethodId} {below : List Frame} {meth : Method} {c : Code} {H : Heap} {locs : List Loc} {cells slots : Nat} {Q : State → Prop} {b L : Nat} {xs : Nat → Int32} {D : va_G} {cy : Nat → ClassId} {A : Nat → Prop} {ls : Array Slot} {ad rd : Nat → Nat} {pk pm : Nat → Option Nat} {ka ma : Nat → Nat → Nat} {ao k : Nat} {x4 : Int32}
set_option maxHeartbeats 4000000 in
set_option maxRecDepth 100000 in
theorem csN_move (S0 : CallFix p m c cL_law 7 s #[Value.ref b] wl_L RL) (hK : SK D cy s) (hA : ∀ q, s.heap.size ≤ q → A q) (hX : va_X b L xs s s.heap) (hbl : b < s.heap.size) (hbA : ¬ A b) (hf : cells ≤ room_1.cells ∧ slots ≤ room_1.slots) (hak : AK pk pm ka ma) (hk : k < 1000) (hin : ∀ j : Int32, j ∈ [1, 2, 3, 4, 5] → vp_in (x4 + j) L) (I : LN D cy A ad pk pm ka ma rd ao H) (hS : va_S A s.heap H locs) (hl : lv_has ls 7 [(0, .ref b), (1, .ref (ad 0)), (2, .ref (rd 0)), (3, .ref ao), (4, .int x4)]) (kk : ∀ (H1 : Heap) (locs1 : List Loc), LI D cy A ad pk pm ka ma rd ao (k + 1) H1 → va_S A s.heap H1 locs1 → W p l e room_1 s m #[Value.ref b] below meth c H1 locs1 cells slots Q (F0 m 2028 ls [])) : W p l e room_1 s m #[Value.ref b] below meth c H locs cells slots Q (F0 m 1668 ls []) := by
  have hx := S0.1
  have hb := S0.2.1
  obtain ⟨ci, ca, cl, cj, K, M, mr, ri, ra, rk, ow, ⟨hc, ⟨nb, hnb, hb1, hb2⟩, ht, hT, hJ⟩, hz, hP, hD⟩ := I
  obtain ⟨⟨z1, z2, z3, z4, z5, z6, z7⟩, ⟨z8, z9⟩, ⟨z10, z11⟩, Lt, hLt, zL⟩ := id hz
  have hix : ixK (ci 28) < 16 := by rw [zL]; exact ixK_b hLt
  have hP := vaP_perm hP (stO hix K _ _)
  have hD := vaD_perm hD (stO hix K _ _)
  refine lv_aload_n hx hb dL_law_1668 rfl (lv_at hl 1 rfl) ?_
  refine lv_aload_n hx hb dL_law_1669 rfl (lv_at hl 0 rfl) ?_
  refine lv_iload hx hb dL_law_1670 (lv_at hl 4 rfl) ?_
  refine lv_iconst (v := 1) hx hb dL_law_1672 (by decide) ?_
  refine lv_iadd hx hb dL_law_1673 ?_
  refine va_sld hx hb hX hbl hbA hS (hin 1 (by decide)) dL_law_1674 ?_
  refine lv_aload_n hx hb dL_law_1675 rfl (lv_at hl 0 rfl) ?_
  refine lv_iload hx hb dL_law_1676 (lv_at hl 4 rfl) ?_
  refine lv_iconst (v := 2) hx hb dL_law_1678 (by decide) ?_
  refine lv_iadd hx hb dL_law_1679 ?_
  refine va_sld hx hb hX hbl hbA hS (hin 2 (by decide)) dL_law_1680 ?_
  have hf1 : f_X11_move (ci 1) (ci 18) (ci 21) (ci 25) (ci 26) (ci 27) (ca 19) (ca 20) (ca 21) (ci 28) (ci 29) pk (K (ixK (ci 28))).1 (K (ixK (ci 28))).2.1 (K (ixK (ci 28))).2.2.1 (K (ixK (ci 28))).2.2.2.1 (K (ixK (ci 28))).2.2.2.2.1 (K (ixK (ci 28))).2.2.2.2.2 (xs (x4 + 1).toNatClampNeg) (xs (x4 + 2).toNatClampNeg) = some (0, 1, (ca 20), (ci 28), (ci 29), (K (ixK (ci 28))).1, (K (ixK (ci 28))).2.1, (K (ixK (ci 28))).2.2.1, (K (ixK (ci 28))).2.2.2.1, (K (ixK (ci 28))).2.2.2.2.1, (K (ixK (ci 28))).2.2.2.2.2) := by rw [z1, z4, z10]; exact z_move _ _ _ _ _ _ _ _ _ _ _ _ _ _ _ _ _
  refine k11_move S0 hK hA hl.1 hf hP hD hS (Or.inl (show (ci 26) = 0 from z8)) (fun i hi _ => by rw [hi]; exact hak.1 _ hix) hf1 (fun H1 locs1 hP hD hS => ?_)
  have hP := vaP_perm hP (stB hix K _ _ _)
  have hD := vaD_perm hD (stB hix K _ _ _)
  refine lv_aload_n hx hb dL_law_1684 rfl (lv_at hl 2 rfl) ?_
  refine lv_aload_n hx hb dL_law_1685 rfl (lv_at hl 0 rfl) ?_
  refine lv_iload hx hb dL_law_1686 (lv_at hl 4 rfl) ?_
  refine lv_iconst (v := 1) hx hb dL_law_1688 (by decide) ?_
  refine lv_iadd hx hb dL_law_1689 ?_
  refine va_sld hx hb hX hbl hbA hS (hin 1 (by decide)) dL_law_1690 ?_
  refine lv_aload_n hx hb dL_law_1691 rfl (lv_at hl 0 rfl) ?_
  refine lv_iload hx hb dL_law_1692 (lv_at hl 4 rfl) ?_
  refine lv_iconst (v := 2) hx hb dL_law_1694 (by decide) ?_
  refine lv_iadd hx hb dL_law_1695 ?_
  refine va_sld hx hb hX hbl hbA hS (hin 2 (by decide)) dL_law_1696 ?_
  refine k13_move_n (.int (0 : Int32)) (by show 1 ≤ 2; decide) S0 hK hA hl.1 hf (vaP_perm hP (toR _ _ _ _ _)) (vaD_perm hD (toR _ _ _ _ _)) hS (zn_move _ _ _ _ _) (fun H1 locs1 hP hD hS => ?_)
  refine lv_icmp_eq (tgt := 2028) hx hb dL_law_1700 (by decide) (fun _ => ?_) (fun cd => absurd rfl cd)
  refine kk H1 locs1 (Or.inl ⟨(u1 (u1 (u1 ci 1 1) 28 (ci 28)) 29 (ci 29)), (u1 ca 20 (ca 20)), cl, cj, (updK K (ixK (ci 28)) (K (ixK (ci 28)))), M, mr, (u1 (u1 (u1 ri 0 0) 1 1) 2 (-1)), ra, rk, ow, ⟨hc.t (t := 1) (show ¬ (1 : Int32) = 4 by decide), ⟨nb, hnb, hb1, hb2⟩, ht, hT, (by rw [updK_id]; exact hJ)⟩, hz, vaP_perm hP (toR _ _ _ _ _).symm, vaD_perm hD (toR _ _ _ _ _).symm⟩) hS

set_option maxHeartbeats 4000000 in
set_option maxRecDepth 100000 in
theorem csW_move (S0 : CallFix p m c cL_law 7 s #[Value.ref b] wl_L RL) (hK : SK D cy s) (hA : ∀ q, s.heap.size ≤ q → A q) (hX : va_X b L xs s s.heap) (hbl : b < s.heap.size) (hbA : ¬ A b) (hf : cells ≤ room_1.cells ∧ slots ≤ room_1.slots) (hak : AK pk pm ka ma) (hk : k < 1000) (hin : ∀ j : Int32, j ∈ [1, 2, 3, 4, 5] → vp_in (x4 + j) L) (I : LW D cy A ad pk pm ka ma rd ao k H) (hS : va_S A s.heap H locs) (hl : lv_has ls 7 [(0, .ref b), (1, .ref (ad 0)), (2, .ref (rd 0)), (3, .ref ao), (4, .int x4)]) (kk : ∀ (H1 : Heap) (locs1 : List Loc), LI D cy A ad pk pm ka ma rd ao (k + 1) H1 → va_S A s.heap H1 locs1 → W p l e room_1 s m #[Value.ref b] below meth c H1 locs1 cells slots Q (F0 m 2028 ls [])) : W p l e room_1 s m #[Value.ref b] below meth c H locs cells slots Q (F0 m 1668 ls []) := by
  have hx := S0.1
  have hb := S0.2.1
  obtain ⟨ci, ca, cl, cj, K, M, mr, ri, ra, rk, ow, wd, wx, wi, wa, ⟨hc, ⟨nb, hnb, hb1, hb2⟩, ht, hT, hJ⟩, hw, hP, hD⟩ := I
  have hLt : ∃ Lt, Lt < 16 ∧ (ci 28) = nI Lt := by
    obtain ⟨a, n, L, m, C, q, B, U, ps, je, ji, r⟩ := id hw
    exact ⟨L, r.2.2.2.2.1.2.1, je.2.1.1⟩
  obtain ⟨Lt, hLt, zL⟩ := hLt
  have hix : ixK (ci 28) < 16 := by rw [zL]; exact ixK_b hLt
  have hP := vaP_perm hP (stO hix K _ _)
  have hD := vaD_perm hD (stO hix K _ _)
  refine lv_aload_n hx hb dL_law_1668 rfl (lv_at hl 1 rfl) ?_
  refine lv_aload_n hx hb dL_law_1669 rfl (lv_at hl 0 rfl) ?_
  refine lv_iload hx hb dL_law_1670 (lv_at hl 4 rfl) ?_
  refine lv_iconst (v := 1) hx hb dL_law_1672 (by decide) ?_
  refine lv_iadd hx hb dL_law_1673 ?_
  refine va_sld hx hb hX hbl hbA hS (hin 1 (by decide)) dL_law_1674 ?_
  refine lv_aload_n hx hb dL_law_1675 rfl (lv_at hl 0 rfl) ?_
  refine lv_iload hx hb dL_law_1676 (lv_at hl 4 rfl) ?_
  refine lv_iconst (v := 2) hx hb dL_law_1678 (by decide) ?_
  refine lv_iadd hx hb dL_law_1679 ?_
  refine va_sld hx hb hX hbl hbA hS (hin 2 (by decide)) dL_law_1680 ?_
  obtain ⟨r, t, x2, la2, ac2, S2, v2, past2, e1, e2, h4, hw2⟩ := jW_move hw pk (xs (x4 + 1).toNatClampNeg) (xs (x4 + 2).toNatClampNeg) (ci 1) (ri 0) (ri 1) (ri 2)
  have hf1 := e1
  refine k11_move S0 hK hA hl.1 hf hP hD hS (show nbv (ci 26) from hw.wet) (fun i hi _ => by rw [hi]; exact hak.1 _ hix) hf1 (fun H1 locs1 hP hD hS => ?_)
  have hP := vaP_perm hP (stB hix K _ _ _)
  have hD := vaD_perm hD (stB hix K _ _ _)
  refine lv_aload_n hx hb dL_law_1684 rfl (lv_at hl 2 rfl) ?_
  refine lv_aload_n hx hb dL_law_1685 rfl (lv_at hl 0 rfl) ?_
  refine lv_iload hx hb dL_law_1686 (lv_at hl 4 rfl) ?_
  refine lv_iconst (v := 1) hx hb dL_law_1688 (by decide) ?_
  refine lv_iadd hx hb dL_law_1689 ?_
  refine va_sld hx hb hX hbl hbA hS (hin 1 (by decide)) dL_law_1690 ?_
  refine lv_aload_n hx hb dL_law_1691 rfl (lv_at hl 0 rfl) ?_
  refine lv_iload hx hb dL_law_1692 (lv_at hl 4 rfl) ?_
  refine lv_iconst (v := 2) hx hb dL_law_1694 (by decide) ?_
  refine lv_iadd hx hb dL_law_1695 ?_
  refine va_sld hx hb hX hbl hbA hS (hin 2 (by decide)) dL_law_1696 ?_
  refine k13_move (.int r) (by show 1 ≤ 2; decide) S0 hK hA hl.1 hf (vaP_perm hP (toR _ _ _ _ _)) (vaD_perm hD (toR _ _ _ _ _)) hS e2 (fun H1 locs1 hP hD hS => ?_)
  refine lv_icmp_eq (tgt := 2028) hx hb dL_law_1700 (by decide) (fun _ => ?_) (fun cd => absurd rfl cd)
  refine kk H1 locs1 (Or.inr ⟨(u1 (u1 (u1 ci 1 t) 28 la2) 29 ac2), (u1 ca 20 x2), cl, cj, (updK K (ixK (ci 28)) S2), M, mr, (u1 (u1 (u1 (u1 ri 0 0) 1 t) 2 (-1)) 12 ac2), (u1 (u1 ra 1 v2) 3 past2), rk, ow, wd, wx, wi, wa, ⟨hc.t h4, ⟨nb, hnb, hb1, hb2⟩, ht, hT, (hJ.k (w_move e1 (show nbv (ci 26) from hw.wet) (hJ.1 _)))⟩, hw2, vaP_perm hP (toR _ _ _ _ _).symm, vaD_perm hD (toR _ _ _ _ _).symm⟩) hS

set_option maxHeartbeats 4000000 in
set_option maxRecDepth 100000 in
theorem csN_wound (S0 : CallFix p m c cL_law 7 s #[Value.ref b] wl_L RL) (hK : SK D cy s) (hA : ∀ q, s.heap.size ≤ q → A q) (hX : va_X b L xs s s.heap) (hbl : b < s.heap.size) (hbA : ¬ A b) (hf : cells ≤ room_1.cells ∧ slots ≤ room_1.slots) (hak : AK pk pm ka ma) (hk : k < 1000) (hin : ∀ j : Int32, j ∈ [1, 2, 3, 4, 5] → vp_in (x4 + j) L) (I : LN D cy A ad pk pm ka ma rd ao H) (hS : va_S A s.heap H locs) (hl : lv_has ls 7 [(0, .ref b), (1, .ref (ad 0)), (2, .ref (rd 0)), (3, .ref ao), (4, .int x4)]) (kk : ∀ (H1 : Heap) (locs1 : List Loc), LI D cy A ad pk pm ka ma rd ao (k + 1) H1 → va_S A s.heap H1 locs1 → W p l e room_1 s m #[Value.ref b] below meth c H1 locs1 cells slots Q (F0 m 2028 ls [])) : W p l e room_1 s m #[Value.ref b] below meth c H locs cells slots Q (F0 m 1705 ls []) := by
  have hx := S0.1
  have hb := S0.2.1
  obtain ⟨ci, ca, cl, cj, K, M, mr, ri, ra, rk, ow, ⟨hc, ⟨nb, hnb, hb1, hb2⟩, ht, hT, hJ⟩, hz, hP, hD⟩ := I
  obtain ⟨⟨z1, z2, z3, z4, z5, z6, z7⟩, ⟨z8, z9⟩, ⟨z10, z11⟩, Lt, hLt, zL⟩ := id hz
  have hix : ixK (ci 28) < 16 := by rw [zL]; exact ixK_b hLt
  have hP := vaP_perm hP (stO hix K _ _)
  have hD := vaD_perm hD (stO hix K _ _)
  refine lv_aload_n hx hb dL_law_1705 rfl (lv_at hl 1 rfl) ?_
  refine lv_aload_n hx hb dL_law_1706 rfl (lv_at hl 0 rfl) ?_
  refine lv_iload hx hb dL_law_1707 (lv_at hl 4 rfl) ?_
  refine lv_iconst (v := 1) hx hb dL_law_1709 (by decide) ?_
  refine lv_iadd hx hb dL_law_1710 ?_
  refine va_sld hx hb hX hbl hbA hS (hin 1 (by decide)) dL_law_1711 ?_
  refine lv_aload_n hx hb dL_law_1712 rfl (lv_at hl 0 rfl) ?_
  refine lv_iload hx hb dL_law_1713 (lv_at hl 4 rfl) ?_
  refine lv_iconst (v := 2) hx hb dL_law_1715 (by decide) ?_
  refine lv_iadd hx hb dL_law_1716 ?_
  refine va_sld hx hb hX hbl hbA hS (hin 2 (by decide)) dL_law_1717 ?_
  have hf1 : f_X11_wound (ci 1) (ci 21) (ca 14) (ci 25) (ci 26) (ci 27) (ca 19) (ca 20) (ca 21) (ci 28) (ci 29) pk (K (ixK (ci 28))).1 (K (ixK (ci 28))).2.1 (K (ixK (ci 28))).2.2.1 (K (ixK (ci 28))).2.2.2.1 (K (ixK (ci 28))).2.2.2.2.1 (K (ixK (ci 28))).2.2.2.2.2 (xs (x4 + 1).toNatClampNeg) (xs (x4 + 2).toNatClampNeg) = some (-1, 1, (ca 21), (ci 28), (ci 29), (K (ixK (ci 28))).1, (K (ixK (ci 28))).2.1, (K (ixK (ci 28))).2.2.1, (K (ixK (ci 28))).2.2.2.1, (K (ixK (ci 28))).2.2.2.2.1, (K (ixK (ci 28))).2.2.2.2.2) := by rw [z4, z10]; exact z_wound _ _ _ _ _ _ _ _ _ _ _ _ _ _ _ _ _ _
  refine k11_wound S0 hK hA hl.1 hf hP hD hS (Or.inl (show (ci 26) = 0 from z8)) (fun i hi _ => by rw [hi]; exact hak.1 _ hix) hf1 (fun H1 locs1 hP hD hS => ?_)
  have hP := vaP_perm hP (stB hix K _ _ _)
  have hD := vaD_perm hD (stB hix K _ _ _)
  refine lv_aload_n hx hb dL_law_1721 rfl (lv_at hl 2 rfl) ?_
  refine lv_aload_n hx hb dL_law_1722 rfl (lv_at hl 0 rfl) ?_
  refine lv_iload hx hb dL_law_1723 (lv_at hl 4 rfl) ?_
  refine lv_iconst (v := 1) hx hb dL_law_1725 (by decide) ?_
  refine lv_iadd hx hb dL_law_1726 ?_
  refine va_sld hx hb hX hbl hbA hS (hin 1 (by decide)) dL_law_1727 ?_
  refine lv_aload_n hx hb dL_law_1728 rfl (lv_at hl 0 rfl) ?_
  refine lv_iload hx hb dL_law_1729 (lv_at hl 4 rfl) ?_
  refine lv_iconst (v := 2) hx hb dL_law_1731 (by decide) ?_
  refine lv_iadd hx hb dL_law_1732 ?_
  refine va_sld hx hb hX hbl hbA hS (hin 2 (by decide)) dL_law_1733 ?_
  refine k13_wound_n (.int (-1 : Int32)) (by show 1 ≤ 2; decide) S0 hK hA hl.1 hf (vaP_perm hP (toR _ _ _ _ _)) (vaD_perm hD (toR _ _ _ _ _)) hS (zn_wound _ _ _ _ _) (fun H1 locs1 hP hD hS => ?_)
  refine lv_icmp_eq (tgt := 2028) hx hb dL_law_1737 (by decide) (fun _ => ?_) (fun cd => absurd rfl cd)
  refine kk H1 locs1 (Or.inl ⟨(u1 (u1 (u1 ci 1 1) 28 (ci 28)) 29 (ci 29)), (u1 ca 21 (ca 21)), cl, cj, (updK K (ixK (ci 28)) (K (ixK (ci 28)))), M, mr, (u1 (u1 (u1 ri 0 0) 1 1) 2 (-1)), ra, rk, ow, ⟨hc.t (t := 1) (show ¬ (1 : Int32) = 4 by decide), ⟨nb, hnb, hb1, hb2⟩, ht, hT, (by rw [updK_id]; exact hJ)⟩, hz, vaP_perm hP (toR _ _ _ _ _).symm, vaD_perm hD (toR _ _ _ _ _).symm⟩) hS

set_option maxHeartbeats 4000000 in
set_option maxRecDepth 100000 in
theorem csW_wound (S0 : CallFix p m c cL_law 7 s #[Value.ref b] wl_L RL) (hK : SK D cy s) (hA : ∀ q, s.heap.size ≤ q → A q) (hX : va_X b L xs s s.heap) (hbl : b < s.heap.size) (hbA : ¬ A b) (hf : cells ≤ room_1.cells ∧ slots ≤ room_1.slots) (hak : AK pk pm ka ma) (hk : k < 1000) (hin : ∀ j : Int32, j ∈ [1, 2, 3, 4, 5] → vp_in (x4 + j) L) (I : LW D cy A ad pk pm ka ma rd ao k H) (hS : va_S A s.heap H locs) (hl : lv_has ls 7 [(0, .ref b), (1, .ref (ad 0)), (2, .ref (rd 0)), (3, .ref ao), (4, .int x4)]) (kk : ∀ (H1 : Heap) (locs1 : List Loc), LI D cy A ad pk pm ka ma rd ao (k + 1) H1 → va_S A s.heap H1 locs1 → W p l e room_1 s m #[Value.ref b] below meth c H1 locs1 cells slots Q (F0 m 2028 ls [])) : W p l e room_1 s m #[Value.ref b] below meth c H locs cells slots Q (F0 m 1705 ls []) := by
  have hx := S0.1
  have hb := S0.2.1
  obtain ⟨ci, ca, cl, cj, K, M, mr, ri, ra, rk, ow, wd, wx, wi, wa, ⟨hc, ⟨nb, hnb, hb1, hb2⟩, ht, hT, hJ⟩, hw, hP, hD⟩ := I
  have hLt : ∃ Lt, Lt < 16 ∧ (ci 28) = nI Lt := by
    obtain ⟨a, n, L, m, C, q, B, U, ps, je, ji, r⟩ := id hw
    exact ⟨L, r.2.2.2.2.1.2.1, je.2.1.1⟩
  obtain ⟨Lt, hLt, zL⟩ := hLt
  have hix : ixK (ci 28) < 16 := by rw [zL]; exact ixK_b hLt
  have hP := vaP_perm hP (stO hix K _ _)
  have hD := vaD_perm hD (stO hix K _ _)
  refine lv_aload_n hx hb dL_law_1705 rfl (lv_at hl 1 rfl) ?_
  refine lv_aload_n hx hb dL_law_1706 rfl (lv_at hl 0 rfl) ?_
  refine lv_iload hx hb dL_law_1707 (lv_at hl 4 rfl) ?_
  refine lv_iconst (v := 1) hx hb dL_law_1709 (by decide) ?_
  refine lv_iadd hx hb dL_law_1710 ?_
  refine va_sld hx hb hX hbl hbA hS (hin 1 (by decide)) dL_law_1711 ?_
  refine lv_aload_n hx hb dL_law_1712 rfl (lv_at hl 0 rfl) ?_
  refine lv_iload hx hb dL_law_1713 (lv_at hl 4 rfl) ?_
  refine lv_iconst (v := 2) hx hb dL_law_1715 (by decide) ?_
  refine lv_iadd hx hb dL_law_1716 ?_
  refine va_sld hx hb hX hbl hbA hS (hin 2 (by decide)) dL_law_1717 ?_
  obtain ⟨r, t, x2, la2, ac2, S2, v2, past2, e1, e2, h4, hw2⟩ := jW_wound hw hk pk (xs (x4 + 1).toNatClampNeg) (xs (x4 + 2).toNatClampNeg) (ci 1) (ri 0) (ri 1) (ri 2)
  have hf1 := e1
  refine k11_wound S0 hK hA hl.1 hf hP hD hS (show nbv (ci 26) from hw.wet) (fun i hi _ => by rw [hi]; exact hak.1 _ hix) hf1 (fun H1 locs1 hP hD hS => ?_)
  have hP := vaP_perm hP (stB hix K _ _ _)
  have hD := vaD_perm hD (stB hix K _ _ _)
  refine lv_aload_n hx hb dL_law_1721 rfl (lv_at hl 2 rfl) ?_
  refine lv_aload_n hx hb dL_law_1722 rfl (lv_at hl 0 rfl) ?_
  refine lv_iload hx hb dL_law_1723 (lv_at hl 4 rfl) ?_
  refine lv_iconst (v := 1) hx hb dL_law_1725 (by decide) ?_
  refine lv_iadd hx hb dL_law_1726 ?_
  refine va_sld hx hb hX hbl hbA hS (hin 1 (by decide)) dL_law_1727 ?_
  refine lv_aload_n hx hb dL_law_1728 rfl (lv_at hl 0 rfl) ?_
  refine lv_iload hx hb dL_law_1729 (lv_at hl 4 rfl) ?_
  refine lv_iconst (v := 2) hx hb dL_law_1731 (by decide) ?_
  refine lv_iadd hx hb dL_law_1732 ?_
  refine va_sld hx hb hX hbl hbA hS (hin 2 (by decide)) dL_law_1733 ?_
  refine k13_wound (.int r) (by show 1 ≤ 2; decide) S0 hK hA hl.1 hf (vaP_perm hP (toR _ _ _ _ _)) (vaD_perm hD (toR _ _ _ _ _)) hS e2 (fun H1 locs1 hP hD hS => ?_)
  refine lv_icmp_eq (tgt := 2028) hx hb dL_law_1737 (by decide) (fun _ => ?_) (fun cd => absurd rfl cd)
  refine kk H1 locs1 (Or.inr ⟨(u1 (u1 (u1 ci 1 t) 28 la2) 29 ac2), (u1 ca 21 x2), cl, cj, (updK K (ixK (ci 28)) S2), M, mr, (u1 (u1 (u1 (u1 ri 0 0) 1 t) 2 (-1)) 12 ac2), (u1 (u1 ra 1 v2) 3 past2), rk, ow, wd, wx, wi, wa, ⟨hc.t h4, ⟨nb, hnb, hb1, hb2⟩, ht, hT, (hJ.k (w_wound e1 (show nbv (ci 26) from hw.wet) (hJ.1 _)))⟩, hw2, vaP_perm hP (toR _ _ _ _ _).symm, vaD_perm hD (toR _ _ _ _ _).symm⟩) hS

set_option maxHeartbeats 4000000 in
set_option maxRecDepth 100000 in
theorem csN_hammer (S0 : CallFix p m c cL_law 7 s #[Value.ref b] wl_L RL) (hK : SK D cy s) (hA : ∀ q, s.heap.size ≤ q → A q) (hX : va_X b L xs s s.heap) (hbl : b < s.heap.size) (hbA : ¬ A b) (hf : cells ≤ room_1.cells ∧ slots ≤ room_1.slots) (hak : AK pk pm ka ma) (hk : k < 1000) (hin : ∀ j : Int32, j ∈ [1, 2, 3, 4, 5] → vp_in (x4 + j) L) (I : LN D cy A ad pk pm ka ma rd ao H) (hS : va_S A s.heap H locs) (hl : lv_has ls 7 [(0, .ref b), (1, .ref (ad 0)), (2, .ref (rd 0)), (3, .ref ao), (4, .int x4)]) (kk : ∀ (H1 : Heap) (locs1 : List Loc), LI D cy A ad pk pm ka ma rd ao (k + 1) H1 → va_S A s.heap H1 locs1 → W p l e room_1 s m #[Value.ref b] below meth c H1 locs1 cells slots Q (F0 m 2028 ls [])) : W p l e room_1 s m #[Value.ref b] below meth c H locs cells slots Q (F0 m 1742 ls []) := by
  have hx := S0.1
  have hb := S0.2.1
  obtain ⟨ci, ca, cl, cj, K, M, mr, ri, ra, rk, ow, ⟨hc, ⟨nb, hnb, hb1, hb2⟩, ht, hT, hJ⟩, hz, hP, hD⟩ := I
  obtain ⟨⟨z1, z2, z3, z4, z5, z6, z7⟩, ⟨z8, z9⟩, ⟨z10, z11⟩, Lt, hLt, zL⟩ := id hz
  have hix : ixK (ci 28) < 16 := by rw [zL]; exact ixK_b hLt
  have hP := vaP_perm hP (stO hix K _ _)
  have hD := vaD_perm hD (stO hix K _ _)
  refine lv_aload_n hx hb dL_law_1742 rfl (lv_at hl 1 rfl) ?_
  refine lv_aload_n hx hb dL_law_1743 rfl (lv_at hl 0 rfl) ?_
  refine lv_iload hx hb dL_law_1744 (lv_at hl 4 rfl) ?_
  refine lv_iconst (v := 1) hx hb dL_law_1746 (by decide) ?_
  refine lv_iadd hx hb dL_law_1747 ?_
  refine va_sld hx hb hX hbl hbA hS (hin 1 (by decide)) dL_law_1748 ?_
  have hf1 : f_X11_hammer (ci 1) (ci 21) (ci 25) (ci 26) (ci 27) (ca 19) (ca 20) (ca 21) (ci 28) (ci 29) pk (K (ixK (ci 28))).1 (K (ixK (ci 28))).2.1 (K (ixK (ci 28))).2.2.1 (K (ixK (ci 28))).2.2.2.1 (K (ixK (ci 28))).2.2.2.2.1 (K (ixK (ci 28))).2.2.2.2.2 (xs (x4 + 1).toNatClampNeg) = some (0, 1, (ci 25), (ci 28), (ci 29), (K (ixK (ci 28))).1, (K (ixK (ci 28))).2.1, (K (ixK (ci 28))).2.2.1, (K (ixK (ci 28))).2.2.2.1, (K (ixK (ci 28))).2.2.2.2.1, (K (ixK (ci 28))).2.2.2.2.2) := by rw [z4, z10]; exact z_hammer _ _ _ _ _ _ _ _ _ _ _ _ _ _ _ _
  refine k11_hammer S0 hK hA hl.1 hf hP hD hS (Or.inl (show (ci 26) = 0 from z8)) (fun i hi _ => by rw [hi]; exact hak.1 _ hix) hf1 (fun H1 locs1 hP hD hS => ?_)
  have hP := vaP_perm hP (stB hix K _ _ _)
  have hD := vaD_perm hD (stB hix K _ _ _)
  refine lv_aload_n hx hb dL_law_1752 rfl (lv_at hl 2 rfl) ?_
  refine lv_aload_n hx hb dL_law_1753 rfl (lv_at hl 0 rfl) ?_
  refine lv_iload hx hb dL_law_1754 (lv_at hl 4 rfl) ?_
  refine lv_iconst (v := 1) hx hb dL_law_1756 (by decide) ?_
  refine lv_iadd hx hb dL_law_1757 ?_
  refine va_sld hx hb hX hbl hbA hS (hin 1 (by decide)) dL_law_1758 ?_
  refine k13_hammer_n (.int (0 : Int32)) (by show 1 ≤ 2; decide) S0 hK hA hl.1 hf (vaP_perm hP (toR _ _ _ _ _)) (vaD_perm hD (toR _ _ _ _ _)) hS (zn_hammer _ _ _ _) (fun H1 locs1 hP hD hS => ?_)
  refine lv_icmp_eq (tgt := 2028) hx hb dL_law_1762 (by decide) (fun _ => ?_) (fun cd => absurd rfl cd)
  refine kk H1 locs1 (Or.inl ⟨(u1 (u1 (u1 (u1 ci 1 1) 25 (ci 25)) 28 (ci 28)) 29 (ci 29)), ca, cl, cj, (updK K (ixK (ci 28)) (K (ixK (ci 28)))), M, mr, (u1 (u1 (u1 ri 0 0) 1 1) 2 (-1)), ra, rk, ow, ⟨hc.t (t := 1) (show ¬ (1 : Int32) = 4 by decide), ⟨nb, hnb, hb1, hb2⟩, ht, hT, (by rw [updK_id]; exact hJ)⟩, hz, vaP_perm hP (toR _ _ _ _ _).symm, vaD_perm hD (toR _ _ _ _ _).symm⟩) hS

set_option maxHeartbeats 4000000 in
set_option maxRecDepth 100000 in
theorem csW_hammer (S0 : CallFix p m c cL_law 7 s #[Value.ref b] wl_L RL) (hK : SK D cy s) (hA : ∀ q, s.heap.size ≤ q → A q) (hX : va_X b L xs s s.heap) (hbl : b < s.heap.size) (hbA : ¬ A b) (hf : cells ≤ room_1.cells ∧ slots ≤ room_1.slots) (hak : AK pk pm ka ma) (hk : k < 1000) (hin : ∀ j : Int32, j ∈ [1, 2, 3, 4, 5] → vp_in (x4 + j) L) (I : LW D cy A ad pk pm ka ma rd ao k H) (hS : va_S A s.heap H locs) (hl : lv_has ls 7 [(0, .ref b), (1, .ref (ad 0)), (2, .ref (rd 0)), (3, .ref ao), (4, .int x4)]) (kk : ∀ (H1 : Heap) (locs1 : List Loc), LI D cy A ad pk pm ka ma rd ao (k + 1) H1 → va_S A s.heap H1 locs1 → W p l e room_1 s m #[Value.ref b] below meth c H1 locs1 cells slots Q (F0 m 2028 ls [])) : W p l e room_1 s m #[Value.ref b] below meth c H locs cells slots Q (F0 m 1742 ls []) := by
  have hx := S0.1
  have hb := S0.2.1
  obtain ⟨ci, ca, cl, cj, K, M, mr, ri, ra, rk, ow, wd, wx, wi, wa, ⟨hc, ⟨nb, hnb, hb1, hb2⟩, ht, hT, hJ⟩, hw, hP, hD⟩ := I
  have hLt : ∃ Lt, Lt < 16 ∧ (ci 28) = nI Lt := by
    obtain ⟨a, n, L, m, C, q, B, U, ps, je, ji, r⟩ := id hw
    exact ⟨L, r.2.2.2.2.1.2.1, je.2.1.1⟩
  obtain ⟨Lt, hLt, zL⟩ := hLt
  have hix : ixK (ci 28) < 16 := by rw [zL]; exact ixK_b hLt
  have hP := vaP_perm hP (stO hix K _ _)
  have hD := vaD_perm hD (stO hix K _ _)
  refine lv_aload_n hx hb dL_law_1742 rfl (lv_at hl 1 rfl) ?_
  refine lv_aload_n hx hb dL_law_1743 rfl (lv_at hl 0 rfl) ?_
  refine lv_iload hx hb dL_law_1744 (lv_at hl 4 rfl) ?_
  refine lv_iconst (v := 1) hx hb dL_law_1746 (by decide) ?_
  refine lv_iadd hx hb dL_law_1747 ?_
  refine va_sld hx hb hX hbl hbA hS (hin 1 (by decide)) dL_law_1748 ?_
  obtain ⟨r, t, x2, la2, ac2, S2, v2, past2, e1, e2, h4, hw2⟩ := jW_hammer hw pk (xs (x4 + 1).toNatClampNeg) (ci 1) (ri 0) (ri 1) (ri 2)
  have hf1 := e1
  refine k11_hammer S0 hK hA hl.1 hf hP hD hS (show nbv (ci 26) from hw.wet) (fun i hi _ => by rw [hi]; exact hak.1 _ hix) hf1 (fun H1 locs1 hP hD hS => ?_)
  have hP := vaP_perm hP (stB hix K _ _ _)
  have hD := vaD_perm hD (stB hix K _ _ _)
  refine lv_aload_n hx hb dL_law_1752 rfl (lv_at hl 2 rfl) ?_
  refine lv_aload_n hx hb dL_law_1753 rfl (lv_at hl 0 rfl) ?_
  refine lv_iload hx hb dL_law_1754 (lv_at hl 4 rfl) ?_
  refine lv_iconst (v := 1) hx hb dL_law_1756 (by decide) ?_
  refine lv_iadd hx hb dL_law_1757 ?_
  refine va_sld hx hb hX hbl hbA hS (hin 1 (by decide)) dL_law_1758 ?_
  refine k13_hammer (.int r) (by show 1 ≤ 2; decide) S0 hK hA hl.1 hf (vaP_perm hP (toR _ _ _ _ _)) (vaD_perm hD (toR _ _ _ _ _)) hS e2 (fun H1 locs1 hP hD hS => ?_)
  refine lv_icmp_eq (tgt := 2028) hx hb dL_law_1762 (by decide) (fun _ => ?_) (fun cd => absurd rfl cd)
  refine kk H1 locs1 (Or.inr ⟨(u1 (u1 (u1 (u1 ci 1 t) 25 x2) 28 la2) 29 ac2), ca, cl, cj, (updK K (ixK (ci 28)) S2), M, mr, (u1 (u1 (u1 (u1 ri 0 0) 1 t) 2 (-1)) 12 ac2), (u1 (u1 ra 1 v2) 3 past2), rk, ow, wd, wx, wi, wa, ⟨hc.t h4, ⟨nb, hnb, hb1, hb2⟩, ht, hT, (hJ.k (w_hammer e1 (show nbv (ci 26) from hw.wet) (hJ.1 _)))⟩, hw2, vaP_perm hP (toR _ _ _ _ _).symm, vaD_perm hD (toR _ _ _ _ _).symm⟩) hS

set_option maxHeartbeats 4000000 in
set_option maxRecDepth 100000 in
theorem csN_teach (S0 : CallFix p m c cL_law 7 s #[Value.ref b] wl_L RL) (hK : SK D cy s) (hA : ∀ q, s.heap.size ≤ q → A q) (hX : va_X b L xs s s.heap) (hbl : b < s.heap.size) (hbA : ¬ A b) (hf : cells ≤ room_1.cells ∧ slots ≤ room_1.slots) (hak : AK pk pm ka ma) (hk : k < 1000) (hin : ∀ j : Int32, j ∈ [1, 2, 3, 4, 5] → vp_in (x4 + j) L) (I : LN D cy A ad pk pm ka ma rd ao H) (hS : va_S A s.heap H locs) (hl : lv_has ls 7 [(0, .ref b), (1, .ref (ad 0)), (2, .ref (rd 0)), (3, .ref ao), (4, .int x4)]) (kk : ∀ (H1 : Heap) (locs1 : List Loc), LI D cy A ad pk pm ka ma rd ao (k + 1) H1 → va_S A s.heap H1 locs1 → W p l e room_1 s m #[Value.ref b] below meth c H1 locs1 cells slots Q (F0 m 2028 ls [])) : W p l e room_1 s m #[Value.ref b] below meth c H locs cells slots Q (F0 m 1767 ls []) := by
  have hx := S0.1
  have hb := S0.2.1
  obtain ⟨ci, ca, cl, cj, K, M, mr, ri, ra, rk, ow, ⟨hc, ⟨nb, hnb, hb1, hb2⟩, ht, hT, hJ⟩, hz, hP, hD⟩ := I
  obtain ⟨⟨z1, z2, z3, z4, z5, z6, z7⟩, ⟨z8, z9⟩, ⟨z10, z11⟩, Lt, hLt, zL⟩ := id hz
  have hix : ixK (ci 28) < 16 := by rw [zL]; exact ixK_b hLt
  have hP := vaP_perm hP (stO hix K _ _)
  have hD := vaD_perm hD (stO hix K _ _)
  refine lv_aload_n hx hb dL_law_1767 rfl (lv_at hl 1 rfl) ?_
  refine lv_aload_n hx hb dL_law_1768 rfl (lv_at hl 0 rfl) ?_
  refine lv_iload hx hb dL_law_1769 (lv_at hl 4 rfl) ?_
  refine lv_iconst (v := 1) hx hb dL_law_1771 (by decide) ?_
  refine lv_iadd hx hb dL_law_1772 ?_
  refine va_sld hx hb hX hbl hbA hS (hin 1 (by decide)) dL_law_1773 ?_
  refine lv_aload_n hx hb dL_law_1774 rfl (lv_at hl 0 rfl) ?_
  refine lv_iload hx hb dL_law_1775 (lv_at hl 4 rfl) ?_
  refine lv_iconst (v := 2) hx hb dL_law_1777 (by decide) ?_
  refine lv_iadd hx hb dL_law_1778 ?_
  refine va_sld hx hb hX hbl hbA hS (hin 2 (by decide)) dL_law_1779 ?_
  have hf1 : f_X11_teach (ci 1) (ci 18) (ca 12) (ci 25) (ci 26) (ci 27) (ca 19) (ca 20) (ca 21) (ci 28) (ci 29) pk (K (ixK (ci 28))).1 (K (ixK (ci 28))).2.1 (K (ixK (ci 28))).2.2.1 (K (ixK (ci 28))).2.2.2.1 (K (ixK (ci 28))).2.2.2.2.1 (K (ixK (ci 28))).2.2.2.2.2 (xs (x4 + 1).toNatClampNeg) (xs (x4 + 2).toNatClampNeg) = some (-1, 1, (ca 19), (ci 28), (ci 29), (K (ixK (ci 28))).1, (K (ixK (ci 28))).2.1, (K (ixK (ci 28))).2.2.1, (K (ixK (ci 28))).2.2.2.1, (K (ixK (ci 28))).2.2.2.2.1, (K (ixK (ci 28))).2.2.2.2.2) := by rw [z1, z10]; exact z_teach _ _ _ _ _ _ _ _ _ _ _ _ _ _ _ _ _ _
  refine k11_teach S0 hK hA hl.1 hf hP hD hS (Or.inl (show (ci 26) = 0 from z8)) (fun i hi _ => by rw [hi]; exact hak.1 _ hix) hf1 (fun H1 locs1 hP hD hS => ?_)
  have hP := vaP_perm hP (stB hix K _ _ _)
  have hD := vaD_perm hD (stB hix K _ _ _)
  refine lv_aload_n hx hb dL_law_1783 rfl (lv_at hl 2 rfl) ?_
  refine lv_aload_n hx hb dL_law_1784 rfl (lv_at hl 0 rfl) ?_
  refine lv_iload hx hb dL_law_1785 (lv_at hl 4 rfl) ?_
  refine lv_iconst (v := 1) hx hb dL_law_1787 (by decide) ?_
  refine lv_iadd hx hb dL_law_1788 ?_
  refine va_sld hx hb hX hbl hbA hS (hin 1 (by decide)) dL_law_1789 ?_
  refine lv_aload_n hx hb dL_law_1790 rfl (lv_at hl 0 rfl) ?_
  refine lv_iload hx hb dL_law_1791 (lv_at hl 4 rfl) ?_
  refine lv_iconst (v := 2) hx hb dL_law_1793 (by decide) ?_
  refine lv_iadd hx hb dL_law_1794 ?_
  refine va_sld hx hb hX hbl hbA hS (hin 2 (by decide)) dL_law_1795 ?_
  refine k13_teach_n (.int (-1 : Int32)) (by show 1 ≤ 2; decide) S0 hK hA hl.1 hf (vaP_perm hP (toR _ _ _ _ _)) (vaD_perm hD (toR _ _ _ _ _)) hS (zn_teach _ _ _ _ _) (fun H1 locs1 hP hD hS => ?_)
  refine lv_icmp_eq (tgt := 2028) hx hb dL_law_1799 (by decide) (fun _ => ?_) (fun cd => absurd rfl cd)
  refine kk H1 locs1 (Or.inl ⟨(u1 (u1 (u1 ci 1 1) 28 (ci 28)) 29 (ci 29)), (u1 ca 19 (ca 19)), cl, cj, (updK K (ixK (ci 28)) (K (ixK (ci 28)))), M, mr, (u1 (u1 (u1 ri 0 0) 1 1) 2 (-1)), ra, rk, ow, ⟨hc.t (t := 1) (show ¬ (1 : Int32) = 4 by decide), ⟨nb, hnb, hb1, hb2⟩, ht, hT, (by rw [updK_id]; exact hJ)⟩, hz, vaP_perm hP (toR _ _ _ _ _).symm, vaD_perm hD (toR _ _ _ _ _).symm⟩) hS

set_option maxHeartbeats 4000000 in
set_option maxRecDepth 100000 in
theorem csW_teach (S0 : CallFix p m c cL_law 7 s #[Value.ref b] wl_L RL) (hK : SK D cy s) (hA : ∀ q, s.heap.size ≤ q → A q) (hX : va_X b L xs s s.heap) (hbl : b < s.heap.size) (hbA : ¬ A b) (hf : cells ≤ room_1.cells ∧ slots ≤ room_1.slots) (hak : AK pk pm ka ma) (hk : k < 1000) (hin : ∀ j : Int32, j ∈ [1, 2, 3, 4, 5] → vp_in (x4 + j) L) (I : LW D cy A ad pk pm ka ma rd ao k H) (hS : va_S A s.heap H locs) (hl : lv_has ls 7 [(0, .ref b), (1, .ref (ad 0)), (2, .ref (rd 0)), (3, .ref ao), (4, .int x4)]) (kk : ∀ (H1 : Heap) (locs1 : List Loc), LI D cy A ad pk pm ka ma rd ao (k + 1) H1 → va_S A s.heap H1 locs1 → W p l e room_1 s m #[Value.ref b] below meth c H1 locs1 cells slots Q (F0 m 2028 ls [])) : W p l e room_1 s m #[Value.ref b] below meth c H locs cells slots Q (F0 m 1767 ls []) := by
  have hx := S0.1
  have hb := S0.2.1
  obtain ⟨ci, ca, cl, cj, K, M, mr, ri, ra, rk, ow, wd, wx, wi, wa, ⟨hc, ⟨nb, hnb, hb1, hb2⟩, ht, hT, hJ⟩, hw, hP, hD⟩ := I
  have hLt : ∃ Lt, Lt < 16 ∧ (ci 28) = nI Lt := by
    obtain ⟨a, n, L, m, C, q, B, U, ps, je, ji, r⟩ := id hw
    exact ⟨L, r.2.2.2.2.1.2.1, je.2.1.1⟩
  obtain ⟨Lt, hLt, zL⟩ := hLt
  have hix : ixK (ci 28) < 16 := by rw [zL]; exact ixK_b hLt
  have hP := vaP_perm hP (stO hix K _ _)
  have hD := vaD_perm hD (stO hix K _ _)
  refine lv_aload_n hx hb dL_law_1767 rfl (lv_at hl 1 rfl) ?_
  refine lv_aload_n hx hb dL_law_1768 rfl (lv_at hl 0 rfl) ?_
  refine lv_iload hx hb dL_law_1769 (lv_at hl 4 rfl) ?_
  refine lv_iconst (v := 1) hx hb dL_law_1771 (by decide) ?_
  refine lv_iadd hx hb dL_law_1772 ?_
  refine va_sld hx hb hX hbl hbA hS (hin 1 (by decide)) dL_law_1773 ?_
  refine lv_aload_n hx hb dL_law_1774 rfl (lv_at hl 0 rfl) ?_
  refine lv_iload hx hb dL_law_1775 (lv_at hl 4 rfl) ?_
  refine lv_iconst (v := 2) hx hb dL_law_1777 (by decide) ?_
  refine lv_iadd hx hb dL_law_1778 ?_
  refine va_sld hx hb hX hbl hbA hS (hin 2 (by decide)) dL_law_1779 ?_
  obtain ⟨r, t, x2, la2, ac2, S2, v2, past2, e1, e2, h4, hw2⟩ := jW_teach hw pk (xs (x4 + 1).toNatClampNeg) (xs (x4 + 2).toNatClampNeg) (ci 1) (ri 0) (ri 1) (ri 2)
  have hf1 := e1
  refine k11_teach S0 hK hA hl.1 hf hP hD hS (show nbv (ci 26) from hw.wet) (fun i hi _ => by rw [hi]; exact hak.1 _ hix) hf1 (fun H1 locs1 hP hD hS => ?_)
  have hP := vaP_perm hP (stB hix K _ _ _)
  have hD := vaD_perm hD (stB hix K _ _ _)
  refine lv_aload_n hx hb dL_law_1783 rfl (lv_at hl 2 rfl) ?_
  refine lv_aload_n hx hb dL_law_1784 rfl (lv_at hl 0 rfl) ?_
  refine lv_iload hx hb dL_law_1785 (lv_at hl 4 rfl) ?_
  refine lv_iconst (v := 1) hx hb dL_law_1787 (by decide) ?_
  refine lv_iadd hx hb dL_law_1788 ?_
  refine va_sld hx hb hX hbl hbA hS (hin 1 (by decide)) dL_law_1789 ?_
  refine lv_aload_n hx hb dL_law_1790 rfl (lv_at hl 0 rfl) ?_
  refine lv_iload hx hb dL_law_1791 (lv_at hl 4 rfl) ?_
  refine lv_iconst (v := 2) hx hb dL_law_1793 (by decide) ?_
  refine lv_iadd hx hb dL_law_1794 ?_
  refine va_sld hx hb hX hbl hbA hS (hin 2 (by decide)) dL_law_1795 ?_
  refine k13_teach (.int r) (by show 1 ≤ 2; decide) S0 hK hA hl.1 hf (vaP_perm hP (toR _ _ _ _ _)) (vaD_perm hD (toR _ _ _ _ _)) hS e2 (fun H1 locs1 hP hD hS => ?_)
  refine lv_icmp_eq (tgt := 2028) hx hb dL_law_1799 (by decide) (fun _ => ?_) (fun cd => absurd rfl cd)
  refine kk H1 locs1 (Or.inr ⟨(u1 (u1 (u1 ci 1 t) 28 la2) 29 ac2), (u1 ca 19 x2), cl, cj, (updK K (ixK (ci 28)) S2), M, mr, (u1 (u1 (u1 (u1 ri 0 0) 1 t) 2 (-1)) 12 ac2), (u1 (u1 ra 1 v2) 3 past2), rk, ow, wd, wx, wi, wa, ⟨hc.t h4, ⟨nb, hnb, hb1, hb2⟩, ht, hT, (hJ.k (w_teach e1 (show nbv (ci 26) from hw.wet) (hJ.1 _)))⟩, hw2, vaP_perm hP (toR _ _ _ _ _).symm, vaD_perm hD (toR _ _ _ _ _).symm⟩) hS

set_option maxHeartbeats 4000000 in
set_option maxRecDepth 100000 in
theorem csN_rain (S0 : CallFix p m c cL_law 7 s #[Value.ref b] wl_L RL) (hK : SK D cy s) (hA : ∀ q, s.heap.size ≤ q → A q) (hX : va_X b L xs s s.heap) (hbl : b < s.heap.size) (hbA : ¬ A b) (hf : cells ≤ room_1.cells ∧ slots ≤ room_1.slots) (hak : AK pk pm ka ma) (hk : k < 1000) (hin : ∀ j : Int32, j ∈ [1, 2, 3, 4, 5] → vp_in (x4 + j) L) (I : LN D cy A ad pk pm ka ma rd ao H) (hS : va_S A s.heap H locs) (hl : lv_has ls 7 [(0, .ref b), (1, .ref (ad 0)), (2, .ref (rd 0)), (3, .ref ao), (4, .int x4)]) (kk : ∀ (H1 : Heap) (locs1 : List Loc), LI D cy A ad pk pm ka ma rd ao (k + 1) H1 → va_S A s.heap H1 locs1 → W p l e room_1 s m #[Value.ref b] below meth c H1 locs1 cells slots Q (F0 m 2028 ls [])) : W p l e room_1 s m #[Value.ref b] below meth c H locs cells slots Q (F0 m 1804 ls []) := by
  have hx := S0.1
  have hb := S0.2.1
  obtain ⟨ci, ca, cl, cj, K, M, mr, ri, ra, rk, ow, ⟨hc, ⟨nb, hnb, hb1, hb2⟩, ht, hT, hJ⟩, hz, hP, hD⟩ := I
  obtain ⟨⟨z1, z2, z3, z4, z5, z6, z7⟩, ⟨z8, z9⟩, ⟨z10, z11⟩, Lt, hLt, zL⟩ := id hz
  have hix : ixK (ci 28) < 16 := by rw [zL]; exact ixK_b hLt
  have hP := vaP_perm hP (stO hix K _ _)
  have hD := vaD_perm hD (stO hix K _ _)
  refine lv_aload_n hx hb dL_law_1804 rfl (lv_at hl 1 rfl) ?_
  refine lv_aload_n hx hb dL_law_1805 rfl (lv_at hl 0 rfl) ?_
  refine lv_iload hx hb dL_law_1806 (lv_at hl 4 rfl) ?_
  refine lv_iconst (v := 1) hx hb dL_law_1808 (by decide) ?_
  refine lv_iadd hx hb dL_law_1809 ?_
  refine va_sld hx hb hX hbl hbA hS (hin 1 (by decide)) dL_law_1810 ?_
  refine lv_bool hx hb dL_law_1811 dL_law_1814 dL_law_1815 dL_law_1818 ?_
  have hf1 : f_X11_rain (ci 1) (ci 18) (ci 25) (ci 26) (ci 27) (ca 19) (ca 20) (ca 21) (ci 28) (ci 29) pk (K (ixK (ci 28))).1 (K (ixK (ci 28))).2.1 (K (ixK (ci 28))).2.2.1 (K (ixK (ci 28))).2.2.2.1 (K (ixK (ci 28))).2.2.2.2.1 (K (ixK (ci 28))).2.2.2.2.2 (if decide (¬ xs (x4 + 1).toNatClampNeg = 0) = true then 1 else 0) = some (0, 1, (ci 26), (ci 28), (ci 29), (K (ixK (ci 28))).1, (K (ixK (ci 28))).2.1, (K (ixK (ci 28))).2.2.1, (K (ixK (ci 28))).2.2.2.1, (K (ixK (ci 28))).2.2.2.2.1, (K (ixK (ci 28))).2.2.2.2.2) := by rw [z1, z10]; exact z_rain _ _ _ _ _ _ _ _ _ _ _ _ _ _ _ _
  refine k11_rain S0 hK hA hl.1 hf hP hD hS (Or.inl (show (ci 26) = 0 from z8)) (by show nbv (if _ then 1 else 0); split <;> first | exact Or.inr rfl | exact Or.inl rfl) (fun i hi _ => by rw [hi]; exact hak.1 _ hix) hf1 (fun H1 locs1 hP hD hS => ?_)
  have hP := vaP_perm hP (stB hix K _ _ _)
  have hD := vaD_perm hD (stB hix K _ _ _)
  refine lv_aload_n hx hb dL_law_1822 rfl (lv_at hl 2 rfl) ?_
  refine lv_aload_n hx hb dL_law_1823 rfl (lv_at hl 0 rfl) ?_
  refine lv_iload hx hb dL_law_1824 (lv_at hl 4 rfl) ?_
  refine lv_iconst (v := 1) hx hb dL_law_1826 (by decide) ?_
  refine lv_iadd hx hb dL_law_1827 ?_
  refine va_sld hx hb hX hbl hbA hS (hin 1 (by decide)) dL_law_1828 ?_
  refine lv_bool hx hb dL_law_1829 dL_law_1832 dL_law_1833 dL_law_1836 ?_
  refine k13_rain_n (.int (0 : Int32)) (by show 1 ≤ 2; decide) S0 hK hA hl.1 hf (vaP_perm hP (toR _ _ _ _ _)) (vaD_perm hD (toR _ _ _ _ _)) hS (zn_rain _ _ _ _) (fun H1 locs1 hP hD hS => ?_)
  refine lv_icmp_eq (tgt := 2028) hx hb dL_law_1840 (by decide) (fun _ => ?_) (fun cd => absurd rfl cd)
  refine kk H1 locs1 (Or.inl ⟨(u1 (u1 (u1 (u1 ci 1 1) 26 (ci 26)) 28 (ci 28)) 29 (ci 29)), ca, cl, cj, (updK K (ixK (ci 28)) (K (ixK (ci 28)))), M, mr, (u1 (u1 (u1 ri 0 0) 1 1) 2 (-1)), ra, rk, ow, ⟨hc.t (t := 1) (show ¬ (1 : Int32) = 4 by decide), ⟨nb, hnb, hb1, hb2⟩, ht, hT, (by rw [updK_id]; exact hJ)⟩, hz, vaP_perm hP (toR _ _ _ _ _).symm, vaD_perm hD (toR _ _ _ _ _).symm⟩) hS

set_option maxHeartbeats 4000000 in
set_option maxRecDepth 100000 in
theorem csW_rain (S0 : CallFix p m c cL_law 7 s #[Value.ref b] wl_L RL) (hK : SK D cy s) (hA : ∀ q, s.heap.size ≤ q → A q) (hX : va_X b L xs s s.heap) (hbl : b < s.heap.size) (hbA : ¬ A b) (hf : cells ≤ room_1.cells ∧ slots ≤ room_1.slots) (hak : AK pk pm ka ma) (hk : k < 1000) (hin : ∀ j : Int32, j ∈ [1, 2, 3, 4, 5] → vp_in (x4 + j) L) (I : LW D cy A ad pk pm ka ma rd ao k H) (hS : va_S A s.heap H locs) (hl : lv_has ls 7 [(0, .ref b), (1, .ref (ad 0)), (2, .ref (rd 0)), (3, .ref ao), (4, .int x4)]) (kk : ∀ (H1 : Heap) (locs1 : List Loc), LI D cy A ad pk pm ka ma rd ao (k + 1) H1 → va_S A s.heap H1 locs1 → W p l e room_1 s m #[Value.ref b] below meth c H1 locs1 cells slots Q (F0 m 2028 ls [])) : W p l e room_1 s m #[Value.ref b] below meth c H locs cells slots Q (F0 m 1804 ls []) := by
  have hx := S0.1
  have hb := S0.2.1
  obtain ⟨ci, ca, cl, cj, K, M, mr, ri, ra, rk, ow, wd, wx, wi, wa, ⟨hc, ⟨nb, hnb, hb1, hb2⟩, ht, hT, hJ⟩, hw, hP, hD⟩ := I
  have hLt : ∃ Lt, Lt < 16 ∧ (ci 28) = nI Lt := by
    obtain ⟨a, n, L, m, C, q, B, U, ps, je, ji, r⟩ := id hw
    exact ⟨L, r.2.2.2.2.1.2.1, je.2.1.1⟩
  obtain ⟨Lt, hLt, zL⟩ := hLt
  have hix : ixK (ci 28) < 16 := by rw [zL]; exact ixK_b hLt
  have hP := vaP_perm hP (stO hix K _ _)
  have hD := vaD_perm hD (stO hix K _ _)
  refine lv_aload_n hx hb dL_law_1804 rfl (lv_at hl 1 rfl) ?_
  refine lv_aload_n hx hb dL_law_1805 rfl (lv_at hl 0 rfl) ?_
  refine lv_iload hx hb dL_law_1806 (lv_at hl 4 rfl) ?_
  refine lv_iconst (v := 1) hx hb dL_law_1808 (by decide) ?_
  refine lv_iadd hx hb dL_law_1809 ?_
  refine va_sld hx hb hX hbl hbA hS (hin 1 (by decide)) dL_law_1810 ?_
  refine lv_bool hx hb dL_law_1811 dL_law_1814 dL_law_1815 dL_law_1818 ?_
  obtain ⟨r, t, x2, la2, ac2, S2, v2, past2, e1, e2, h4, hw2⟩ := jW_rain hw pk (decide (¬ xs (x4 + 1).toNatClampNeg = 0)) (ci 1) (ri 0) (ri 1) (ri 2)
  have hf1 := e1
  refine k11_rain S0 hK hA hl.1 hf hP hD hS (show nbv (ci 26) from hw.wet) (by show nbv (if _ then 1 else 0); split <;> first | exact Or.inr rfl | exact Or.inl rfl) (fun i hi _ => by rw [hi]; exact hak.1 _ hix) hf1 (fun H1 locs1 hP hD hS => ?_)
  have hP := vaP_perm hP (stB hix K _ _ _)
  have hD := vaD_perm hD (stB hix K _ _ _)
  refine lv_aload_n hx hb dL_law_1822 rfl (lv_at hl 2 rfl) ?_
  refine lv_aload_n hx hb dL_law_1823 rfl (lv_at hl 0 rfl) ?_
  refine lv_iload hx hb dL_law_1824 (lv_at hl 4 rfl) ?_
  refine lv_iconst (v := 1) hx hb dL_law_1826 (by decide) ?_
  refine lv_iadd hx hb dL_law_1827 ?_
  refine va_sld hx hb hX hbl hbA hS (hin 1 (by decide)) dL_law_1828 ?_
  refine lv_bool hx hb dL_law_1829 dL_law_1832 dL_law_1833 dL_law_1836 ?_
  refine k13_rain (.int r) (by show 1 ≤ 2; decide) S0 hK hA hl.1 hf (vaP_perm hP (toR _ _ _ _ _)) (vaD_perm hD (toR _ _ _ _ _)) hS e2 (fun H1 locs1 hP hD hS => ?_)
  refine lv_icmp_eq (tgt := 2028) hx hb dL_law_1840 (by decide) (fun _ => ?_) (fun cd => absurd rfl cd)
  refine kk H1 locs1 (Or.inr ⟨(u1 (u1 (u1 (u1 ci 1 t) 26 x2) 28 la2) 29 ac2), ca, cl, cj, (updK K (ixK (ci 28)) S2), M, mr, (u1 (u1 (u1 (u1 ri 0 0) 1 t) 2 (-1)) 12 ac2), (u1 (u1 ra 1 v2) 3 past2), rk, ow, wd, wx, wi, wa, ⟨hc.t h4, ⟨nb, hnb, hb1, hb2⟩, ht, hT, (hJ.k (w_rain e1 (show nbv (ci 26) from hw.wet) (hJ.1 _)))⟩, hw2, vaP_perm hP (toR _ _ _ _ _).symm, vaD_perm hD (toR _ _ _ _ _).symm⟩) hS

set_option maxHeartbeats 4000000 in
set_option maxRecDepth 100000 in
theorem csN_battle (S0 : CallFix p m c cL_law 7 s #[Value.ref b] wl_L RL) (hK : SK D cy s) (hA : ∀ q, s.heap.size ≤ q → A q) (hX : va_X b L xs s s.heap) (hbl : b < s.heap.size) (hbA : ¬ A b) (hf : cells ≤ room_1.cells ∧ slots ≤ room_1.slots) (hak : AK pk pm ka ma) (hk : k < 1000) (hin : ∀ j : Int32, j ∈ [1, 2, 3, 4, 5] → vp_in (x4 + j) L) (I : LN D cy A ad pk pm ka ma rd ao H) (hS : va_S A s.heap H locs) (hl : lv_has ls 7 [(0, .ref b), (1, .ref (ad 0)), (2, .ref (rd 0)), (3, .ref ao), (4, .int x4)]) (kk : ∀ (H1 : Heap) (locs1 : List Loc), LI D cy A ad pk pm ka ma rd ao (k + 1) H1 → va_S A s.heap H1 locs1 → W p l e room_1 s m #[Value.ref b] below meth c H1 locs1 cells slots Q (F0 m 2028 ls [])) : W p l e room_1 s m #[Value.ref b] below meth c H locs cells slots Q (F0 m 1845 ls []) := by
  have hx := S0.1
  have hb := S0.2.1
  obtain ⟨ci, ca, cl, cj, K, M, mr, ri, ra, rk, ow, ⟨hc, ⟨nb, hnb, hb1, hb2⟩, ht, hT, hJ⟩, hz, hP, hD⟩ := I
  obtain ⟨⟨z1, z2, z3, z4, z5, z6, z7⟩, ⟨z8, z9⟩, ⟨z10, z11⟩, Lt, hLt, zL⟩ := id hz
  have hix : ixK (ci 28) < 16 := by rw [zL]; exact ixK_b hLt
  have hP := vaP_perm hP (stO hix K _ _)
  have hD := vaD_perm hD (stO hix K _ _)
  refine lv_aload_n hx hb dL_law_1845 rfl (lv_at hl 1 rfl) ?_
  have hf1 : f_X11_battle (ci 1) (ci 18) (ci 19) (ci 21) (ca 12) (ca 14) (ca 16) (ci 25) (ci 26) (ci 27) (ca 19) (ca 20) (ca 21) (ci 28) (ci 29) pk (K (ixK (ci 28))).1 (K (ixK (ci 28))).2.1 (K (ixK (ci 28))).2.2.1 (K (ixK (ci 28))).2.2.2.1 (K (ixK (ci 28))).2.2.2.2.1 (K (ixK (ci 28))).2.2.2.2.2 (ci 36) (ci 37) (ci 38) (ci 39) (ca 27) = some (-1, 1, (ci 27), (ca 19), (ci 28), (ci 29), (K (ixK (ci 28))).1, (K (ixK (ci 28))).2.1, (K (ixK (ci 28))).2.2.1, (K (ixK (ci 28))).2.2.2.1, (K (ixK (ci 28))).2.2.2.2.1, (K (ixK (ci 28))).2.2.2.2.2, (ci 36), (ci 37), (ci 38), (ci 39), (ca 27)) := by rw [z1, z4, z10]; exact z_battle _ _ _ _ _ _ _ _ _ _ _ _ _ _ _ _ _ _ _ _ _ _ _ _
  refine k11_battle S0 hK hA hl.1 hf hP hD hS (Or.inl (show (ci 26) = 0 from z8)) (fun i hi _ => by rw [hi]; exact hak.1 _ hix) hf1 (fun H1 locs1 hP hD hS => ?_)
  have hP := vaP_perm hP (stB hix K _ _ _)
  have hD := vaD_perm hD (stB hix K _ _ _)
  refine lv_aload_n hx hb dL_law_1849 rfl (lv_at hl 2 rfl) ?_
  refine k13_battle_n (.int (-1 : Int32)) (by show 1 ≤ 2; decide) S0 hK hA hl.1 hf (vaP_perm hP (toR _ _ _ _ _)) (vaD_perm hD (toR _ _ _ _ _)) hS (zn_battle _ _ _) (fun H1 locs1 hP hD hS => ?_)
  refine lv_icmp_eq (tgt := 2028) hx hb dL_law_1853 (by decide) (fun _ => ?_) (fun cd => absurd rfl cd)
  refine kk H1 locs1 (Or.inl ⟨(u1 (u1 (u1 (u1 (u1 (u1 (u1 (u1 ci 1 1) 27 (ci 27)) 28 (ci 28)) 29 (ci 29)) 36 (ci 36)) 37 (ci 37)) 38 (ci 38)) 39 (ci 39)), (u1 (u1 ca 19 (ca 19)) 27 (ca 27)), cl, cj, (updK K (ixK (ci 28)) (K (ixK (ci 28)))), M, mr, (u1 (u1 (u1 ri 0 0) 1 1) 2 (-1)), ra, rk, ow, ⟨hc.t (t := 1) (show ¬ (1 : Int32) = 4 by decide), ⟨nb, hnb, hb1, hb2⟩, ht, hT, (by rw [updK_id]; exact hJ)⟩, hz, vaP_perm hP (toR _ _ _ _ _).symm, vaD_perm hD (toR _ _ _ _ _).symm⟩) hS

set_option maxHeartbeats 4000000 in
set_option maxRecDepth 100000 in
theorem csW_battle (S0 : CallFix p m c cL_law 7 s #[Value.ref b] wl_L RL) (hK : SK D cy s) (hA : ∀ q, s.heap.size ≤ q → A q) (hX : va_X b L xs s s.heap) (hbl : b < s.heap.size) (hbA : ¬ A b) (hf : cells ≤ room_1.cells ∧ slots ≤ room_1.slots) (hak : AK pk pm ka ma) (hk : k < 1000) (hin : ∀ j : Int32, j ∈ [1, 2, 3, 4, 5] → vp_in (x4 + j) L) (I : LW D cy A ad pk pm ka ma rd ao k H) (hS : va_S A s.heap H locs) (hl : lv_has ls 7 [(0, .ref b), (1, .ref (ad 0)), (2, .ref (rd 0)), (3, .ref ao), (4, .int x4)]) (kk : ∀ (H1 : Heap) (locs1 : List Loc), LI D cy A ad pk pm ka ma rd ao (k + 1) H1 → va_S A s.heap H1 locs1 → W p l e room_1 s m #[Value.ref b] below meth c H1 locs1 cells slots Q (F0 m 2028 ls [])) : W p l e room_1 s m #[Value.ref b] below meth c H locs cells slots Q (F0 m 1845 ls []) := by
  have hx := S0.1
  have hb := S0.2.1
  obtain ⟨ci, ca, cl, cj, K, M, mr, ri, ra, rk, ow, wd, wx, wi, wa, ⟨hc, ⟨nb, hnb, hb1, hb2⟩, ht, hT, hJ⟩, hw, hP, hD⟩ := I
  have hLt : ∃ Lt, Lt < 16 ∧ (ci 28) = nI Lt := by
    obtain ⟨a, n, L, m, C, q, B, U, ps, je, ji, r⟩ := id hw
    exact ⟨L, r.2.2.2.2.1.2.1, je.2.1.1⟩
  obtain ⟨Lt, hLt, zL⟩ := hLt
  have hix : ixK (ci 28) < 16 := by rw [zL]; exact ixK_b hLt
  have hP := vaP_perm hP (stO hix K _ _)
  have hD := vaD_perm hD (stO hix K _ _)
  refine lv_aload_n hx hb dL_law_1845 rfl (lv_at hl 1 rfl) ?_
  obtain ⟨r, d2, s2, la2, ac2, S2, y1, y2, y3, y4, y5, z1, z2, z3, v2, past2, e1, e2, hw2⟩ := jW_battle hw pk (ci 1) (ci 36) (ci 37) (ci 38) (ci 39) (ca 27) (ri 0) (ri 1) (ri 2) (ri 17) (ri 18) (ri 19)
  have hf1 := e1
  refine k11_battle S0 hK hA hl.1 hf hP hD hS (show nbv (ci 26) from hw.wet) (fun i hi _ => by rw [hi]; exact hak.1 _ hix) hf1 (fun H1 locs1 hP hD hS => ?_)
  have hP := vaP_perm hP (stB hix K _ _ _)
  have hD := vaD_perm hD (stB hix K _ _ _)
  refine lv_aload_n hx hb dL_law_1849 rfl (lv_at hl 2 rfl) ?_
  refine k13_battle_v (.int r) (by show 1 ≤ 2; decide) S0 hK hA hl.1 hf (vaP_perm hP (toR _ _ _ _ _)) (vaD_perm hD (toR _ _ _ _ _)) hS e2 (fun H1 locs1 hP hD hS => ?_)
  refine lv_icmp_eq (tgt := 2028) hx hb dL_law_1853 (by decide) (fun _ => ?_) (fun cd => absurd rfl cd)
  refine kk H1 locs1 (Or.inr ⟨(u1 (u1 (u1 (u1 (u1 (u1 (u1 (u1 ci 1 0) 27 d2) 28 la2) 29 ac2) 36 y1) 37 y2) 38 y3) 39 y4), (u1 (u1 ca 19 s2) 27 y5), cl, cj, (updK K (ixK (ci 28)) S2), M, mr, (u1 (u1 (u1 (u1 (u1 (u1 (u1 ri 0 0) 1 0) 2 (-1)) 12 ac2) 17 z1) 18 z2) 19 z3), (u1 (u1 ra 1 v2) 3 past2), rk, ow, wd, wx, wi, wa, ⟨hc.t (t := 0) (show ¬ (0 : Int32) = 4 by decide), ⟨nb, hnb, hb1, hb2⟩, ht, hT, (hJ.k (w_battle e1 (show nbv (ci 26) from hw.wet) (hJ.1 _)))⟩, hw2, vaP_perm hP (toR _ _ _ _ _).symm, vaD_perm hD (toR _ _ _ _ _).symm⟩) hS

set_option maxHeartbeats 4000000 in
set_option maxRecDepth 100000 in
theorem csN_seed (S0 : CallFix p m c cL_law 7 s #[Value.ref b] wl_L RL) (hK : SK D cy s) (hA : ∀ q, s.heap.size ≤ q → A q) (hX : va_X b L xs s s.heap) (hbl : b < s.heap.size) (hbA : ¬ A b) (hf : cells ≤ room_1.cells ∧ slots ≤ room_1.slots) (hak : AK pk pm ka ma) (hk : k < 1000) (hin : ∀ j : Int32, j ∈ [1, 2, 3, 4, 5] → vp_in (x4 + j) L) (I : LN D cy A ad pk pm ka ma rd ao H) (hS : va_S A s.heap H locs) (hl : lv_has ls 7 [(0, .ref b), (1, .ref (ad 0)), (2, .ref (rd 0)), (3, .ref ao), (4, .int x4)]) (kk : ∀ (H1 : Heap) (locs1 : List Loc), LI D cy A ad pk pm ka ma rd ao (k + 1) H1 → va_S A s.heap H1 locs1 → W p l e room_1 s m #[Value.ref b] below meth c H1 locs1 cells slots Q (F0 m 2028 ls [])) : W p l e room_1 s m #[Value.ref b] below meth c H locs cells slots Q (F0 m 1858 ls []) := by
  have hx := S0.1
  have hb := S0.2.1
  obtain ⟨ci, ca, cl, cj, K, M, mr, ri, ra, rk, ow, ⟨hc, ⟨nb, hnb, hb1, hb2⟩, ht, hT, hJ⟩, hz, hP, hD⟩ := I
  obtain ⟨⟨z1, z2, z3, z4, z5, z6, z7⟩, ⟨z8, z9⟩, ⟨z10, z11⟩, Lt, hLt, zL⟩ := id hz
  refine lv_aload_n hx hb dL_law_1858 rfl (lv_at hl 1 rfl) ?_
  refine lv_aload_n hx hb dL_law_1859 rfl (lv_at hl 0 rfl) ?_
  refine lv_iload hx hb dL_law_1860 (lv_at hl 4 rfl) ?_
  refine lv_iconst (v := 1) hx hb dL_law_1862 (by decide) ?_
  refine lv_iadd hx hb dL_law_1863 ?_
  refine va_sld hx hb hX hbl hbA hS (hin 1 (by decide)) dL_law_1864 ?_
  have hf1 : f_X11_seed (ci 1) (ci 18) (ci 27) (xs (x4 + 1).toNatClampNeg) = some (0, 1, (ci 27)) := by rw [z1]; exact z_seed _ _ _
  refine k11_seed S0 hK hA hl.1 hf hP hD hS  hf1 (fun H1 locs1 hP hD hS => ?_)
  refine lv_aload_n hx hb dL_law_1868 rfl (lv_at hl 2 rfl) ?_
  refine lv_aload_n hx hb dL_law_1869 rfl (lv_at hl 0 rfl) ?_
  refine lv_iload hx hb dL_law_1870 (lv_at hl 4 rfl) ?_
  refine lv_iconst (v := 1) hx hb dL_law_1872 (by decide) ?_
  refine lv_iadd hx hb dL_law_1873 ?_
  refine va_sld hx hb hX hbl hbA hS (hin 1 (by decide)) dL_law_1874 ?_
  refine k13_seed_n (.int (0 : Int32)) (by show 1 ≤ 2; decide) S0 hK hA hl.1 hf (vaP_perm hP (toR _ _ _ _ _)) (vaD_perm hD (toR _ _ _ _ _)) hS (zn_seed _ _ _ _) (fun H1 locs1 hP hD hS => ?_)
  refine lv_icmp_eq (tgt := 2028) hx hb dL_law_1878 (by decide) (fun _ => ?_) (fun cd => absurd rfl cd)
  refine kk H1 locs1 (Or.inl ⟨(u1 (u1 ci 1 1) 27 (ci 27)), ca, cl, cj, K, M, mr, (u1 (u1 (u1 ri 0 0) 1 1) 2 (-1)), ra, rk, ow, ⟨hc.t (t := 1) (show ¬ (1 : Int32) = 4 by decide), ⟨nb, hnb, hb1, hb2⟩, ht, hT, hJ⟩, hz, vaP_perm hP (toR _ _ _ _ _).symm, vaD_perm hD (toR _ _ _ _ _).symm⟩) hS

set_option maxHeartbeats 4000000 in
set_option maxRecDepth 100000 in
theorem csW_seed (S0 : CallFix p m c cL_law 7 s #[Value.ref b] wl_L RL) (hK : SK D cy s) (hA : ∀ q, s.heap.size ≤ q → A q) (hX : va_X b L xs s s.heap) (hbl : b < s.heap.size) (hbA : ¬ A b) (hf : cells ≤ room_1.cells ∧ slots ≤ room_1.slots) (hak : AK pk pm ka ma) (hk : k < 1000) (hin : ∀ j : Int32, j ∈ [1, 2, 3, 4, 5] → vp_in (x4 + j) L) (I : LW D cy A ad pk pm ka ma rd ao k H) (hS : va_S A s.heap H locs) (hl : lv_has ls 7 [(0, .ref b), (1, .ref (ad 0)), (2, .ref (rd 0)), (3, .ref ao), (4, .int x4)]) (kk : ∀ (H1 : Heap) (locs1 : List Loc), LI D cy A ad pk pm ka ma rd ao (k + 1) H1 → va_S A s.heap H1 locs1 → W p l e room_1 s m #[Value.ref b] below meth c H1 locs1 cells slots Q (F0 m 2028 ls [])) : W p l e room_1 s m #[Value.ref b] below meth c H locs cells slots Q (F0 m 1858 ls []) := by
  have hx := S0.1
  have hb := S0.2.1
  obtain ⟨ci, ca, cl, cj, K, M, mr, ri, ra, rk, ow, wd, wx, wi, wa, ⟨hc, ⟨nb, hnb, hb1, hb2⟩, ht, hT, hJ⟩, hw, hP, hD⟩ := I
  refine lv_aload_n hx hb dL_law_1858 rfl (lv_at hl 1 rfl) ?_
  refine lv_aload_n hx hb dL_law_1859 rfl (lv_at hl 0 rfl) ?_
  refine lv_iload hx hb dL_law_1860 (lv_at hl 4 rfl) ?_
  refine lv_iconst (v := 1) hx hb dL_law_1862 (by decide) ?_
  refine lv_iadd hx hb dL_law_1863 ?_
  refine va_sld hx hb hX hbl hbA hS (hin 1 (by decide)) dL_law_1864 ?_
  obtain ⟨r, t, d2, v2, e1, e2, h4, hw2⟩ := jW_seed hw (xs (x4 + 1).toNatClampNeg) (ci 1) (ri 0) (ri 1) (ri 2)
  have hf1 := e1
  refine k11_seed S0 hK hA hl.1 hf hP hD hS  hf1 (fun H1 locs1 hP hD hS => ?_)
  refine lv_aload_n hx hb dL_law_1868 rfl (lv_at hl 2 rfl) ?_
  refine lv_aload_n hx hb dL_law_1869 rfl (lv_at hl 0 rfl) ?_
  refine lv_iload hx hb dL_law_1870 (lv_at hl 4 rfl) ?_
  refine lv_iconst (v := 1) hx hb dL_law_1872 (by decide) ?_
  refine lv_iadd hx hb dL_law_1873 ?_
  refine va_sld hx hb hX hbl hbA hS (hin 1 (by decide)) dL_law_1874 ?_
  refine k13_seed (.int r) (by show 1 ≤ 2; decide) S0 hK hA hl.1 hf (vaP_perm hP (toR _ _ _ _ _)) (vaD_perm hD (toR _ _ _ _ _)) hS e2 (fun H1 locs1 hP hD hS => ?_)
  refine lv_icmp_eq (tgt := 2028) hx hb dL_law_1878 (by decide) (fun _ => ?_) (fun cd => absurd rfl cd)
  refine kk H1 locs1 (Or.inr ⟨(u1 (u1 ci 1 t) 27 d2), ca, cl, cj, K, M, mr, (u1 (u1 (u1 ri 0 0) 1 t) 2 (-1)), (u1 ra 1 v2), rk, ow, wd, wx, wi, wa, ⟨hc.t h4, ⟨nb, hnb, hb1, hb2⟩, ht, hT, hJ⟩, hw2, vaP_perm hP (toR _ _ _ _ _).symm, vaD_perm hD (toR _ _ _ _ _).symm⟩) hS

set_option maxHeartbeats 4000000 in
set_option maxRecDepth 100000 in
theorem csN_undo (S0 : CallFix p m c cL_law 7 s #[Value.ref b] wl_L RL) (hK : SK D cy s) (hA : ∀ q, s.heap.size ≤ q → A q) (hX : va_X b L xs s s.heap) (hbl : b < s.heap.size) (hbA : ¬ A b) (hf : cells ≤ room_1.cells ∧ slots ≤ room_1.slots) (hak : AK pk pm ka ma) (hk : k < 1000) (hin : ∀ j : Int32, j ∈ [1, 2, 3, 4, 5] → vp_in (x4 + j) L) (I : LN D cy A ad pk pm ka ma rd ao H) (hS : va_S A s.heap H locs) (hl : lv_has ls 7 [(0, .ref b), (1, .ref (ad 0)), (2, .ref (rd 0)), (3, .ref ao), (4, .int x4)]) (kk : ∀ (H1 : Heap) (locs1 : List Loc), LI D cy A ad pk pm ka ma rd ao (k + 1) H1 → va_S A s.heap H1 locs1 → W p l e room_1 s m #[Value.ref b] below meth c H1 locs1 cells slots Q (F0 m 2028 ls [])) : W p l e room_1 s m #[Value.ref b] below meth c H locs cells slots Q (F0 m 1883 ls []) := by
  have hx := S0.1
  have hb := S0.2.1
  obtain ⟨ci, ca, cl, cj, K, M, mr, ri, ra, rk, ow, ⟨hc, ⟨nb, hnb, hb1, hb2⟩, ht, hT, hJ⟩, hz, hP, hD⟩ := I
  obtain ⟨⟨z1, z2, z3, z4, z5, z6, z7⟩, ⟨z8, z9⟩, ⟨z10, z11⟩, Lt, hLt, zL⟩ := id hz
  have hix : (ci 28).toNatClampNeg < 16 := by rw [zL]; rw [nI_clamp (by omega)]; exact hLt
  have hP := vaP_perm hP (stO hix K _ _)
  have hD := vaD_perm hD (stO hix K _ _)
  refine lv_aload_n hx hb dL_law_1883 rfl (lv_at hl 1 rfl) ?_
  have hf1 : f_X11_undo (ci 1) (ci 25) (ci 26) (ci 27) (ca 19) (ca 20) (ca 21) (ci 28) (ci 29) pk (K ((ci 28).toNatClampNeg)).1 (K ((ci 28).toNatClampNeg)).2.1 (K ((ci 28).toNatClampNeg)).2.2.1 (K ((ci 28).toNatClampNeg)).2.2.2.1 (K ((ci 28).toNatClampNeg)).2.2.2.2.1 (K ((ci 28).toNatClampNeg)).2.2.2.2.2 = some (0, 6, (ci 25), (ci 26), (ci 27), (ca 19), (ca 20), (ca 21), (ci 28), (ci 29)) := by rw [z10]; exact z_undo _ _ _ _ _ _ _ _ _ _ _ _ _ _ _
  refine k11_undo S0 hK hA hl.1 hf hP hD hS (hJ.1 _) (fun i hi _ => by rw [hi]; exact hak.1 _ hix) hf1 (fun H1 locs1 hP hD hS => ?_)
  have hP := vaP_perm hP (stB hix K _ _ _)
  have hD := vaD_perm hD (stB hix K _ _ _)
  refine lv_aload_n hx hb dL_law_1887 rfl (lv_at hl 2 rfl) ?_
  refine k13_undo_n (.int (0 : Int32)) (by show 1 ≤ 2; decide) S0 hK hA hl.1 hf (vaP_perm hP (toR _ _ _ _ _)) (vaD_perm hD (toR _ _ _ _ _)) hS (zn_undo _ _ _) (fun H1 locs1 hP hD hS => ?_)
  refine lv_icmp_eq (tgt := 2028) hx hb dL_law_1891 (by decide) (fun _ => ?_) (fun cd => absurd rfl cd)
  refine kk H1 locs1 (Or.inl ⟨(u1 (u1 (u1 (u1 (u1 (u1 ci 1 6) 25 (ci 25)) 26 (ci 26)) 27 (ci 27)) 28 (ci 28)) 29 (ci 29)), (u1 (u1 (u1 ca 19 (ca 19)) 20 (ca 20)) 21 (ca 21)), cl, cj, (updK K ((ci 28).toNatClampNeg) (K ((ci 28).toNatClampNeg))), M, mr, (u1 (u1 (u1 ri 0 0) 1 6) 2 (-1)), ra, rk, ow, ⟨hc.t (t := 6) (show ¬ (6 : Int32) = 4 by decide), ⟨nb, hnb, hb1, hb2⟩, ht, hT, (by rw [updK_id]; exact hJ)⟩, hz, vaP_perm hP (toR _ _ _ _ _).symm, vaD_perm hD (toR _ _ _ _ _).symm⟩) hS

set_option maxHeartbeats 4000000 in
set_option maxRecDepth 100000 in
theorem csW_undo (S0 : CallFix p m c cL_law 7 s #[Value.ref b] wl_L RL) (hK : SK D cy s) (hA : ∀ q, s.heap.size ≤ q → A q) (hX : va_X b L xs s s.heap) (hbl : b < s.heap.size) (hbA : ¬ A b) (hf : cells ≤ room_1.cells ∧ slots ≤ room_1.slots) (hak : AK pk pm ka ma) (hk : k < 1000) (hin : ∀ j : Int32, j ∈ [1, 2, 3, 4, 5] → vp_in (x4 + j) L) (I : LW D cy A ad pk pm ka ma rd ao k H) (hS : va_S A s.heap H locs) (hl : lv_has ls 7 [(0, .ref b), (1, .ref (ad 0)), (2, .ref (rd 0)), (3, .ref ao), (4, .int x4)]) (kk : ∀ (H1 : Heap) (locs1 : List Loc), LI D cy A ad pk pm ka ma rd ao (k + 1) H1 → va_S A s.heap H1 locs1 → W p l e room_1 s m #[Value.ref b] below meth c H1 locs1 cells slots Q (F0 m 2028 ls [])) : W p l e room_1 s m #[Value.ref b] below meth c H locs cells slots Q (F0 m 1883 ls []) := by
  have hx := S0.1
  have hb := S0.2.1
  obtain ⟨ci, ca, cl, cj, K, M, mr, ri, ra, rk, ow, wd, wx, wi, wa, ⟨hc, ⟨nb, hnb, hb1, hb2⟩, ht, hT, hJ⟩, hw, hP, hD⟩ := I
  have hLt : ∃ Lt, Lt < 16 ∧ (ci 28) = nI Lt := by
    obtain ⟨a, n, L, m, C, q, B, U, ps, je, ji, r⟩ := id hw
    exact ⟨L, r.2.2.2.2.1.2.1, je.2.1.1⟩
  obtain ⟨Lt, hLt, zL⟩ := hLt
  have hix : (ci 28).toNatClampNeg < 16 := by rw [zL]; rw [nI_clamp (by omega)]; exact hLt
  have hP := vaP_perm hP (stO hix K _ _)
  have hD := vaD_perm hD (stO hix K _ _)
  refine lv_aload_n hx hb dL_law_1883 rfl (lv_at hl 1 rfl) ?_
  obtain ⟨r, t, no2, la2, ac2, v2, e1, e2, h4, hw2⟩ := jW_undo hw pk (ci 1) (ri 0) (ri 1) (ri 2)
  have hf1 := e1
  refine k11_undo S0 hK hA hl.1 hf hP hD hS (hJ.1 _) (fun i hi _ => by rw [hi]; exact hak.1 _ hix) hf1 (fun H1 locs1 hP hD hS => ?_)
  have hP := vaP_perm hP (stB hix K _ _ _)
  have hD := vaD_perm hD (stB hix K _ _ _)
  refine lv_aload_n hx hb dL_law_1887 rfl (lv_at hl 2 rfl) ?_
  refine k13_undo (.int r) (by show 1 ≤ 2; decide) S0 hK hA hl.1 hf (vaP_perm hP (toR _ _ _ _ _)) (vaD_perm hD (toR _ _ _ _ _)) hS e2 (fun H1 locs1 hP hD hS => ?_)
  refine lv_icmp_eq (tgt := 2028) hx hb dL_law_1891 (by decide) (fun _ => ?_) (fun cd => absurd rfl cd)
  refine kk H1 locs1 (Or.inr ⟨(u1 (u1 (u1 (u1 (u1 (u1 ci 1 t) 25 no2.1) 26 no2.2.1) 27 no2.2.2.1) 28 la2) 29 ac2), (u1 (u1 (u1 ca 19 no2.2.2.2.1) 20 no2.2.2.2.2.1) 21 no2.2.2.2.2.2), cl, cj, (updK K ((ci 28).toNatClampNeg) (K ((ci 28).toNatClampNeg))), M, mr, (u1 (u1 (u1 (u1 ri 0 0) 1 t) 2 (-1)) 12 ac2), (u1 ra 1 v2), rk, ow, wd, wx, wi, wa, ⟨hc.t h4, ⟨nb, hnb, hb1, hb2⟩, ht, hT, (by rw [updK_id]; exact hJ)⟩, (by rw [updK_id]; exact hw2), vaP_perm hP (toR _ _ _ _ _).symm, vaD_perm hD (toR _ _ _ _ _).symm⟩) hS

set_option maxHeartbeats 4000000 in
set_option maxRecDepth 100000 in
theorem csN_mark (S0 : CallFix p m c cL_law 7 s #[Value.ref b] wl_L RL) (hK : SK D cy s) (hA : ∀ q, s.heap.size ≤ q → A q) (hX : va_X b L xs s s.heap) (hbl : b < s.heap.size) (hbA : ¬ A b) (hf : cells ≤ room_1.cells ∧ slots ≤ room_1.slots) (hak : AK pk pm ka ma) (hk : k < 1000) (hin : ∀ j : Int32, j ∈ [1, 2, 3, 4, 5] → vp_in (x4 + j) L) (I : LN D cy A ad pk pm ka ma rd ao H) (hS : va_S A s.heap H locs) (hl : lv_has ls 7 [(0, .ref b), (1, .ref (ad 0)), (2, .ref (rd 0)), (3, .ref ao), (4, .int x4)]) (kk : ∀ (H1 : Heap) (locs1 : List Loc), LI D cy A ad pk pm ka ma rd ao (k + 1) H1 → va_S A s.heap H1 locs1 → W p l e room_1 s m #[Value.ref b] below meth c H1 locs1 cells slots Q (F0 m 2028 ls [])) : W p l e room_1 s m #[Value.ref b] below meth c H locs cells slots Q (F0 m 1896 ls []) := by
  have hx := S0.1
  have hb := S0.2.1
  obtain ⟨ci, ca, cl, cj, K, M, mr, ri, ra, rk, ow, ⟨hc, ⟨nb, hnb, hb1, hb2⟩, ht, hT, hJ⟩, hz, hP, hD⟩ := I
  obtain ⟨⟨z1, z2, z3, z4, z5, z6, z7⟩, ⟨z8, z9⟩, ⟨z10, z11⟩, Lt, hLt, zL⟩ := id hz
  have hix : ixM (ci 30) < 3 := ixM_b _
  have hP := vaP_perm hP (((swp (stL cy ka 16 K) (stL cy ma 3 M) _).append_left _).trans (stO hix M _ _))
  have hD := vaD_perm hD (((swp (stL cy ka 16 K) (stL cy ma 3 M) _).append_left _).trans (stO hix M _ _))
  refine lv_aload_n hx hb dL_law_1896 rfl (lv_at hl 1 rfl) ?_
  have hf1 : f_X11_mark (ci 1) (ci 18) (ci 25) (ci 26) (ci 27) (ca 19) (ca 20) (ca 21) (ci 30) pm (M (ixM (ci 30))).1 (M (ixM (ci 30))).2.1 (M (ixM (ci 30))).2.2.1 (M (ixM (ci 30))).2.2.2.1 (M (ixM (ci 30))).2.2.2.2.1 (M (ixM (ci 30))).2.2.2.2.2 = some (-1, 1, (ci 30), (M (ixM (ci 30))).1, (M (ixM (ci 30))).2.1, (M (ixM (ci 30))).2.2.1, (M (ixM (ci 30))).2.2.2.1, (M (ixM (ci 30))).2.2.2.2.1, (M (ixM (ci 30))).2.2.2.2.2) := by rw [z1, z11]; exact z_mark _ _ _ _ _ _ _ _ _ _ _ _ _ _
  refine k11_mark S0 hK hA hl.1 hf hP hD hS (Or.inl (show (ci 26) = 0 from z8)) (fun i hi hv => by rw [hi] at hv ⊢; rw [← ixM_in hv]; exact hak.2 _ hix) hf1 (fun H1 locs1 hP hD hS => ?_)
  have hP := vaP_perm hP ((stB hix M _ _ _).trans ((swp (stL cy ma 3 _) (stL cy ka 16 K) _).append_left _))
  have hD := vaD_perm hD ((stB hix M _ _ _).trans ((swp (stL cy ma 3 _) (stL cy ka 16 K) _).append_left _))
  refine lv_aload_n hx hb dL_law_1900 rfl (lv_at hl 2 rfl) ?_
  refine k13_mark_n (.int (-1 : Int32)) (by show 1 ≤ 2; decide) S0 hK hA hl.1 hf (vaP_perm hP (toR _ _ _ _ _)) (vaD_perm hD (toR _ _ _ _ _)) hS (zn_mark _ _ _) (fun H1 locs1 hP hD hS => ?_)
  refine lv_icmp_eq (tgt := 2028) hx hb dL_law_1904 (by decide) (fun _ => ?_) (fun cd => absurd rfl cd)
  refine kk H1 locs1 (Or.inl ⟨(u1 (u1 ci 1 1) 30 (ci 30)), ca, cl, cj, K, (updK M (ixM (ci 30)) (M (ixM (ci 30)))), mr, (u1 (u1 (u1 ri 0 0) 1 1) 2 (-1)), ra, rk, ow, ⟨hc.t (t := 1) (show ¬ (1 : Int32) = 4 by decide), ⟨nb, hnb, hb1, hb2⟩, ht, hT, (by rw [updK_id]; exact hJ)⟩, hz, vaP_perm hP (toR _ _ _ _ _).symm, vaD_perm hD (toR _ _ _ _ _).symm⟩) hS

set_option maxHeartbeats 4000000 in
set_option maxRecDepth 100000 in
theorem csW_mark (S0 : CallFix p m c cL_law 7 s #[Value.ref b] wl_L RL) (hK : SK D cy s) (hA : ∀ q, s.heap.size ≤ q → A q) (hX : va_X b L xs s s.heap) (hbl : b < s.heap.size) (hbA : ¬ A b) (hf : cells ≤ room_1.cells ∧ slots ≤ room_1.slots) (hak : AK pk pm ka ma) (hk : k < 1000) (hin : ∀ j : Int32, j ∈ [1, 2, 3, 4, 5] → vp_in (x4 + j) L) (I : LW D cy A ad pk pm ka ma rd ao k H) (hS : va_S A s.heap H locs) (hl : lv_has ls 7 [(0, .ref b), (1, .ref (ad 0)), (2, .ref (rd 0)), (3, .ref ao), (4, .int x4)]) (kk : ∀ (H1 : Heap) (locs1 : List Loc), LI D cy A ad pk pm ka ma rd ao (k + 1) H1 → va_S A s.heap H1 locs1 → W p l e room_1 s m #[Value.ref b] below meth c H1 locs1 cells slots Q (F0 m 2028 ls [])) : W p l e room_1 s m #[Value.ref b] below meth c H locs cells slots Q (F0 m 1896 ls []) := by
  have hx := S0.1
  have hb := S0.2.1
  obtain ⟨ci, ca, cl, cj, K, M, mr, ri, ra, rk, ow, wd, wx, wi, wa, ⟨hc, ⟨nb, hnb, hb1, hb2⟩, ht, hT, hJ⟩, hw, hP, hD⟩ := I
  have hLt : ∃ Lt, Lt < 16 ∧ (ci 28) = nI Lt := by
    obtain ⟨a, n, L, m, C, q, B, U, ps, je, ji, r⟩ := id hw
    exact ⟨L, r.2.2.2.2.1.2.1, je.2.1.1⟩
  obtain ⟨Lt, hLt, zL⟩ := hLt
  have hix : ixM (ci 30) < 3 := ixM_b _
  have hP := vaP_perm hP (((swp (stL cy ka 16 K) (stL cy ma 3 M) _).append_left _).trans (stO hix M _ _))
  have hD := vaD_perm hD (((swp (stL cy ka 16 K) (stL cy ma 3 M) _).append_left _).trans (stO hix M _ _))
  refine lv_aload_n hx hb dL_law_1896 rfl (lv_at hl 1 rfl) ?_
  obtain ⟨r, t, mk2, S2, kept2, e1, e2, h4, hw2⟩ := jW_mark hw pm (ci 1) (ri 0) (ri 1) (ri 2)
  have hf1 := e1
  refine k11_mark S0 hK hA hl.1 hf hP hD hS (show nbv (ci 26) from hw.wet) (fun i hi hv => by rw [hi] at hv ⊢; rw [← ixM_in hv]; exact hak.2 _ hix) hf1 (fun H1 locs1 hP hD hS => ?_)
  have hP := vaP_perm hP ((stB hix M _ _ _).trans ((swp (stL cy ma 3 _) (stL cy ka 16 K) _).append_left _))
  have hD := vaD_perm hD ((stB hix M _ _ _).trans ((swp (stL cy ma 3 _) (stL cy ka 16 K) _).append_left _))
  refine lv_aload_n hx hb dL_law_1900 rfl (lv_at hl 2 rfl) ?_
  refine k13_mark (.int r) (by show 1 ≤ 2; decide) S0 hK hA hl.1 hf (vaP_perm hP (toR _ _ _ _ _)) (vaD_perm hD (toR _ _ _ _ _)) hS e2 (fun H1 locs1 hP hD hS => ?_)
  refine lv_icmp_eq (tgt := 2028) hx hb dL_law_1904 (by decide) (fun _ => ?_) (fun cd => absurd rfl cd)
  refine kk H1 locs1 (Or.inr ⟨(u1 (u1 ci 1 t) 30 mk2), ca, cl, cj, K, (updK M (ixM (ci 30)) S2), mr, (u1 (u1 (u1 (u1 ri 0 0) 1 t) 2 (-1)) 13 mk2), (u1 ra 4 kept2), rk, ow, wd, wx, wi, wa, ⟨hc.t h4, ⟨nb, hnb, hb1, hb2⟩, ht, hT, (hJ.m (w_mark e1 (show nbv (ci 26) from hw.wet) (hJ.2 _)))⟩, hw2, vaP_perm hP (toR _ _ _ _ _).symm, vaD_perm hD (toR _ _ _ _ _).symm⟩) hS

set_option maxHeartbeats 4000000 in
set_option maxRecDepth 100000 in
theorem csN_back (S0 : CallFix p m c cL_law 7 s #[Value.ref b] wl_L RL) (hK : SK D cy s) (hA : ∀ q, s.heap.size ≤ q → A q) (hX : va_X b L xs s s.heap) (hbl : b < s.heap.size) (hbA : ¬ A b) (hf : cells ≤ room_1.cells ∧ slots ≤ room_1.slots) (hak : AK pk pm ka ma) (hk : k < 1000) (hin : ∀ j : Int32, j ∈ [1, 2, 3, 4, 5] → vp_in (x4 + j) L) (I : LN D cy A ad pk pm ka ma rd ao H) (hS : va_S A s.heap H locs) (hl : lv_has ls 7 [(0, .ref b), (1, .ref (ad 0)), (2, .ref (rd 0)), (3, .ref ao), (4, .int x4)]) (kk : ∀ (H1 : Heap) (locs1 : List Loc), LI D cy A ad pk pm ka ma rd ao (k + 1) H1 → va_S A s.heap H1 locs1 → W p l e room_1 s m #[Value.ref b] below meth c H1 locs1 cells slots Q (F0 m 2028 ls [])) : W p l e room_1 s m #[Value.ref b] below meth c H locs cells slots Q (F0 m 1909 ls []) := by
  have hx := S0.1
  have hb := S0.2.1
  obtain ⟨ci, ca, cl, cj, K, M, mr, ri, ra, rk, ow, ⟨hc, ⟨nb, hnb, hb1, hb2⟩, ht, hT, hJ⟩, hz, hP, hD⟩ := I
  obtain ⟨⟨z1, z2, z3, z4, z5, z6, z7⟩, ⟨z8, z9⟩, ⟨z10, z11⟩, Lt, hLt, zL⟩ := id hz
  have hix : ixM (xs (x4 + 1).toNatClampNeg) < 3 := ixM_b _
  have hP := vaP_perm hP (((swp (stL cy ka 16 K) (stL cy ma 3 M) _).append_left _).trans (stO hix M _ _))
  have hD := vaD_perm hD (((swp (stL cy ka 16 K) (stL cy ma 3 M) _).append_left _).trans (stO hix M _ _))
  refine lv_aload_n hx hb dL_law_1909 rfl (lv_at hl 1 rfl) ?_
  refine lv_aload_n hx hb dL_law_1910 rfl (lv_at hl 0 rfl) ?_
  refine lv_iload hx hb dL_law_1911 (lv_at hl 4 rfl) ?_
  refine lv_iconst (v := 1) hx hb dL_law_1913 (by decide) ?_
  refine lv_iadd hx hb dL_law_1914 ?_
  refine va_sld hx hb hX hbl hbA hS (hin 1 (by decide)) dL_law_1915 ?_
  have hf1 : f_X11_back (ci 1) (ci 25) (ci 26) (ci 27) (ca 19) (ca 20) (ca 21) (ci 29) (ci 30) pm (M (ixM (xs (x4 + 1).toNatClampNeg))).1 (M (ixM (xs (x4 + 1).toNatClampNeg))).2.1 (M (ixM (xs (x4 + 1).toNatClampNeg))).2.2.1 (M (ixM (xs (x4 + 1).toNatClampNeg))).2.2.2.1 (M (ixM (xs (x4 + 1).toNatClampNeg))).2.2.2.2.1 (M (ixM (xs (x4 + 1).toNatClampNeg))).2.2.2.2.2 (xs (x4 + 1).toNatClampNeg) = some (0, 1, (ci 25), (ci 26), (ci 27), (ca 19), (ca 20), (ca 21), (ci 29)) := by rw [z10, z11]; exact z_back _ _ _ _ _ _ _ _ _ _ _ _ _ _ _
  refine k11_back S0 hK hA hl.1 hf hP hD hS (hJ.2 _) (fun i hi hv => by rw [hi] at hv ⊢; rw [← ixM_in hv]; exact hak.2 _ hix) hf1 (fun H1 locs1 hP hD hS => ?_)
  have hP := vaP_perm hP ((stB hix M _ _ _).trans ((swp (stL cy ma 3 _) (stL cy ka 16 K) _).append_left _))
  have hD := vaD_perm hD ((stB hix M _ _ _).trans ((swp (stL cy ma 3 _) (stL cy ka 16 K) _).append_left _))
  refine lv_aload_n hx hb dL_law_1919 rfl (lv_at hl 2 rfl) ?_
  refine lv_aload_n hx hb dL_law_1920 rfl (lv_at hl 0 rfl) ?_
  refine lv_iload hx hb dL_law_1921 (lv_at hl 4 rfl) ?_
  refine lv_iconst (v := 1) hx hb dL_law_1923 (by decide) ?_
  refine lv_iadd hx hb dL_law_1924 ?_
  refine va_sld hx hb hX hbl hbA hS (hin 1 (by decide)) dL_law_1925 ?_
  refine k13_back_n (.int (0 : Int32)) (by show 1 ≤ 2; decide) S0 hK hA hl.1 hf (vaP_perm hP (toR _ _ _ _ _)) (vaD_perm hD (toR _ _ _ _ _)) hS (zn_back _ _ _ _) (fun H1 locs1 hP hD hS => ?_)
  refine lv_icmp_eq (tgt := 2028) hx hb dL_law_1929 (by decide) (fun _ => ?_) (fun cd => absurd rfl cd)
  refine kk H1 locs1 (Or.inl ⟨(u1 (u1 (u1 (u1 (u1 ci 1 1) 25 (ci 25)) 26 (ci 26)) 27 (ci 27)) 29 (ci 29)), (u1 (u1 (u1 ca 19 (ca 19)) 20 (ca 20)) 21 (ca 21)), cl, cj, K, (updK M (ixM (xs (x4 + 1).toNatClampNeg)) (M (ixM (xs (x4 + 1).toNatClampNeg)))), mr, (u1 (u1 (u1 ri 0 0) 1 1) 2 (-1)), ra, rk, ow, ⟨hc.t (t := 1) (show ¬ (1 : Int32) = 4 by decide), ⟨nb, hnb, hb1, hb2⟩, ht, hT, (by rw [updK_id]; exact hJ)⟩, hz, vaP_perm hP (toR _ _ _ _ _).symm, vaD_perm hD (toR _ _ _ _ _).symm⟩) hS

set_option maxHeartbeats 4000000 in
set_option maxRecDepth 100000 in
theorem csW_back (S0 : CallFix p m c cL_law 7 s #[Value.ref b] wl_L RL) (hK : SK D cy s) (hA : ∀ q, s.heap.size ≤ q → A q) (hX : va_X b L xs s s.heap) (hbl : b < s.heap.size) (hbA : ¬ A b) (hf : cells ≤ room_1.cells ∧ slots ≤ room_1.slots) (hak : AK pk pm ka ma) (hk : k < 1000) (hin : ∀ j : Int32, j ∈ [1, 2, 3, 4, 5] → vp_in (x4 + j) L) (I : LW D cy A ad pk pm ka ma rd ao k H) (hS : va_S A s.heap H locs) (hl : lv_has ls 7 [(0, .ref b), (1, .ref (ad 0)), (2, .ref (rd 0)), (3, .ref ao), (4, .int x4)]) (kk : ∀ (H1 : Heap) (locs1 : List Loc), LI D cy A ad pk pm ka ma rd ao (k + 1) H1 → va_S A s.heap H1 locs1 → W p l e room_1 s m #[Value.ref b] below meth c H1 locs1 cells slots Q (F0 m 2028 ls [])) : W p l e room_1 s m #[Value.ref b] below meth c H locs cells slots Q (F0 m 1909 ls []) := by
  have hx := S0.1
  have hb := S0.2.1
  obtain ⟨ci, ca, cl, cj, K, M, mr, ri, ra, rk, ow, wd, wx, wi, wa, ⟨hc, ⟨nb, hnb, hb1, hb2⟩, ht, hT, hJ⟩, hw, hP, hD⟩ := I
  have hLt : ∃ Lt, Lt < 16 ∧ (ci 28) = nI Lt := by
    obtain ⟨a, n, L, m, C, q, B, U, ps, je, ji, r⟩ := id hw
    exact ⟨L, r.2.2.2.2.1.2.1, je.2.1.1⟩
  obtain ⟨Lt, hLt, zL⟩ := hLt
  have hix : ixM (xs (x4 + 1).toNatClampNeg) < 3 := ixM_b _
  have hP := vaP_perm hP (((swp (stL cy ka 16 K) (stL cy ma 3 M) _).append_left _).trans (stO hix M _ _))
  have hD := vaD_perm hD (((swp (stL cy ka 16 K) (stL cy ma 3 M) _).append_left _).trans (stO hix M _ _))
  refine lv_aload_n hx hb dL_law_1909 rfl (lv_at hl 1 rfl) ?_
  refine lv_aload_n hx hb dL_law_1910 rfl (lv_at hl 0 rfl) ?_
  refine lv_iload hx hb dL_law_1911 (lv_at hl 4 rfl) ?_
  refine lv_iconst (v := 1) hx hb dL_law_1913 (by decide) ?_
  refine lv_iadd hx hb dL_law_1914 ?_
  refine va_sld hx hb hX hbl hbA hS (hin 1 (by decide)) dL_law_1915 ?_
  obtain ⟨r, t, no2, ac2, v2, e1, e2, h4, hw2⟩ := jW_back hw pm (xs (x4 + 1).toNatClampNeg) (ci 1) (ri 0) (ri 1) (ri 2)
  have hf1 := e1
  refine k11_back S0 hK hA hl.1 hf hP hD hS (hJ.2 _) (fun i hi hv => by rw [hi] at hv ⊢; rw [← ixM_in hv]; exact hak.2 _ hix) hf1 (fun H1 locs1 hP hD hS => ?_)
  have hP := vaP_perm hP ((stB hix M _ _ _).trans ((swp (stL cy ma 3 _) (stL cy ka 16 K) _).append_left _))
  have hD := vaD_perm hD ((stB hix M _ _ _).trans ((swp (stL cy ma 3 _) (stL cy ka 16 K) _).append_left _))
  refine lv_aload_n hx hb dL_law_1919 rfl (lv_at hl 2 rfl) ?_
  refine lv_aload_n hx hb dL_law_1920 rfl (lv_at hl 0 rfl) ?_
  refine lv_iload hx hb dL_law_1921 (lv_at hl 4 rfl) ?_
  refine lv_iconst (v := 1) hx hb dL_law_1923 (by decide) ?_
  refine lv_iadd hx hb dL_law_1924 ?_
  refine va_sld hx hb hX hbl hbA hS (hin 1 (by decide)) dL_law_1925 ?_
  refine k13_back (.int r) (by show 1 ≤ 2; decide) S0 hK hA hl.1 hf (vaP_perm hP (toR _ _ _ _ _)) (vaD_perm hD (toR _ _ _ _ _)) hS e2 (fun H1 locs1 hP hD hS => ?_)
  refine lv_icmp_eq (tgt := 2028) hx hb dL_law_1929 (by decide) (fun _ => ?_) (fun cd => absurd rfl cd)
  refine kk H1 locs1 (Or.inr ⟨(u1 (u1 (u1 (u1 (u1 ci 1 t) 25 no2.1) 26 no2.2.1) 27 no2.2.2.1) 29 ac2), (u1 (u1 (u1 ca 19 no2.2.2.2.1) 20 no2.2.2.2.2.1) 21 no2.2.2.2.2.2), cl, cj, K, (updK M (ixM (xs (x4 + 1).toNatClampNeg)) (M (ixM (xs (x4 + 1).toNatClampNeg)))), mr, (u1 (u1 (u1 (u1 ri 0 0) 1 t) 2 (-1)) 12 ac2), (u1 ra 1 v2), rk, ow, wd, wx, wi, wa, ⟨hc.t h4, ⟨nb, hnb, hb1, hb2⟩, ht, hT, (by rw [updK_id]; exact hJ)⟩, (by rw [updK_id]; exact hw2), vaP_perm hP (toR _ _ _ _ _).symm, vaD_perm hD (toR _ _ _ _ _).symm⟩) hS

end LC
