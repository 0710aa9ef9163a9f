section HC
variable {p : Program} {l : Launch} {e : Env} {s : State} {m : MethodId} {below : List Frame} {meth : Method} {c : Code} {b L : Nat} {xs : Nat → Int32} {D : va_G} {cy : Nat → ClassId} {ad rd : Nat → Nat} {pk pm : Nat → Option Nat} {ka ma : Nat → Nat → Nat} {ao : Nat} {sa sv : Nat → Nat}
set_option maxHeartbeats 4000000 in
set_option maxRecDepth 100000 in
theorem hled_ok (hlt : l.stackTraces = false) (S0 : CallFix p m c cL_law 7 s #[Value.ref b] wl_L RL) (S1 : CallFix p m c cL_law 7 s #[Value.ref b] wl_T RL) (hK : SK D cy s) (hSS : SS sa sv (fun q => s.heap.size ≤ q) s s.heap) (hE : EX (fun q => s.heap.size ≤ q) s s.heap) (hw0 : ∀ w ∈ wl_Ll, w.before #[] s = true) (hX : va_X b L xs s s.heap) (hbl : b < s.heap.size) : HLED p l e s m below meth c b L D cy ad rd pk pm ka ma ao := by
  intro k H locs ls hk hc1 hc2 hin I hS hl kl
  have hx := S0.1
  have hb := S0.2.1
  have hA : ∀ q : Nat, s.heap.size ≤ q → (fun q : Nat => s.heap.size ≤ q) q := fun _ h => h
  have hbA : ¬ (fun q : Nat => s.heap.size ≤ q) b := Nat.not_le.mpr hbl
  have hf1 : 140 + 1000 * k + 1 ≤ room_1.cells ∧ 3600 + 14000 * k + 6 ≤ room_1.slots := ⟨by omega, by omega⟩
  have hf2 : 140 + 1000 * k + 1 ≤ room_1.cells ∧ 3600 + 14000 * k + 6 ≤ room_1.slots := hf1
  refine lv_aload_n hx hb dL_law_1934 rfl (lv_at hl 1 rfl) ?_
  refine lv_aload_n hx hb dL_law_1935 rfl (lv_at hl 0 rfl) ?_
  refine lv_iload hx hb dL_law_1936 (lv_at hl 4 rfl) ?_
  refine lv_iconst (v := 1) hx hb dL_law_1938 (by decide) ?_
  refine lv_iadd hx hb dL_law_1939 ?_
  refine va_sld hx hb hX hbl hbA hS (hin 1 (by decide)) dL_law_1940 ?_
  refine lv_aload_n hx hb dL_law_1941 rfl (lv_at hl 3 rfl) ?_
  rcases I with I | I
  · obtain ⟨ci, ca, cl, cj, K, M, mr, ri, ra, rk, ow, ⟨hc, ⟨nb, hnb, hb1, hb2⟩, ht, hT, hJ⟩, hz, hP, hD⟩ := I
    refine ledCall hlt S1 hK hSS hE hw0 hA hl.1 hf1 (n := 0) (by decide) (show ci 21 = nI 0 from hz.1.2.2.2.1) hP hD hS (fun H1 locs1 hP hD hS => ?_)
    refine lv_istore (lv' := [(5, .int 1), (0, .ref b), (1, .ref (ad 0)), (2, .ref (rd 0)), (3, .ref ao), (4, .int (nI (6 * k)))]) hx hb dL_law_1945 hl (by decide) rfl (fun ls hl => ?_)
    refine lv_aload_n hx hb dL_law_1947 rfl (lv_at hl 3 rfl) ?_
    refine lv_aload_n hx hb dL_law_1948 rfl (lv_at hl 1 rfl) ?_
    refine lv_iload hx hb dL_law_1949 (lv_at hl 5 rfl) ?_
    refine lv_iconst (v := 1) hx hb dL_law_1951 (by decide) ?_
    refine lv_iadd hx hb dL_law_1952 ?_
    refine va_sld hx hb hX hbl hbA hS (hin 1 (by decide)) dL_law_1953 ?_
    refine kL_led_n S0 hK hA hl.1 hf2 (vaP_perm hP (toR _ _ _ _ _)) (vaD_perm hD (toR _ _ _ _ _)) hS (rfl : f_X13_led_n (ri 0) _ = some (0, 1)) (fun H1 locs1 hP hD hS => ?_)
    refine lv_istore (lv' := [(6, .int 0), (5, .int 1), (0, .ref b), (1, .ref (ad 0)), (2, .ref (rd 0)), (3, .ref ao), (4, .int (nI (6 * k)))]) hx hb dL_law_1957 hl (by decide) rfl (fun ls hl => ?_)
    refine lv_aload_n hx hb dL_law_1959 rfl (lv_at hl 4 rfl) ?_
    refine kL_thrown S0 hK hA hl.1 hf2 hP hD hS (res := 1) rfl ?_
    refine lv_iload hx hb dL_law_1963 (lv_at hl 1 rfl) ?_
    refine lv_icmp_eq (tgt := 1970) hx hb dL_law_1965 (by decide) (fun _ => ?_) (fun cd => absurd rfl cd)
    refine lv_iload hx hb dL_law_1970 (lv_at hl 1 rfl) ?_
    refine lv_if_ne (tgt := 1987) hx hb dL_law_1972 (by decide) (fun _ => ?_) (fun cd => absurd cd (by decide))
    refine lv_goto (tgt := 2028) hx hb dL_law_1987 (by decide) ?_
    refine W.widen (k := 140 + 1000 * (k + 1)) (n := 3600 + 14000 * (k + 1)) (by omega) (by omega) ?_
    exact kl _ _ ls (Or.inl ⟨ci, ca, cl, cj, K, M, mr, u1 ri 0 1, ra, rk, ow, ⟨hc, ⟨nb, hnb, hb1, hb2⟩, ht, hT, hJ⟩, hz, vaP_perm hP (toR _ _ _ _ _).symm, vaD_perm hD (toR _ _ _ _ _).symm⟩) hS (lv_sub hl [2, 3, 4, 5, 6] rfl)
  · obtain ⟨ci, ca, cl, cj, K, M, mr, ri, ra, rk, ow, wd, wx, wi, wa, ⟨hc, ⟨nb, hnb, hb1, hb2⟩, ht, hT, hJ⟩, hw, hP, hD⟩ := I
    obtain ⟨a, n0, L0, m0, C0, q0, B0, U0, ps, je, ji, r0⟩ := id hw
    have hn : a 0 2 ≤ 5 := r0.1.1.2.2.2.2.2.1
    have hv : ra 1 10 = ci 25 := r0.2.2.2.1.1.trans r0.2.2.1.1.symm
    have e2 := q_led hn hv (xs (nI (6 * k) + 1).toNatClampNeg) (ri 0)
    rw [← je.2.2.2.2.2.1] at e2
    refine ledCall hlt S1 hK hSS hE hw0 hA hl.1 hf1 hn (show ci 21 = nI (a 0 2) from je.1.2.2.2.1) hP hD hS (fun H1 locs1 hP hD hS => ?_)
    rcases ho : ledS (ci 25) (xs (nI (6 * k) + 1).toNatClampNeg) (a 0 2) 0 0 with _ | j
    · rw [ho] at e2 hP hD
      refine lv_istore (lv' := [(5, .int 1), (0, .ref b), (1, .ref (ad 0)), (2, .ref (rd 0)), (3, .ref ao), (4, .int (nI (6 * k)))]) hx hb dL_law_1945 hl (by decide) rfl (fun ls hl => ?_)
      refine lv_aload_n hx hb dL_law_1947 rfl (lv_at hl 3 rfl) ?_
      refine lv_aload_n hx hb dL_law_1948 rfl (lv_at hl 1 rfl) ?_
      refine lv_iload hx hb dL_law_1949 (lv_at hl 5 rfl) ?_
      refine lv_iconst (v := 1) hx hb dL_law_1951 (by decide) ?_
      refine lv_iadd hx hb dL_law_1952 ?_
      refine va_sld hx hb hX hbl hbA hS (hin 1 (by decide)) dL_law_1953 ?_
      refine kL_led S0 hK hA hl.1 hf2 (vaP_perm hP (toR _ _ _ _ _)) (vaD_perm hD (toR _ _ _ _ _)) hS e2 (fun H1 locs1 hP hD hS => ?_)
      refine lv_istore (lv' := [(6, .int 0), (5, .int 1), (0, .ref b), (1, .ref (ad 0)), (2, .ref (rd 0)), (3, .ref ao), (4, .int (nI (6 * k)))]) hx hb dL_law_1957 hl (by decide) rfl (fun ls hl => ?_)
      refine lv_aload_n hx hb dL_law_1959 rfl (lv_at hl 4 rfl) ?_
      refine kL_thrown S0 hK hA hl.1 hf2 (vaP_perm hP (by rw [List.append_assoc])) (vaD_perm hD (by rw [List.append_assoc])) hS (res := 1) rfl ?_
      refine lv_iload hx hb dL_law_1963 (lv_at hl 1 rfl) ?_
      refine lv_icmp_eq (tgt := 1970) hx hb dL_law_1965 (by decide) (fun _ => ?_) (fun cd => absurd rfl cd)
      refine lv_iload hx hb dL_law_1970 (lv_at hl 1 rfl) ?_
      refine lv_if_ne (tgt := 1987) hx hb dL_law_1972 (by decide) (fun _ => ?_) (fun cd => absurd cd (by decide))
      refine lv_goto (tgt := 2028) hx hb dL_law_1987 (by decide) ?_
      refine W.widen (k := 140 + 1000 * (k + 1)) (n := 3600 + 14000 * (k + 1)) (by omega) (by omega) ?_
      exact kl _ _ ls (Or.inr ⟨ci, ca, cl, cj, K, M, mr, u1 ri 0 1, ra, rk, _, wd, wx, wi, wa, ⟨hc, ⟨nb, hnb, hb1, hb2⟩, ht, hT, hJ⟩, hw.mono (Nat.le_succ k), vaP_perm hP (toR _ _ _ _ _).symm, vaD_perm hD (toR _ _ _ _ _).symm⟩) hS (lv_sub hl [2, 3, 4, 5, 6] rfl)
    · rw [ho] at e2 hP hD
      refine lv_istore (lv' := [(5, .int 0), (0, .ref b), (1, .ref (ad 0)), (2, .ref (rd 0)), (3, .ref ao), (4, .int (nI (6 * k)))]) hx hb dL_law_1945 hl (by decide) rfl (fun ls hl => ?_)
      refine lv_aload_n hx hb dL_law_1947 rfl (lv_at hl 3 rfl) ?_
      refine lv_aload_n hx hb dL_law_1948 rfl (lv_at hl 1 rfl) ?_
      refine lv_iload hx hb dL_law_1949 (lv_at hl 5 rfl) ?_
      refine lv_iconst (v := 1) hx hb dL_law_1951 (by decide) ?_
      refine lv_iadd hx hb dL_law_1952 ?_
      refine va_sld hx hb hX hbl hbA hS (hin 1 (by decide)) dL_law_1953 ?_
      refine kL_led S0 hK hA hl.1 hf2 (vaP_perm hP (toR _ _ _ _ _)) (vaD_perm hD (toR _ _ _ _ _)) hS e2 (fun H1 locs1 hP hD hS => ?_)
      refine lv_istore (lv' := [(6, .int (nI j)), (5, .int 0), (0, .ref b), (1, .ref (ad 0)), (2, .ref (rd 0)), (3, .ref ao), (4, .int (nI (6 * k)))]) hx hb dL_law_1957 hl (by decide) rfl (fun ls hl => ?_)
      refine lv_aload_n hx hb dL_law_1959 rfl (lv_at hl 4 rfl) ?_
      refine kL_thrown S0 hK hA hl.1 hf2 (vaP_perm hP (by rw [List.append_assoc])) (vaD_perm hD (by rw [List.append_assoc])) hS (res := 0) rfl ?_
      refine lv_iload hx hb dL_law_1963 (lv_at hl 1 rfl) ?_
      refine lv_icmp_eq (tgt := 1970) hx hb dL_law_1965 (by decide) (fun _ => ?_) (fun cd => absurd rfl cd)
      refine lv_iload hx hb dL_law_1970 (lv_at hl 1 rfl) ?_
      refine lv_if_ne (tgt := 1987) hx hb dL_law_1972 (by decide) (fun cd => absurd rfl cd) (fun _ => ?_)
      have hPo : va_P D vwCl (OW cy ao (ledO (some j) ow)) _ := vaP_mem hP (fun q hq => List.mem_append_right _ (List.mem_append_right _ (List.mem_append_right _ (List.mem_append_right _ hq))))
      refine lv_aload_n hx hb dL_law_1975 rfl (lv_at hl 5 rfl) ?_
      refine lv_iconst (v := 0) hx hb dL_law_1976 (by decide) ?_
      refine va_lald hx hb hK.1 hPo 0 2 rfl rfl (vpc (by decide)) dL_law_1977 ?_
      refine lv_iload hx hb dL_law_1978 (lv_at hl 0 rfl) ?_
      refine lv_i2l hx hb dL_law_1980 rfl ?_
      refine W.lcmp hx hb dL_law_1981 ?_
      refine lv_if_eq (tgt := 1987) hx hb dL_law_1982 (by decide) (fun _ => ?_) (fun cd => absurd ((lgc_eq _ _).mpr rfl) cd)
      refine lv_goto (tgt := 2028) hx hb dL_law_1987 (by decide) ?_
      refine W.widen (k := 140 + 1000 * (k + 1)) (n := 3600 + 14000 * (k + 1)) (by omega) (by omega) ?_
      exact kl _ _ ls (Or.inr ⟨ci, ca, cl, cj, K, M, mr, u1 ri 0 0, ra, rk, _, wd, wx, wi, wa, ⟨hc, ⟨nb, hnb, hb1, hb2⟩, ht, hT, hJ⟩, hw.mono (Nat.le_succ k), vaP_perm hP (toR _ _ _ _ _).symm, vaD_perm hD (toR _ _ _ _ _).symm⟩) hS (lv_sub hl [2, 3, 4, 5, 6] rfl)
end HC
