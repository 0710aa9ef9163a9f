def OW (cy : Nat → ClassId) (ao : Nat) (ow : Nat → Int64) : va_W := [(ao, .inl (cy 2, 1, .inr (.inl ow)))]
def LIc (ci : Nat → Int32) (ca : Nat → Nat → Int32) (K M : Nat → ST) (ri : Nat → Int32) (ra : Nat → Nat → Int32) : Prop := JC (ci 1) (ci 2) (ci 3) (ri 1) (ri 2) (ri 9) ∧ (∃ nb, nb ≤ 900 ∧ (ci 0) = nI nb ∧ (ri 3) = nI nb) ∧ (ra 0) = (ca 0) ∧ (∀ j, j < 900 → byt (ca 0 j)) ∧ JK K M
def LN (D : va_G) (cy : Nat → ClassId) (A : Nat → Prop) (ad : Nat → Nat) (pk pm : Nat → Option Nat) (ka ma : Nat → Nat → Nat) (rd : Nat → Nat) (ao : Nat) (H : Heap) : Prop := ∃ (ci : Nat → Int32) (ca : Nat → Nat → Int32) (cl : Nat → Nat → Int64) (cj : Nat → Int64) (K M : Nat → ST) (mr : Value) (ri : Nat → Int32) (ra : Nat → Nat → Int32) (rk : Nat → Int64) (ow : Nat → Int64), LIc ci ca K M ri ra ∧ JZ (ci 18) (ci 19) (ci 20) (ci 21) (ci 22) (ci 23) (ci 24) (ci 25, ci 26, ci 27, ca 19, ca 20, ca 21) (ci 28) (ci 29) (ci 30) ∧ va_P D vwCl (CW cy ad pk pm ci ca cl cj ++ (stL cy ka 16 K ++ (stL cy ma 3 M ++ (RN cy rd .null mr ri ra rk ++ OW cy ao ow)))) H ∧ va_D A (CW cy ad pk pm ci ca cl cj ++ (stL cy ka 16 K ++ (stL cy ma 3 M ++ (RN cy rd .null mr ri ra rk ++ OW cy ao ow))))
def LW (D : va_G) (cy : Nat → ClassId) (A : Nat → Prop) (ad : Nat → Nat) (pk pm : Nat → Option Nat) (ka ma : Nat → Nat → Nat) (rd : Nat → Nat) (ao : Nat) (k : Nat) (H : Heap) : Prop := ∃ (ci : Nat → Int32) (ca : Nat → Nat → Int32) (cl : Nat → Nat → Int64) (cj : Nat → Int64) (K M : Nat → ST) (mr : Value) (ri : Nat → Int32) (ra : Nat → Nat → Int32) (rk : Nat → Int64) (ow : Nat → Int64) (wd : Nat → Nat) (wx : Nat → Value) (wi : Nat → Int32) (wa : Nat → Nat → Int32), LIc ci ca K M ri ra ∧ JW k (ci 18) (ci 19) (ci 20) (ci 21) (ci 22) (ci 23) (ci 24) (ca 12) (ca 14) (ca 16) (ca 17) (ca 18) (ci 25, ci 26, ci 27, ca 19, ca 20, ca 21) (ci 28) (ci 29) (ci 30) K M (ri 12) (ri 13) (ra 1) (ra 3) (ra 4) (wi 0) (wi 1) (wi 2) (wi 3) (wi 4) (wi 5) (wi 6) (wa 0) (wa 1) (wa 2) (wa 3) (wa 4) ∧ va_P D vwCl (CW cy ad pk pm ci ca cl cj ++ (stL cy ka 16 K ++ (stL cy ma 3 M ++ ((RN cy rd (.ref (wd 0)) mr ri ra rk ++ RV cy wd wx wi wa) ++ OW cy ao ow)))) H ∧ va_D A (CW cy ad pk pm ci ca cl cj ++ (stL cy ka 16 K ++ (stL cy ma 3 M ++ ((RN cy rd (.ref (wd 0)) mr ri ra rk ++ RV cy wd wx wi wa) ++ OW cy ao ow))))
def LI (D : va_G) (cy : Nat → ClassId) (A : Nat → Prop) (ad : Nat → Nat) (pk pm : Nat → Option Nat) (ka ma : Nat → Nat → Nat) (rd : Nat → Nat) (ao : Nat) (k : Nat) (H : Heap) : Prop := LN D cy A ad pk pm ka ma rd ao H ∨ LW D cy A ad pk pm ka ma rd ao k H
theorem toR (C S T R Z : va_W) : (C ++ (S ++ (T ++ (R ++ Z)))).Perm (R ++ (C ++ (S ++ (T ++ Z)))) := by
  have h1 : (T ++ (R ++ Z)).Perm (R ++ (T ++ Z)) := swp T R Z
  have h2 : (S ++ (T ++ (R ++ Z))).Perm (R ++ (S ++ (T ++ Z))) := (h1.append_left S).trans (swp S R _)
  exact (h2.append_left C).trans (swp C R _)
/-- the kept stands' addresses lie in the rows -/
def AK (pk pm : Nat → Option Nat) (ka ma : Nat → Nat → Nat) : Prop := (∀ i, i < 16 → pk i = some (ka i 0)) ∧ ∀ i, i < 3 → pm i = some (ma i 0)
theorem ixM_in {i : Int32} (h : vp_in i 3) : ixM i = i.toNatClampNeg := by
  unfold ixM
  have h1 : ¬ i < 0 := fun q => h (Or.inl q)
  have h2 : i.toNatClampNeg < 3 := Nat.not_le.mp (fun q => h (Or.inr q))
  obtain ⟨j, hj, rfl⟩ := nI_of h1
  rw [nI_clamp hj] at h2
  rw [if_neg h1, if_pos (show nI j < 3 from (nI_ltI (b := 3) hj (by decide)).mpr h2)]
section LB
variable {p : Program} {l : Launch} {e : Env} {R : Room} {s : State} {m : MethodId} {args : Array Value} {below : List Frame} {meth : Method} {c : Code} {H : Heap} {locs : List Loc} {cells slots : Nat} {Q : State → Prop} {cc : ByteArray} {pc : Nat} {ls : Array Slot} {rest : List Value}
theorem lv_bool (hx : p.tables.exec = Jvm.exec) (hb : c.code = cc) {v : Int32} (d1 : decode cc pc = .ok (.ifCond .eq 7, 3)) (d2 : decode cc (pc + 3) = .ok (.iconst 1, 1)) (d3 : decode cc (pc + 4) = .ok (.goto 4, 3)) (d4 : decode cc (pc + 7) = .ok (.iconst 0, 1)) (kk : W p l e R s m args below meth c H locs cells slots Q (F0 m (pc + 8) ls (.int (if decide (¬ v = 0) = true then 1 else 0) :: rest))) : W p l e R s m args below meth c H locs cells slots Q (F0 m pc ls (.int v :: rest)) := by
  refine lv_if_eq (tgt := pc + 7) hx hb d1 (by omega) (fun h => ?_) (fun h => ?_)
  · refine lv_iconst (v := 0) hx hb d4 (by decide) ?_
    rw [decide_eq_false (fun q => q h)] at kk
    exact kk
  · refine lv_iconst (v := 1) hx hb d2 (by decide) ?_
    refine lv_goto (tgt := pc + 8) hx hb d3 (by omega) ?_
    rw [decide_eq_true h] at kk
    exact kk
end LB
