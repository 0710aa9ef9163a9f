/-! BE: what acts keep: stands, the past, marks -/
theorem if10 {α : Type} {a b : α} : (if (1 : Int32) = 0 then a else b) = b := rfl
theorem if00 {α : Type} {a b : α} : (if (0 : Int32) = 0 then a else b) = a := rfl
abbrev ST : Type := Int32 × Int32 × Int32 × (Nat → Int32) × (Nat → Int32) × (Nat → Int32)
def rSt (a : AS) (s : ST) : Prop := s.1 = nI (a 0 3) ∧ s.2.1 = nI (a 0 4) ∧ s.2.2.1 = nI (a 0 5) ∧ rI (a 0 0) s.2.2.2.1 (a 7) ∧ rI (a 0 2) s.2.2.2.2.1 (a 5) ∧ rI (a 0 2) s.2.2.2.2.2 (a 6)
def sW (a a' : AS) : Prop := a' 0 0 = a 0 0 ∧ a' 0 1 = a 0 1 ∧ a' 0 2 = a 0 2 ∧ (∀ j, a' 1 j = a 1 j) ∧ (∀ j, a' 2 j = a 2 j) ∧ (∀ j, a' 3 j = a 3 j) ∧ ∀ j, a' 4 j = a 4 j
theorem sW.rf (a : AS) : sW a a := ⟨rfl, rfl, rfl, fun _ => rfl, fun _ => rfl, fun _ => rfl, fun _ => rfl⟩
theorem sW.tr {a b c : AS} (h : sW a b) (g : sW b c) : sW a c := ⟨g.1.trans h.1, g.2.1.trans h.2.1, g.2.2.1.trans h.2.2.1, fun j => (g.2.2.2.1 j).trans (h.2.2.2.1 j), fun j => (g.2.2.2.2.1 j).trans (h.2.2.2.2.1 j), fun j => (g.2.2.2.2.2.1 j).trans (h.2.2.2.2.2.1 j), fun j => (g.2.2.2.2.2.2 j).trans (h.2.2.2.2.2.2 j)⟩
theorem sW.sy {a b : AS} (h : sW a b) : sW b a := ⟨h.1.symm, h.2.1.symm, h.2.2.1.symm, fun j => (h.2.2.2.1 j).symm, fun j => (h.2.2.2.2.1 j).symm, fun j => (h.2.2.2.2.2.1 j).symm, fun j => (h.2.2.2.2.2.2 j).symm⟩
def okW (c : Nat) (a : AS) : Prop := ∀ j, j < a 0 2 → a 6 j ≤ 30 * c
theorem okW.mono {c d : Nat} {a : AS} (h : okW c a) (q : c ≤ d) : okW d a := fun j hj => Nat.le_trans (h j hj) (Nat.mul_le_mul_left _ q)
def slot (a : AS) (c : Nat) (s : ST) (g : Nat → Int32) : Prop := ∃ a', sW a a' ∧ okA a' ∧ okW c a' ∧ rSt a' s ∧ rV a' g
theorem slot.mono {a : AS} {c d : Nat} {s : ST} {g : Nat → Int32} (h : slot a c s g) (q : c ≤ d) : slot a d s g := by
  obtain ⟨a', h1, h2, h3, h4, h5⟩ := h
  exact ⟨a', h1, h2, h3.mono q, h4, h5⟩
theorem slot.w {a b : AS} {c : Nat} {s : ST} {g : Nat → Int32} (h : slot a c s g) (q : sW a b) : slot b c s g := by
  obtain ⟨a', h1, h2, h3, h4, h5⟩ := h
  exact ⟨a', q.sy.tr h1, h2, h3, h4, h5⟩
theorem rV.c {a : AS} (ok : okA a) {g g' : Nat → Int32} (h : rV a g) (e : ∀ j, j < 19 → g' j = g j) : rV a g' := by
  have h1 := ok.1
  obtain ⟨r1, r2, r3, r4, r5, r6⟩ := h
  refine ⟨by rw [e 10 (by decide)]; exact r1, by rw [e 17 (by decide)]; exact r2, by rw [e 18 (by decide)]; exact r3, ?_, ?_, ?_⟩
  · intro j hj; rw [e j (by omega)]; exact r4 j hj
  · intro j hj; show g' (5 + j) = _; rw [e _ (by omega)]; exact r5 j hj
  · intro j hj; show g' (11 + j) = _; rw [e _ (by omega)]; exact r6 j hj
theorem slot.c {a : AS} {c : Nat} {s : ST} {g g' : Nat → Int32} (h : slot a c s g) (e : ∀ j, j < 19 → g' j = g j) : slot a c s g' := by
  obtain ⟨a', h1, h2, h3, h4, h5⟩ := h
  exact ⟨a', h1, h2, h3, h4, h5.c h2 e⟩
def rPast (a : AS) (c n L : Nat) (K : Nat → ST) (past : Nat → Int32) : Prop := n ≤ 16 ∧ L < 16 ∧ ∀ k, k < n → slot a c (K ((L + 16 - k) % 16)) (fun j => past (19 * (n - 1 - k) + j))
def rMark (a : AS) (c m : Nat) (M : Nat → ST) (kept : Nat → Int32) : Prop := m ≤ 3 ∧ ∀ k, k < m → slot a c (M k) (fun j => kept (19 * k + j))
theorem rPast.mono {a b : AS} {c d n L : Nat} {K : Nat → ST} {p : Nat → Int32} (h : rPast a c n L K p) (q : c ≤ d) (w : sW a b) : rPast b d n L K p := ⟨h.1, h.2.1, fun k hk => ((h.2.2 k hk).mono q).w w⟩
theorem rMark.mono {a b : AS} {c d m : Nat} {M : Nat → ST} {p : Nat → Int32} (h : rMark a c m M p) (q : c ≤ d) (w : sW a b) : rMark b d m M p := ⟨h.1, fun k hk => ((h.2 k hk).mono q).w w⟩
def updK (K : Nat → ST) (i : Nat) (s : ST) : Nat → ST := fun k => if k = i then s else K k
theorem updK_s (K : Nat → ST) (i : Nat) (s : ST) : updK K i s i = s := if_pos rfl
theorem updK_n (K : Nat → ST) {i k : Nat} (s : ST) (h : k ≠ i) : updK K i s k = K k := if_neg h
theorem updK_id (K : Nat → ST) (i : Nat) : updK K i (K i) = K := by
  funext k
  unfold updK
  split
  · next h => rw [h]
  · rfl
/-- all that acts change: abstract stand, calls so far, how many acts, which is the latest, how many marks; now, kept, marked; the model's rows -/
def rNow (a : AS) (c n L m : Nat) (now : ST) (K M : Nat → ST) (v past kept : Nat → Int32) : Prop := okA a ∧ okW c a ∧ rSt a now ∧ rV a v ∧ rPast a c n L K past ∧ rMark a c m M kept
theorem rNow.mono {a : AS} {c d n L m : Nat} {now : ST} {K M : Nat → ST} {v past kept : Nat → Int32} (h : rNow a c n L m now K M v past kept) (q : c ≤ d) : rNow a d n L m now K M v past kept := ⟨h.1, h.2.1.mono q, h.2.2.1, h.2.2.2.1, h.2.2.2.2.1.mono q (sW.rf a), h.2.2.2.2.2.mono q (sW.rf a)⟩
/-- the class's copy of a stand -/
def cpS (s so : ST) : ST := (so.1, so.2.1, so.2.2.1, va_cpy so.2.2.2.1 s.2.2.2.1 0 0 6, va_cpy so.2.2.2.2.1 s.2.2.2.2.1 0 0 5, va_cpy so.2.2.2.2.2 s.2.2.2.2.2 0 0 5)
theorem copyC (s so : ST) : f_X8_copyOf s.1 s.2.1 s.2.2.1 s.2.2.2.1 s.2.2.2.2.1 s.2.2.2.2.2 so.1 so.2.1 so.2.2.1 so.2.2.2.1 so.2.2.2.2.1 so.2.2.2.2.2 = some (cpS s so) := rfl
theorem cpS_r {a : AS} (ok : okA a) {s so : ST} (h : rSt a so) : rSt a (cpS s so) := by
  have h1 := ok.1
  obtain ⟨r1, r2, r3, r4, r5, r6⟩ := h
  refine ⟨r1, r2, r3, ?_, ?_, ?_⟩
  · intro j hj; show va_cpy _ _ 0 0 6 j = _; rw [pk_cpy_in (by omega) (by omega), show 0 + (j - 0) = j by omega]; exact r4 j hj
  · intro j hj; show va_cpy _ _ 0 0 5 j = _; rw [pk_cpy_in (by omega) (by omega), show 0 + (j - 0) = j by omega]; exact r5 j hj
  · intro j hj; show va_cpy _ _ 0 0 5 j = _; rw [pk_cpy_in (by omega) (by omega), show 0 + (j - 0) = j by omega]; exact r6 j hj
def nxt (n : Nat) : Nat := if n < 16 then n + 1 else 16
def selK (L : Nat) : Nat := if L + 1 < 16 then L + 1 else 0
theorem keepC {L n : Nat} (hL : L < 16) (hn : n ≤ 16) (no ks : ST) (kk : Nat → Option Nat) : f_X5_keep no.1 no.2.1 no.2.2.1 no.2.2.2.1 no.2.2.2.2.1 no.2.2.2.2.2 (nI L) (nI n) kk ks.1 ks.2.1 ks.2.2.1 ks.2.2.2.1 ks.2.2.2.2.1 ks.2.2.2.2.2 = some (nI (selK L), nI (nxt n), (cpS ks no).1, (cpS ks no).2.1, (cpS ks no).2.2.1, (cpS ks no).2.2.2.1, (cpS ks no).2.2.2.2.1, (cpS ks no).2.2.2.2.2) := by
  have e16 : (if nI n + 1 < 16 then nI n + 1 else 16) = nI (nxt n) := by
    unfold nxt
    rw [nI_1]
    by_cases q : n + 1 < 16
    · rw [if_pos (show nI (n + 1) < 16 from nI_lt (b := 16) q (by decide)), if_pos (by omega)]
    · rw [if_neg (show ¬ nI (n + 1) < 16 from nI_nlt (b := 16) (by omega) (by omega))]
      by_cases q2 : n < 16
      · rw [if_pos q2, show n = 15 by omega]; rfl
      · rw [if_neg q2]; rfl
  unfold f_X5_keep
  rw [e16, copyC, nI_1]
  unfold selK
  by_cases q : L + 1 < 16
  · rw [if_neg (show ¬ (16 : Int32) ≤ nI (L + 1) from nI_ge (b := 16) q (by decide)), gI q (by decide), if_pos q]; rfl
  · rw [if_pos (show (16 : Int32) ≤ nI (L + 1) from nI_le (a := 16) (by omega) (by omega)), if_neg q]; rfl
theorem rem51 {n : Nat} (hn : n < 16) (v past : Nat → Int32) : ∃ past', f_X13_remembers_L51 v (nI n) fuelN 0 past = some (nI (n + 1), past') ∧ (∀ j, j < 19 → past' (19 * n + j) = v j) ∧ ∀ x, x < 19 * n → past' x = past x := by
  refine loopR (fun f i s => f_X13_remembers_L51 v (nI n) f (nI i) s) 19 (fun i s => (∀ j, j < i → s (19 * n + j) = v j) ∧ ∀ x, x < 19 * n → s x = past x) (fun o => ∃ past', o = some (nI (n + 1), past') ∧ (∀ j, j < 19 → past' (19 * n + j) = v j) ∧ ∀ x, x < 19 * n → past' x = past x) ?_ ?_ 19 0 past fuelN (by omega) ⟨by intro j hj; omega, fun _ _ => rfl⟩ (fuel_gt (by omega))
  · intro f i s hi hs
    refine ⟨upd s (19 * n + i) (v i), ⟨?_, ?_⟩, ?_⟩
    · intro j hj
      by_cases q : j = i
      · subst q; exact pk_us
      · rw [pk_un (by omega)]; exact hs.1 j (by omega)
    · intro x hx
      rw [pk_un (by omega)]; exact hs.2 x hx
    · show f_X13_remembers_b51 _ _ _ _ _ = _
      unfold f_X13_remembers_b51
      rw [if_neg (show ¬ (19 : Int32) ≤ nI i from nI_ge (b := 19) hi (by decide)), gI hi (by decide), show (19 : Int32) = nI 19 from rfl, pk_mul, nI_add, gI (show 19 * n + i < 304 by omega) (by decide), nI_1, nI_clamp (show i < 2 ^ 31 by omega), nI_clamp (show 19 * n + i < 2 ^ 31 by omega)]
  · intro f s hs
    refine ⟨s, ?_, hs.1, hs.2⟩
    show f_X13_remembers_b51 _ _ _ _ _ = _
    unfold f_X13_remembers_b51 f_X13_remembers_B83
    rw [if_pos (by decide), nI_1]
theorem remM {n : Nat} (hn : n ≤ 16) (v past : Nat → Int32) : ∃ past', f_X13_remembers (nI n) v past = some (nI (nxt n), past') ∧ (∀ j, j < 19 → past' (19 * (nxt n - 1) + j) = v j) ∧ ∀ k j, 1 ≤ k → k < nxt n → j < 19 → past' (19 * (nxt n - 1 - k) + j) = past (19 * (n - k) + j) := by
  unfold f_X13_remembers f_X13_remembers_B49 nxt
  by_cases q : n < 16
  · obtain ⟨p, e, h1, h2⟩ := rem51 q v past
    rw [if_neg (fun h => by have := (nI_eq (a := n) (b := 16) (by omega) (by decide)).mp h; omega), if_pos q]
    refine ⟨p, e, fun j hj => h1 j hj, ?_⟩
    intro k j hk hk2 hj
    rw [show n + 1 - 1 - k = n - k by omega]
    exact h2 _ (by have : 19 * (n - k) + 19 ≤ 19 * n := by omega
                   omega)
  · have : n = 16 := by omega
    subst this
    rw [if_pos (show nI 16 = (16 : Int32) from rfl)]
    show ∃ past' : Nat → Int32, _ = some (nI 16, past') ∧ (∀ j, j < 19 → past' (19 * (16 - 1) + j) = v j) ∧ ∀ k j, 1 ≤ k → k < 16 → j < 19 → past' (19 * (16 - 1 - k) + j) = past (19 * (16 - k) + j)
    refine loopR (fun f i s => f_X13_remembers_L11 v (nI 16) f (nI i) s) 285 (fun i s => (∀ x, x < i → s x = past (x + 19)) ∧ ∀ x, i ≤ x → s x = past x) (fun o => ∃ past', o = some (nI 16, past') ∧ (∀ j, j < 19 → past' (19 * (16 - 1) + j) = v j) ∧ ∀ k j, 1 ≤ k → k < 16 → j < 19 → past' (19 * (16 - 1 - k) + j) = past (19 * (16 - k) + j)) ?_ ?_ 285 0 past fuelN (by omega) ⟨by intro j hj; omega, fun _ _ => rfl⟩ (fuel_gt (by omega))
    · intro f i s hi hs
      refine ⟨upd s i (past (i + 19)), ⟨?_, ?_⟩, ?_⟩
      · intro j hj
        by_cases q : j = i
        · subst q; exact pk_us
        · rw [pk_un q]; exact hs.1 j (by omega)
      · intro x hx
        rw [pk_un (by omega)]; exact hs.2 x (by omega)
      · show f_X13_remembers_b11 _ _ _ _ _ = _
        unfold f_X13_remembers_b11
        rw [if_neg (show ¬ (285 : Int32) ≤ nI i from nI_ge (b := 285) hi (by decide)), show (19 : Int32) = nI 19 from rfl, nI_add, gI (show i + 19 < 304 by omega) (by decide), gI (show i < 304 by omega) (by decide), nI_1, nI_clamp (show i < 2 ^ 31 by omega), nI_clamp (show i + 19 < 2 ^ 31 by omega), hs.2 _ (by omega)]
    · intro f s hs
      obtain ⟨p, e, h1, h2⟩ := rem51 (n := 15) (by decide) v s
      refine ⟨p, ?_, fun j hj => h1 j hj, ?_⟩
      · show f_X13_remembers_b11 _ _ _ _ _ = _
        unfold f_X13_remembers_b11 f_X13_remembers_B39 f_X13_remembers_B49
        rw [if_pos (by decide)]
        exact e
      · intro k j hk hk2 hj
        rw [h2 _ (by omega), hs.1 _ (by omega)]
        congr 1
        omega
theorem past_up {a : AS} {c n L : Nat} {K : Nat → ST} {v past past' : Nat → Int32} {no : ST} (ok : okA a) (hw : okW c a) (hv : rV a v) (hs : rSt a no) (hp : rPast a c n L K past) (h1 : ∀ j, j < 19 → past' (19 * (nxt n - 1) + j) = v j) (h2 : ∀ k j, 1 ≤ k → k < nxt n → j < 19 → past' (19 * (nxt n - 1 - k) + j) = past (19 * (n - k) + j)) : rPast a c (nxt n) (selK L) (updK K (selK L) (cpS (K (selK L)) no)) past' := by
  obtain ⟨hn, hL, hk⟩ := hp
  have hL' : selK L < 16 := by unfold selK; split <;> omega
  have hn' : nxt n ≤ 16 ∧ nxt n ≤ n + 1 := by unfold nxt; split <;> omega
  refine ⟨hn'.1, hL', ?_⟩
  intro k hkn
  by_cases q : k = 0
  · subst q
    rw [show (selK L + 16 - 0) % 16 = selK L by omega, updK_s]
    exact ⟨a, sW.rf a, ok, hw, cpS_r ok hs, hv.c ok (fun j hj => h1 j hj)⟩
  · have e : (selK L + 16 - k) % 16 = (L + 16 - (k - 1)) % 16 := by unfold selK; split <;> omega
    have ne : (selK L + 16 - k) % 16 ≠ selK L := by omega
    rw [updK_n K _ ne, e]
    refine (hk (k - 1) (by omega)).c ?_
    intro j hj
    rw [h2 k j (by omega) hkn hj]
    congr 2
    omega
def setA (a : AS) (i : Nat) (g : Nat → Nat) : AS := fun k => if k = i then g else a k
/-- one act: kept by both sides -/
theorem act_up {a : AS} {c n L m : Nat} {no : ST} {K M : Nat → ST} {v past kept : Nat → Int32} (h : rNow a c n L m no K M v past kept) (kk : Nat → Option Nat) : f_X5_keep no.1 no.2.1 no.2.2.1 no.2.2.2.1 no.2.2.2.2.1 no.2.2.2.2.2 (nI L) (nI n) kk (K (selK L)).1 (K (selK L)).2.1 (K (selK L)).2.2.1 (K (selK L)).2.2.2.1 (K (selK L)).2.2.2.2.1 (K (selK L)).2.2.2.2.2 = some (nI (selK L), nI (nxt n), (cpS (K (selK L)) no).1, (cpS (K (selK L)) no).2.1, (cpS (K (selK L)) no).2.2.1, (cpS (K (selK L)) no).2.2.2.1, (cpS (K (selK L)) no).2.2.2.2.1, (cpS (K (selK L)) no).2.2.2.2.2) ∧ ∃ past', f_X13_remembers (nI n) v past = some (nI (nxt n), past') ∧ ∀ (a2 : AS) (no2 : ST) (v2 : Nat → Int32), sW a a2 → okA a2 → okW (c + 1) a2 → rSt a2 no2 → rV a2 v2 → rNow a2 (c + 1) (nxt n) (selK L) m no2 (updK K (selK L) (cpS (K (selK L)) no)) M v2 past' kept := by
  obtain ⟨ok, hw, hs, hv, hp, hm⟩ := h
  refine ⟨keepC hp.2.1 hp.1 no (K (selK L)) kk, ?_⟩
  obtain ⟨past', e, h1, h2⟩ := remM hp.1 v past
  refine ⟨past', e, ?_⟩
  intro a2 no2 v2 w ok2 ow2 rs2 rv2
  have := past_up ok hw hv hs hp h1 h2
  exact ⟨ok2, ow2, rs2, rv2, this.mono (by omega) w, hm.mono (by omega) w⟩
section BE
variable {a : AS} {c n L m : Nat} {no : ST} {K M : Nat → ST} {v past kept wh kd md wh' kd' md' : Nat → Int32}
theorem stay_r (h : rNow a c n L m no K M v past kept) : rNow a (c + 1) n L m no (updK K (selK L) (K (selK L))) M v past kept := by
  rw [updK_id]; exact h.mono (by omega)
theorem wsame {a a2 : AS} (h1 : a2 0 0 = a 0 0) (h2 : a2 0 1 = a 0 1) (h3 : a2 0 2 = a 0 2) (h4 : a2 1 = a 1) (h5 : a2 2 = a 2) (h6 : a2 3 = a 3) (h7 : a2 4 = a 4) : sW a a2 := ⟨h1, h2, h3, fun j => by rw [h4], fun j => by rw [h5], fun j => by rw [h6], fun j => by rw [h7]⟩
theorem q_move (h : rNow a c n L m no K M v past kept) (kk : Nat → Option Nat) (p1 p2 rf th tr wr : Int32) : ∃ r t x2 L2 n2 S2 v2 past2 a2, f_X11_move rf (nI (a 0 0)) (nI (a 0 2)) no.1 no.2.1 no.2.2.1 no.2.2.2.1 no.2.2.2.2.1 no.2.2.2.2.2 (nI L) (nI n) kk (K (selK L)).1 (K (selK L)).2.1 (K (selK L)).2.2.1 (K (selK L)).2.2.2.1 (K (selK L)).2.2.2.2.1 (K (selK L)).2.2.2.2.2 p1 p2 = some (r, t, x2, nI L2, nI n2, S2) ∧ f_X13_move th tr wr (nI n) v past (nI (a 0 0)) (nI (a 0 2)) p1 p2 = some (r, 0, t, -1, nI n2, v2, past2) ∧ ¬ t = 4 ∧ sW a a2 ∧ rNow a2 (c + 1) n2 L2 m (no.1, no.2.1, no.2.2.1, no.2.2.2.1, x2, no.2.2.2.2.2) (updK K (selK L) S2) M v2 past2 kept := by
  have h0 := h
  have st0 := stay_r h
  obtain ⟨ok, hw, hs, hv, hp, hm⟩ := h
  have h1 := ok.1
  obtain ⟨r1, r2, r3, r4, r5, r6⟩ := hs
  obtain ⟨ek, past', er, hup⟩ := act_up h0 kk
  unfold f_X11_move f_X13_move f_X11_moveTrouble f_X11_moveTrouble_B48 f_X13_move_B21 f_X13_move_B47
  rcases ix2 p1 (n := a 0 2) (by omega) with hx | ⟨j, hj, rfl⟩
  · have hb := hbN hx
    rw [hb.1, hb.2.2.2.1, bd1_s, bd1_s]
    exact ⟨0, 1, _, L, n, K (selK L), v, past, a, rfl, rfl, by decide, sW.rf a, st0⟩
  · have hb := hbY (n := a 0 2) (by omega) hj
    rw [hb.1, hb.2.2.2.1, bd1_s, bd1_s, if10, if10]
    rcases ix2 p2 (n := a 0 0) (by omega) with hx | ⟨l, hl, rfl⟩
    · have hb := hbN hx
      rw [hb.2.1, hb.2.2.2.2.1, bd1_s, bd1_s]
      exact ⟨0, 1, _, L, n, K (selK L), v, past, a, rfl, rfl, by decide, sW.rf a, st0⟩
    · have hb := hbY (n := a 0 0) (by omega) hl
      have e0 : v j = nI (a 5 j) := hv.2.2.2.1 j hj
      have h5 := (ok.2.1 j hj).2.2.2.2.1
      have ee : nI (a 5 j) = nI l ↔ a 5 j = l := nI_eq (by omega) (by omega)
      have hd : f_X8_isDead no.1 (nI j) = some (if bit (a 0 3) j then 1 else 0) := by rw [r1]; exact isDeadN ok.d (by omega)
      rw [hb.2.1, hb.2.2.2.2.1, bd1_s, bd1_s, if10, if10, hd, isDeadM hv.1 ok.d (by omega), bd1_s, bd1_s, n0, gI (show j < 5 by omega) (by decide), gI (show j < 19 by omega) (by decide), nI_clamp (by omega), r5 j hj, e0]
      by_cases q : a 5 j = l
      · rw [if_pos (ee.mpr q), if_pos (ee.mpr q)]
        have : (if (if bit (a 0 3) j = true then (1 : Int32) else 0) = 0 then some (5 : Int32) else some 5) = some 5 := by split <;> rfl
        rw [this, bd1_s]
        exact ⟨0, 5, _, L, n, K (selK L), v, past, a, rfl, rfl, by decide, sW.rf a, st0⟩
      · rw [if_neg (fun e => q (ee.mp e)), if_neg (fun e => q (ee.mp e))]
        cases bit (a 0 3) j
        · rw [selF, selF, bd1_s, refF, bd2_s, if_pos rfl, ek, er, bd2_s, bd8_s, gI (show j < 5 by omega) (by decide), gI (show j < 19 by omega) (by decide)]
          refine ⟨1, 0, upd no.2.2.2.2.1 j (nI l), selK L, nxt n, cpS (K (selK L)) no, upd v j (nI l), past', setA a 5 (fun k => if k = j then l else a 5 k), rfl, rfl, by decide, wsame rfl rfl rfl rfl rfl rfl rfl, ?_⟩
          refine hup _ _ _ (wsame rfl rfl rfl rfl rfl rfl rfl) ⟨ok.1, ?_, ok.2.2⟩ (fun i hi => by have := hw i hi; show a 6 i ≤ _; omega) ⟨r1, r2, r3, r4, ?_, r6⟩ ⟨?_, ?_, ?_, ?_, ?_, ?_⟩
          · intro i hi
            have := ok.2.1 i hi
            refine ⟨this.1, this.2.1, this.2.2.1, this.2.2.2.1, ?_, this.2.2.2.2.2⟩
            show (if i = j then l else a 5 i) < a 0 0
            split
            · exact hl
            · exact this.2.2.2.2.1
          · exact upd_left r5 hj
          · rw [pk_un (by omega)]; exact hv.1
          · rw [pk_un (by omega)]; exact hv.2.1
          · rw [pk_un (by omega)]; exact hv.2.2.1
          · exact upd_left hv.2.2.2.1 hj
          · intro i hi
            have hi : i < a 0 2 := hi
            show upd v j (nI l) (5 + i) = _
            rw [pk_un (by omega)]; exact hv.2.2.2.2.1 i hi
          · intro i hi
            have hi : i < a 0 0 := hi
            show upd v j (nI l) (11 + i) = _
            rw [pk_un (by omega)]; exact hv.2.2.2.2.2 i hi
        · rw [selT, selT, bd1_s]
          exact ⟨0, 5, _, L, n, K (selK L), v, past, a, rfl, rfl, by decide, sW.rf a, st0⟩
theorem q_wound (h : rNow a c n L m no K M v past kept) (hc : c < 1000) (rk : rI (a 0 2) kd (a 1)) (rk' : rI (a 0 2) kd' (a 1)) (kk : Nat → Option Nat) (p1 p2 rf th tr wr : Int32) : ∃ r t x2 L2 n2 S2 v2 past2 a2, f_X11_wound rf (nI (a 0 2)) kd no.1 no.2.1 no.2.2.1 no.2.2.2.1 no.2.2.2.2.1 no.2.2.2.2.2 (nI L) (nI n) kk (K (selK L)).1 (K (selK L)).2.1 (K (selK L)).2.2.1 (K (selK L)).2.2.2.1 (K (selK L)).2.2.2.2.1 (K (selK L)).2.2.2.2.2 p1 p2 = some (r, t, x2, nI L2, nI n2, S2) ∧ f_X13_wound th tr wr (nI n) v past (nI (a 0 2)) kd' p1 p2 = some (r, 0, t, -1, nI n2, v2, past2) ∧ ¬ t = 4 ∧ sW a a2 ∧ rNow a2 (c + 1) n2 L2 m (no.1, no.2.1, no.2.2.1, no.2.2.2.1, no.2.2.2.2.1, x2) (updK K (selK L) S2) M v2 past2 kept := by
  have h0 := h
  have st0 := stay_r h
  obtain ⟨ok, hw, hs, hv, hp, hm⟩ := h
  have h1 := ok.1
  obtain ⟨r1, r2, r3, r4, r5, r6⟩ := hs
  obtain ⟨ek, past', er, hup⟩ := act_up h0 kk
  unfold f_X11_wound f_X13_wound f_X11_wound_B18 f_X11_livingTrouble
  rcases ix2 p1 (n := a 0 2) (by omega) with hx | ⟨j, hj, rfl⟩
  · have hb := hbN hx
    rw [hb.1, hb.2.2.2.1, bd1_s, bd1_s]
    refine ⟨-1, 1, no.2.2.2.2.2, L, n, K (selK L), v, past, a, ?_, rfl, by decide, sW.rf a, st0⟩
    rcases outIn p2 1 30 with ⟨e1, -⟩ | ⟨e1, -⟩ <;> rw [e1, bd1_s] <;> rfl
  · have hb := hbY (n := a 0 2) (by omega) hj
    rw [hb.1, hb.2.2.2.1, bd1_s, bd1_s]
    rcases outIn p2 1 30 with ⟨e1, e2, h3, h4⟩ | ⟨e1, e2⟩
    · have g0 : ¬ p2 < 0 := fun h => h3 (Int32.lt_trans h (by decide))
      obtain ⟨y, hy, rfl⟩ := nI_of2 (M := 30) (n := 30) rfl g0 h4
      have h2 := ok.2.1 j hj
      have h6 := hw j hj
      have hd : f_X8_isDead no.1 (nI j) = some (if bit (a 0 3) j then 1 else 0) := by rw [r1]; exact isDeadN ok.d (by omega)
      rw [e1, e2]
      simp only [bd1_s, if10, if00, if_true]
      rw [hd, isDeadM hv.1 ok.d (by omega)]
      simp only [bd1_s]
      have e5 : v (5 + j) = nI (a 6 j) := hv.2.2.2.2.1 j hj
      cases hbit : bit (a 0 3) j
      · have hfc : f_X4_forceOf kd no.1 (upd no.2.2.2.2.2 j (nI (a 6 j + y))) (nI j) = some (nI (forceN (a 1 j) (a 6 j + y) (bit (a 0 3) j))) := by
          rw [r1]; exact forceC ok.d (by omega) (rk j hj) h2.1 pk_us (by omega)
        have hfm : f_X13_forceOf (upd v (5 + j) (nI (a 6 j + y))) kd' (nI j) = some (nI (forceN (a 1 j) (a 6 j + y) (bit (a 0 3) j))) := forceM (by rw [pk_un (by omega)]; exact hv.1) ok.d (by omega) (rk' j hj) h2.1 pk_us (by omega)
        rw [selF, selF, bd1_s, refF, bd2_s, if_pos rfl, ek, er, bd2_s, bd8_s, gI (show j < 5 by omega) (by decide), gI (show j < 5 by omega) (by decide), n5, gI (show 5 + j < 19 by omega) (by decide), gI (show 5 + j < 19 by omega) (by decide), nI_clamp (show j < 2 ^ 31 by omega), nI_clamp (show 5 + j < 2 ^ 31 by omega), r6 j hj, e5, nI_add, hfc, hfm, bd1_s, bd1_s]
        refine ⟨nI (forceN (a 1 j) (a 6 j + y) (bit (a 0 3) j)), 0, upd no.2.2.2.2.2 j (nI (a 6 j + y)), selK L, nxt n, cpS (K (selK L)) no, upd v (5 + j) (nI (a 6 j + y)), past', setA a 6 (fun k => if k = j then a 6 j + y else a 6 k), rfl, rfl, by decide, wsame rfl rfl rfl rfl rfl rfl rfl, ?_⟩
        refine hup _ _ _ (wsame rfl rfl rfl rfl rfl rfl rfl) ⟨ok.1, ?_, ok.2.2⟩ (fun i hi => ?_) ⟨r1, r2, r3, r4, r5, ?_⟩ ⟨?_, ?_, ?_, ?_, ?_, ?_⟩
        · intro i hi
          have := ok.2.1 i hi
          refine ⟨this.1, this.2.1, this.2.2.1, this.2.2.2.1, this.2.2.2.2.1, ?_⟩
          show (if i = j then a 6 j + y else a 6 i) < 2 ^ 20
          split
          · omega
          · exact this.2.2.2.2.2
        · have := hw i hi
          show (if i = j then a 6 j + y else a 6 i) ≤ _
          split <;> omega
        · exact upd_left r6 hj
        · rw [pk_un (by omega)]; exact hv.1
        · rw [pk_un (by omega)]; exact hv.2.1
        · rw [pk_un (by omega)]; exact hv.2.2.1
        · intro i hi
          have hi : i < a 0 2 := hi
          rw [pk_un (by omega)]; exact hv.2.2.2.1 i hi
        · intro i hi
          have hi : i < a 0 2 := hi
          show upd v (5 + j) (nI (a 6 j + y)) (5 + i) = nI (if i = j then a 6 j + y else a 6 i)
          by_cases q : i = j
          · subst q; rw [pk_us, if_pos rfl]
          · rw [pk_un (by omega), if_neg q]; exact hv.2.2.2.2.1 i hi
        · intro i hi
          have hi : i < a 0 0 := hi
          show upd v (5 + j) _ (11 + i) = _
          rw [pk_un (by omega)]; exact hv.2.2.2.2.2 i hi
      · rw [selT, selT, bd1_s]
        exact ⟨-1, 5, _, L, n, K (selK L), v, past, a, rfl, rfl, by decide, sW.rf a, st0⟩
    · rw [e1, e2, bd1_s, bd1_s]
      exact ⟨-1, 2, _, L, n, K (selK L), v, past, a, rfl, rfl, by decide, sW.rf a, st0⟩
theorem q_hammer (h : rNow a c n L m no K M v past kept) (kk : Nat → Option Nat) (p1 rf th tr wr : Int32) : ∃ r t x2 L2 n2 S2 v2 past2 a2, f_X11_hammer rf (nI (a 0 2)) no.1 no.2.1 no.2.2.1 no.2.2.2.1 no.2.2.2.2.1 no.2.2.2.2.2 (nI L) (nI n) kk (K (selK L)).1 (K (selK L)).2.1 (K (selK L)).2.2.1 (K (selK L)).2.2.2.1 (K (selK L)).2.2.2.2.1 (K (selK L)).2.2.2.2.2 p1 = some (r, t, x2, nI L2, nI n2, S2) ∧ f_X13_hammer th tr wr (nI n) v past (nI (a 0 2)) p1 = some (r, 0, t, -1, nI n2, v2, past2) ∧ ¬ t = 4 ∧ sW a a2 ∧ rNow a2 (c + 1) n2 L2 m (x2, no.2.1, no.2.2.1, no.2.2.2.1, no.2.2.2.2.1, no.2.2.2.2.2) (updK K (selK L) S2) M v2 past2 kept := by
  have h0 := h
  have st0 := stay_r h
  obtain ⟨ok, hw, hs, hv, hp, hm⟩ := h
  have h1 := ok.1
  obtain ⟨r1, r2, r3, r4, r5, r6⟩ := hs
  obtain ⟨ek, past', er, hup⟩ := act_up h0 kk
  unfold f_X11_hammer f_X13_hammer f_X11_livingTrouble
  rcases ix2 p1 (n := a 0 2) (by omega) with hx | ⟨j, hj, rfl⟩
  · have hb := hbN hx
    rw [hb.1, hb.2.2.2.1, bd1_s, bd1_s]
    exact ⟨0, 1, _, L, n, K (selK L), v, past, a, rfl, rfl, by decide, sW.rf a, st0⟩
  · have hb := hbY (n := a 0 2) (by omega) hj
    have hd : f_X8_isDead no.1 (nI j) = some (if bit (a 0 3) j then 1 else 0) := by rw [r1]; exact isDeadN ok.d (by omega)
    rw [hb.1, hb.2.2.2.1]
    simp only [bd1_s, if10, if00, if_true]
    rw [hd, isDeadM hv.1 ok.d (by omega)]
    simp only [bd1_s]
    cases hbit : bit (a 0 3) j
    · rw [selF, selF, bd1_s, refF, bd2_s, if_pos rfl, ek, er, bd2_s, bd8_s, c10, hv.1, r1, shlN (by omega), nI_or]
      refine ⟨1, 0, nI (a 0 3 ||| 2 ^ j), selK L, nxt n, cpS (K (selK L)) no, upd v 10 (nI (a 0 3 ||| 2 ^ j)), past', setA a 0 (fun k => if k = 3 then a 0 3 ||| 2 ^ j else a 0 k), ?_, rfl, by decide, wsame rfl rfl rfl rfl rfl rfl rfl, ?_⟩
      · unfold cpS; rw [r1]
      · have h7 := ok.1.2.2.2.2.2.2.1
        refine hup _ _ _ (wsame rfl rfl rfl rfl rfl rfl rfl) ⟨⟨h1.1, h1.2.1, h1.2.2.1, h1.2.2.2.1, h1.2.2.2.2.1, h1.2.2.2.2.2.1, Nat.or_lt_two_pow h7 (Nat.pow_lt_pow_right (by decide) hj), h1.2.2.2.2.2.2.2.1, h1.2.2.2.2.2.2.2.2⟩, ok.2.1, ok.2.2⟩ (fun i hi => by have := hw i hi; show a 6 i ≤ _; omega) ⟨rfl, r2, r3, r4, r5, r6⟩ ⟨pk_us, ?_, ?_, ?_, ?_, ?_⟩
        · rw [pk_un (by omega)]; exact hv.2.1
        · rw [pk_un (by omega)]; exact hv.2.2.1
        · intro i hi
          have hi : i < a 0 2 := hi
          rw [pk_un (by omega)]; exact hv.2.2.2.1 i hi
        · intro i hi
          have hi : i < a 0 2 := hi
          show upd v 10 _ (5 + i) = _
          rw [pk_un (by omega)]; exact hv.2.2.2.2.1 i hi
        · intro i hi
          have hi : i < a 0 0 := hi
          show upd v 10 _ (11 + i) = _
          rw [pk_un (by omega)]; exact hv.2.2.2.2.2 i hi
    · rw [selT, selT, bd1_s]
      exact ⟨0, 5, _, L, n, K (selK L), v, past, a, rfl, rfl, by decide, sW.rf a, st0⟩
theorem q_teach (h : rNow a c n L m no K M v past kept) (rw0 : rI (a 0 0) wh (a 4)) (rw1 : rI (a 0 0) wh' (a 4)) (kk : Nat → Option Nat) (p1 p2 rf th tr wr : Int32) : ∃ r t x2 L2 n2 S2 v2 past2 a2, f_X11_teach rf (nI (a 0 0)) wh no.1 no.2.1 no.2.2.1 no.2.2.2.1 no.2.2.2.2.1 no.2.2.2.2.2 (nI L) (nI n) kk (K (selK L)).1 (K (selK L)).2.1 (K (selK L)).2.2.1 (K (selK L)).2.2.2.1 (K (selK L)).2.2.2.2.1 (K (selK L)).2.2.2.2.2 p1 p2 = some (r, t, x2, nI L2, nI n2, S2) ∧ f_X13_teach th tr wr (nI n) v past (nI (a 0 0)) wh' p1 p2 = some (r, 0, t, -1, nI n2, v2, past2) ∧ ¬ t = 4 ∧ sW a a2 ∧ rNow a2 (c + 1) n2 L2 m (no.1, no.2.1, no.2.2.1, x2, no.2.2.2.2.1, no.2.2.2.2.2) (updK K (selK L) S2) M v2 past2 kept := by
  have h0 := h
  have st0 := stay_r h
  obtain ⟨ok, hw, hs, hv, hp, hm⟩ := h
  have h1 := ok.1
  obtain ⟨r1, r2, r3, r4, r5, r6⟩ := hs
  obtain ⟨ek, past', er, hup⟩ := act_up h0 kk
  unfold f_X11_teach f_X13_teach f_X11_teach_B18 f_X13_teach_B98
  rcases horseT ok rw0 rw1 p1 with ⟨e2, e1⟩ | ⟨l, hl, rfl, e2, e1, e4, e3⟩
  · rw [e1, e1, e2, bd1_s]
    refine ⟨-1, 1, no.2.2.2.1, L, n, K (selK L), v, past, a, ?_, rfl, by decide, sW.rf a, st0⟩
    rcases outIn p2 1 30 with ⟨e1, -⟩ | ⟨e1, -⟩ <;> rw [e1, bd1_s] <;> rfl
  · have h3 := ok.2.2 l hl
    rcases outIn p2 1 30 with ⟨f1, f2, g3, g4⟩ | ⟨f1, f2⟩
    · have g0 : ¬ p2 < 0 := fun h => g3 (Int32.lt_trans h (by decide))
      obtain ⟨y, hy, rfl⟩ := nI_of2 (M := 30) (n := 30) rfl g0 g4
      have e11 : v (11 + l) = nI (a 7 l) := hv.2.2.2.2.2 l hl
      rw [f1, f2, e2]
      simp only [bd1_s, if10, if00, if_true]
      rw [e1, bd1_s, gI (show l < 6 by omega) (by decide), nI_clamp (show l < 2 ^ 31 by omega)]
      by_cases q : a 4 l = 3
      · rw [if_pos q, if_pos (e3.mpr q), refF, bd2_s, if_pos rfl, ek, er, bd2_s, bd8_s, gI (show l < 6 by omega) (by decide), gI (show l < 6 by omega) (by decide), gI (show l < 6 by omega) (by decide), n11, gI (show 11 + l < 19 by omega) (by decide), gI (show 11 + l < 19 by omega) (by decide), nI_clamp (show 11 + l < 2 ^ 31 by omega), r4 l hl, e11, nI_add, pk_us]
        have val : (if nI (a 7 l + y) < 30 then nI (a 7 l + y) else 30) = nI (if a 7 l + y < 30 then a 7 l + y else 30) := by
          by_cases q3 : a 7 l + y < 30
          · rw [if_pos (show nI (a 7 l + y) < 30 from nI_lt (b := 30) q3 (by decide)), if_pos q3]
          · rw [if_neg (show ¬ nI (a 7 l + y) < 30 from nI_nlt (b := 30) (by omega) (by omega)), if_neg q3]; rfl
        rw [val]
        refine ⟨nI (if a 7 l + y < 30 then a 7 l + y else 30), 0, upd no.2.2.2.1 l (nI (if a 7 l + y < 30 then a 7 l + y else 30)), selK L, nxt n, cpS (K (selK L)) no, upd v (11 + l) (nI (if a 7 l + y < 30 then a 7 l + y else 30)), past', setA a 7 (fun k => if k = l then (if a 7 l + y < 30 then a 7 l + y else 30) else a 7 k), rfl, ?_, by decide, wsame rfl rfl rfl rfl rfl rfl rfl, ?_⟩
        · by_cases q3 : a 7 l + y < 30
          · rw [if_neg (show ¬ (30 : Int32) ≤ nI (a 7 l + y) from nI_ge (b := 30) q3 (by decide)), if_pos q3, gI (show 11 + l < 19 by omega) (by decide), gI (show 11 + l < 19 by omega) (by decide), pk_us, gI (show 11 + l < 19 by omega) (by decide)]; rfl
          · rw [if_pos (show (30 : Int32) ≤ nI (a 7 l + y) from nI_le (a := 30) (by omega) (by omega)), if_neg q3, gI (show 11 + l < 19 by omega) (by decide), pk_us]; rfl
        · refine hup _ _ _ (wsame rfl rfl rfl rfl rfl rfl rfl) ⟨ok.1, ok.2.1, ?_⟩ (fun i hi => by have := hw i hi; show a 6 i ≤ _; omega) ⟨r1, r2, r3, upd_left r4 hl, r5, r6⟩ ⟨?_, ?_, ?_, ?_, ?_, ?_⟩
          · intro i hi
            have := ok.2.2 i hi
            refine ⟨this.1, ?_⟩
            show (if i = l then (if a 7 l + y < 30 then a 7 l + y else 30) else a 7 i) ≤ 60
            split
            · split <;> omega
            · exact this.2
          · rw [pk_un (by omega)]; exact hv.1
          · rw [pk_un (by omega)]; exact hv.2.1
          · rw [pk_un (by omega)]; exact hv.2.2.1
          · intro i hi
            have hi : i < a 0 2 := hi
            rw [pk_un (by omega)]; exact hv.2.2.2.1 i hi
          · intro i hi
            have hi : i < a 0 2 := hi
            show upd v (11 + l) _ (5 + i) = _
            rw [pk_un (by omega)]; exact hv.2.2.2.2.1 i hi
          · intro i hi
            have hi : i < a 0 0 := hi
            show upd v (11 + l) _ (11 + i) = nI (if i = l then _ else a 7 i)
            by_cases q4 : i = l
            · subst q4; rw [pk_us, if_pos rfl]
            · rw [pk_un (by omega), if_neg q4]; exact hv.2.2.2.2.2 i hi
      · rw [if_neg q, if_neg (fun h => q (e3.mp h))]
        exact ⟨-1, 5, _, L, n, K (selK L), v, past, a, rfl, rfl, by decide, sW.rf a, st0⟩
    · rw [f1, f2, e2]
      simp only [bd1_s, if10, if00, if_true]
      rw [e4 2 (by decide), bd1_s]
      exact ⟨-1, 2, _, L, n, K (selK L), v, past, a, rfl, rfl, by decide, sW.rf a, st0⟩
theorem q_rain (h : rNow a c n L m no K M v past kept) (kk : Nat → Option Nat) (is : Bool) (rf th tr wr : Int32) : ∃ r t x2 L2 n2 S2 v2 past2 a2, f_X11_rain rf (nI (a 0 0)) no.1 no.2.1 no.2.2.1 no.2.2.2.1 no.2.2.2.2.1 no.2.2.2.2.2 (nI L) (nI n) kk (K (selK L)).1 (K (selK L)).2.1 (K (selK L)).2.2.1 (K (selK L)).2.2.2.1 (K (selK L)).2.2.2.2.1 (K (selK L)).2.2.2.2.2 (if is then 1 else 0) = some (r, t, x2, nI L2, nI n2, S2) ∧ f_X13_rain th tr wr (nI n) v past (if is then 1 else 0) = some (r, 0, t, -1, nI n2, v2, past2) ∧ ¬ t = 4 ∧ sW a a2 ∧ rNow a2 (c + 1) n2 L2 m (no.1, x2, no.2.2.1, no.2.2.2.1, no.2.2.2.2.1, no.2.2.2.2.2) (updK K (selK L) S2) M v2 past2 kept := by
  have h0 := h
  have st0 := stay_r h
  obtain ⟨ok, hw, hs, hv, hp, hm⟩ := h
  have h1 := ok.1
  obtain ⟨r1, r2, r3, r4, r5, r6⟩ := hs
  obtain ⟨ek, past', er, hup⟩ := act_up h0 kk
  have h4 := h1.2.2.2.2.2.2.2.1
  unfold f_X11_rain f_X13_rain f_X11_rain_B31 f_X13_rain_B34 f_X13_rain_B63
  rw [(warT (n := a 0 0) (by omega) (by omega)).2, bd1_s, if_neg (by decide), c17, hv.2.1]
  have key : ∀ (w y : Nat), a 0 4 = w → y < 2 → ¬ w = y → (if is then (1 : Int32) else 0) = nI y → rNow (setA a 0 (fun k => if k = 4 then y else a 0 k)) (c + 1) (nxt n) (selK L) m (no.1, nI y, no.2.2.1, no.2.2.2.1, no.2.2.2.2.1, no.2.2.2.2.2) (updK K (selK L) (cpS (K (selK L)) no)) M (upd v 17 (nI y)) past' kept := by
    intro w y _ hy _ _
    refine hup _ _ _ (wsame rfl rfl rfl rfl rfl rfl rfl) ⟨⟨h1.1, h1.2.1, h1.2.2.1, h1.2.2.2.1, h1.2.2.2.2.1, h1.2.2.2.2.2.1, h1.2.2.2.2.2.2.1, hy, h1.2.2.2.2.2.2.2.2⟩, ok.2.1, ok.2.2⟩ (fun i hi => by have := hw i hi; show a 6 i ≤ _; omega) ⟨r1, rfl, r3, r4, r5, r6⟩ ⟨?_, pk_us, ?_, ?_, ?_, ?_⟩
    · rw [pk_un (by omega)]; exact hv.1
    · rw [pk_un (by omega)]; exact hv.2.2.1
    · intro i hi
      have hi : i < a 0 2 := hi
      rw [pk_un (by omega)]; exact hv.2.2.2.1 i hi
    · intro i hi
      have hi : i < a 0 2 := hi
      show upd v 17 _ (5 + i) = _
      rw [pk_un (by omega)]; exact hv.2.2.2.2.1 i hi
    · intro i hi
      have hi : i < a 0 0 := hi
      show upd v 17 _ (11 + i) = _
      rw [pk_un (by omega)]; exact hv.2.2.2.2.2 i hi
  rcases (show a 0 4 = 0 ∨ a 0 4 = 1 by omega) with hw4 | hw4
  · have e0 : no.2.1 = 0 := by rw [r2, hw4]; rfl
    cases is
    · rw [hw4, if_pos (show no.2.1 = (if false = true then (1 : Int32) else 0) from e0), if_neg (show ¬ nI 0 = (1 : Int32) by decide), if_pos (show (0 : Int32) = (if false = true then (1 : Int32) else 0) from rfl)]
      exact ⟨0, 5, no.2.1, L, n, K (selK L), v, past, a, rfl, rfl, by decide, sW.rf a, st0⟩
    · rw [hw4, if_neg (show ¬ no.2.1 = (if true = true then (1 : Int32) else 0) by rw [e0]; decide), if_neg (show ¬ nI 0 = (1 : Int32) by decide), if_neg (show ¬ (0 : Int32) = (if true = true then (1 : Int32) else 0) by decide), refF, bd2_s, if_pos rfl, ek, er, bd2_s, bd8_s]
      exact ⟨1, 0, nI 1, selK L, nxt n, cpS (K (selK L)) no, upd v 17 (nI 1), past', setA a 0 (fun k => if k = 4 then 1 else a 0 k), rfl, rfl, by decide, wsame rfl rfl rfl rfl rfl rfl rfl, key 0 1 hw4 (by decide) (by decide) rfl⟩
  · have e0 : no.2.1 = 1 := by rw [r2, hw4]; rfl
    cases is
    · rw [hw4, if_neg (show ¬ no.2.1 = (if false = true then (1 : Int32) else 0) by rw [e0]; decide), if_pos (show nI 1 = (1 : Int32) from rfl), if_neg (show ¬ (1 : Int32) = (if false = true then (1 : Int32) else 0) by decide), refF, bd2_s, if_pos rfl, ek, er, bd2_s, bd8_s]
      exact ⟨1, 0, nI 0, selK L, nxt n, cpS (K (selK L)) no, upd v 17 (nI 0), past', setA a 0 (fun k => if k = 4 then 0 else a 0 k), rfl, rfl, by decide, wsame rfl rfl rfl rfl rfl rfl rfl, key 1 0 hw4 (by decide) (by decide) rfl⟩
    · rw [hw4, if_pos (show no.2.1 = (if true = true then (1 : Int32) else 0) from e0), if_pos (show nI 1 = (1 : Int32) from rfl), if_pos (show (1 : Int32) = (if true = true then (1 : Int32) else 0) from rfl)]
      exact ⟨0, 5, no.2.1, L, n, K (selK L), v, past, a, rfl, rfl, by decide, sW.rf a, st0⟩
theorem q_battle (h : rNow a c n L m no K M v past kept) (rw0 : rI (a 0 0) wh (a 4)) (rk : rI (a 0 2) kd (a 1)) (rm : rI (a 0 2) md (a 2)) (rw1 : rI (a 0 0) wh' (a 4)) (rk' : rI (a 0 2) kd' (a 1)) (rm' : rI (a 0 2) md' (a 2)) (kk : Nat → Option Nat) (rf x1 x2 x3 x4 : Int32) (fl : Nat → Int32) (th tr wr w1 w2 w3 : Int32) : ∃ r d2 s2 L2 n2 S2 y1 y2 y3 y4 y5 z1 z2 z3 v2 past2 a2, f_X11_battle rf (nI (a 0 0)) (nI (a 0 1)) (nI (a 0 2)) wh kd md no.1 no.2.1 no.2.2.1 no.2.2.2.1 no.2.2.2.2.1 no.2.2.2.2.2 (nI L) (nI n) kk (K (selK L)).1 (K (selK L)).2.1 (K (selK L)).2.2.1 (K (selK L)).2.2.2.1 (K (selK L)).2.2.2.2.1 (K (selK L)).2.2.2.2.2 x1 x2 x3 x4 fl = some (r, 0, d2, s2, nI L2, nI n2, S2.1, S2.2.1, S2.2.2.1, S2.2.2.2.1, S2.2.2.2.2.1, S2.2.2.2.2.2, y1, y2, y3, y4, y5) ∧ f_X13_battle_v th tr wr (nI n) w1 w2 w3 v past (nI (a 0 1)) (nI (a 0 2)) wh' kd' md' = some (r, 0, 0, -1, nI n2, z1, z2, z3, v2, past2) ∧ sW a a2 ∧ rNow a2 (c + 1) n2 L2 m (no.1, no.2.1, d2, s2, no.2.2.2.2.1, no.2.2.2.2.2) (updK K (selK L) S2) M v2 past2 kept := by
  have h0 := h
  have st0 := stay_r h
  obtain ⟨ok, hw, hs, hv, hp, hm⟩ := h
  have h1 := ok.1
  obtain ⟨r1, r2, r3, r4, r5, r6⟩ := hs
  obtain ⟨ek, past', er, hup⟩ := act_up h0 kk
  have hd5 : a 0 5 < 65537 := by have := h1.2.2.2.2.2.2.2.2; omega
  have rc : rCl a wh kd md no.2.2.2.1 no.2.2.2.2.2 := ⟨rw0, rk, rm, r4, r6⟩
  obtain ⟨fl', ef, hfl⟩ := fightC ok rc r5 hd5 x1 x2 x3 x4 fl
  obtain ⟨row', em, g1, g2, g3, g4, g5, g6⟩ := fightMMV ok rw1 rk' rm' hd5 w1 w2 w3 (row := v) ⟨hv.2.2.1, hv.2.2.2.1, hv.2.2.2.2.2, hv.1, hv.2.1, hv.2.2.2.2.1⟩
  obtain ⟨o1, -, -, -, o5⟩ := fg_ok ok hd5 (a 0 2) (Nat.le_refl _)
  rw [← r1, ← r2, ← r3] at ef
  unfold f_X11_battle f_X13_battle_v f_X0_leaveBehind
  rw [(warT (n := a 0 0) (by omega) (by omega)).1, bd1_s, refF, bd2_s, if_pos rfl, ek, bd8_s, ef, bd5_s, bd2_s, er, bd2_s, em, bd4_s]
  refine ⟨_, _, _, selK L, nxt n, cpS (K (selK L)) no, _, _, _, _, _, _, _, _, _, past', setA (setA a 0 (fun k => if k = 5 then (fgN a (a 0 5)).1 else a 0 k)) 7 (fgN a (a 0 5)).2.2.2.2, rfl, rfl, wsame rfl rfl rfl rfl rfl rfl rfl, ?_⟩
  refine hup _ _ _ (wsame rfl rfl rfl rfl rfl rfl rfl) ⟨⟨h1.1, h1.2.1, h1.2.2.1, h1.2.2.2.1, h1.2.2.2.2.1, h1.2.2.2.2.2.1, h1.2.2.2.2.2.2.1, h1.2.2.2.2.2.2.2.1, ?_⟩, ok.2.1, fun l hl => ⟨(ok.2.2 l hl).1, o5 l hl⟩⟩ (fun i hi => by have := hw i hi; show a 6 i ≤ _; omega) ⟨r1, r2, rfl, ?_, r5, r6⟩ ⟨g4, g5, g1, g2, g6, g3⟩
  · exact Nat.le_of_lt_succ o1
  · intro l hl
    have hl : l < a 0 0 := hl
    show va_cpy fl' no.2.2.2.1 0 0 6 l = _
    rw [pk_cpy_in (by omega) (by omega), show 0 + (l - 0) = l by omega]
    exact hfl l hl
theorem q_undo (h : rNow a c n L m no K M v past kept) (kk : Nat → Option Nat) (rf th tr wr : Int32) : ∃ r t no2 L2 n2 v2 a2, f_X11_undo rf no.1 no.2.1 no.2.2.1 no.2.2.2.1 no.2.2.2.2.1 no.2.2.2.2.2 (nI L) (nI n) kk (K (L)).1 (K (L)).2.1 (K (L)).2.2.1 (K (L)).2.2.2.1 (K (L)).2.2.2.2.1 (K (L)).2.2.2.2.2 = some (r, t, no2.1, no2.2.1, no2.2.2.1, no2.2.2.2.1, no2.2.2.2.2.1, no2.2.2.2.2.2, nI L2, nI n2) ∧ f_X13_undo th tr wr (nI n) v past = some (r, 0, t, -1, nI n2, v2) ∧ ¬ t = 4 ∧ sW a a2 ∧ rNow a2 (c + 1) n2 L2 m no2 K M v2 past kept := by
  have h0 := h.mono (show c ≤ c + 1 by omega)
  obtain ⟨ok, hw, hs, hv, hp, hm⟩ := h0
  have h1 := ok.1
  obtain ⟨hn, hL, hk⟩ := hp
  unfold f_X11_undo f_X13_undo f_X11_undo_B21 f_X5_takeBack f_X5_takeBack_B41
  have e0 : nI n = 0 ↔ n = 0 := nI_eq (b := 0) (by omega) (by decide)
  by_cases q : n = 0
  · rw [if_pos (e0.mpr q), if_pos (e0.mpr q)]
    exact ⟨0, 6, no, L, n, v, a, rfl, rfl, by decide, sW.rf a, h.mono (by omega)⟩
  · rw [if_neg (fun e => q (e0.mp e)), if_neg (fun e => q (e0.mp e)), gI hL (by decide), copyC, show nI n - 1 = nI (n - 1) from pk_sub (b := 1) (by omega)]
    obtain ⟨a', w, ok', ow', rs', rv'⟩ := hk 0 (by omega)
    rw [show (L + 16 - 0) % 16 = L by omega] at rs'
    have hM : ∃ v2, f_X13_undo_L38 past 0 tr wr (nI (n - 1)) fuelN 0 v = some (1, 0, 0, -1, nI (n - 1), v2) ∧ ∀ j, j < 19 → v2 j = past (19 * (n - 1) + j) := by
      refine loopR (fun f i s => f_X13_undo_L38 past 0 tr wr (nI (n - 1)) f (nI i) s) 19 (fun i s => ∀ j, j < i → s j = past (19 * (n - 1) + j)) (fun o => ∃ v2, o = some (1, 0, 0, -1, nI (n - 1), v2) ∧ ∀ j, j < 19 → v2 j = past (19 * (n - 1) + j)) ?_ ?_ 19 0 v fuelN (by omega) (by intro j hj; omega) (fuel_gt (by omega))
      · intro f i s hi hs
        refine ⟨upd s i (past (19 * (n - 1) + i)), ?_, ?_⟩
        · intro j hj
          by_cases q : j = i
          · subst q; exact pk_us
          · rw [pk_un q]; exact hs j (by omega)
        · show f_X13_undo_b38 _ _ _ _ _ _ _ _ = _
          unfold f_X13_undo_b38
          rw [if_neg (show ¬ (19 : Int32) ≤ nI i from nI_ge (b := 19) hi (by decide)), show (19 : Int32) = nI 19 from rfl, pk_mul, nI_add, gI (show 19 * (n - 1) + i < 304 by omega) (by decide), gI hi (by decide), nI_1, nI_clamp (show i < 2 ^ 31 by omega), nI_clamp (show 19 * (n - 1) + i < 2 ^ 31 by omega)]
      · intro f s hs
        refine ⟨s, ?_, hs⟩
        show f_X13_undo_b38 _ _ _ _ _ _ _ _ = _
        unfold f_X13_undo_b38 f_X13_undo_B70
        rw [if_pos (by decide)]; rfl
    obtain ⟨v2, em, ev⟩ := hM
    have hbig : ∀ L2, L2 < 16 → (∀ k, k < n - 1 → (L2 + 16 - k) % 16 = (L + 16 - (k + 1)) % 16) → rNow a' (c + 1) (n - 1) L2 m (cpS no (K L)) K M v2 past kept := by
      intro L2 hL2 hidx
      refine ⟨ok', ow', cpS_r ok' rs', rv'.c ok' ev, ⟨by omega, hL2, ?_⟩, hm.mono (by omega) w⟩
      intro k hk2
      have := (hk (k + 1) (by omega)).w w
      rw [hidx k hk2]
      rw [show n - 1 - 1 - k = n - 1 - (k + 1) by omega]
      exact this
    have eL : nI L ≤ 0 ↔ L ≤ 0 := nI_leI (b := 0) (by omega) (by decide)
    rw [em]
    by_cases q2 : L ≤ 0
    · refine ⟨1, 0, cpS no (K L), 15, n - 1, v2, a', ?_, rfl, by decide, w, hbig 15 (by decide) (by intro k hk; omega)⟩
      rw [show bd6 (some (cpS no (K L))) = bd6 (some ((cpS no (K L)).1, (cpS no (K L)).2.1, (cpS no (K L)).2.2.1, (cpS no (K L)).2.2.2.1, (cpS no (K L)).2.2.2.2.1, (cpS no (K L)).2.2.2.2.2)) from rfl, bd6_s, if_pos (eL.mpr q2)]
      rfl
    · refine ⟨1, 0, cpS no (K L), L - 1, n - 1, v2, a', ?_, rfl, by decide, w, hbig (L - 1) (by omega) (by intro k hk; omega)⟩
      rw [show bd6 (some (cpS no (K L))) = bd6 (some ((cpS no (K L)).1, (cpS no (K L)).2.1, (cpS no (K L)).2.2.1, (cpS no (K L)).2.2.2.1, (cpS no (K L)).2.2.2.2.1, (cpS no (K L)).2.2.2.2.2)) from rfl, bd6_s, if_neg (fun e => q2 (eL.mp e)), show nI L - 1 = nI (L - 1) from pk_sub (b := 1) (by omega)]
      rfl
theorem q_mark (h : rNow a c n L m no K M v past kept) (kk : Nat → Option Nat) (rf th tr wr : Int32) : ∃ r t m2 S2 kept2, f_X11_mark rf (nI (a 0 0)) no.1 no.2.1 no.2.2.1 no.2.2.2.1 no.2.2.2.2.1 no.2.2.2.2.2 (nI m) kk (M m).1 (M m).2.1 (M m).2.2.1 (M m).2.2.2.1 (M m).2.2.2.2.1 (M m).2.2.2.2.2 = some (r, t, nI m2, S2) ∧ f_X13_mark th tr wr (nI m) v kept = some (r, 0, t, -1, nI m2, kept2) ∧ ¬ t = 4 ∧ rNow a (c + 1) n L m2 no K (updK M m S2) v past kept2 := by
  have h0 := h.mono (show c ≤ c + 1 by omega)
  obtain ⟨ok, hw, hs, hv, hp, hm⟩ := h0
  have h1 := ok.1
  obtain ⟨hm3, hmk⟩ := hm
  unfold f_X11_mark f_X13_mark f_X11_mark_B31 f_X5_addMark
  rw [(warT (n := a 0 0) (by omega) (by omega)).2, bd1_s, if_neg (by decide)]
  have e3 : nI m = 3 ↔ m = 3 := nI_eq (b := 3) (by omega) (by decide)
  have e3' : nI m < 3 ↔ m < 3 := nI_ltI (b := 3) (by omega) (by decide)
  by_cases q : m = 3
  · rw [if_pos (e3.mpr q), if_neg (fun e => by have := e3'.mp e; omega)]
    exact ⟨-1, 3, m, M m, kept, rfl, rfl, by decide, by rw [updK_id]; exact h.mono (by omega)⟩
  · have q3 : m < 3 := by omega
    rw [if_neg (fun e => q (e3.mp e)), if_pos (e3'.mpr q3), refF, bd2_s, if_pos rfl, gI q3 (by decide), copyC]
    have hM : ∃ g2, f_X13_mark_L34 v 0 tr wr (nI m) fuelN 0 kept = some (nI m, 0, 0, -1, nI (m + 1), g2) ∧ (∀ j, j < 19 → g2 (19 * m + j) = v j) ∧ ∀ x, x < 19 * m → g2 x = kept x := by
      refine loopR (fun f i s => f_X13_mark_L34 v 0 tr wr (nI m) f (nI i) s) 19 (fun i s => (∀ j, j < i → s (19 * m + j) = v j) ∧ ∀ x, x < 19 * m → s x = kept x) (fun o => ∃ g2, o = some (nI m, 0, 0, -1, nI (m + 1), g2) ∧ (∀ j, j < 19 → g2 (19 * m + j) = v j) ∧ ∀ x, x < 19 * m → g2 x = kept x) ?_ ?_ 19 0 kept fuelN (by omega) ⟨by intro j hj; omega, fun _ _ => rfl⟩ (fuel_gt (by omega))
      · intro f i s hi hs
        refine ⟨upd s (19 * m + i) (v i), ⟨?_, ?_⟩, ?_⟩
        · intro j hj
          by_cases q : j = i
          · subst q; exact pk_us
          · rw [pk_un (by omega)]; exact hs.1 j (by omega)
        · intro x hx
          rw [pk_un (by omega)]; exact hs.2 x hx
        · show f_X13_mark_b34 _ _ _ _ _ _ _ _ = _
          unfold f_X13_mark_b34
          rw [if_neg (show ¬ (19 : Int32) ≤ nI i from nI_ge (b := 19) hi (by decide)), gI hi (by decide), show (19 : Int32) = nI 19 from rfl, pk_mul, nI_add, gI (show 19 * m + i < 57 by omega) (by decide), nI_1, nI_clamp (show i < 2 ^ 31 by omega), nI_clamp (show 19 * m + i < 2 ^ 31 by omega)]
      · intro f s hs
        refine ⟨s, ?_, hs.1, hs.2⟩
        show f_X13_mark_b34 _ _ _ _ _ _ _ _ = _
        unfold f_X13_mark_b34 f_X13_mark_B66 f_X13_good
        rw [if_pos (by decide), bd3_s, nI_1, nI_pred]
    obtain ⟨g2, em, ev, eo⟩ := hM
    rw [em, show bd6 (some (cpS (M m) no)) = bd6 (some ((cpS (M m) no).1, (cpS (M m) no).2.1, (cpS (M m) no).2.2.1, (cpS (M m) no).2.2.2.1, (cpS (M m) no).2.2.2.2.1, (cpS (M m) no).2.2.2.2.2)) from rfl, bd6_s, nI_1, nI_pred, if_pos (e3'.mpr q3), bd8_s]
    refine ⟨nI m, 0, m + 1, cpS (M m) no, g2, rfl, rfl, by decide, ok, hw, hs, hv, hp, by omega, ?_⟩
    intro k hk
    by_cases q4 : k = m
    · subst q4
      rw [updK_s]
      exact ⟨a, sW.rf a, ok, hw, cpS_r ok hs, hv.c ok ev⟩
    · rw [updK_n M _ q4]
      exact (hmk k (by omega)).c (fun j hj => eo _ (by have : 19 * k + 19 ≤ 19 * m := by omega
                                                       omega))
theorem q_back (h : rNow a c n L m no K M v past kept) (kk : Nat → Option Nat) (p1 rf th tr wr : Int32) (k : Nat) (hk : ∀ j, j < m → p1 = nI j → k = j) : ∃ r t no2 n2 v2 a2, f_X11_back rf no.1 no.2.1 no.2.2.1 no.2.2.2.1 no.2.2.2.2.1 no.2.2.2.2.2 (nI n) (nI m) kk (M k).1 (M k).2.1 (M k).2.2.1 (M k).2.2.2.1 (M k).2.2.2.2.1 (M k).2.2.2.2.2 p1 = some (r, t, no2.1, no2.2.1, no2.2.2.1, no2.2.2.2.1, no2.2.2.2.2.1, no2.2.2.2.2.2, nI n2) ∧ f_X13_back th tr wr (nI n) (nI m) v kept p1 = some (r, 0, t, -1, nI n2, v2) ∧ ¬ t = 4 ∧ sW a a2 ∧ rNow a2 (c + 1) n2 L m no2 K M v2 past kept := by
  have h0 := h.mono (show c ≤ c + 1 by omega)
  obtain ⟨ok, hw, hs, hv, hp, hm⟩ := h0
  have h1 := ok.1
  have hmm := hm
  obtain ⟨hm3, hmk⟩ := hm
  unfold f_X11_back f_X13_back f_X11_back_B21 f_X5_goBack f_X13_back_B24
  rcases pk_ix p1 (n := m) (by omega) with hx | hx | ⟨j, hj, rfl⟩
  · rw [if_pos hx, if_pos hx]
    exact ⟨0, 1, no, n, v, a, rfl, rfl, by decide, sW.rf a, h.mono (by omega)⟩
  · have hx0 : ¬ p1 < nI m := Int32.not_lt.mpr hx
    by_cases q : p1 < 0
    · rw [if_pos q, if_pos q]
      exact ⟨0, 1, no, n, v, a, rfl, rfl, by decide, sW.rf a, h.mono (by omega)⟩
    · rw [if_neg q, if_neg q, if_pos hx, if_neg hx0]
      exact ⟨0, 1, no, n, v, a, rfl, rfl, by decide, sW.rf a, h.mono (by omega)⟩
  · have hkj := hk j hj rfl
    subst hkj
    obtain ⟨a', w, ok', ow', rs', rv'⟩ := hmk k hj
    rw [if_neg (nI_pos (by omega)), if_neg (nI_pos (by omega)), if_neg (nI_ge hj (by omega)), if_pos (nI_lt hj (by omega)), if_pos (show nI k < 3 from nI_lt (b := 3) (by omega) (by decide)), gI (show k < 3 by omega) (by decide), copyC]
    have hM : ∃ v2, f_X13_back_L32 (nI m) kept (nI k) 0 tr wr (nI n) fuelN 0 v = some (1, 0, 0, -1, 0, v2) ∧ ∀ j, j < 19 → v2 j = kept (19 * k + j) := by
      refine loopR (fun f i s => f_X13_back_L32 (nI m) kept (nI k) 0 tr wr (nI n) f (nI i) s) 19 (fun i s => ∀ j, j < i → s j = kept (19 * k + j)) (fun o => ∃ v2, o = some (1, 0, 0, -1, 0, v2) ∧ ∀ j, j < 19 → v2 j = kept (19 * k + j)) ?_ ?_ 19 0 v fuelN (by omega) (by intro j hj; omega) (fuel_gt (by omega))
      · intro f i s hi hs
        refine ⟨upd s i (kept (19 * k + i)), ?_, ?_⟩
        · intro j hj
          by_cases q : j = i
          · subst q; exact pk_us
          · rw [pk_un q]; exact hs j (by omega)
        · show f_X13_back_b32 _ _ _ _ _ _ _ _ _ _ = _
          unfold f_X13_back_b32
          rw [if_neg (show ¬ (19 : Int32) ≤ nI i from nI_ge (b := 19) hi (by decide)), show (19 : Int32) = nI 19 from rfl, pk_mul, nI_add, gI (show 19 * k + i < 57 by omega) (by decide), gI hi (by decide), nI_1, nI_clamp (show i < 2 ^ 31 by omega), nI_clamp (show 19 * k + i < 2 ^ 31 by omega)]
      · intro f s hs
        refine ⟨s, ?_, hs⟩
        show f_X13_back_b32 _ _ _ _ _ _ _ _ _ _ = _
        unfold f_X13_back_b32 f_X13_back_B61
        rw [if_pos (by decide)]; rfl
    obtain ⟨v2, em, ev⟩ := hM
    rw [em, show bd6 (some (cpS no (M k))) = bd6 (some ((cpS no (M k)).1, (cpS no (M k)).2.1, (cpS no (M k)).2.2.1, (cpS no (M k)).2.2.2.1, (cpS no (M k)).2.2.2.2.1, (cpS no (M k)).2.2.2.2.2)) from rfl, bd6_s]
    refine ⟨1, 0, cpS no (M k), 0, v2, a', rfl, rfl, by decide, w, ok', ow', cpS_r ok' rs', rv'.c ok' ev, ⟨by omega, hp.2.1, fun k hk => by omega⟩, hmm.mono (by omega) w⟩
end BE
