/-! B5: the told war as naturals: a 0 0 lanes, a 0 1 deep, a 0 2 beasts, a 0 3 dead, a 0 4 wet, a 0 5 drawn; a 1 kind, a 2 mood, a 3 price, a 4 who, a 5 lane of a beast, a 6 wounds, a 7 strong -/
abbrev AS : Type := Nat → Nat → Nat
def okA (a : AS) : Prop := (2 ≤ a 0 0 ∧ a 0 0 ≤ 6 ∧ 1 ≤ a 0 1 ∧ a 0 1 ≤ 5 ∧ 1 ≤ a 0 2 ∧ a 0 2 ≤ 5 ∧ a 0 3 < 2 ^ a 0 2 ∧ a 0 4 < 2 ∧ a 0 5 ≤ 65536) ∧ (∀ j, j < a 0 2 → a 1 j < 4 ∧ a 2 j ≤ 100 ∧ 1 ≤ a 3 j ∧ a 3 j ≤ 99 ∧ a 5 j < a 0 0 ∧ a 6 j < 2 ^ 20) ∧ ∀ l, l < a 0 0 → a 4 l < 4 ∧ a 7 l ≤ 60
def rI (n : Nat) (f : Nat → Int32) (g : Nat → Nat) : Prop := ∀ j, j < n → f j = nI (g j)
def rCl (a : AS) (wh kd md st wd : Nat → Int32) : Prop := rI (a 0 0) wh (a 4) ∧ rI (a 0 2) kd (a 1) ∧ rI (a 0 2) md (a 2) ∧ rI (a 0 0) st (a 7) ∧ rI (a 0 2) wd (a 6)
def rV (a : AS) (v : Nat → Int32) : Prop := v 10 = nI (a 0 3) ∧ v 17 = nI (a 0 4) ∧ v 18 = nI (a 0 5) ∧ rI (a 0 2) v (a 5) ∧ rI (a 0 2) (fun j => v (5 + j)) (a 6) ∧ rI (a 0 0) (fun l => v (11 + l)) (a 7)
def rMo (a : AS) (wh kd md v : Nat → Int32) : Prop := rI (a 0 0) wh (a 4) ∧ rI (a 0 2) kd (a 1) ∧ rI (a 0 2) md (a 2) ∧ rV a v
theorem okA.d {a : AS} (h : okA a) : a 0 3 < 2 ^ 31 := by
  have h1 := h.1.2.2.2.2.2.2.1
  have h2 : 2 ^ a 0 2 ≤ 2 ^ 5 := Nat.pow_le_pow_right (by decide) h.1.2.2.2.2.2.1
  omega
abbrev aD (a : AS) (j : Nat) : Bool := bit (a 0 3) j
abbrev aF (a : AS) (j : Nat) : Nat := forceN (a 1 j) (a 6 j) (aD a j)
abbrev aH (a : AS) (j : Nat) : Nat := holdN (a 1 j) (a 2 j) (a 0 4)
/-- worth of beast j where w stands, s strong, by the hold h -/
def aWB (a : AS) (j w s h : Nat) : Int := worthZ (a 0 1) h (aF a j) (foeN (a 1 j) (aF a j) w s) (ownN (a 1 j) (aF a j) w s) (aD a j)
def aW (a : AS) (j l : Nat) : Int := aWB a j (a 4 l) (a 7 l) (aH a j)
def aWO (a : AS) (j : Nat) : Int := aWB a j 0 0 (aH a j)
def aHa (a : AS) (j l : Nat) (own : Bool) : Nat := harmN (a 1 j) (aF a j) (a 4 l) (a 7 l) (aD a j) own
def aM (a : AS) (j l : Nat) (own : Bool) : Int := meanZ (a 0 1) (aH a j) (aF a j) (aHa a j l own) (aD a j) own
theorem pow_b {h dp : Nat} (hh : h ≤ 100) (hd : dp ≤ 5) : h ^ dp ≤ 100 ^ dp ∧ 100 ^ dp ≤ 10000000000 := by
  refine ⟨Nat.pow_le_pow_left hh dp, ?_⟩
  have := Nat.pow_le_pow_right (n := 100) (by decide) hd
  exact this
theorem worthZ_b {dp h f foe own : Nat} {dead : Bool} (hh : h ≤ 100) (hd : dp ≤ 5) (hf : f ≤ 30) (h1 : foe ≤ 60) (h2 : own ≤ 30) : -(2 ^ 40) < worthZ dp h f foe own dead ∧ worthZ dp h f foe own dead < 2 ^ 40 := by
  obtain ⟨b1, b2⟩ := pow_b hh hd
  unfold worthZ
  generalize h ^ dp = g at b1 ⊢
  generalize 100 ^ dp = P at b1 b2 ⊢
  split
  · decide
  · have e1 : (g : Int) * ((foe : Int) - own) ≤ g * 60 := Int.mul_le_mul_of_nonneg_left (by omega) (by omega)
    have e2 : (g : Int) * (-30) ≤ (g : Int) * ((foe : Int) - own) := Int.mul_le_mul_of_nonneg_left (by omega) (by omega)
    have e3 : ((P : Int) - g) * ((f / 2 : Nat) : Int) ≤ ((P : Int) - g) * 15 := Int.mul_le_mul_of_nonneg_left (by omega) (by omega)
    have e4 : 0 ≤ ((P : Int) - g) * ((f / 2 : Nat) : Int) := Int.mul_nonneg (by omega) (by omega)
    omega
theorem meanZ_b {dp h f met : Nat} {dead own : Bool} (hh : h ≤ 100) (hd : dp ≤ 5) (hf : f ≤ 30) (h1 : met ≤ 60) : 0 ≤ meanZ dp h f met dead own ∧ meanZ dp h f met dead own < 2 ^ 40 := by
  obtain ⟨b1, b2⟩ := pow_b hh hd
  unfold meanZ getsN
  have b0 : (if dead = true then 0 else h ^ dp) ≤ 100 ^ dp := by split; exact Nat.zero_le _; exact b1
  generalize (if dead = true then 0 else h ^ dp) = g at b0 ⊢
  generalize 100 ^ dp = P at b0 b2 ⊢
  have e1 : (g : Int) * met ≤ g * 60 := Int.mul_le_mul_of_nonneg_left (by omega) (by omega)
  have e2 : 0 ≤ (g : Int) * met := Int.mul_nonneg (by omega) (by omega)
  have e3 : ((P : Int) - g) * ((f / 2 : Nat) : Int) ≤ ((P : Int) - g) * 15 := Int.mul_le_mul_of_nonneg_left (by omega) (by omega)
  have e4 : 0 ≤ ((P : Int) - g) * ((f / 2 : Nat) : Int) := Int.mul_nonneg (by omega) (by omega)
  cases own
  · simp only [Bool.false_eq_true, if_false]; omega
  · simp only [if_true]; omega
section B5
variable {a : AS} {wh kd md st wd v : Nat → Int32} {j l : Nat}
theorem aWB_b (ok : okA a) (hj : j < a 0 2) {w s h : Nat} (hs : s ≤ 60) (hh : h ≤ 100) : -(2 ^ 40) < aWB a j w s h ∧ aWB a j w s h < 2 ^ 40 :=
  worthZ_b hh ok.1.2.2.2.1 (forceN_le _ _ _) (foeN_le (forceN_le _ _ _) hs) (ownN_le (forceN_le _ _ _))
theorem aH_le (ok : okA a) (hj : j < a 0 2) : aH a j ≤ 100 := holdN_le (ok.2.1 j hj).2.1
theorem aW_b (ok : okA a) (hj : j < a 0 2) (hl : l < a 0 0) : -(2 ^ 40) < aW a j l ∧ aW a j l < 2 ^ 40 := aWB_b ok hj (ok.2.2 l hl).2 (aH_le ok hj)
theorem aWO_b (ok : okA a) (hj : j < a 0 2) : -(2 ^ 40) < aWO a j ∧ aWO a j < 2 ^ 40 := aWB_b ok hj (by decide) (aH_le ok hj)
theorem wBC (ok : okA a) (rk : rI (a 0 2) kd (a 1)) (rw : rI (a 0 2) wd (a 6)) (hj : j < a 0 2) {w s h : Nat} (hw : w < 4) (hs : s ≤ 60) (hh : h ≤ 100) : f_X4_worthBy (nI (a 0 1)) kd (nI (a 0 3)) wd (nI j) (nI w) (nI s) (nI h) = some (iL (aWB a j w s h)) := by
  have h1 := ok.1
  have h2 := ok.2.1 j hj
  exact worthC (by omega) ok.d (by omega) (rk j hj) h2.1 (rw j hj) (by omega) hw hs (by omega)
theorem wIC (ok : okA a) (rc : rCl a wh kd md st wd) (hj : j < a 0 2) (hl : l < a 0 0) : f_X4_worthIn (nI (a 0 1)) wh kd md (nI (a 0 3)) (nI (a 0 4)) st wd (nI j) (nI l) = some (iL (aW a j l)) := by
  obtain ⟨r1, r2, r3, r4, r5⟩ := rc
  have h1 := ok.1
  have h2 := ok.2.1 j hj
  have h3 := ok.2.2 l hl
  unfold f_X4_worthIn
  rw [gI (by omega) (by decide), gI (by omega) (by decide), holdC (by omega) (r2 j hj) h2.1 (r3 j hj) (by omega) h1.2.2.2.2.2.2.2.1, bd1_s, nI_clamp (by omega), r1 l hl, r4 l hl, wBC ok r2 r5 hj h3.1 h3.2 (aH_le ok hj), bd1_s]
  rfl
theorem wOC (ok : okA a) (rc : rCl a wh kd md st wd) (hj : j < a 0 2) : f_X4_worthInOpen (nI (a 0 1)) kd md (nI (a 0 3)) (nI (a 0 4)) wd (nI j) = some (iL (aWO a j)) := by
  obtain ⟨r1, r2, r3, r4, r5⟩ := rc
  have h1 := ok.1
  have h2 := ok.2.1 j hj
  unfold f_X4_worthInOpen
  rw [holdC (by omega) (r2 j hj) h2.1 (r3 j hj) (by omega) h1.2.2.2.2.2.2.2.1, bd1_s, show (0 : Int32) = nI 0 from rfl, wBC ok r2 r5 hj (by decide) (by decide) (aH_le ok hj), bd1_s]
  rfl
theorem wBM (ok : okA a) (rk : rI (a 0 2) kd (a 1)) (rm : rI (a 0 2) md (a 2)) (rv : rV a v) (hj : j < a 0 2) {w s : Nat} (hw : w < 4) (hs : s ≤ 60) : f_X13_worthBy v (nI (a 0 1)) kd md (nI j) (nI w) (nI s) = some (iL (aWB a j w s (aH a j))) := by
  have h1 := ok.1
  have h2 := ok.2.1 j hj
  exact worthM (by omega) rv.1 ok.d (by omega) (rk j hj) h2.1 (rm j hj) (by omega) rv.2.1 h1.2.2.2.2.2.2.2.1 (rv.2.2.2.2.1 j hj) (by omega) hw hs
theorem wIM (ok : okA a) (rm : rMo a wh kd md v) (hj : j < a 0 2) (hl : l < a 0 0) : f_X13_worthIn v (nI (a 0 1)) wh kd md (nI j) (nI l) = some (iL (aW a j l)) := by
  obtain ⟨r1, r2, r3, rv⟩ := rm
  have h1 := ok.1
  have h3 := ok.2.2 l hl
  have e : v (11 + l) = nI (a 7 l) := rv.2.2.2.2.2 l hl
  unfold f_X13_worthIn
  rw [gI (by omega) (by decide), n11, gI (by omega) (by decide), nI_clamp (show l < 2 ^ 31 by omega), nI_clamp (by omega), r1 l hl, e, wBM ok r2 r3 rv hj h3.1 h3.2, bd1_s]
  rfl
theorem mIC (ok : okA a) (rc : rCl a wh kd md st wd) (hj : j < a 0 2) (hl : l < a 0 0) (own : Bool) : f_X4_meanIn (nI (a 0 1)) wh kd md (nI (a 0 3)) (nI (a 0 4)) st wd (nI j) (nI l) (if own then 1 else 0) = some (iL (aM a j l own)) := by
  obtain ⟨r1, r2, r3, r4, r5⟩ := rc
  have h1 := ok.1
  have h2 := ok.2.1 j hj
  have h3 := ok.2.2 l hl
  exact meanC (by omega) ok.d (by omega) (by omega) (r2 j hj) h2.1 (r3 j hj) (by omega) h1.2.2.2.2.2.2.2.1 (r5 j hj) (by omega) (r1 l hl) h3.1 (r4 l hl) (by omega) own
theorem hIM (ok : okA a) (rm : rMo a wh kd md v) (hj : j < a 0 2) (hl : l < a 0 0) (own : Bool) : f_X13_meetsIn v wh kd (nI j) (nI l) (if own then 1 else 0) = some (nI (aHa a j l own)) := by
  obtain ⟨r1, r2, r3, rv⟩ := rm
  have h1 := ok.1
  have h2 := ok.2.1 j hj
  have h3 := ok.2.2 l hl
  have e : v (11 + l) = nI (a 7 l) := rv.2.2.2.2.2 l hl
  unfold f_X13_meetsIn
  rw [gI (by omega) (by decide), n11, gI (by omega) (by decide), nI_clamp (show l < 2 ^ 31 by omega), nI_clamp (by omega), r1 l hl, e, harmM' rv.1 ok.d (by omega) (r2 j hj) h2.1 (rv.2.2.2.2.1 j hj) (by omega) h3.1 (by omega) own, bd1_s]
  rfl
theorem aHa_le (ok : okA a) (hj : j < a 0 2) (hl : l < a 0 0) (own : Bool) : aHa a j l own ≤ 60 := harmN_le (forceN_le _ _ _) (ok.2.2 l hl).2
theorem aM_b (ok : okA a) (hj : j < a 0 2) (hl : l < a 0 0) (own : Bool) : 0 ≤ aM a j l own ∧ aM a j l own < 2 ^ 40 := meanZ_b (aH_le ok hj) ok.1.2.2.2.1 (forceN_le _ _ _) (aHa_le ok hj hl own)
theorem mBM (ok : okA a) (rm : rMo a wh kd md v) (hj : j < a 0 2) (hl : l < a 0 0) (own : Bool) : f_X13_meanBy v (nI (a 0 1)) kd md (nI j) (nI (aHa a j l own)) (if own then 1 else 0) = some (iL (aM a j l own)) := by
  obtain ⟨r1, r2, r3, rv⟩ := rm
  have h1 := ok.1
  have h2 := ok.2.1 j hj
  exact meanM (by omega) rv.1 ok.d (by omega) (r2 j hj) h2.1 (r3 j hj) (by omega) rv.2.1 h1.2.2.2.2.2.2.2.1 (rv.2.2.2.2.1 j hj) (by omega) (by have := aHa_le ok hj hl own; omega) own
end B5
/-- who is there -/
theorem hbY {n j : Nat} (hn : n < 2 ^ 31) (hj : j < n) : f_X2_hasBeast (nI n) (nI j) = some 1 ∧ f_X2_hasLane (nI n) (nI j) = some 1 ∧ f_X2_hasCity (nI n) (nI j) = some 1 ∧ f_X13_isBeast (nI n) (nI j) = some 1 ∧ f_X13_isLane (nI n) (nI j) = some 1 ∧ f_X13_isCity (nI n) (nI j) = some 1 := by
  unfold f_X2_hasBeast f_X2_hasLane f_X2_hasCity f_X13_isBeast f_X13_isLane f_X13_isCity
  simp only [if_neg (nI_pos (show j < 2 ^ 31 by omega)), if_neg (nI_ge hj hn), and_self]
theorem hbN {n : Nat} {x : Int32} (h : x < 0 ∨ nI n ≤ x) : f_X2_hasBeast (nI n) x = some 0 ∧ f_X2_hasLane (nI n) x = some 0 ∧ f_X2_hasCity (nI n) x = some 0 ∧ f_X13_isBeast (nI n) x = some 0 ∧ f_X13_isLane (nI n) x = some 0 ∧ f_X13_isCity (nI n) x = some 0 := by
  unfold f_X2_hasBeast f_X2_hasLane f_X2_hasCity f_X13_isBeast f_X13_isLane f_X13_isCity
  by_cases q : x < 0
  · simp only [if_pos q, and_self]
  · simp only [if_neg q, if_pos (h.resolve_left q), and_self]
theorem ix2 (x : Int32) {n : Nat} (hn : n < 2 ^ 31) : (x < 0 ∨ nI n ≤ x) ∨ ∃ j, j < n ∧ x = nI j := by
  rcases pk_ix x hn with h | h | h
  · exact Or.inl (Or.inl h)
  · exact Or.inl (Or.inr h)
  · exact Or.inr h
theorem refF (r : Int32) : f_X11_isRefused r 0 = some (0, 0) := rfl
theorem ref1 (r : Int32) : f_X11_isRefused r 1 = some (1, 1) := rfl
theorem beastT {n : Nat} (hn : n < 2 ^ 31) (x : Int32) : ((x < 0 ∨ nI n ≤ x) ∧ f_X11_beastTrouble (nI n) x = some 1 ∧ f_X13_isBeast (nI n) x = some 0) ∨ ∃ j, j < n ∧ x = nI j ∧ f_X11_beastTrouble (nI n) x = some 0 ∧ f_X13_isBeast (nI n) x = some 1 := by
  unfold f_X11_beastTrouble
  rcases ix2 x hn with h | ⟨j, hj, rfl⟩
  · have := hbN h
    exact Or.inl ⟨h, by rw [this.1, bd1_s]; rfl, this.2.2.2.1⟩
  · have := hbY hn hj
    exact Or.inr ⟨j, hj, rfl, by rw [this.1, bd1_s]; rfl, this.2.2.2.1⟩
/-- a beast and a lane: both there, or refused by both sides alike -/
theorem meetT {n m : Nat} (hn : n < 2 ^ 31) (hm : m < 2 ^ 31) (x y : Int32) : (f_X11_meetingTrouble (nI m) (nI n) x y = some 1 ∧ (f_X13_isBeast (nI n) x = some 0 ∨ f_X13_isBeast (nI n) x = some 1 ∧ f_X13_isLane (nI m) y = some 0)) ∨ ∃ j l, j < n ∧ l < m ∧ x = nI j ∧ y = nI l ∧ f_X11_meetingTrouble (nI m) (nI n) x y = some 0 ∧ f_X13_isBeast (nI n) x = some 1 ∧ f_X13_isLane (nI m) y = some 1 := by
  unfold f_X11_meetingTrouble
  rcases ix2 x hn with h | ⟨j, hj, rfl⟩
  · have := hbN h
    exact Or.inl ⟨by rw [this.1, bd1_s]; rfl, Or.inl this.2.2.2.1⟩
  · have hx := hbY hn hj
    rcases ix2 y hm with h | ⟨l, hl, rfl⟩
    · have := hbN h
      refine Or.inl ⟨?_, Or.inr ⟨hx.2.2.2.1, this.2.2.2.2.1⟩⟩
      rw [hx.1, bd1_s, if_neg (by decide), this.2.1, bd1_s]; rfl
    · have hy := hbY hm hl
      refine Or.inr ⟨j, l, hj, hl, rfl, rfl, ?_, hx.2.2.2.1, hy.2.2.2.2.1⟩
      rw [hx.1, bd1_s, if_neg (by decide), hy.2.1, bd1_s]; rfl
