/-! B2: force, hold, harms, worth, over naturals and integers -/
theorem selF {α : Type} {a b : Option α} : (if (if false = true then (1 : Int32) else 0) = 0 then a else b) = a := rfl
theorem selT {α : Type} {a b : Option α} : (if (if true = true then (1 : Int32) else 0) = 0 then a else b) = b := rfl
def fF (k : Nat) : Nat := if k = 1 then 5 else if k = 2 then 30 else if k = 3 then 25 else 20
theorem ffC : ∀ k, k < 4 → f_X4_firstForce (nI k) = some (nI (fF k)) := by decide +kernel
theorem fF_le (k : Nat) : fF k ≤ 30 := by unfold fF; split; decide; split; decide; split <;> decide
/-- force of a beast of kind k with n wounds, dead by the bit -/
def forceN (k n : Nat) (dead : Bool) : Nat := if dead then 0 else fF k - n
theorem forceN_le (k n : Nat) (b : Bool) : forceN k n b ≤ 30 := by
  unfold forceN; have := fF_le k; split <;> omega
theorem forceC {kd w : Nat → Int32} {d j k n : Nat} (hd : d < 2 ^ 31) (hj : j < 5) (hk : kd j = nI k) (hk4 : k < 4) (hw : w j = nI n) (hn : n < 2 ^ 30) : f_X4_forceOf kd (nI d) w (nI j) = some (nI (forceN k n (bit d j))) := by
  unfold f_X4_forceOf forceN
  rw [isDeadN hd (by omega), bd1_s]
  cases bit d j
  · rw [selF, gI hj (by decide), nI_clamp (by omega), hk, ffC k hk4, bd1_s, gI hj (by decide), hw, subMax (by have := fF_le k; omega) hn]
    rfl
  · rw [selT]; rfl
theorem isDeadM {v : Nat → Int32} {d j : Nat} (hv : v 10 = nI d) (hd : d < 2 ^ 31) (hj : j < 32) : f_X13_isDead v (nI j) = some (if bit d j then 1 else 0) := by
  unfold f_X13_isDead
  rw [c10, hv, bitM hd hj, bd1_s]
theorem forceM {wk v : Nat → Int32} {d j k n : Nat} (hv : v 10 = nI d) (hd : d < 2 ^ 31) (hj : j < 5) (hk : wk j = nI k) (hk4 : k < 4) (hw : v (5 + j) = nI n) (hn : n < 2 ^ 30) : f_X13_forceOf v wk (nI j) = some (nI (forceN k n (bit d j))) := by
  have key : ∀ t : Nat, t < 2 ^ 30 → f_X13_forceOf_B65 v wk (nI j) (nI t) = some (nI (t - n)) := by
    intro t ht
    unfold f_X13_forceOf_B65
    rw [n5, gI (by omega) (by decide), nI_clamp (by omega), hw]
    have := subMax2 ht hn
    by_cases q : nI t - nI n ≤ 0
    · rw [if_pos q] at this ⊢; rw [this]
    · rw [if_neg q] at this ⊢; rw [this]
  unfold f_X13_forceOf forceN
  rw [isDeadM hv hd (by omega), bd1_s]
  cases bit d j
  · rw [selF, gI hj (by decide), nI_clamp (by omega), hk]
    show _ = some (nI (fF k - n))
    rcases (show k = 0 ∨ k = 1 ∨ k = 2 ∨ k = 3 by omega) with rfl | rfl | rfl | rfl
    · rw [if_neg (by decide), gI hj (by decide), if_neg (by decide), gI hj (by decide), if_neg (by decide)]; exact key 20 (by decide)
    · rw [if_pos (by decide)]; exact key 5 (by decide)
    · rw [if_neg (by decide), gI hj (by decide), if_pos (by decide)]; exact key 30 (by decide)
    · rw [if_neg (by decide), gI hj (by decide), if_neg (by decide), gI hj (by decide), if_pos (by decide)]; exact key 25 (by decide)
  · rw [selT]; rfl
/-- hold of a beast of kind k and mood m; w: 1 when it rains -/
def holdN (k m w : Nat) : Nat := if k = 1 then m - 20 else if k = 2 then (if m + 20 < 100 then m + 20 else 100) else if k = 3 then (if w = 0 then m else m / 2) else m
theorem holdN_le {k m w : Nat} (hm : m ≤ 100) : holdN k m w ≤ 100 := by
  unfold holdN; split; omega; split; split <;> omega; split; split <;> omega; omega
theorem holdByC : ∀ k, k < 4 → ∀ m, m < 101 → ∀ w, w < 2 → f_X4_holdBy (nI k) (nI m) (nI w) = some (nI (holdN k m w)) := by decide +kernel
theorem holdByM0 : ∀ k, k < 4 → ∀ m, m < 101 → ∀ w, w < 2 → (if nI k = 1 then (if nI m ≤ 20 then some (0 : Int32) else some (nI m - 20)) else (if nI k = 2 then (if 80 ≤ nI m then some 100 else some (nI m + 20)) else (if nI k = 3 then (if nI w = 0 then some (nI m) else some (nI m / 2)) else some (nI m)))) = some (nI (holdN k m w)) := by decide +kernel
theorem holdByM {wk : Nat → Int32} {j k m w : Nat} (hj : j < 5) (hk : wk j = nI k) (hk4 : k < 4) (hm : m < 101) (hw : w < 2) : f_X13_holdBy wk (nI j) (nI m) (nI w) = some (nI (holdN k m w)) := by
  unfold f_X13_holdBy
  rw [gI hj (by decide), nI_clamp (by omega), hk]
  exact holdByM0 k hk4 m hm w hw
theorem holdC {kd md : Nat → Int32} {j k m w : Nat} (hj : j < 5) (hk : kd j = nI k) (hk4 : k < 4) (hm : md j = nI m) (hm1 : m < 101) (hw : w < 2) : f_X4_holdOf kd md (nI w) (nI j) = some (nI (holdN k m w)) := by
  unfold f_X4_holdOf
  rw [gI hj (by decide), gI hj (by decide), nI_clamp (by omega), hk, hm, holdByC k hk4 m hm1 w hw, bd1_s]
theorem holdM {v wk wm : Nat → Int32} {j k m w : Nat} (hj : j < 5) (hk : wk j = nI k) (hk4 : k < 4) (hm : wm j = nI m) (hm1 : m < 101) (hv : v 17 = nI w) (hw : w < 2) : f_X13_holdOf v wk wm (nI j) = some (nI (holdN k m w)) := by
  unfold f_X13_holdOf f_X13_holdOf_B27
  rw [gI hj (by decide), c17, hv, nI_clamp (by omega), hm]
  rcases (show w = 0 ∨ w = 1 by omega) with rfl | rfl
  · rw [if_neg (by decide)]
    rw [show (0 : Int32) = nI 0 from rfl, holdByM hj hk hk4 hm1 (by decide), bd1_s]
  · rw [if_pos (by decide)]
    rw [show (1 : Int32) = nI 1 from rfl, holdByM hj hk hk4 hm1 (by decide), bd1_s]
/-- harm to the foe, harm to its own side: kind, force, who stands there, how strong -/
def foeN (k f w s : Nat) : Nat := if w = 1 then (if k = 2 then 10 else 0) else if w = 2 then (if f ≤ s then f / 2 else s) else if w = 3 then (if 8 ≤ s then f - s else 15) else 0
def ownN (k f w s : Nat) : Nat := if w = 1 then (if k = 2 then 0 else f) else if w = 2 then (if f ≤ s then f else 0) else 0
theorem half {f : Nat} (hf : f < 2 ^ 31) : nI f / 2 = nI (f / 2) := pk_div hf (by decide) (by decide)
theorem foeC {k f w s : Nat} (hk : k < 4) (hf : f < 2 ^ 30) (hw : w < 4) (hs : s < 2 ^ 30) : f_X4_foeHarm (nI k) (nI f) (nI w) (nI s) = some (nI (foeN k f w s)) := by
  unfold f_X4_foeHarm foeN
  rcases (show w = 0 ∨ w = 1 ∨ w = 2 ∨ w = 3 by omega) with rfl | rfl | rfl | rfl
  · rfl
  · rw [if_pos (by decide)]
    rcases (show k = 0 ∨ k = 1 ∨ k = 2 ∨ k = 3 by omega) with rfl | rfl | rfl | rfl <;> rfl
  · rw [if_neg (by decide), if_pos (by decide)]
    show _ = some (nI (if f ≤ s then f / 2 else s))
    by_cases q : f ≤ s
    · rw [if_pos (nI_le q (by omega)), if_pos q, half (by omega)]
    · rw [if_neg (nI_ge (by omega) (by omega)), if_neg q]
  · rw [if_neg (by decide), if_neg (by decide), if_pos (by decide)]
    show _ = some (nI (if 8 ≤ s then f - s else 15))
    by_cases q : 8 ≤ s
    · rw [if_pos (show (8 : Int32) ≤ nI s from nI_le q (by omega)), if_pos q, subMax hf hs]
    · rw [if_neg (show ¬ (8 : Int32) ≤ nI s from nI_ge (b := 8) (by omega) (by decide)), if_neg q]; rfl
theorem ownC {k f w s : Nat} (hk : k < 4) (hf : f < 2 ^ 30) (hw : w < 4) (hs : s < 2 ^ 30) : f_X4_ownHarm (nI k) (nI f) (nI w) (nI s) = some (nI (ownN k f w s)) := by
  unfold f_X4_ownHarm ownN
  rcases (show w = 0 ∨ w = 1 ∨ w = 2 ∨ w = 3 by omega) with rfl | rfl | rfl | rfl
  · rfl
  · rw [if_pos (by decide)]
    rcases (show k = 0 ∨ k = 1 ∨ k = 2 ∨ k = 3 by omega) with rfl | rfl | rfl | rfl <;> rfl
  · rw [if_neg (by decide), if_pos (by decide)]
    show _ = some (nI (if f ≤ s then f else 0))
    by_cases q : f ≤ s
    · rw [if_pos (nI_le q (by omega)), if_pos q]
    · rw [if_neg (nI_ge (by omega) (by omega)), if_neg q]; rfl
  · rfl
theorem harmM {v wk : Nat → Int32} {d j k n w s : Nat} (hv : v 10 = nI d) (hd : d < 2 ^ 31) (hj : j < 5) (hk : wk j = nI k) (hk4 : k < 4) (hwn : v (5 + j) = nI n) (hn : n < 2 ^ 30) (hw : w < 4) (hs : s < 2 ^ 30) (own : Bool) : f_X13_harmBy v wk (nI j) (nI w) (nI s) (if own then 1 else 0) = some (nI (if bit d j then 0 else if own then ownN k (forceN k n (bit d j)) w s else foeN k (forceN k n (bit d j)) w s)) := by
  unfold f_X13_harmBy
  rw [forceM hv hd hj hk hk4 hwn hn, bd1_s, isDeadM hv hd (by omega), bd1_s]
  have hfl := forceN_le k n (bit d j)
  generalize hfe : forceN k n (bit d j) = f at hfl ⊢
  cases bit d j
  · rw [selF]
    show _ = some (nI (if own = true then ownN k f w s else foeN k f w s))
    unfold foeN ownN
    rcases (show w = 0 ∨ w = 1 ∨ w = 2 ∨ w = 3 by omega) with rfl | rfl | rfl | rfl
    · cases own <;> rfl
    · rw [if_pos (by decide), gI hj (by decide), nI_clamp (by omega), hk]
      rcases (show k = 0 ∨ k = 1 ∨ k = 2 ∨ k = 3 by omega) with rfl | rfl | rfl | rfl <;> cases own <;> rfl
    · rw [if_neg (by decide), if_pos (by decide)]
      by_cases q : f ≤ s
      · rw [if_pos (nI_le q (by omega))]
        cases own
        · show some (nI f / 2) = some (nI (if f ≤ s then f / 2 else s))
          rw [if_pos q, half (by omega)]
        · show some (nI f) = some (nI (if f ≤ s then f else 0))
          rw [if_pos q]
      · rw [if_neg (nI_ge (by omega) (by omega))]
        cases own
        · show some (nI s) = some (nI (if f ≤ s then f / 2 else s))
          rw [if_neg q]
        · show some (0 : Int32) = some (nI (if f ≤ s then f else 0))
          rw [if_neg q]; rfl
    · rw [if_neg (by decide), if_neg (by decide), if_pos (by decide)]
      cases own
      · show (if 8 ≤ nI s then (if nI f ≤ nI s then some 0 else some (nI f - nI s)) else some 15) = some (nI (if 8 ≤ s then f - s else 15))
        by_cases q : 8 ≤ s
        · rw [if_pos (show (8 : Int32) ≤ nI s from nI_le q (by omega)), if_pos q]
          by_cases q2 : f ≤ s
          · rw [if_pos (nI_le q2 (by omega)), Nat.sub_eq_zero_of_le q2]; rfl
          · rw [if_neg (nI_ge (by omega) (by omega)), pk_sub (by omega)]
        · rw [if_neg (show ¬ (8 : Int32) ≤ nI s from nI_ge (b := 8) (by omega) (by decide)), if_neg q]; rfl
      · rfl
  · rw [selT]; rfl
