/-! B3: means and worths over integers -/
def iL (z : Int) : Int64 := Int64.ofInt z
theorem iL_add (a b : Int) : iL a + iL b = iL (a + b) := (Int64.ofInt_add a b).symm
theorem iL_mul (a b : Int) : iL a * iL b = iL (a * b) := (Int64.ofInt_mul a b).symm
theorem iL_sub (a b : Int) : iL a - iL b = iL (a - b) := (Int64.ofInt_sub a b).symm
theorem lN_iL (n : Nat) : lN n = iL n := by
  unfold lN iL
  exact (Int64.ofInt_eq_ofNat (n := n)).symm
theorem iL_toInt {z : Int} (h1 : -(2 ^ 63) ≤ z) (h2 : z < 2 ^ 63) : (iL z).toInt = z := by
  unfold iL
  rw [Int64.toInt_ofInt, show Int64.size = 18446744073709551616 from rfl]
  rw [Int.bmod_eq_of_le] <;> omega
theorem nI_iL {a : Nat} (h : a < 2 ^ 31) : (nI a).toInt64 = iL a := by rw [nI_l h, lN_iL]
theorem subL {a b : Nat} (ha : a < 2 ^ 30) (hb : b < 2 ^ 30) : (nI a - nI b).toInt64 = iL ((a : Int) - b) := by
  apply Int64.toInt_inj.mp
  rw [iL_toInt (by omega) (by omega), Int32.toInt_toInt64, pk_sub_toInt ha hb]
theorem iL_lt {a b : Int} (a1 : -(2 ^ 63) ≤ a) (a2 : a < 2 ^ 63) (b1 : -(2 ^ 63) ≤ b) (b2 : b < 2 ^ 63) : iL a < iL b ↔ a < b := by
  rw [Int64.lt_iff_toInt_lt, iL_toInt a1 a2, iL_toInt b1 b2]
theorem iL_le {a b : Int} (a1 : -(2 ^ 63) ≤ a) (a2 : a < 2 ^ 63) (b1 : -(2 ^ 63) ≤ b) (b2 : b < 2 ^ 63) : iL a ≤ iL b ↔ a ≤ b := by
  rw [Int64.le_iff_toInt_le, iL_toInt a1 a2, iL_toInt b1 b2]
theorem iL_eq {a b : Int} (a1 : -(2 ^ 63) ≤ a) (a2 : a < 2 ^ 63) (b1 : -(2 ^ 63) ≤ b) (b2 : b < 2 ^ 63) : iL a = iL b ↔ a = b := by
  rw [← Int64.toInt_inj, iL_toInt a1 a2, iL_toInt b1 b2]
/-- how often a beast gets across, over 100 ^ deep -/
def getsN (dp h : Nat) (dead : Bool) : Nat := if dead then 0 else h ^ dp
theorem fullC {dp : Nat} (hd : dp < 100) : f_X4_full (nI dp) = some (iL ((100 ^ dp : Nat))) := by
  unfold f_X4_full
  rw [show (100 : Int32) = nI 100 from rfl, powC hd (by decide), bd1_s, lN_iL]
theorem wholeM {dp : Nat} (hd : dp < 100) : f_X13_whole (nI dp) = some (iL ((100 ^ dp : Nat))) := by
  unfold f_X13_whole
  rw [show (100 : Int64) = lN 100 from rfl, powM hd, bd1_s, lN_iL]
theorem acrossC {kd md : Nat → Int32} {dp d w j k m : Nat} (hdp : dp < 100) (hd : d < 2 ^ 31) (hj : j < 5) (hk : kd j = nI k) (hk4 : k < 4) (hm : md j = nI m) (hm1 : m < 101) (hw : w < 2) : f_X4_acrossOverFull (nI dp) kd md (nI d) (nI w) (nI j) = some (iL (getsN dp (holdN k m w) (bit d j))) := by
  unfold f_X4_acrossOverFull getsN
  rw [isDeadN hd (by omega), bd1_s]
  cases bit d j
  · rw [selF, holdC hj hk hk4 hm hm1 hw, bd1_s, powC hdp (by have := holdN_le (k := k) (w := w) (show m ≤ 100 by omega); omega), bd1_s, lN_iL]; rfl
  · rw [selT]; rfl
theorem holdsM {v wk wm : Nat → Int32} {dp d w j k m : Nat} (hdp : dp < 100) (hv : v 10 = nI d) (hd : d < 2 ^ 31) (hj : j < 5) (hk : wk j = nI k) (hk4 : k < 4) (hm : wm j = nI m) (hm1 : m < 101) (hv2 : v 17 = nI w) (hw : w < 2) : f_X13_holds v (nI dp) wk wm (nI j) = some (iL (getsN dp (holdN k m w) (bit d j))) := by
  unfold f_X13_holds getsN
  rw [isDeadM hv hd (by omega), bd1_s]
  cases bit d j
  · rw [selF, holdM hj hk hk4 hm hm1 hv2 hw, bd1_s, nI_l (by have := holdN_le (k := k) (w := w) (show m ≤ 100 by omega); omega), powM hdp, bd1_s, lN_iL]; rfl
  · rw [selT]; rfl
/-- what a beast of kind k and force f does in a lane: harm to its own side, or to the foe; dead: nothing -/
def harmN (k f w s : Nat) (dead own : Bool) : Nat := if dead then 0 else if own then ownN k f w s else foeN k f w s
theorem foeN_le {k f w s : Nat} (hf : f ≤ 30) (hs : s ≤ 60) : foeN k f w s ≤ 60 := by
  unfold foeN; split; split <;> omega; split; split <;> omega; split; split <;> omega; omega
theorem ownN_le {k f w s : Nat} (hf : f ≤ 30) : ownN k f w s ≤ 30 := by
  unfold ownN; split; split <;> omega; split; split <;> omega; omega
theorem harmN_le {k f w s : Nat} {dead own : Bool} (hf : f ≤ 30) (hs : s ≤ 60) : harmN k f w s dead own ≤ 60 := by
  have := foeN_le (k := k) (w := w) hf hs
  have := ownN_le (k := k) (w := w) (s := s) hf
  unfold harmN; split; omega; split <;> omega
theorem harmC {wh kd st wd : Nat → Int32} {d j l k n w s : Nat} (hd : d < 2 ^ 31) (hj : j < 5) (hl : l < 6) (hk : kd j = nI k) (hk4 : k < 4) (hwn : wd j = nI n) (hn : n < 2 ^ 30) (hwh : wh l = nI w) (hw : w < 4) (hst : st l = nI s) (hs : s < 2 ^ 30) (own : Bool) : f_X4_harmIn wh kd (nI d) st wd (nI j) (nI l) (if own then 1 else 0) = some (nI (harmN k (forceN k n (bit d j)) w s (bit d j) own)) := by
  unfold f_X4_harmIn harmN
  rw [isDeadN hd (by omega), bd1_s]
  have hf := forceC (w := wd) hd hj hk hk4 hwn hn
  have hfl := forceN_le k n (bit d j)
  generalize forceN k n (bit d j) = f at hf hfl ⊢
  cases bit d j
  · rw [selF, hf, bd1_s]
    cases own
    · rw [selF, gI hj (by decide), gI hl (by decide), gI hl (by decide), nI_clamp (show j < 2 ^ 31 by omega), nI_clamp (show l < 2 ^ 31 by omega), hk, hwh, hst, foeC hk4 (by omega) hw hs, bd1_s]; rfl
    · rw [selT, gI hj (by decide), gI hl (by decide), gI hl (by decide), nI_clamp (show j < 2 ^ 31 by omega), nI_clamp (show l < 2 ^ 31 by omega), hk, hwh, hst, ownC hk4 (by omega) hw hs, bd1_s]; rfl
  · rw [selT]; rfl
theorem harmM' {v wk : Nat → Int32} {d j k n w s : Nat} (hv : v 10 = nI d) (hd : d < 2 ^ 31) (hj : j < 5) (hk : wk j = nI k) (hk4 : k < 4) (hwn : v (5 + j) = nI n) (hn : n < 2 ^ 30) (hw : w < 4) (hs : s < 2 ^ 30) (own : Bool) : f_X13_harmBy v wk (nI j) (nI w) (nI s) (if own then 1 else 0) = some (nI (harmN k (forceN k n (bit d j)) w s (bit d j) own)) := by
  unfold harmN
  exact harmM hv hd hj hk hk4 hwn hn hw hs own
/-- the mean harm over 100 ^ deep: hold h, force f, harm met -/
def meanZ (dp h f met : Nat) (dead own : Bool) : Int := (getsN dp h dead : Int) * met + (if own then ((100 ^ dp : Nat) - getsN dp h dead : Int) * ((f / 2 : Nat) : Int) else 0)
theorem turnC {f : Nat} (hf : f < 2 ^ 31) : f_X4_turningHarm (nI f) = some (nI (f / 2)) := by
  unfold f_X4_turningHarm
  rw [half hf]
theorem meanC {wh kd md st wd : Nat → Int32} {dp d w j l k m n wo s : Nat} (hdp : dp < 100) (hd : d < 2 ^ 31) (hj : j < 5) (hl : l < 6) (hk : kd j = nI k) (hk4 : k < 4) (hm : md j = nI m) (hm1 : m < 101) (hw : w < 2) (hwn : wd j = nI n) (hn : n < 2 ^ 30) (hwh : wh l = nI wo) (hwo : wo < 4) (hst : st l = nI s) (hs : s < 2 ^ 30) (own : Bool) : f_X4_meanIn (nI dp) wh kd md (nI d) (nI w) st wd (nI j) (nI l) (if own then 1 else 0) = some (iL (meanZ dp (holdN k m w) (forceN k n (bit d j)) (harmN k (forceN k n (bit d j)) wo s (bit d j) own) (bit d j) own)) := by
  have hh := harmC (st := st) hd hj hl hk hk4 hwn hn hwh hwo hst hs own
  have hfo := forceC (w := wd) hd hj hk hk4 hwn hn
  have hfl := forceN_le k n (bit d j)
  unfold f_X4_meanIn f_X4_meanIn_B32 meanZ
  rw [acrossC hdp hd hj hk hk4 hm hm1 hw, bd1_s]
  have hhl : harmN k (forceN k n (bit d j)) wo s (bit d j) own < 2 ^ 31 := by
    unfold harmN foeN ownN; split; decide; split; split; split <;> omega; split; split <;> omega; decide; split; split <;> omega; split; split <;> omega; split; split <;> omega; decide
  generalize harmN k (forceN k n (bit d j)) wo s (bit d j) own = met at hh hhl ⊢
  generalize forceN k n (bit d j) = f at hfo hfl ⊢
  generalize getsN dp (holdN k m w) (bit d j) = gt
  cases own
  · rw [selF, hh, bd1_s, nI_iL hhl, iL_mul, show (0 : Int64) = iL 0 from rfl, iL_add]; rfl
  · rw [selT, fullC hdp, bd1_s, hfo, bd1_s, turnC (by omega), bd1_s, hh, bd1_s, nI_iL hhl, nI_iL (by omega), iL_mul, iL_sub, iL_mul, iL_add]; rfl
theorem meanM {v wk wm : Nat → Int32} {dp d w j k m n met : Nat} (hdp : dp < 100) (hv : v 10 = nI d) (hd : d < 2 ^ 31) (hj : j < 5) (hk : wk j = nI k) (hk4 : k < 4) (hm : wm j = nI m) (hm1 : m < 101) (hv2 : v 17 = nI w) (hw : w < 2) (hwn : v (5 + j) = nI n) (hn : n < 2 ^ 30) (hmet : met < 2 ^ 31) (own : Bool) : f_X13_meanBy v (nI dp) wk wm (nI j) (nI met) (if own then 1 else 0) = some (iL (meanZ dp (holdN k m w) (forceN k n (bit d j)) met (bit d j) own)) := by
  have hfo := forceM hv hd hj hk hk4 hwn hn
  have hfl := forceN_le k n (bit d j)
  unfold f_X13_meanBy meanZ
  rw [holdsM hdp hv hd hj hk hk4 hm hm1 hv2 hw, bd1_s]
  generalize forceN k n (bit d j) = f at hfo hfl ⊢
  cases own
  · rw [selF, nI_iL hmet, iL_mul, show (0 : Int64) = iL 0 from rfl, iL_add]; rfl
  · rw [selT, wholeM hdp, bd1_s, bd1_s, hfo, bd1_s, half (by omega), nI_iL hmet, nI_iL (by omega), iL_mul, iL_sub, iL_mul, iL_add]; rfl
/-- the worth over 100 ^ deep -/
def worthZ (dp h f foe own : Nat) (dead : Bool) : Int := if dead then 0 else ((h ^ dp : Nat) : Int) * ((foe : Int) - own) - (((100 ^ dp : Nat) : Int) - (h ^ dp : Nat)) * ((f / 2 : Nat) : Int)
theorem worthC {kd wd : Nat → Int32} {dp d j k n wo s h : Nat} (hdp : dp < 100) (hd : d < 2 ^ 31) (hj : j < 5) (hk : kd j = nI k) (hk4 : k < 4) (hwn : wd j = nI n) (hn : n < 2 ^ 30) (hwo : wo < 4) (hs : s ≤ 60) (hh : h < 2 ^ 31) : f_X4_worthBy (nI dp) kd (nI d) wd (nI j) (nI wo) (nI s) (nI h) = some (iL (worthZ dp h (forceN k n (bit d j)) (foeN k (forceN k n (bit d j)) wo s) (ownN k (forceN k n (bit d j)) wo s) (bit d j))) := by
  have hfo := forceC (w := wd) hd hj hk hk4 hwn hn
  have hfl := forceN_le k n (bit d j)
  unfold f_X4_worthBy worthZ
  rw [isDeadN hd (by omega), bd1_s]
  generalize forceN k n (bit d j) = f at hfo hfl ⊢
  have b1 := foeN_le (k := k) (w := wo) hfl hs
  have b2 := ownN_le (k := k) (w := wo) (s := s) hfl
  cases bit d j
  · rw [selF, gI hj (by decide), hfo, bd1_s, powC hdp hh, bd1_s, nI_clamp (by omega), hk, foeC hk4 (by omega) hwo (by omega), bd1_s, ownC hk4 (by omega) hwo (by omega), bd1_s, fullC hdp, bd1_s, turnC (by omega), bd1_s, subL (by omega) (by omega), nI_iL (by omega), lN_iL, iL_mul, iL_sub, iL_mul, iL_sub]; rfl
  · rw [selT]; rfl
theorem worthM {v wk wm : Nat → Int32} {dp d w j k m n wo s : Nat} (hdp : dp < 100) (hv : v 10 = nI d) (hd : d < 2 ^ 31) (hj : j < 5) (hk : wk j = nI k) (hk4 : k < 4) (hm : wm j = nI m) (hm1 : m < 101) (hv2 : v 17 = nI w) (hw : w < 2) (hwn : v (5 + j) = nI n) (hn : n < 2 ^ 30) (hwo : wo < 4) (hs : s ≤ 60) : f_X13_worthBy v (nI dp) wk wm (nI j) (nI wo) (nI s) = some (iL (worthZ dp (holdN k m w) (forceN k n (bit d j)) (foeN k (forceN k n (bit d j)) wo s) (ownN k (forceN k n (bit d j)) wo s) (bit d j))) := by
  have h0 : f_X13_harmBy v wk (nI j) (nI wo) (nI s) 0 = _ := harmM' (s := s) hv hd hj hk hk4 hwn hn hwo (by omega) false
  have h1 : f_X13_harmBy v wk (nI j) (nI wo) (nI s) 1 = _ := harmM' (s := s) hv hd hj hk hk4 hwn hn hwo (by omega) true
  have hfl := forceN_le k n (bit d j)
  have l0 := harmN_le (k := k) (w := wo) (s := s) (dead := bit d j) (own := false) hfl hs
  have l1 := harmN_le (k := k) (w := wo) (s := s) (dead := bit d j) (own := true) hfl hs
  have m0 : f_X13_meanBy v (nI dp) wk wm (nI j) (nI (harmN k (forceN k n (bit d j)) wo s (bit d j) false)) 0 = _ := meanM (met := harmN k (forceN k n (bit d j)) wo s (bit d j) false) hdp hv hd hj hk hk4 hm hm1 hv2 hw hwn hn (by omega) false
  have m1 : f_X13_meanBy v (nI dp) wk wm (nI j) (nI (harmN k (forceN k n (bit d j)) wo s (bit d j) true)) 1 = _ := meanM (met := harmN k (forceN k n (bit d j)) wo s (bit d j) true) hdp hv hd hj hk hk4 hm hm1 hv2 hw hwn hn (by omega) true
  unfold f_X13_worthBy
  rw [h0, bd1_s, m0, bd1_s]
  rw [h1, bd1_s, m1, bd1_s, iL_sub]
  congr 1
  congr 1
  unfold meanZ worthZ harmN getsN
  have hf0 : bit d j = true → forceN k n (bit d j) = 0 := fun e => by unfold forceN; rw [e]; rfl
  cases hb : bit d j
  · simp only [Bool.false_eq_true, if_false, if_true]
    rw [Int.mul_sub]
    omega
  · rw [hb] at hf0
    simp [hf0]
