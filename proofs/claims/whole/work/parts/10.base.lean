/-- private fields of nest mates that the class and the reference reach -/
def nwF : List (String × Nat × String × String × String × String) := [("ElephantLine$Placing", 34, "ElephantLine$Land", "lanes", "I", "ElephantLine"), ("ElephantLine$Game", 49, "ElephantLine$Land", "lanes", "I", "ElephantLine"), ("ElephantLine$Reader", 101, "ElephantLine$Land", "lanes", "I", "ElephantLine"), ("ElephantLine$Odds", 116, "ElephantLine$Land", "lanes", "I", "ElephantLine"), ("ElephantLine", 402, "ElephantLine$Land", "lanes", "I", "ElephantLine"), ("ElephantLine$Reader", 103, "ElephantLine$Land", "deep", "I", "ElephantLine"), ("ElephantLine$Fight", 109, "ElephantLine$Land", "deep", "I", "ElephantLine"), ("ElephantLine$Odds", 74, "ElephantLine$Land", "deep", "I", "ElephantLine"), ("ElephantLine", 405, "ElephantLine$Land", "deep", "I", "ElephantLine"), ("ElephantLine", 408, "ElephantLine$Land", "lanesTold", "I", "ElephantLine"), ("ElephantLine$Fight", 101, "ElephantLine$Land", "who", "[I", "ElephantLine"), ("ElephantLine", 141, "ElephantLine$Land", "who", "[I", "ElephantLine"), ("ElephantLine$Odds", 61, "ElephantLine$Land", "who", "[I", "ElephantLine"), ("ElephantLine$Stand", 21, "ElephantLine$Land", "firstStrong", "[I", "ElephantLine"), ("ElephantLine$Game", 27, "ElephantLine$Land", "beasts", "I", "ElephantLine"), ("ElephantLine$Trumpets", 36, "ElephantLine$Land", "beasts", "I", "ElephantLine"), ("ElephantLine$Placing", 39, "ElephantLine$Land", "beasts", "I", "ElephantLine"), ("ElephantLine$Fight", 54, "ElephantLine$Land", "beasts", "I", "ElephantLine"), ("ElephantLine$Reader", 75, "ElephantLine$Land", "beasts", "I", "ElephantLine"), ("ElephantLine", 132, "ElephantLine$Land", "beasts", "I", "ElephantLine"), ("ElephantLine$Odds", 102, "ElephantLine$Land", "beasts", "I", "ElephantLine"), ("ElephantLine$Odds", 34, "ElephantLine$Land", "kind", "[I", "ElephantLine"), ("ElephantLine$Fight", 98, "ElephantLine$Land", "kind", "[I", "ElephantLine"), ("ElephantLine", 155, "ElephantLine$Land", "kind", "[I", "ElephantLine"), ("ElephantLine$Stand", 32, "ElephantLine$Land", "firstLane", "[I", "ElephantLine"), ("ElephantLine$Odds", 47, "ElephantLine$Land", "mood", "[I", "ElephantLine"), ("ElephantLine", 161, "ElephantLine$Land", "mood", "[I", "ElephantLine"), ("ElephantLine", 164, "ElephantLine$Land", "price", "[I", "ElephantLine"), ("ElephantLine$Reader", 117, "ElephantLine$Land", "cities", "I", "ElephantLine"), ("ElephantLine$Marching", 37, "ElephantLine$Land", "cities", "I", "ElephantLine"), ("ElephantLine", 416, "ElephantLine$Land", "cities", "I", "ElephantLine"), ("ElephantLine$Reader", 125, "ElephantLine$Land", "passes", "I", "ElephantLine"), ("ElephantLine", 419, "ElephantLine$Land", "passes", "I", "ElephantLine"), ("ElephantLine$Trumpets", 74, "ElephantLine$Land", "turned", "I", "ElephantLine"), ("ElephantLine$Reader", 195, "ElephantLine$Land", "turned", "I", "ElephantLine"), ("ElephantLine", 422, "ElephantLine$Land", "turned", "I", "ElephantLine"), ("ElephantLine$Reader", 78, "ElephantLine$Tokens", "start", "I", "ElephantLine"), ("ElephantLine$Reader", 200, "ElephantLine$Tokens", "end", "I", "ElephantLine"), ("ElephantLine$Reader", 65, "ElephantLine$Tokens", "sort", "I", "ElephantLine"), ("ElephantLine", 120, "ElephantLine$Reader", "draft", "LElephantLine$Land;", "ElephantLine"), ("ElephantLine", 114, "ElephantLine$Reader", "faultAt", "I", "ElephantLine"), ("ElephantLine$Fight", 30, "ElephantLine$Stand", "strong", "[I", "ElephantLine"), ("ElephantLine", 145, "ElephantLine$Stand", "strong", "[I", "ElephantLine"), ("ElephantLine$Odds", 64, "ElephantLine$Stand", "strong", "[I", "ElephantLine"), ("ElephantLine$Game", 33, "ElephantLine$Stand", "at", "[I", "ElephantLine"), ("ElephantLine$Trumpets", 42, "ElephantLine$Stand", "at", "[I", "ElephantLine"), ("ElephantLine$Fight", 95, "ElephantLine$Stand", "at", "[I", "ElephantLine"), ("ElephantLine", 158, "ElephantLine$Stand", "at", "[I", "ElephantLine"), ("ElephantLine$Odds", 105, "ElephantLine$Stand", "at", "[I", "ElephantLine"), ("ElephantLine$Odds", 44, "ElephantLine$Stand", "wounds", "[I", "ElephantLine"), ("ElephantLine", 173, "ElephantLine$Stand", "wounds", "[I", "ElephantLine"), ("ElephantLine$Trumpets", 68, "ElephantLine$Stand", "dead", "I", "ElephantLine"), ("ElephantLine", 355, "ElephantLine$Stand", "dead", "I", "ElephantLine"), ("ElephantLine$Odds", 50, "ElephantLine$Stand", "wet", "Z", "ElephantLine"), ("ElephantLine", 363, "ElephantLine$Stand", "wet", "Z", "ElephantLine"), ("ElephantLine$Fight", 67, "ElephantLine$Stand", "drawn", "I", "ElephantLine"), ("ElephantLine", 367, "ElephantLine$Stand", "drawn", "I", "ElephantLine"), ("ElephantLine", 425, "ElephantLine$Past", "acts", "I", "ElephantLine"), ("ElephantLine", 384, "ElephantLine$Past", "marks", "I", "ElephantLine"), ("ElephantLine", 306, "ElephantLine$Trumpets", "sets", "I", "ElephantLine"), ("ElephantLine", 309, "ElephantLine$Trumpets", "inSome", "I", "ElephantLine"), ("ElephantLine", 312, "ElephantLine$Trumpets", "inAll", "I", "ElephantLine"), ("ElephantLine", 376, "ElephantLine$Fight", "foeHarm", "I", "ElephantLine"), ("ElephantLine", 336, "ElephantLine$Fight", "foeHarmInAll", "I", "ElephantLine"), ("ElephantLine", 333, "ElephantLine$Fight", "ownHarmInAll", "I", "ElephantLine"), ("ElephantLine", 339, "ElephantLine$Fight", "wins", "I", "ElephantLine"), ("ElephantLine", 342, "ElephantLine$Fight", "crossings", "[I", "ElephantLine"), ("ElephantLineModel", 160, "ElephantLineModel$War", "lanes", "I", "ElephantLineModel"), ("ElephantLineModel", 223, "ElephantLineModel$War", "deep", "I", "ElephantLineModel"), ("ElephantLineModel", 247, "ElephantLineModel$War", "told", "I", "ElephantLineModel"), ("ElephantLineModel", 195, "ElephantLineModel$War", "beasts", "I", "ElephantLineModel"), ("ElephantLineModel", 279, "ElephantLineModel$War", "cities", "I", "ElephantLineModel"), ("ElephantLineModel", 285, "ElephantLineModel$War", "passes", "I", "ElephantLineModel"), ("ElephantLineModel", 292, "ElephantLineModel$War", "turned", "I", "ElephantLineModel"), ("ElephantLineModel", 177, "ElephantLineModel$War", "names", "I", "ElephantLineModel"), ("ElephantLineModel", 241, "ElephantLineModel$War", "who", "[I", "ElephantLineModel"), ("ElephantLineModel", 244, "ElephantLineModel$War", "strong", "[I", "ElephantLineModel"), ("ElephantLineModel", 270, "ElephantLineModel$War", "kind", "[I", "ElephantLineModel"), ("ElephantLineModel", 273, "ElephantLineModel$War", "lane", "[I", "ElephantLineModel"), ("ElephantLineModel", 275, "ElephantLineModel$War", "mood", "[I", "ElephantLineModel"), ("ElephantLineModel", 277, "ElephantLineModel$War", "price", "[I", "ElephantLineModel"), ("ElephantLineModel", 282, "ElephantLineModel$War", "loses", "[I", "ElephantLineModel"), ("ElephantLineModel", 173, "ElephantLineModel$War", "name", "[J", "ElephantLineModel"), ("ElephantLineModel", 180, "ElephantLineModel$War", "nameSort", "[I", "ElephantLineModel"), ("ElephantLineModel", 183, "ElephantLineModel$War", "numberOf", "[I", "ElephantLineModel")]
def nwM : List (String × Nat × MethodName × String) := [("ElephantLine$Reader", 11, ⟨"ElephantLine$Land", "<init>", "()V"⟩, "ElephantLine"), ("ElephantLine", 24, ⟨"ElephantLine$Land", "<init>", "()V"⟩, "ElephantLine"), ("ElephantLine", 31, ⟨"ElephantLine$Stand", "<init>", "()V"⟩, "ElephantLine"), ("ElephantLine$Past", 20, ⟨"ElephantLine$Stand", "<init>", "()V"⟩, "ElephantLine"), ("ElephantLine$Reader", 210, ⟨"ElephantLine", "outside", "(III)Z"⟩, "ElephantLine"), ("ElephantLineModel", 297, ⟨"ElephantLineModel$War", "<init>", "()V"⟩, "ElephantLineModel")]
def NW (U : State) : Prop := (∀ q ∈ nwF, va_Nw (.fieldLinkNest q.1 q.2.1 q.2.2.1 q.2.2.2.1 q.2.2.2.2.1 q.2.2.2.2.2) U) ∧ (∀ q ∈ nwM, va_Nw (.methodLinkNest q.1 q.2.1 q.2.2.1 q.2.2.2) U) ∧ va_AO RX8 U
theorem NW.warm {s U : State} (hW : s.WarmedH U.vm) (h : NW s) : NW U := ⟨fun q hq => va_Nw.warmF hW (h.1 q hq), fun q hq => va_Nw.warmM hW (h.2.1 q hq), va_AO.moved hW.alike h.2.2⟩
theorem NW.same {s U : State} (hv : s.vm = U.vm) (h : NW s) : NW U := ⟨fun q hq => va_Nw.same rfl hv (h.1 q hq), fun q hq => va_Nw.same rfl hv (h.2.1 q hq), va_AO.moved (hv ▸ Vm.Alike.refl s.vm) h.2.2⟩
abbrev tyl (cy : Nat → ClassId) : List (ClassId × FieldType) := [(cy 0, .byte), (cy 1, .int), (cy 2, .long), (cy 3, .boolean), (cy 4, .object RX8)]
def SK (D : va_G) (cy : Nat → ClassId) (U : State) : Prop := va_K D vwCl (tyl cy) U ∧ NW U ∧ SKW U
theorem SK.warm {D : va_G} {cy : Nat → ClassId} {s U : State} (hW : s.WarmedH U.vm) (h : SK D cy s) : SK D cy U := ⟨va_K.moved hW.alike h.1, h.2.1.warm hW, h.2.2.warm hW⟩
theorem SK.calling {D : va_G} {cy : Nat → ClassId} {U : State} {g : JFrame} {mk : MethodId} {a : Array Value} (h : SK D cy U) : SK D cy (U.calling g mk a) := ⟨va_K.moved (u := U) (U := U.calling g mk a) (Vm.Alike.refl U.vm) h.1, h.2.1.same rfl, h.2.2.warm (State.WarmedH.refl U)⟩
/-- guards of the pure functions -/
def gIn {α : Type} (i : Int32) (n : Nat) (x : Option α) : Option α := if i < 0 ∨ n ≤ i.toNatClampNeg then none else x
theorem gIn_some {α : Type} {i : Int32} {n : Nat} {x : Option α} {r : α} (h : gIn i n x = some r) : vp_in i n ∧ x = some r := by
  unfold gIn at h
  by_cases c : i < 0 ∨ n ≤ i.toNatClampNeg
  · rw [if_pos c] at h; cases h
  · rw [if_neg c] at h; exact ⟨c, h⟩
theorem gIn_ok {α : Type} {i : Int32} {n : Nat} {x : Option α} (h : vp_in i n) : gIn i n x = x := if_neg h
theorem ifT {α : Type} {c : Prop} [Decidable c] {a b : Option α} {r : α} (hc : c) (h : (if c then a else b) = some r) : a = some r := by rw [if_pos hc] at h; exact h
theorem ifF {α : Type} {c : Prop} [Decidable c] {a b : Option α} {r : α} (hc : ¬ c) (h : (if c then a else b) = some r) : b = some r := by rw [if_neg hc] at h; exact h
theorem gNz_some {α : Type} {c : Prop} [Decidable c] {x : Option α} {r : α} (h : (if c then none else x) = some r) : ¬ c ∧ x = some r := by
  by_cases k : c
  · rw [if_pos k] at h; cases h
  · rw [if_neg k] at h; exact ⟨k, h⟩
/-- a Java boolean -/
def nbv (x : Int32) : Prop := x = 0 ∨ x = 1
theorem nbv.n {x : Int32} (h : nbv x) : narrow .boolean (.int x) = .int x := by rcases h with rfl | rfl <;> rfl
theorem nbv.f {x : Int32} (h : nbv x) : fits .boolean (.int x) = true := by rcases h with rfl | rfl <;> rfl
theorem nbv_0 : nbv 0 := Or.inl rfl
theorem nbv_1 : nbv 1 := Or.inr rfl
theorem lgc_le (x y : Int64) : lg_cmp x y ≤ 0 ↔ x ≤ y := by
  unfold lg_cmp
  have a1 := Int64.lt_iff_toInt_lt (x := y) (y := x)
  have a2 := Int64.le_iff_toInt_le (x := x) (y := y)
  have a3 := Int64.toInt_inj (x := x) (y := y)
  by_cases c : x > y
  · rw [if_pos c]; exact ⟨fun h => absurd h (by decide), fun h => absurd (a1.mp c) (by have := a2.mp h; omega)⟩
  · rw [if_neg c]
    by_cases d : x = y
    · rw [if_pos d]; exact ⟨fun _ => a2.mpr (by rw [d]; exact Int.le_refl _), fun _ => by decide⟩
    · rw [if_neg d]; exact ⟨fun _ => a2.mpr (by have : ¬ y.toInt < x.toInt := fun h => c (a1.mpr h); omega), fun _ => by decide⟩
theorem lgc_lt (x y : Int64) : lg_cmp x y < 0 ↔ x < y := by
  unfold lg_cmp
  have a1 := Int64.lt_iff_toInt_lt (x := y) (y := x)
  have a2 := Int64.lt_iff_toInt_lt (x := x) (y := y)
  have a3 := Int64.toInt_inj (x := x) (y := y)
  by_cases c : x > y
  · rw [if_pos c]; exact ⟨fun h => absurd h (by decide), fun h => absurd (a1.mp c) (by have := a2.mp h; omega)⟩
  · rw [if_neg c]
    by_cases d : x = y
    · rw [if_pos d]; exact ⟨fun h => absurd h (by decide), fun h => absurd (a2.mp h) (by rw [d]; omega)⟩
    · rw [if_neg d]; exact ⟨fun _ => a2.mpr (by have : ¬ y.toInt < x.toInt := fun h => c (a1.mpr h); have : ¬ x.toInt = y.toInt := fun h => d (a3.mp h); omega), fun _ => by decide⟩
theorem lgc_ge (x y : Int64) : 0 ≤ lg_cmp x y ↔ y ≤ x := by
  unfold lg_cmp
  have a1 := Int64.lt_iff_toInt_lt (x := y) (y := x)
  have a2 := Int64.le_iff_toInt_le (x := y) (y := x)
  have a3 := Int64.toInt_inj (x := x) (y := y)
  by_cases c : x > y
  · rw [if_pos c]; exact ⟨fun _ => a2.mpr (by have := a1.mp c; omega), fun _ => by decide⟩
  · rw [if_neg c]
    by_cases d : x = y
    · rw [if_pos d]; exact ⟨fun _ => a2.mpr (by rw [d]; exact Int.le_refl _), fun _ => by decide⟩
    · rw [if_neg d]; exact ⟨fun h => absurd h (by decide), fun h => absurd (a2.mp h) (by have : ¬ y.toInt < x.toInt := fun h => c (a1.mpr h); have : ¬ x.toInt = y.toInt := fun h => d (a3.mp h); omega)⟩
theorem lgc_gt (x y : Int64) : 0 < lg_cmp x y ↔ y < x := by
  unfold lg_cmp
  by_cases c : x > y
  · rw [if_pos c]; exact ⟨fun _ => c, fun _ => by decide⟩
  · rw [if_neg c]
    by_cases d : x = y
    · rw [if_pos d]; exact ⟨fun h => absurd h (by decide), fun h => absurd h c⟩
    · rw [if_neg d]; exact ⟨fun h => absurd h (by decide), fun h => absurd h c⟩
theorem lgc_eq (x y : Int64) : lg_cmp x y = 0 ↔ x = y := by
  unfold lg_cmp
  have a1 := Int64.lt_iff_toInt_lt (x := y) (y := x)
  by_cases c : x > y
  · rw [if_pos c]; exact ⟨fun h => absurd h (by decide), fun h => absurd (a1.mp c) (by rw [h]; omega)⟩
  · rw [if_neg c]
    by_cases d : x = y
    · rw [if_pos d]; exact ⟨fun _ => d, fun _ => rfl⟩
    · rw [if_neg d]; exact ⟨fun h => absurd h (by decide), fun h => absurd h d⟩
theorem sw_ne {x k : Int32} (h : ¬ x = k) : ¬ x.toInt = k.toInt := fun e => h (Int32.toInt_inj.mp e)
noncomputable def fuelS : {n : Nat // 100000 ≤ n} := Classical.choice ⟨⟨100000, Nat.le_refl _⟩⟩
noncomputable def fuelN : Nat := fuelS.1
theorem fuelN_ge : 100000 ≤ fuelN := fuelS.2
/-- worlds: the explicit cells first, then the rest -/
theorem pX {D : va_G} {cl : List vw_C} {L1 L2 X : va_W} {H : Heap} (h : va_P D cl (L1 ++ X) H) (ps : List Nat) (hp : ps.filterMap (fun i => L1[i]?) = L2) : va_P D cl (L2 ++ X) H := by
  have m1 : ∀ q ∈ L1 ++ X, va_at D cl q H := fun q hq => by
    obtain ⟨k, hk⟩ := List.getElem?_of_mem hq
    exact h k q hk
  intro k q hk
  have hq : q ∈ L2 ++ X := List.mem_of_getElem? hk
  refine m1 q ?_
  rcases List.mem_append.mp hq with a | a
  · rw [← hp] at a
    obtain ⟨i, -, hi⟩ := List.mem_filterMap.mp a
    exact List.mem_append_left _ (List.mem_of_getElem? hi)
  · exact List.mem_append_right _ a
theorem pXc {D : va_G} {cl : List vw_C} {L1 L2 X : va_W} {H : Heap} (h : va_P D cl (L1 ++ X) H) (ps : List Nat) (hp : ps.filterMap (fun i => L1[i]?) = L2) : va_P D cl L2 H := by
  have := pX h ps hp
  intro k q hk
  refine this k q ?_
  rw [List.getElem?_append_left (List.getElem?_eq_some_iff.mp hk).1]; exact hk

theorem dX_apart {A : Nat → Prop} {L1 L2 X : va_W} (hD : va_D A (L1 ++ X)) (ps : List Nat) (hn : va_nd ps = true) (hp : ps.map (fun i => L1[i]?) = L2.map some) : va_D A (L2 ++ X) := by
  have lk : ∀ (k : Nat) (q : Nat × va_E), L2[k]? = some q → ∃ i, ps[k]? = some i ∧ L1[i]? = some q := by
    intro k q hk
    have h1 : (L2.map some)[k]? = some (some q) := by rw [List.getElem?_map, hk]; rfl
    rw [← hp, List.getElem?_map] at h1
    cases hps : ps[k]? with
    | none => rw [hps] at h1; cases h1
    | some i => rw [hps] at h1; exact ⟨i, rfl, Option.some.inj h1⟩
  have loc : ∀ (k : Nat) (q : Nat × va_E), (L2 ++ X)[k]? = some q → (k < L2.length ∧ ∃ i, ps[k]? = some i ∧ L1[i]? = some q ∧ (L1 ++ X)[i]? = some q) ∨ (L2.length ≤ k ∧ X[k - L2.length]? = some q ∧ (L1 ++ X)[L1.length + (k - L2.length)]? = some q) := by
    intro k q hk
    rcases Nat.lt_or_ge k L2.length with a | a
    · rw [List.getElem?_append_left a] at hk
      obtain ⟨i, h1, h2⟩ := lk k q hk
      exact Or.inl ⟨a, i, h1, h2, by rw [List.getElem?_append_left (List.getElem?_eq_some_iff.mp h2).1]; exact h2⟩
    · rw [List.getElem?_append_right a] at hk
      exact Or.inr ⟨a, hk, by rw [List.getElem?_append_right (Nat.le_add_right _ _), Nat.add_sub_cancel_left]; exact hk⟩
  refine ⟨fun i j p q hi hj hpq => ?_, fun k q hk => ?_⟩
  · rcases loc i p hi with ⟨a1, i1, b1, c1, d1⟩ | ⟨a1, c1, d1⟩ <;> rcases loc j q hj with ⟨a2, i2, b2, c2, d2⟩ | ⟨a2, c2, d2⟩
    · have := hD.1 i1 i2 p q d1 d2 hpq
      subst this
      exact va_nd_inj ps hn i j i1 b1 b2
    · have := hD.1 _ _ p q d1 d2 hpq
      have := (List.getElem?_eq_some_iff.mp c1).1
      omega
    · have := hD.1 _ _ p q d1 d2 hpq
      have := (List.getElem?_eq_some_iff.mp c2).1
      omega
    · have := hD.1 _ _ p q d1 d2 hpq
      omega
  · rcases loc k q hk with ⟨-, i1, -, -, d1⟩ | ⟨-, -, d1⟩
    · exact hD.2 _ q d1
    · exact hD.2 _ q d1
theorem pX3 {D : va_G} {cl : List vw_C} {L1 L2 L3 X : va_W} {H : Heap} (h : va_P D cl (L1 ++ X) H) (ps : List Nat) (hp : ps.filterMap (fun i => L1[i]?) = L2 ++ L3) : va_P D cl (L2 ++ (L3 ++ X)) H := by rw [← List.append_assoc]; exact pX h ps hp
theorem dX3 {A : Nat → Prop} {L1 L2 L3 X : va_W} (hD : va_D A (L1 ++ X)) (ps : List Nat) (hn : va_nd ps = true) (hp : ps.map (fun i => L1[i]?) = (L2 ++ L3).map some) : va_D A (L2 ++ (L3 ++ X)) := by rw [← List.append_assoc]; exact dX_apart hD ps hn hp
theorem pX4 {D : va_G} {cl : List vw_C} {L1 L2 L3 X : va_W} {H : Heap} (h : va_P D cl (L2 ++ (L3 ++ X)) H) (ps : List Nat) (hp : ps.filterMap (fun i => (L2 ++ L3)[i]?) = L1) : va_P D cl (L1 ++ X) H := by rw [← List.append_assoc] at h; exact pX h ps hp
theorem dX4 {A : Nat → Prop} {L1 L2 L3 X : va_W} (hD : va_D A (L2 ++ (L3 ++ X))) (ps : List Nat) (hn : va_nd ps = true) (hp : ps.map (fun i => (L2 ++ L3)[i]?) = L1.map some) : va_D A (L1 ++ X) := by rw [← List.append_assoc] at hD; exact dX_apart hD ps hn hp
/-- contracts: methods that only read -/
def roPc (D : va_G) (cy : Nat → ClassId) (av : List Value) (wc : va_W) : Array Value → State → Prop := va_Pc av (fun U => va_P D vwCl wc U.heap ∧ SK D cy U)
theorem ro_blind {D : va_G} {cy : Nat → ClassId} {av : List Value} {wc : va_W} : FrameBlind (roPc D cy av wc) := fun _ _ _ _ q => ⟨q.1, q.2.1, q.2.2.calling⟩
/-- contracts: methods that write; A: what may be written -/
def wrPc (D : va_G) (cy : Nat → ClassId) (A : Nat → Prop) (av : List Value) (wc : va_W) : Array Value → State → Prop := va_Pc av (fun U => va_P D vwCl wc U.heap ∧ SK D cy U ∧ va_D A wc ∧ ∀ q, U.heap.size ≤ q → A q)
theorem wr_blind {D : va_G} {cy : Nat → ClassId} {A : Nat → Prop} {av : List Value} {wc : va_W} : FrameBlind (wrPc D cy A av wc) := fun _ _ _ _ q => ⟨q.1, q.2.1, q.2.2.1.calling, q.2.2.2.1, q.2.2.2.2⟩
def wB (D : va_G) (A : Nat → Prop) (w1 : va_W) (_ : Unit) (t : State) : Prop := va_P D vwCl w1 t.heap ∧ va_D A w1
section CL
variable {p : Program} {l : Launch} {e : Env} {R : Room} {s : State} {m : MethodId} {args : Array Value} {below : List Frame} {meth : Method} {c : Code} {H : Heap} {locs : List Loc} {cells slots : Nat} {Q : State → Prop}
variable {y : MethodName} {bytes cc : ByteArray} {maxL nL n index : Nat} {ret : Option FieldType} {ws ws' : List Cond} {rm : Room} {Ts : List Cond} {own C : String} {b : Addr} {pc : Nat} {ls : Array Slot} {D : va_G} {cy : Nat → ClassId} {wc w1 : va_W} {st0 : List Value} {A : Nat → Prop}

theorem kVi {res : Int32} (As rest : List Value) (S : CallFix p m c cc nL s args Ts own) (hM : Met l y ws rm (roPc D cy (.ref b :: As) wc) (vp_Si (fun r => r = res)) 0 0 (fun _ => False)) (hT : GoodIn Ts (wsV own index C y ws)) (hw : ws = Cond.code y bytes maxL ret :: ws') (hd : y.cls = C ∧ y.cls ≠ "java/lang/invoke/MethodHandle" ∧ y.cls ≠ "java/lang/invoke/VarHandle" ∧ (parseMethodDescriptor y.desc).map (fun d => d.parameters.length) = some n) (hR : rm.frames + 1 ≤ R.frames ∧ 8 + (maxL + 11) + rm.locals ≤ R.locals) (hrc : rm.cells = 0) (hrs : rm.slots = 0) (hK : SK D cy s) (hP : va_P D vwCl wc H) {T : u_T} {N : Nat} {fs : List Value} (ci q0 : Nat) (hc : vwCl[ci]? = some (C, T, N)) (he : wc[q0]? = some (b, .inr (ci, fs))) (hn : As.length = n) (hsize : ls.size = nL) (hstack : st0 = As.reverse ++ .ref b :: rest) (hW : (rest.map fun v => v.category).sum ≤ 8) (hdg : decode cc pc = .ok (.invokevirtual index, 3)) (hf : cells ≤ R.cells ∧ slots ≤ R.slots)
    (kk : W p l e R s m args below meth c H locs cells slots Q (F0 m (pc + 3) ls (.int res :: rest))) : W p l e R s m args below meth c H locs cells slots Q (F0 m pc ls st0) := by
  subst hstack
  exact vp_callSi (W.runV S hM (cwV n S.2.2.2.2 hT hw hrc hrs hd hR) ⟨ro_blind, va_recv hK.1 hP hc he, fun U hU hW' => ⟨rfl, by rw [hU]; exact hP, hK.warm hW'⟩⟩ rfl hn hsize rfl (lv_room hW) hdg ⟨hf.1, hf.2⟩) (fun r hr => by subst hr; exact kk)
theorem wVi {res : Int32} (As rest : List Value) (S : CallFix p m c cc nL s args Ts own) (hM : Met l y ws rm (wrPc D cy A (.ref b :: As) wc) (va_Qi (fun (r : Int32) (_ : Unit) => r = res) (wB D A w1) A) 0 0 A) (hT : GoodIn Ts (wsV own index C y ws)) (hw : ws = Cond.code y bytes maxL ret :: ws') (hd : y.cls = C ∧ y.cls ≠ "java/lang/invoke/MethodHandle" ∧ y.cls ≠ "java/lang/invoke/VarHandle" ∧ (parseMethodDescriptor y.desc).map (fun d => d.parameters.length) = some n) (hR : rm.frames + 1 ≤ R.frames ∧ 8 + (maxL + 11) + rm.locals ≤ R.locals) (hrc : rm.cells = 0) (hrs : rm.slots = 0) (hK : SK D cy s) (hP : va_P D vwCl wc H) (hD : va_D A wc) (hS : va_S A s.heap H locs) (hA : ∀ q, s.heap.size ≤ q → A q) {T : u_T} {N : Nat} {fs : List Value} (ci q0 : Nat) (hc : vwCl[ci]? = some (C, T, N)) (he : wc[q0]? = some (b, .inr (ci, fs))) (hn : As.length = n) (hsize : ls.size = nL) (hstack : st0 = As.reverse ++ .ref b :: rest) (hW : (rest.map fun v => v.category).sum ≤ 8) (hdg : decode cc pc = .ok (.invokevirtual index, 3)) (hf : cells ≤ R.cells ∧ slots ≤ R.slots)
    (kk : ∀ (H1 : Heap) (locs1 : List Loc), va_P D vwCl w1 H1 → va_D A w1 → va_S A s.heap H1 locs1 → W p l e R s m args below meth c H1 locs1 cells slots Q (F0 m (pc + 3) ls (.int res :: rest))) : W p l e R s m args below meth c H locs cells slots Q (F0 m pc ls st0) := by
  subst hstack
  exact va_calli (va_runV S hM (cwV n S.2.2.2.2 hT hw hrc hrs hd hR) ⟨wr_blind, va_recv hK.1 hP hc he, fun U hU hW' => ⟨rfl, by rw [hU]; exact hP, hK.warm hW', hD, fun q hq => hA q (Nat.le_trans hS.1 (by rw [← hU]; exact hq))⟩⟩ rfl hn hsize rfl (lv_room hW) hdg ⟨hf.1, hf.2⟩) hS (fun q _ h => h) (fun q h => h) (fun r u t H1 locs1 ht _ hr hB _ _ hS1 => by subst hr; exact kk H1 locs1 (by rw [← ht]; exact hB.1) hB.2 hS1)
theorem kVl {res : Int64} (As rest : List Value) (S : CallFix p m c cc nL s args Ts own) (hM : Met l y ws rm (roPc D cy (.ref b :: As) wc) (vp_Sl (fun r => r = res)) 0 0 (fun _ => False)) (hT : GoodIn Ts (wsV own index C y ws)) (hw : ws = Cond.code y bytes maxL ret :: ws') (hd : y.cls = C ∧ y.cls ≠ "java/lang/invoke/MethodHandle" ∧ y.cls ≠ "java/lang/invoke/VarHandle" ∧ (parseMethodDescriptor y.desc).map (fun d => d.parameters.length) = some n) (hR : rm.frames + 1 ≤ R.frames ∧ 8 + (maxL + 11) + rm.locals ≤ R.locals) (hrc : rm.cells = 0) (hrs : rm.slots = 0) (hK : SK D cy s) (hP : va_P D vwCl wc H) {T : u_T} {N : Nat} {fs : List Value} (ci q0 : Nat) (hc : vwCl[ci]? = some (C, T, N)) (he : wc[q0]? = some (b, .inr (ci, fs))) (hn : As.length = n) (hsize : ls.size = nL) (hstack : st0 = As.reverse ++ .ref b :: rest) (hW : (rest.map fun v => v.category).sum ≤ 8) (hdg : decode cc pc = .ok (.invokevirtual index, 3)) (hf : cells ≤ R.cells ∧ slots ≤ R.slots)
    (kk : W p l e R s m args below meth c H locs cells slots Q (F0 m (pc + 3) ls (.long res :: rest))) : W p l e R s m args below meth c H locs cells slots Q (F0 m pc ls st0) := by
  subst hstack
  exact vp_callSl (W.runV S hM (cwV n S.2.2.2.2 hT hw hrc hrs hd hR) ⟨ro_blind, va_recv hK.1 hP hc he, fun U hU hW' => ⟨rfl, by rw [hU]; exact hP, hK.warm hW'⟩⟩ rfl hn hsize rfl (lv_room hW) hdg ⟨hf.1, hf.2⟩) (fun r hr => by subst hr; exact kk)
theorem wVl {res : Int64} (As rest : List Value) (S : CallFix p m c cc nL s args Ts own) (hM : Met l y ws rm (wrPc D cy A (.ref b :: As) wc) (va_Ql (fun (r : Int64) (_ : Unit) => r = res) (wB D A w1) A) 0 0 A) (hT : GoodIn Ts (wsV own index C y ws)) (hw : ws = Cond.code y bytes maxL ret :: ws') (hd : y.cls = C ∧ y.cls ≠ "java/lang/invoke/MethodHandle" ∧ y.cls ≠ "java/lang/invoke/VarHandle" ∧ (parseMethodDescriptor y.desc).map (fun d => d.parameters.length) = some n) (hR : rm.frames + 1 ≤ R.frames ∧ 8 + (maxL + 11) + rm.locals ≤ R.locals) (hrc : rm.cells = 0) (hrs : rm.slots = 0) (hK : SK D cy s) (hP : va_P D vwCl wc H) (hD : va_D A wc) (hS : va_S A s.heap H locs) (hA : ∀ q, s.heap.size ≤ q → A q) {T : u_T} {N : Nat} {fs : List Value} (ci q0 : Nat) (hc : vwCl[ci]? = some (C, T, N)) (he : wc[q0]? = some (b, .inr (ci, fs))) (hn : As.length = n) (hsize : ls.size = nL) (hstack : st0 = As.reverse ++ .ref b :: rest) (hW : (rest.map fun v => v.category).sum ≤ 8) (hdg : decode cc pc = .ok (.invokevirtual index, 3)) (hf : cells ≤ R.cells ∧ slots ≤ R.slots)
    (kk : ∀ (H1 : Heap) (locs1 : List Loc), va_P D vwCl w1 H1 → va_D A w1 → va_S A s.heap H1 locs1 → W p l e R s m args below meth c H1 locs1 cells slots Q (F0 m (pc + 3) ls (.long res :: rest))) : W p l e R s m args below meth c H locs cells slots Q (F0 m pc ls st0) := by
  subst hstack
  exact va_calll (va_runV S hM (cwV n S.2.2.2.2 hT hw hrc hrs hd hR) ⟨wr_blind, va_recv hK.1 hP hc he, fun U hU hW' => ⟨rfl, by rw [hU]; exact hP, hK.warm hW', hD, fun q hq => hA q (Nat.le_trans hS.1 (by rw [← hU]; exact hq))⟩⟩ rfl hn hsize rfl (lv_room hW) hdg ⟨hf.1, hf.2⟩) hS (fun q _ h => h) (fun q h => h) (fun r u t H1 locs1 ht _ hr hB _ _ hS1 => by subst hr; exact kk H1 locs1 (by rw [← ht]; exact hB.1) hB.2 hS1)
theorem kVv (As rest : List Value) (S : CallFix p m c cc nL s args Ts own) (hM : Met l y ws rm (roPc D cy (.ref b :: As) wc) (va_Sv (fun _ => True)) 0 0 (fun _ => False)) (hT : GoodIn Ts (wsV own index C y ws)) (hw : ws = Cond.code y bytes maxL ret :: ws') (hd : y.cls = C ∧ y.cls ≠ "java/lang/invoke/MethodHandle" ∧ y.cls ≠ "java/lang/invoke/VarHandle" ∧ (parseMethodDescriptor y.desc).map (fun d => d.parameters.length) = some n) (hR : rm.frames + 1 ≤ R.frames ∧ 8 + (maxL + 11) + rm.locals ≤ R.locals) (hrc : rm.cells = 0) (hrs : rm.slots = 0) (hK : SK D cy s) (hP : va_P D vwCl wc H) {T : u_T} {N : Nat} {fs : List Value} (ci q0 : Nat) (hc : vwCl[ci]? = some (C, T, N)) (he : wc[q0]? = some (b, .inr (ci, fs))) (hn : As.length = n) (hsize : ls.size = nL) (hstack : st0 = As.reverse ++ .ref b :: rest) (hW : (rest.map fun v => v.category).sum ≤ 8) (hdg : decode cc pc = .ok (.invokevirtual index, 3)) (hf : cells ≤ R.cells ∧ slots ≤ R.slots)
    (kk : W p l e R s m args below meth c H locs cells slots Q (F0 m (pc + 3) ls rest)) : W p l e R s m args below meth c H locs cells slots Q (F0 m pc ls st0) := by
  subst hstack
  exact va_csv (W.runV S hM (cwV n S.2.2.2.2 hT hw hrc hrs hd hR) ⟨ro_blind, va_recv hK.1 hP hc he, fun U hU hW' => ⟨rfl, by rw [hU]; exact hP, hK.warm hW'⟩⟩ rfl hn hsize rfl (lv_room hW) hdg ⟨hf.1, hf.2⟩) (fun _ => kk)
theorem wVv (As rest : List Value) (S : CallFix p m c cc nL s args Ts own) (hM : Met l y ws rm (wrPc D cy A (.ref b :: As) wc) (va_Qv (fun (_ : Unit) => True) (wB D A w1) A) 0 0 A) (hT : GoodIn Ts (wsV own index C y ws)) (hw : ws = Cond.code y bytes maxL ret :: ws') (hd : y.cls = C ∧ y.cls ≠ "java/lang/invoke/MethodHandle" ∧ y.cls ≠ "java/lang/invoke/VarHandle" ∧ (parseMethodDescriptor y.desc).map (fun d => d.parameters.length) = some n) (hR : rm.frames + 1 ≤ R.frames ∧ 8 + (maxL + 11) + rm.locals ≤ R.locals) (hrc : rm.cells = 0) (hrs : rm.slots = 0) (hK : SK D cy s) (hP : va_P D vwCl wc H) (hD : va_D A wc) (hS : va_S A s.heap H locs) (hA : ∀ q, s.heap.size ≤ q → A q) {T : u_T} {N : Nat} {fs : List Value} (ci q0 : Nat) (hc : vwCl[ci]? = some (C, T, N)) (he : wc[q0]? = some (b, .inr (ci, fs))) (hn : As.length = n) (hsize : ls.size = nL) (hstack : st0 = As.reverse ++ .ref b :: rest) (hW : (rest.map fun v => v.category).sum ≤ 8) (hdg : decode cc pc = .ok (.invokevirtual index, 3)) (hf : cells ≤ R.cells ∧ slots ≤ R.slots)
    (kk : ∀ (H1 : Heap) (locs1 : List Loc), va_P D vwCl w1 H1 → va_D A w1 → va_S A s.heap H1 locs1 → W p l e R s m args below meth c H1 locs1 cells slots Q (F0 m (pc + 3) ls (rest))) : W p l e R s m args below meth c H locs cells slots Q (F0 m pc ls st0) := by
  subst hstack
  exact va_callv (va_runV S hM (cwV n S.2.2.2.2 hT hw hrc hrs hd hR) ⟨wr_blind, va_recv hK.1 hP hc he, fun U hU hW' => ⟨rfl, by rw [hU]; exact hP, hK.warm hW', hD, fun q hq => hA q (Nat.le_trans hS.1 (by rw [← hU]; exact hq))⟩⟩ rfl hn hsize rfl (lv_room hW) hdg ⟨hf.1, hf.2⟩) hS (fun q _ h => h) (fun q h => h) (fun u t H1 locs1 ht _ _ hB _ _ hS1 => by exact kk H1 locs1 (by rw [← ht]; exact hB.1) hB.2 hS1)
theorem va_cwS2 (n : Nat) (ht : ∀ w ∈ Ts, w.before args s = true) (hT : GoodIn Ts (va_wsS own index y ws)) (hw : ws = Cond.code y bytes maxL ret :: ws') {mc ms : Nat} (hrc : rm.cells = mc) (hrs : rm.slots = ms) (hd : y.cls ≠ "java/lang/invoke/MethodHandle" ∧ y.cls ≠ "java/lang/invoke/VarHandle" ∧ (parseMethodDescriptor y.desc).map (fun d => d.parameters.length) = some n) (hR : rm.frames + 1 ≤ R.frames ∧ 8 + (maxL + 11) + rm.locals ≤ R.locals) : CallB R s args own index y bytes maxL ret ws rm mc ms n ∧ (Cond.static y).before args s = true := by
  have ok : ∀ w ∈ va_wsS own index y ws, w.before args s = true := fun w h => ht w (hT w h).1
  exact ⟨callB_of n ht (fun w h => hT w (by unfold va_wsS; exact List.mem_append_right _ h)) hw hrc hrs (ok _ (by simp [va_wsS])) (ok _ (by simp [va_wsS])) hd hR, ok _ (by simp [va_wsS])⟩
theorem kSi {res : Int32} (As rest : List Value) (S : CallFix p m c cc nL s args Ts own) (hM : Met l y ws rm (roPc D cy (As) wc) (vp_Si (fun r => r = res)) 0 0 (fun _ => False)) (hT : GoodIn Ts (va_wsS own index y ws)) (hw : ws = Cond.code y bytes maxL ret :: ws') (hd : y.cls ≠ "java/lang/invoke/MethodHandle" ∧ y.cls ≠ "java/lang/invoke/VarHandle" ∧ (parseMethodDescriptor y.desc).map (fun d => d.parameters.length) = some n) (hR : rm.frames + 1 ≤ R.frames ∧ 8 + (maxL + 11) + rm.locals ≤ R.locals) (hrc : rm.cells = 0) (hrs : rm.slots = 0) (hK : SK D cy s) (hP : va_P D vwCl wc H)  (hn : As.length = n) (hsize : ls.size = nL) (hstack : st0 = As.reverse ++ rest) (hW : (rest.map fun v => v.category).sum ≤ 8) (hdg : decode cc pc = .ok (.invokestatic index, 3)) (hf : cells ≤ R.cells ∧ slots ≤ R.slots)
    (kk : W p l e R s m args below meth c H locs cells slots Q (F0 m (pc + 3) ls (.int res :: rest))) : W p l e R s m args below meth c H locs cells slots Q (F0 m pc ls st0) := by
  subst hstack
  exact vp_callSi (W.runS S hM (va_cwS2 n S.2.2.2.2 hT hw hrc hrs hd hR) ⟨ro_blind, fun U hU hW' => ⟨rfl, by rw [hU]; exact hP, hK.warm hW'⟩⟩ rfl hn hsize rfl (lv_room hW) hdg ⟨hf.1, hf.2⟩) (fun r hr => by subst hr; exact kk)
theorem wSi {res : Int32} (As rest : List Value) (S : CallFix p m c cc nL s args Ts own) (hM : Met l y ws rm (wrPc D cy A (As) wc) (va_Qi (fun (r : Int32) (_ : Unit) => r = res) (wB D A w1) A) 0 0 A) (hT : GoodIn Ts (va_wsS own index y ws)) (hw : ws = Cond.code y bytes maxL ret :: ws') (hd : y.cls ≠ "java/lang/invoke/MethodHandle" ∧ y.cls ≠ "java/lang/invoke/VarHandle" ∧ (parseMethodDescriptor y.desc).map (fun d => d.parameters.length) = some n) (hR : rm.frames + 1 ≤ R.frames ∧ 8 + (maxL + 11) + rm.locals ≤ R.locals) (hrc : rm.cells = 0) (hrs : rm.slots = 0) (hK : SK D cy s) (hP : va_P D vwCl wc H) (hD : va_D A wc) (hS : va_S A s.heap H locs) (hA : ∀ q, s.heap.size ≤ q → A q)  (hn : As.length = n) (hsize : ls.size = nL) (hstack : st0 = As.reverse ++ rest) (hW : (rest.map fun v => v.category).sum ≤ 8) (hdg : decode cc pc = .ok (.invokestatic index, 3)) (hf : cells ≤ R.cells ∧ slots ≤ R.slots)
    (kk : ∀ (H1 : Heap) (locs1 : List Loc), va_P D vwCl w1 H1 → va_D A w1 → va_S A s.heap H1 locs1 → W p l e R s m args below meth c H1 locs1 cells slots Q (F0 m (pc + 3) ls (.int res :: rest))) : W p l e R s m args below meth c H locs cells slots Q (F0 m pc ls st0) := by
  subst hstack
  exact va_calli (va_runS S hM (va_cwS2 n S.2.2.2.2 hT hw hrc hrs hd hR) ⟨wr_blind, fun U hU hW' => ⟨rfl, by rw [hU]; exact hP, hK.warm hW', hD, fun q hq => hA q (Nat.le_trans hS.1 (by rw [← hU]; exact hq))⟩⟩ rfl hn hsize rfl (lv_room hW) hdg ⟨hf.1, hf.2⟩) hS (fun q _ h => h) (fun q h => h) (fun r u t H1 locs1 ht _ hr hB _ _ hS1 => by subst hr; exact kk H1 locs1 (by rw [← ht]; exact hB.1) hB.2 hS1)
theorem kSl {res : Int64} (As rest : List Value) (S : CallFix p m c cc nL s args Ts own) (hM : Met l y ws rm (roPc D cy (As) wc) (vp_Sl (fun r => r = res)) 0 0 (fun _ => False)) (hT : GoodIn Ts (va_wsS own index y ws)) (hw : ws = Cond.code y bytes maxL ret :: ws') (hd : y.cls ≠ "java/lang/invoke/MethodHandle" ∧ y.cls ≠ "java/lang/invoke/VarHandle" ∧ (parseMethodDescriptor y.desc).map (fun d => d.parameters.length) = some n) (hR : rm.frames + 1 ≤ R.frames ∧ 8 + (maxL + 11) + rm.locals ≤ R.locals) (hrc : rm.cells = 0) (hrs : rm.slots = 0) (hK : SK D cy s) (hP : va_P D vwCl wc H)  (hn : As.length = n) (hsize : ls.size = nL) (hstack : st0 = As.reverse ++ rest) (hW : (rest.map fun v => v.category).sum ≤ 8) (hdg : decode cc pc = .ok (.invokestatic index, 3)) (hf : cells ≤ R.cells ∧ slots ≤ R.slots)
    (kk : W p l e R s m args below meth c H locs cells slots Q (F0 m (pc + 3) ls (.long res :: rest))) : W p l e R s m args below meth c H locs cells slots Q (F0 m pc ls st0) := by
  subst hstack
  exact vp_callSl (W.runS S hM (va_cwS2 n S.2.2.2.2 hT hw hrc hrs hd hR) ⟨ro_blind, fun U hU hW' => ⟨rfl, by rw [hU]; exact hP, hK.warm hW'⟩⟩ rfl hn hsize rfl (lv_room hW) hdg ⟨hf.1, hf.2⟩) (fun r hr => by subst hr; exact kk)
theorem wSl {res : Int64} (As rest : List Value) (S : CallFix p m c cc nL s args Ts own) (hM : Met l y ws rm (wrPc D cy A (As) wc) (va_Ql (fun (r : Int64) (_ : Unit) => r = res) (wB D A w1) A) 0 0 A) (hT : GoodIn Ts (va_wsS own index y ws)) (hw : ws = Cond.code y bytes maxL ret :: ws') (hd : y.cls ≠ "java/lang/invoke/MethodHandle" ∧ y.cls ≠ "java/lang/invoke/VarHandle" ∧ (parseMethodDescriptor y.desc).map (fun d => d.parameters.length) = some n) (hR : rm.frames + 1 ≤ R.frames ∧ 8 + (maxL + 11) + rm.locals ≤ R.locals) (hrc : rm.cells = 0) (hrs : rm.slots = 0) (hK : SK D cy s) (hP : va_P D vwCl wc H) (hD : va_D A wc) (hS : va_S A s.heap H locs) (hA : ∀ q, s.heap.size ≤ q → A q)  (hn : As.length = n) (hsize : ls.size = nL) (hstack : st0 = As.reverse ++ rest) (hW : (rest.map fun v => v.category).sum ≤ 8) (hdg : decode cc pc = .ok (.invokestatic index, 3)) (hf : cells ≤ R.cells ∧ slots ≤ R.slots)
    (kk : ∀ (H1 : Heap) (locs1 : List Loc), va_P D vwCl w1 H1 → va_D A w1 → va_S A s.heap H1 locs1 → W p l e R s m args below meth c H1 locs1 cells slots Q (F0 m (pc + 3) ls (.long res :: rest))) : W p l e R s m args below meth c H locs cells slots Q (F0 m pc ls st0) := by
  subst hstack
  exact va_calll (va_runS S hM (va_cwS2 n S.2.2.2.2 hT hw hrc hrs hd hR) ⟨wr_blind, fun U hU hW' => ⟨rfl, by rw [hU]; exact hP, hK.warm hW', hD, fun q hq => hA q (Nat.le_trans hS.1 (by rw [← hU]; exact hq))⟩⟩ rfl hn hsize rfl (lv_room hW) hdg ⟨hf.1, hf.2⟩) hS (fun q _ h => h) (fun q h => h) (fun r u t H1 locs1 ht _ hr hB _ _ hS1 => by subst hr; exact kk H1 locs1 (by rw [← ht]; exact hB.1) hB.2 hS1)
theorem kSv (As rest : List Value) (S : CallFix p m c cc nL s args Ts own) (hM : Met l y ws rm (roPc D cy (As) wc) (va_Sv (fun _ => True)) 0 0 (fun _ => False)) (hT : GoodIn Ts (va_wsS own index y ws)) (hw : ws = Cond.code y bytes maxL ret :: ws') (hd : y.cls ≠ "java/lang/invoke/MethodHandle" ∧ y.cls ≠ "java/lang/invoke/VarHandle" ∧ (parseMethodDescriptor y.desc).map (fun d => d.parameters.length) = some n) (hR : rm.frames + 1 ≤ R.frames ∧ 8 + (maxL + 11) + rm.locals ≤ R.locals) (hrc : rm.cells = 0) (hrs : rm.slots = 0) (hK : SK D cy s) (hP : va_P D vwCl wc H)  (hn : As.length = n) (hsize : ls.size = nL) (hstack : st0 = As.reverse ++ rest) (hW : (rest.map fun v => v.category).sum ≤ 8) (hdg : decode cc pc = .ok (.invokestatic index, 3)) (hf : cells ≤ R.cells ∧ slots ≤ R.slots)
    (kk : W p l e R s m args below meth c H locs cells slots Q (F0 m (pc + 3) ls rest)) : W p l e R s m args below meth c H locs cells slots Q (F0 m pc ls st0) := by
  subst hstack
  exact va_csv (W.runS S hM (va_cwS2 n S.2.2.2.2 hT hw hrc hrs hd hR) ⟨ro_blind, fun U hU hW' => ⟨rfl, by rw [hU]; exact hP, hK.warm hW'⟩⟩ rfl hn hsize rfl (lv_room hW) hdg ⟨hf.1, hf.2⟩) (fun _ => kk)
theorem wSv (As rest : List Value) (S : CallFix p m c cc nL s args Ts own) (hM : Met l y ws rm (wrPc D cy A (As) wc) (va_Qv (fun (_ : Unit) => True) (wB D A w1) A) 0 0 A) (hT : GoodIn Ts (va_wsS own index y ws)) (hw : ws = Cond.code y bytes maxL ret :: ws') (hd : y.cls ≠ "java/lang/invoke/MethodHandle" ∧ y.cls ≠ "java/lang/invoke/VarHandle" ∧ (parseMethodDescriptor y.desc).map (fun d => d.parameters.length) = some n) (hR : rm.frames + 1 ≤ R.frames ∧ 8 + (maxL + 11) + rm.locals ≤ R.locals) (hrc : rm.cells = 0) (hrs : rm.slots = 0) (hK : SK D cy s) (hP : va_P D vwCl wc H) (hD : va_D A wc) (hS : va_S A s.heap H locs) (hA : ∀ q, s.heap.size ≤ q → A q)  (hn : As.length = n) (hsize : ls.size = nL) (hstack : st0 = As.reverse ++ rest) (hW : (rest.map fun v => v.category).sum ≤ 8) (hdg : decode cc pc = .ok (.invokestatic index, 3)) (hf : cells ≤ R.cells ∧ slots ≤ R.slots)
    (kk : ∀ (H1 : Heap) (locs1 : List Loc), va_P D vwCl w1 H1 → va_D A w1 → va_S A s.heap H1 locs1 → W p l e R s m args below meth c H1 locs1 cells slots Q (F0 m (pc + 3) ls (rest))) : W p l e R s m args below meth c H locs cells slots Q (F0 m pc ls st0) := by
  subst hstack
  exact va_callv (va_runS S hM (va_cwS2 n S.2.2.2.2 hT hw hrc hrs hd hR) ⟨wr_blind, fun U hU hW' => ⟨rfl, by rw [hU]; exact hP, hK.warm hW', hD, fun q hq => hA q (Nat.le_trans hS.1 (by rw [← hU]; exact hq))⟩⟩ rfl hn hsize rfl (lv_room hW) hdg ⟨hf.1, hf.2⟩) hS (fun q _ h => h) (fun q h => h) (fun u t H1 locs1 ht _ _ hB _ _ hS1 => by exact kk H1 locs1 (by rw [← ht]; exact hB.1) hB.2 hS1)
end CL
