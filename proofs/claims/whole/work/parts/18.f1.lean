noncomputable def f_J6_bitCount_0f7a4 (p0 : Int32) : Option (Int32) :=
  some ((((((((p0 - (((p0.toUInt32 >>> ((1 : Int32).toUInt32 &&& Int32.toUInt32 31)).toInt32) &&& 1431655765)) &&& 858993459) + ((((p0 - (((p0.toUInt32 >>> ((1 : Int32).toUInt32 &&& Int32.toUInt32 31)).toInt32) &&& 1431655765)).toUInt32 >>> ((2 : Int32).toUInt32 &&& Int32.toUInt32 31)).toInt32) &&& 858993459)) + (((((p0 - (((p0.toUInt32 >>> ((1 : Int32).toUInt32 &&& Int32.toUInt32 31)).toInt32) &&& 1431655765)) &&& 858993459) + ((((p0 - (((p0.toUInt32 >>> ((1 : Int32).toUInt32 &&& Int32.toUInt32 31)).toInt32) &&& 1431655765)).toUInt32 >>> ((2 : Int32).toUInt32 &&& Int32.toUInt32 31)).toInt32) &&& 858993459)).toUInt32 >>> ((4 : Int32).toUInt32 &&& Int32.toUInt32 31)).toInt32)) &&& 252645135) + (((((((p0 - (((p0.toUInt32 >>> ((1 : Int32).toUInt32 &&& Int32.toUInt32 31)).toInt32) &&& 1431655765)) &&& 858993459) + ((((p0 - (((p0.toUInt32 >>> ((1 : Int32).toUInt32 &&& Int32.toUInt32 31)).toInt32) &&& 1431655765)).toUInt32 >>> ((2 : Int32).toUInt32 &&& Int32.toUInt32 31)).toInt32) &&& 858993459)) + (((((p0 - (((p0.toUInt32 >>> ((1 : Int32).toUInt32 &&& Int32.toUInt32 31)).toInt32) &&& 1431655765)) &&& 858993459) + ((((p0 - (((p0.toUInt32 >>> ((1 : Int32).toUInt32 &&& Int32.toUInt32 31)).toInt32) &&& 1431655765)).toUInt32 >>> ((2 : Int32).toUInt32 &&& Int32.toUInt32 31)).toInt32) &&& 858993459)).toUInt32 >>> ((4 : Int32).toUInt32 &&& Int32.toUInt32 31)).toInt32)) &&& 252645135).toUInt32 >>> ((8 : Int32).toUInt32 &&& Int32.toUInt32 31)).toInt32)) + ((((((((p0 - (((p0.toUInt32 >>> ((1 : Int32).toUInt32 &&& Int32.toUInt32 31)).toInt32) &&& 1431655765)) &&& 858993459) + ((((p0 - (((p0.toUInt32 >>> ((1 : Int32).toUInt32 &&& Int32.toUInt32 31)).toInt32) &&& 1431655765)).toUInt32 >>> ((2 : Int32).toUInt32 &&& Int32.toUInt32 31)).toInt32) &&& 858993459)) + (((((p0 - (((p0.toUInt32 >>> ((1 : Int32).toUInt32 &&& Int32.toUInt32 31)).toInt32) &&& 1431655765)) &&& 858993459) + ((((p0 - (((p0.toUInt32 >>> ((1 : Int32).toUInt32 &&& Int32.toUInt32 31)).toInt32) &&& 1431655765)).toUInt32 >>> ((2 : Int32).toUInt32 &&& Int32.toUInt32 31)).toInt32) &&& 858993459)).toUInt32 >>> ((4 : Int32).toUInt32 &&& Int32.toUInt32 31)).toInt32)) &&& 252645135) + (((((((p0 - (((p0.toUInt32 >>> ((1 : Int32).toUInt32 &&& Int32.toUInt32 31)).toInt32) &&& 1431655765)) &&& 858993459) + ((((p0 - (((p0.toUInt32 >>> ((1 : Int32).toUInt32 &&& Int32.toUInt32 31)).toInt32) &&& 1431655765)).toUInt32 >>> ((2 : Int32).toUInt32 &&& Int32.toUInt32 31)).toInt32) &&& 858993459)) + (((((p0 - (((p0.toUInt32 >>> ((1 : Int32).toUInt32 &&& Int32.toUInt32 31)).toInt32) &&& 1431655765)) &&& 858993459) + ((((p0 - (((p0.toUInt32 >>> ((1 : Int32).toUInt32 &&& Int32.toUInt32 31)).toInt32) &&& 1431655765)).toUInt32 >>> ((2 : Int32).toUInt32 &&& Int32.toUInt32 31)).toInt32) &&& 858993459)).toUInt32 >>> ((4 : Int32).toUInt32 &&& Int32.toUInt32 31)).toInt32)) &&& 252645135).toUInt32 >>> ((8 : Int32).toUInt32 &&& Int32.toUInt32 31)).toInt32)).toUInt32 >>> ((16 : Int32).toUInt32 &&& Int32.toUInt32 31)).toInt32)) &&& 63)
noncomputable def f_X8_begin_B49 (la_firstStrong : Nat → Int32) (la_firstLane : Nat → Int32) (no_dead : Int32) (no_wet : Int32) (no_drawn : Int32) (no_strong : Nat → Int32) (no_at : Nat → Int32) (no_wounds : Nat → Int32) : Option (Int32 × Int32 × Int32 × (Nat → Int32) × (Nat → Int32) × (Nat → Int32)) :=
  some (0, 0, 0, no_strong, no_at, no_wounds)
noncomputable def f_X8_begin_b31 (la_firstStrong : Nat → Int32) (la_firstLane : Nat → Int32) (no_dead : Int32) (no_wet : Int32) (no_drawn : Int32) (no_strong : Nat → Int32) (no_at : Nat → Int32) (k31 : Int32 → (Nat → Int32) → Option (Int32 × Int32 × Int32 × (Nat → Int32) × (Nat → Int32) × (Nat → Int32))) (x2 : Int32) (no_wounds : Nat → Int32) : Option (Int32 × Int32 × Int32 × (Nat → Int32) × (Nat → Int32) × (Nat → Int32)) :=
  (if 5 ≤ x2 then
  f_X8_begin_B49 la_firstStrong la_firstLane no_dead no_wet no_drawn no_strong no_at no_wounds
  else
  gIn x2 5 <|
  k31 (x2 + 1) (upd no_wounds x2.toNatClampNeg 0))
noncomputable def f_X8_begin_L31 (la_firstStrong : Nat → Int32) (la_firstLane : Nat → Int32) (no_dead : Int32) (no_wet : Int32) (no_drawn : Int32) (no_strong : Nat → Int32) (no_at : Nat → Int32) : Nat → Int32 → (Nat → Int32) → Option (Int32 × Int32 × Int32 × (Nat → Int32) × (Nat → Int32) × (Nat → Int32))
  | 0 => fun _ _ => none
  | n + 1 => f_X8_begin_b31 la_firstStrong la_firstLane no_dead no_wet no_drawn no_strong no_at (f_X8_begin_L31 la_firstStrong la_firstLane no_dead no_wet no_drawn no_strong no_at n)
noncomputable def f_X8_begin (la_firstStrong : Nat → Int32) (la_firstLane : Nat → Int32) (no_dead : Int32) (no_wet : Int32) (no_drawn : Int32) (no_strong : Nat → Int32) (no_at : Nat → Int32) (no_wounds : Nat → Int32) : Option (Int32 × Int32 × Int32 × (Nat → Int32) × (Nat → Int32) × (Nat → Int32)) :=
  f_X8_begin_L31 la_firstStrong la_firstLane no_dead no_wet no_drawn (va_cpy la_firstStrong no_strong ((0 : Int32).toNatClampNeg) ((0 : Int32).toNatClampNeg) ((6 : Int32).toNatClampNeg)) (va_cpy la_firstLane no_at ((0 : Int32).toNatClampNeg) ((0 : Int32).toNatClampNeg) ((5 : Int32).toNatClampNeg)) fuelN 0 no_wounds
noncomputable def f_X8_copyOf (no_dead : Int32) (no_wet : Int32) (no_drawn : Int32) (no_strong : Nat → Int32) (no_at : Nat → Int32) (no_wounds : Nat → Int32) (so_dead : Int32) (so_wet : Int32) (so_drawn : Int32) (so_strong : Nat → Int32) (so_at : Nat → Int32) (so_wounds : Nat → Int32) : Option (Int32 × Int32 × Int32 × (Nat → Int32) × (Nat → Int32) × (Nat → Int32)) :=
  some (so_dead, so_wet, so_drawn, va_cpy so_strong no_strong ((0 : Int32).toNatClampNeg) ((0 : Int32).toNatClampNeg) ((6 : Int32).toNatClampNeg), va_cpy so_at no_at ((0 : Int32).toNatClampNeg) ((0 : Int32).toNatClampNeg) ((5 : Int32).toNatClampNeg), va_cpy so_wounds no_wounds ((0 : Int32).toNatClampNeg) ((0 : Int32).toNatClampNeg) ((5 : Int32).toNatClampNeg))
noncomputable def f_X8_isDead (no_dead : Int32) (p1 : Int32) : Option (Int32) :=
  (if ((no_dead >>> (p1 &&& 31)) &&& 1) = 1 then
  some (1)
  else
  some (0))
noncomputable def f_X8_livingIn_B44 (k5 : Int32 → Int32 → Option (Int32)) (no_dead : Int32) (no_at : Nat → Int32) (x1 : Int32) (x2 : Int32) (x3 : Int32) (x4 : Int32) : Option (Int32) :=
  k5 x3 (x4 + 1)
noncomputable def f_X8_livingIn_b5 (no_dead : Int32) (no_at : Nat → Int32) (x1 : Int32) (x2 : Int32) (k5 : Int32 → Int32 → Option (Int32)) (x3 : Int32) (x4 : Int32) : Option (Int32) :=
  (if x2 ≤ x4 then
  some (x3)
  else
  (if 5 ≤ x4 then
  some (x3)
  else
  gIn x4 5 <|
  (if (no_at x4.toNatClampNeg) = x1 then
  bd1 (f_X8_isDead no_dead x4) fun r_2 =>
  (if r_2 = 0 then
  f_X8_livingIn_B44 k5 no_dead no_at x1 x2 (x3 ||| ((1 : Int32) <<< (x4 &&& 31))) x4
  else
  f_X8_livingIn_B44 k5 no_dead no_at x1 x2 x3 x4)
  else
  f_X8_livingIn_B44 k5 no_dead no_at x1 x2 x3 x4)))
noncomputable def f_X8_livingIn_L5 (no_dead : Int32) (no_at : Nat → Int32) (x1 : Int32) (x2 : Int32) : Nat → Int32 → Int32 → Option (Int32)
  | 0 => fun _ _ => none
  | n + 1 => f_X8_livingIn_b5 no_dead no_at x1 x2 (f_X8_livingIn_L5 no_dead no_at x1 x2 n)
noncomputable def f_X8_livingIn (no_dead : Int32) (no_at : Nat → Int32) (p1 : Int32) (p2 : Int32) : Option (Int32) :=
  f_X8_livingIn_L5 no_dead no_at p1 p2 fuelN 0 0
noncomputable def f_X2_clear_b65 (la_lanes : Int32) (la_deep : Int32) (la_lanesTold : Int32) (la_beasts : Int32) (la_cities : Int32) (la_passes : Int32) (la_turned : Int32) (la_who : Nat → Int32) (la_firstStrong : Nat → Int32) (k65 : Int32 → (Nat → Int32) → Option (Int32 × Int32 × Int32 × Int32 × Int32 × Int32 × Int32 × (Nat → Int32) × (Nat → Int32) × (Nat → Int32))) (x1 : Int32) (la_passBetween : Nat → Int32) : Option (Int32 × Int32 × Int32 × Int32 × Int32 × Int32 × Int32 × (Nat → Int32) × (Nat → Int32) × (Nat → Int32)) :=
  (if 36 ≤ x1 then
  some (la_lanes, la_deep, la_lanesTold, la_beasts, la_cities, la_passes, la_turned, la_who, la_firstStrong, la_passBetween)
  else
  gIn x1 36 <|
  k65 (x1 + 1) (upd la_passBetween x1.toNatClampNeg 0))
noncomputable def f_X2_clear_L65 (la_lanes : Int32) (la_deep : Int32) (la_lanesTold : Int32) (la_beasts : Int32) (la_cities : Int32) (la_passes : Int32) (la_turned : Int32) (la_who : Nat → Int32) (la_firstStrong : Nat → Int32) : Nat → Int32 → (Nat → Int32) → Option (Int32 × Int32 × Int32 × Int32 × Int32 × Int32 × Int32 × (Nat → Int32) × (Nat → Int32) × (Nat → Int32))
  | 0 => fun _ _ => none
  | n + 1 => f_X2_clear_b65 la_lanes la_deep la_lanesTold la_beasts la_cities la_passes la_turned la_who la_firstStrong (f_X2_clear_L65 la_lanes la_deep la_lanesTold la_beasts la_cities la_passes la_turned la_who la_firstStrong n)
noncomputable def f_X2_clear_B63 (la_lanes : Int32) (la_deep : Int32) (la_lanesTold : Int32) (la_beasts : Int32) (la_cities : Int32) (la_passes : Int32) (la_turned : Int32) (la_who : Nat → Int32) (la_firstStrong : Nat → Int32) (la_passBetween : Nat → Int32) : Option (Int32 × Int32 × Int32 × Int32 × Int32 × Int32 × Int32 × (Nat → Int32) × (Nat → Int32) × (Nat → Int32)) :=
  f_X2_clear_L65 la_lanes la_deep la_lanesTold la_beasts la_cities la_passes la_turned la_who la_firstStrong fuelN 0 la_passBetween
noncomputable def f_X2_clear_b37 (la_lanes : Int32) (la_deep : Int32) (la_lanesTold : Int32) (la_beasts : Int32) (la_cities : Int32) (la_passes : Int32) (la_turned : Int32) (la_passBetween : Nat → Int32) (k37 : Int32 → (Nat → Int32) → (Nat → Int32) → Option (Int32 × Int32 × Int32 × Int32 × Int32 × Int32 × Int32 × (Nat → Int32) × (Nat → Int32) × (Nat → Int32))) (x1 : Int32) (la_who : Nat → Int32) (la_firstStrong : Nat → Int32) : Option (Int32 × Int32 × Int32 × Int32 × Int32 × Int32 × Int32 × (Nat → Int32) × (Nat → Int32) × (Nat → Int32)) :=
  (if 6 ≤ x1 then
  f_X2_clear_B63 la_lanes la_deep la_lanesTold la_beasts la_cities la_passes la_turned la_who la_firstStrong la_passBetween
  else
  gIn x1 6 <|
  gIn x1 6 <|
  k37 (x1 + 1) (upd la_who x1.toNatClampNeg 0) (upd la_firstStrong x1.toNatClampNeg 0))
noncomputable def f_X2_clear_L37 (la_lanes : Int32) (la_deep : Int32) (la_lanesTold : Int32) (la_beasts : Int32) (la_cities : Int32) (la_passes : Int32) (la_turned : Int32) (la_passBetween : Nat → Int32) : Nat → Int32 → (Nat → Int32) → (Nat → Int32) → Option (Int32 × Int32 × Int32 × Int32 × Int32 × Int32 × Int32 × (Nat → Int32) × (Nat → Int32) × (Nat → Int32))
  | 0 => fun _ _ _ => none
  | n + 1 => f_X2_clear_b37 la_lanes la_deep la_lanesTold la_beasts la_cities la_passes la_turned la_passBetween (f_X2_clear_L37 la_lanes la_deep la_lanesTold la_beasts la_cities la_passes la_turned la_passBetween n)
noncomputable def f_X2_clear (la_lanes : Int32) (la_deep : Int32) (la_lanesTold : Int32) (la_beasts : Int32) (la_cities : Int32) (la_passes : Int32) (la_turned : Int32) (la_who : Nat → Int32) (la_firstStrong : Nat → Int32) (la_passBetween : Nat → Int32) : Option (Int32 × Int32 × Int32 × Int32 × Int32 × Int32 × Int32 × (Nat → Int32) × (Nat → Int32) × (Nat → Int32)) :=
  f_X2_clear_L37 0 0 0 0 0 0 0 la_passBetween fuelN 0 la_who la_firstStrong
noncomputable def f_X2_copyOf (la_lanes : Int32) (la_deep : Int32) (la_lanesTold : Int32) (la_beasts : Int32) (la_cities : Int32) (la_passes : Int32) (la_turned : Int32) (la_who : Nat → Int32) (la_firstStrong : Nat → Int32) (la_kind : Nat → Int32) (la_firstLane : Nat → Int32) (la_mood : Nat → Int32) (la_price : Nat → Int32) (la_passBetween : Nat → Int32) (lo_lanes : Int32) (lo_deep : Int32) (lo_lanesTold : Int32) (lo_beasts : Int32) (lo_cities : Int32) (lo_passes : Int32) (lo_turned : Int32) (lo_who : Nat → Int32) (lo_firstStrong : Nat → Int32) (lo_kind : Nat → Int32) (lo_firstLane : Nat → Int32) (lo_mood : Nat → Int32) (lo_price : Nat → Int32) (lo_passBetween : Nat → Int32) : Option (Int32 × Int32 × Int32 × Int32 × Int32 × Int32 × Int32 × (Nat → Int32) × (Nat → Int32) × (Nat → Int32) × (Nat → Int32) × (Nat → Int32) × (Nat → Int32) × (Nat → Int32)) :=
  some (lo_lanes, lo_deep, lo_lanesTold, lo_beasts, lo_cities, lo_passes, lo_turned, va_cpy lo_who la_who ((0 : Int32).toNatClampNeg) ((0 : Int32).toNatClampNeg) ((6 : Int32).toNatClampNeg), va_cpy lo_firstStrong la_firstStrong ((0 : Int32).toNatClampNeg) ((0 : Int32).toNatClampNeg) ((6 : Int32).toNatClampNeg), va_cpy lo_kind la_kind ((0 : Int32).toNatClampNeg) ((0 : Int32).toNatClampNeg) ((5 : Int32).toNatClampNeg), va_cpy lo_firstLane la_firstLane ((0 : Int32).toNatClampNeg) ((0 : Int32).toNatClampNeg) ((5 : Int32).toNatClampNeg), va_cpy lo_mood la_mood ((0 : Int32).toNatClampNeg) ((0 : Int32).toNatClampNeg) ((5 : Int32).toNatClampNeg), va_cpy lo_price la_price ((0 : Int32).toNatClampNeg) ((0 : Int32).toNatClampNeg) ((5 : Int32).toNatClampNeg), va_cpy lo_passBetween la_passBetween ((0 : Int32).toNatClampNeg) ((0 : Int32).toNatClampNeg) ((36 : Int32).toNatClampNeg))
noncomputable def f_X2_isTold (la_lanes : Int32) : Option (Int32) :=
  (if la_lanes ≤ 0 then
  some (0)
  else
  some (1))
noncomputable def f_X2_hasLane (la_lanes : Int32) (p1 : Int32) : Option (Int32) :=
  (if p1 < 0 then
  some (0)
  else
  (if la_lanes ≤ p1 then
  some (0)
  else
  some (1)))
noncomputable def f_X2_hasBeast (la_beasts : Int32) (p1 : Int32) : Option (Int32) :=
  (if p1 < 0 then
  some (0)
  else
  (if la_beasts ≤ p1 then
  some (0)
  else
  some (1)))
noncomputable def f_X2_hasCity (la_cities : Int32) (p1 : Int32) : Option (Int32) :=
  (if p1 < 0 then
  some (0)
  else
  (if la_cities ≤ p1 then
  some (0)
  else
  some (1)))
noncomputable def f_X2_isLaneTold (la_lanesTold : Int32) (p1 : Int32) : Option (Int32) :=
  (if ((la_lanesTold >>> (p1 &&& 31)) &&& 1) = 1 then
  some (1)
  else
  some (0))
noncomputable def f_X2_hasTurned (la_turned : Int32) (p1 : Int32) : Option (Int32) :=
  (if ((la_turned >>> (p1 &&& 31)) &&& 1) = 1 then
  some (1)
  else
  some (0))
noncomputable def f_X2_lossBetween (la_cities : Int32) (la_passBetween : Nat → Int32) (p1 : Int32) (p2 : Int32) : Option (Int32) :=
  bd1 (f_X2_hasCity la_cities p1) fun r_1 =>
  (if r_1 = 0 then
  some ((-1))
  else
  bd1 (f_X2_hasCity la_cities p2) fun r_4 =>
  (if r_4 = 0 then
  some ((-1))
  else
  gIn ((p1 * 6) + p2) 36 <|
  some ((la_passBetween ((p1 * 6) + p2).toNatClampNeg) - 1)))
noncomputable def f_X2_tellLane (la_lanes : Int32) (la_lanesTold : Int32) (la_who : Nat → Int32) (la_firstStrong : Nat → Int32) (p1 : Int32) (p2 : Int32) (p3 : Int32) : Option (Int32 × (Nat → Int32) × (Nat → Int32)) :=
  bd1 (f_X2_hasLane la_lanes p1) fun r_1 =>
  (if r_1 = 0 then
  some (la_lanesTold, la_who, la_firstStrong)
  else
  gIn p1 6 <|
  gIn p1 6 <|
  some (la_lanesTold ||| ((1 : Int32) <<< (p1 &&& 31)), upd la_who p1.toNatClampNeg p2, upd la_firstStrong p1.toNatClampNeg p3))
noncomputable def f_X2_addBeast (la_beasts : Int32) (la_kind : Nat → Int32) (la_firstLane : Nat → Int32) (la_mood : Nat → Int32) (la_price : Nat → Int32) (p1 : Int32) (p2 : Int32) (p3 : Int32) (p4 : Int32) : Option (Int32 × (Nat → Int32) × (Nat → Int32) × (Nat → Int32) × (Nat → Int32)) :=
  (if 5 ≤ la_beasts then
  some (la_beasts, la_kind, la_firstLane, la_mood, la_price)
  else
  gIn la_beasts 5 <|
  gIn la_beasts 5 <|
  gIn la_beasts 5 <|
  gIn la_beasts 5 <|
  some (la_beasts + 1, upd la_kind la_beasts.toNatClampNeg p1, upd la_firstLane la_beasts.toNatClampNeg p2, upd la_mood la_beasts.toNatClampNeg p3, upd la_price la_beasts.toNatClampNeg p4))
noncomputable def f_X2_addPass (la_cities : Int32) (la_passes : Int32) (la_passBetween : Nat → Int32) (p1 : Int32) (p2 : Int32) (p3 : Int32) : Option (Int32 × (Nat → Int32)) :=
  bd1 (f_X2_hasCity la_cities p1) fun r_1 =>
  (if r_1 = 0 then
  some (la_passes, la_passBetween)
  else
  bd1 (f_X2_hasCity la_cities p2) fun r_4 =>
  (if r_4 = 0 then
  some (la_passes, la_passBetween)
  else
  gIn ((p1 * 6) + p2) 36 <|
  gIn ((p2 * 6) + p1) 36 <|
  some (la_passes + 1, upd (upd la_passBetween ((p1 * 6) + p2).toNatClampNeg (p3 + 1)) ((p2 * 6) + p1).toNatClampNeg (p3 + 1))))
noncomputable def f_X4_firstForce (p0 : Int32) : Option (Int32) :=
  (if p0 = 1 then
  some (5)
  else
  (if p0 = 2 then
  some (30)
  else
  (if p0 = 3 then
  some (25)
  else
  some (20))))
noncomputable def f_X4_holdBy (p0 : Int32) (p1 : Int32) (p2 : Int32) : Option (Int32) :=
  (if p0 = 1 then
  some (if (0 : Int32) < (p1 - 20) then p1 - 20 else 0)
  else
  (if p0 = 2 then
  some (if (p1 + 20) < 100 then p1 + 20 else 100)
  else
  (if p0 = 3 then
  (if p2 = 0 then
  some (p1)
  else
  some (p1 / 2))
  else
  some (p1))))
noncomputable def f_X4_forceOf (la_kind : Nat → Int32) (no_dead : Int32) (no_wounds : Nat → Int32) (p1 : Int32) : Option (Int32) :=
  bd1 (f_X8_isDead no_dead p1) fun r_1 =>
  (if r_1 = 0 then
  gIn p1 5 <|
  bd1 (f_X4_firstForce  (la_kind p1.toNatClampNeg)) fun r_5 =>
  gIn p1 5 <|
  some (if (0 : Int32) < (r_5 - (no_wounds p1.toNatClampNeg)) then r_5 - (no_wounds p1.toNatClampNeg) else 0)
  else
  some (0))
noncomputable def f_X4_holdOf (la_kind : Nat → Int32) (la_mood : Nat → Int32) (no_wet : Int32) (p1 : Int32) : Option (Int32) :=
  gIn p1 5 <|
  gIn p1 5 <|
  bd1 (f_X4_holdBy  (la_kind p1.toNatClampNeg) (la_mood p1.toNatClampNeg) no_wet) fun r_3 =>
  some (r_3)
noncomputable def f_X4_foeHarm (p0 : Int32) (p1 : Int32) (p2 : Int32) (p3 : Int32) : Option (Int32) :=
  (if p2 = 1 then
  (if p0 = 2 then
  some (10)
  else
  some (0))
  else
  (if p2 = 2 then
  (if p1 ≤ p3 then
  some (p1 / 2)
  else
  some (p3))
  else
  (if p2 = 3 then
  (if 8 ≤ p3 then
  some (if (0 : Int32) < (p1 - p3) then p1 - p3 else 0)
  else
  some (15))
  else
  some (0))))
noncomputable def f_X4_ownHarm (p0 : Int32) (p1 : Int32) (p2 : Int32) (p3 : Int32) : Option (Int32) :=
  (if p2 = 1 then
  (if p0 = 2 then
  some (0)
  else
  some (p1))
  else
  (if p2 = 2 then
  (if p1 ≤ p3 then
  some (p1)
  else
  some (0))
  else
  some (0)))
noncomputable def f_X4_turningHarm (p0 : Int32) : Option (Int32) :=
  some (p0 / 2)
noncomputable def f_X4_harmIn (la_who : Nat → Int32) (la_kind : Nat → Int32) (no_dead : Int32) (no_strong : Nat → Int32) (no_wounds : Nat → Int32) (p1 : Int32) (p2 : Int32) (p3 : Int32) : Option (Int32) :=
  bd1 (f_X8_isDead no_dead p1) fun r_1 =>
  (if r_1 = 0 then
  bd1 (f_X4_forceOf la_kind no_dead no_wounds p1) fun r_4 =>
  (if p3 = 0 then
  gIn p1 5 <|
  gIn p2 6 <|
  gIn p2 6 <|
  bd1 (f_X4_foeHarm  (la_kind p1.toNatClampNeg) r_4 (la_who p2.toNatClampNeg) (no_strong p2.toNatClampNeg)) fun r_9 =>
  some (r_9)
  else
  gIn p1 5 <|
  gIn p2 6 <|
  gIn p2 6 <|
  bd1 (f_X4_ownHarm  (la_kind p1.toNatClampNeg) r_4 (la_who p2.toNatClampNeg) (no_strong p2.toNatClampNeg)) fun r_14 =>
  some (r_14))
  else
  some (0))
noncomputable def f_X4_power_b5 (la_deep : Int32) (x1 : Int32) (k5 : Int64 → Int32 → Option (Int64)) (x2 : Int64) (x4 : Int32) : Option (Int64) :=
  (if la_deep ≤ x4 then
  some (x2)
  else
  k5 (x2 * x1.toInt64) (x4 + 1))
noncomputable def f_X4_power_L5 (la_deep : Int32) (x1 : Int32) : Nat → Int64 → Int32 → Option (Int64)
  | 0 => fun _ _ => none
  | n + 1 => f_X4_power_b5 la_deep x1 (f_X4_power_L5 la_deep x1 n)
noncomputable def f_X4_power (la_deep : Int32) (p1 : Int32) : Option (Int64) :=
  f_X4_power_L5 la_deep p1 fuelN 1 0
noncomputable def f_X4_full (la_deep : Int32) : Option (Int64) :=
  bd1 (f_X4_power la_deep (100 : Int32)) fun r_1 =>
  some (r_1)
noncomputable def f_X4_acrossOverFull (la_deep : Int32) (la_kind : Nat → Int32) (la_mood : Nat → Int32) (no_dead : Int32) (no_wet : Int32) (p1 : Int32) : Option (Int64) :=
  bd1 (f_X8_isDead no_dead p1) fun r_1 =>
  (if r_1 = 0 then
  bd1 (f_X4_holdOf la_kind la_mood no_wet p1) fun r_4 =>
  bd1 (f_X4_power la_deep r_4) fun r_6 =>
  some (r_6)
  else
  some (0))
noncomputable def f_X4_meanIn_B32 (la_deep : Int32) (la_who : Nat → Int32) (la_kind : Nat → Int32) (la_mood : Nat → Int32) (no_dead : Int32) (no_wet : Int32) (no_strong : Nat → Int32) (no_wounds : Nat → Int32) (x1 : Int32) (x2 : Int32) (x3 : Int32) (x4 : Int64) (t0 : Int64) : Option (Int64) :=
  bd1 (f_X4_harmIn la_who la_kind no_dead no_strong no_wounds x1 x2 x3) fun r_3 =>
  some ((x4 * r_3.toInt64) + t0)
noncomputable def f_X4_meanIn (la_deep : Int32) (la_who : Nat → Int32) (la_kind : Nat → Int32) (la_mood : Nat → Int32) (no_dead : Int32) (no_wet : Int32) (no_strong : Nat → Int32) (no_wounds : Nat → Int32) (p1 : Int32) (p2 : Int32) (p3 : Int32) : Option (Int64) :=
  bd1 (f_X4_acrossOverFull la_deep la_kind la_mood no_dead no_wet p1) fun r_1 =>
  (if p3 = 0 then
  f_X4_meanIn_B32 la_deep la_who la_kind la_mood no_dead no_wet no_strong no_wounds p1 p2 p3 r_1 0
  else
  bd1 (f_X4_full la_deep) fun r_5 =>
  bd1 (f_X4_forceOf la_kind no_dead no_wounds p1) fun r_7 =>
  bd1 (f_X4_turningHarm  r_7) fun r_9 =>
  f_X4_meanIn_B32 la_deep la_who la_kind la_mood no_dead no_wet no_strong no_wounds p1 p2 p3 r_1 ((r_5 - r_1) * r_9.toInt64))
noncomputable def f_X4_worthBy (la_deep : Int32) (la_kind : Nat → Int32) (no_dead : Int32) (no_wounds : Nat → Int32) (p1 : Int32) (p2 : Int32) (p3 : Int32) (p4 : Int32) : Option (Int64) :=
  bd1 (f_X8_isDead no_dead p1) fun r_1 =>
  (if r_1 = 0 then
  gIn p1 5 <|
  bd1 (f_X4_forceOf la_kind no_dead no_wounds p1) fun r_5 =>
  bd1 (f_X4_power la_deep p4) fun r_7 =>
  bd1 (f_X4_foeHarm  (la_kind p1.toNatClampNeg) r_5 p2 p3) fun r_9 =>
  bd1 (f_X4_ownHarm  (la_kind p1.toNatClampNeg) r_5 p2 p3) fun r_11 =>
  bd1 (f_X4_full la_deep) fun r_13 =>
  bd1 (f_X4_turningHarm  r_5) fun r_15 =>
  some ((r_7 * ((r_9 - r_11).toInt64)) - ((r_13 - r_7) * r_15.toInt64))
  else
  some (0))
noncomputable def f_X4_worthIn (la_deep : Int32) (la_who : Nat → Int32) (la_kind : Nat → Int32) (la_mood : Nat → Int32) (no_dead : Int32) (no_wet : Int32) (no_strong : Nat → Int32) (no_wounds : Nat → Int32) (p1 : Int32) (p2 : Int32) : Option (Int64) :=
  gIn p2 6 <|
  gIn p2 6 <|
  bd1 (f_X4_holdOf la_kind la_mood no_wet p1) fun r_3 =>
  bd1 (f_X4_worthBy la_deep la_kind no_dead no_wounds p1 (la_who p2.toNatClampNeg) (no_strong p2.toNatClampNeg) r_3) fun r_5 =>
  some (r_5)
noncomputable def f_X4_worthInOpen (la_deep : Int32) (la_kind : Nat → Int32) (la_mood : Nat → Int32) (no_dead : Int32) (no_wet : Int32) (no_wounds : Nat → Int32) (p1 : Int32) : Option (Int64) :=
  bd1 (f_X4_holdOf la_kind la_mood no_wet p1) fun r_1 =>
  bd1 (f_X4_worthBy la_deep la_kind no_dead no_wounds p1 (0 : Int32) (0 : Int32) r_1) fun r_3 =>
  some (r_3)
noncomputable def f_X4_sumOfMeans_b5 (la_deep : Int32) (la_beasts : Int32) (la_who : Nat → Int32) (la_kind : Nat → Int32) (la_mood : Nat → Int32) (no_dead : Int32) (no_wet : Int32) (no_strong : Nat → Int32) (no_at : Nat → Int32) (no_wounds : Nat → Int32) (x1 : Int32) (k5 : Int64 → Int32 → Option (Int64)) (x2 : Int64) (x4 : Int32) : Option (Int64) :=
  (if la_beasts ≤ x4 then
  some (x2)
  else
  gIn x4 5 <|
  bd1 (f_X4_meanIn la_deep la_who la_kind la_mood no_dead no_wet no_strong no_wounds x4 (no_at x4.toNatClampNeg) x1) fun r_2 =>
  k5 (x2 + r_2) (x4 + 1))
noncomputable def f_X4_sumOfMeans_L5 (la_deep : Int32) (la_beasts : Int32) (la_who : Nat → Int32) (la_kind : Nat → Int32) (la_mood : Nat → Int32) (no_dead : Int32) (no_wet : Int32) (no_strong : Nat → Int32) (no_at : Nat → Int32) (no_wounds : Nat → Int32) (x1 : Int32) : Nat → Int64 → Int32 → Option (Int64)
  | 0 => fun _ _ => none
  | n + 1 => f_X4_sumOfMeans_b5 la_deep la_beasts la_who la_kind la_mood no_dead no_wet no_strong no_at no_wounds x1 (f_X4_sumOfMeans_L5 la_deep la_beasts la_who la_kind la_mood no_dead no_wet no_strong no_at no_wounds x1 n)
noncomputable def f_X4_sumOfMeans (la_deep : Int32) (la_beasts : Int32) (la_who : Nat → Int32) (la_kind : Nat → Int32) (la_mood : Nat → Int32) (no_dead : Int32) (no_wet : Int32) (no_strong : Nat → Int32) (no_at : Nat → Int32) (no_wounds : Nat → Int32) (p1 : Int32) : Option (Int64) :=
  f_X4_sumOfMeans_L5 la_deep la_beasts la_who la_kind la_mood no_dead no_wet no_strong no_at no_wounds p1 fuelN 0 0
noncomputable def f_X4_laneOfMostWorth_B46 (k12 : Int32 → Int64 → Int32 → Option (Int32)) (la_lanes : Int32) (la_deep : Int32) (la_who : Nat → Int32) (la_kind : Nat → Int32) (la_mood : Nat → Int32) (no_dead : Int32) (no_wet : Int32) (no_strong : Nat → Int32) (no_wounds : Nat → Int32) (x1 : Int32) (x2 : Int32) (x3 : Int64) (x5 : Int32) : Option (Int32) :=
  k12 x2 x3 (x5 + 1)
noncomputable def f_X4_laneOfMostWorth_b12 (la_lanes : Int32) (la_deep : Int32) (la_who : Nat → Int32) (la_kind : Nat → Int32) (la_mood : Nat → Int32) (no_dead : Int32) (no_wet : Int32) (no_strong : Nat → Int32) (no_wounds : Nat → Int32) (x1 : Int32) (k12 : Int32 → Int64 → Int32 → Option (Int32)) (x2 : Int32) (x3 : Int64) (x5 : Int32) : Option (Int32) :=
  (if la_lanes ≤ x5 then
  some (x2)
  else
  bd1 (f_X4_worthIn la_deep la_who la_kind la_mood no_dead no_wet no_strong no_wounds x1 x5) fun r_3 =>
  (if r_3 ≤ x3 then
  f_X4_laneOfMostWorth_B46 k12 la_lanes la_deep la_who la_kind la_mood no_dead no_wet no_strong no_wounds x1 x2 x3 x5
  else
  f_X4_laneOfMostWorth_B46 k12 la_lanes la_deep la_who la_kind la_mood no_dead no_wet no_strong no_wounds x1 x5 r_3 x5))
noncomputable def f_X4_laneOfMostWorth_L12 (la_lanes : Int32) (la_deep : Int32) (la_who : Nat → Int32) (la_kind : Nat → Int32) (la_mood : Nat → Int32) (no_dead : Int32) (no_wet : Int32) (no_strong : Nat → Int32) (no_wounds : Nat → Int32) (x1 : Int32) : Nat → Int32 → Int64 → Int32 → Option (Int32)
  | 0 => fun _ _ _ => none
  | n + 1 => f_X4_laneOfMostWorth_b12 la_lanes la_deep la_who la_kind la_mood no_dead no_wet no_strong no_wounds x1 (f_X4_laneOfMostWorth_L12 la_lanes la_deep la_who la_kind la_mood no_dead no_wet no_strong no_wounds x1 n)
noncomputable def f_X4_laneOfMostWorth (la_lanes : Int32) (la_deep : Int32) (la_who : Nat → Int32) (la_kind : Nat → Int32) (la_mood : Nat → Int32) (no_dead : Int32) (no_wet : Int32) (no_strong : Nat → Int32) (no_wounds : Nat → Int32) (p1 : Int32) : Option (Int32) :=
  bd1 (f_X4_worthIn la_deep la_who la_kind la_mood no_dead no_wet no_strong no_wounds p1 (0 : Int32)) fun r_1 =>
  f_X4_laneOfMostWorth_L12 la_lanes la_deep la_who la_kind la_mood no_dead no_wet no_strong no_wounds p1 fuelN 0 r_1 1
noncomputable def f_X4_beastOfMostOwnHarm_B52 (k8 : Int32 → Int64 → Int32 → Option (Int32)) (la_deep : Int32) (la_beasts : Int32) (la_who : Nat → Int32) (la_kind : Nat → Int32) (la_mood : Nat → Int32) (no_dead : Int32) (no_wet : Int32) (no_strong : Nat → Int32) (no_at : Nat → Int32) (no_wounds : Nat → Int32) (x1 : Int32) (x2 : Int64) (x4 : Int32) : Option (Int32) :=
  k8 x1 x2 (x4 + 1)
noncomputable def f_X4_beastOfMostOwnHarm_b8 (la_deep : Int32) (la_beasts : Int32) (la_who : Nat → Int32) (la_kind : Nat → Int32) (la_mood : Nat → Int32) (no_dead : Int32) (no_wet : Int32) (no_strong : Nat → Int32) (no_at : Nat → Int32) (no_wounds : Nat → Int32) (k8 : Int32 → Int64 → Int32 → Option (Int32)) (x1 : Int32) (x2 : Int64) (x4 : Int32) : Option (Int32) :=
  (if la_beasts ≤ x4 then
  some (x1)
  else
  gIn x4 5 <|
  bd1 (f_X4_meanIn la_deep la_who la_kind la_mood no_dead no_wet no_strong no_wounds x4 (no_at x4.toNatClampNeg) (1 : Int32)) fun r_2 =>
  (if r_2 ≤ x2 then
  f_X4_beastOfMostOwnHarm_B52 k8 la_deep la_beasts la_who la_kind la_mood no_dead no_wet no_strong no_at no_wounds x1 x2 x4
  else
  f_X4_beastOfMostOwnHarm_B52 k8 la_deep la_beasts la_who la_kind la_mood no_dead no_wet no_strong no_at no_wounds x4 r_2 x4))
noncomputable def f_X4_beastOfMostOwnHarm_L8 (la_deep : Int32) (la_beasts : Int32) (la_who : Nat → Int32) (la_kind : Nat → Int32) (la_mood : Nat → Int32) (no_dead : Int32) (no_wet : Int32) (no_strong : Nat → Int32) (no_at : Nat → Int32) (no_wounds : Nat → Int32) : Nat → Int32 → Int64 → Int32 → Option (Int32)
  | 0 => fun _ _ _ => none
  | n + 1 => f_X4_beastOfMostOwnHarm_b8 la_deep la_beasts la_who la_kind la_mood no_dead no_wet no_strong no_at no_wounds (f_X4_beastOfMostOwnHarm_L8 la_deep la_beasts la_who la_kind la_mood no_dead no_wet no_strong no_at no_wounds n)
noncomputable def f_X4_beastOfMostOwnHarm (la_deep : Int32) (la_beasts : Int32) (la_who : Nat → Int32) (la_kind : Nat → Int32) (la_mood : Nat → Int32) (no_dead : Int32) (no_wet : Int32) (no_strong : Nat → Int32) (no_at : Nat → Int32) (no_wounds : Nat → Int32) : Option (Int32) :=
  f_X4_beastOfMostOwnHarm_L8 la_deep la_beasts la_who la_kind la_mood no_dead no_wet no_strong no_at no_wounds fuelN (-2) 0 0
noncomputable def f_X4_beastBetterDead_B51 (k8 : Int32 → Int64 → Int32 → Option (Int32)) (la_deep : Int32) (la_beasts : Int32) (la_who : Nat → Int32) (la_kind : Nat → Int32) (la_mood : Nat → Int32) (no_dead : Int32) (no_wet : Int32) (no_strong : Nat → Int32) (no_at : Nat → Int32) (no_wounds : Nat → Int32) (x1 : Int32) (x2 : Int64) (x4 : Int32) : Option (Int32) :=
  k8 x1 x2 (x4 + 1)
noncomputable def f_X4_beastBetterDead_b8 (la_deep : Int32) (la_beasts : Int32) (la_who : Nat → Int32) (la_kind : Nat → Int32) (la_mood : Nat → Int32) (no_dead : Int32) (no_wet : Int32) (no_strong : Nat → Int32) (no_at : Nat → Int32) (no_wounds : Nat → Int32) (k8 : Int32 → Int64 → Int32 → Option (Int32)) (x1 : Int32) (x2 : Int64) (x4 : Int32) : Option (Int32) :=
  (if la_beasts ≤ x4 then
  some (x1)
  else
  gIn x4 5 <|
  bd1 (f_X4_worthIn la_deep la_who la_kind la_mood no_dead no_wet no_strong no_wounds x4 (no_at x4.toNatClampNeg)) fun r_2 =>
  (if x2 ≤ r_2 then
  f_X4_beastBetterDead_B51 k8 la_deep la_beasts la_who la_kind la_mood no_dead no_wet no_strong no_at no_wounds x1 x2 x4
  else
  f_X4_beastBetterDead_B51 k8 la_deep la_beasts la_who la_kind la_mood no_dead no_wet no_strong no_at no_wounds x4 r_2 x4))
noncomputable def f_X4_beastBetterDead_L8 (la_deep : Int32) (la_beasts : Int32) (la_who : Nat → Int32) (la_kind : Nat → Int32) (la_mood : Nat → Int32) (no_dead : Int32) (no_wet : Int32) (no_strong : Nat → Int32) (no_at : Nat → Int32) (no_wounds : Nat → Int32) : Nat → Int32 → Int64 → Int32 → Option (Int32)
  | 0 => fun _ _ _ => none
  | n + 1 => f_X4_beastBetterDead_b8 la_deep la_beasts la_who la_kind la_mood no_dead no_wet no_strong no_at no_wounds (f_X4_beastBetterDead_L8 la_deep la_beasts la_who la_kind la_mood no_dead no_wet no_strong no_at no_wounds n)
noncomputable def f_X4_beastBetterDead (la_deep : Int32) (la_beasts : Int32) (la_who : Nat → Int32) (la_kind : Nat → Int32) (la_mood : Nat → Int32) (no_dead : Int32) (no_wet : Int32) (no_strong : Nat → Int32) (no_at : Nat → Int32) (no_wounds : Nat → Int32) : Option (Int32) :=
  f_X4_beastBetterDead_L8 la_deep la_beasts la_who la_kind la_mood no_dead no_wet no_strong no_at no_wounds fuelN (-2) 0 0
noncomputable def f_X4_leastMood_b2 (la_deep : Int32) (la_who : Nat → Int32) (la_kind : Nat → Int32) (no_dead : Int32) (no_wet : Int32) (no_strong : Nat → Int32) (no_wounds : Nat → Int32) (x1 : Int32) (x2 : Int32) (k2 : Int32 → Option (Int32)) (x3 : Int32) : Option (Int32) :=
  (if 100 < x3 then
  some ((-2))
  else
  gIn x1 5 <|
  bd1 (f_X4_holdBy  (la_kind x1.toNatClampNeg) x3 no_wet) fun r_2 =>
  gIn x2 6 <|
  gIn x2 6 <|
  bd1 (f_X4_worthBy la_deep la_kind no_dead no_wounds x1 (la_who x2.toNatClampNeg) (no_strong x2.toNatClampNeg) r_2) fun r_6 =>
  (if r_6 ≤ 0 then
  k2 (x3 + 1)
  else
  some (x3)))
noncomputable def f_X4_leastMood_L2 (la_deep : Int32) (la_who : Nat → Int32) (la_kind : Nat → Int32) (no_dead : Int32) (no_wet : Int32) (no_strong : Nat → Int32) (no_wounds : Nat → Int32) (x1 : Int32) (x2 : Int32) : Nat → Int32 → Option (Int32)
  | 0 => fun _ => none
  | n + 1 => f_X4_leastMood_b2 la_deep la_who la_kind no_dead no_wet no_strong no_wounds x1 x2 (f_X4_leastMood_L2 la_deep la_who la_kind no_dead no_wet no_strong no_wounds x1 x2 n)
noncomputable def f_X4_leastMood (la_deep : Int32) (la_who : Nat → Int32) (la_kind : Nat → Int32) (no_dead : Int32) (no_wet : Int32) (no_strong : Nat → Int32) (no_wounds : Nat → Int32) (p1 : Int32) (p2 : Int32) : Option (Int32) :=
  f_X4_leastMood_L2 la_deep la_who la_kind no_dead no_wet no_strong no_wounds p1 p2 fuelN 0
noncomputable def f_X4_anyGainsByHorse_b2 (la_deep : Int32) (la_beasts : Int32) (la_kind : Nat → Int32) (la_mood : Nat → Int32) (no_dead : Int32) (no_wet : Int32) (no_wounds : Nat → Int32) (x1 : Int32) (k2 : Int32 → Option (Int32)) (x2 : Int32) : Option (Int32) :=
  (if la_beasts ≤ x2 then
  some (0)
  else
  bd1 (f_X4_holdOf la_kind la_mood no_wet x2) fun r_1 =>
  bd1 (f_X4_worthBy la_deep la_kind no_dead no_wounds x2 (3 : Int32) x1 r_1) fun r_3 =>
  (if r_3 ≤ 0 then
  k2 (x2 + 1)
  else
  some (1)))
noncomputable def f_X4_anyGainsByHorse_L2 (la_deep : Int32) (la_beasts : Int32) (la_kind : Nat → Int32) (la_mood : Nat → Int32) (no_dead : Int32) (no_wet : Int32) (no_wounds : Nat → Int32) (x1 : Int32) : Nat → Int32 → Option (Int32)
  | 0 => fun _ => none
  | n + 1 => f_X4_anyGainsByHorse_b2 la_deep la_beasts la_kind la_mood no_dead no_wet no_wounds x1 (f_X4_anyGainsByHorse_L2 la_deep la_beasts la_kind la_mood no_dead no_wet no_wounds x1 n)
noncomputable def f_X4_anyGainsByHorse (la_deep : Int32) (la_beasts : Int32) (la_kind : Nat → Int32) (la_mood : Nat → Int32) (no_dead : Int32) (no_wet : Int32) (no_wounds : Nat → Int32) (p1 : Int32) : Option (Int32) :=
  f_X4_anyGainsByHorse_L2 la_deep la_beasts la_kind la_mood no_dead no_wet no_wounds p1 fuelN 0
noncomputable def f_X4_commonDivisor_b9 (k9 : Int64 → Int64 → Int32 → Option (Int64)) (x4 : Int64) (x6 : Int64) (x8 : Int32) : Option (Int64) :=
  (if 128 ≤ x8 then
  some (x4)
  else
  (if x6 = 0 then
  some (x4)
  else
  if x6 = 0 then none else
  k9 x6 (x4 - x4 / x6 * x6) (x8 + 1)))
noncomputable def f_X4_commonDivisor_L9 : Nat → Int64 → Int64 → Int32 → Option (Int64)
  | 0 => fun _ _ _ => none
  | n + 1 => f_X4_commonDivisor_b9 (f_X4_commonDivisor_L9 n)
noncomputable def f_X4_commonDivisor (p0 : Int64) (p2 : Int64) : Option (Int64) :=
  f_X4_commonDivisor_L9 fuelN p0 p2 0
noncomputable def f_X4_leastWeeks_b2 (la_deep : Int32) (la_beasts : Int32) (la_kind : Nat → Int32) (la_mood : Nat → Int32) (no_dead : Int32) (no_wet : Int32) (no_wounds : Nat → Int32) (k2 : Int32 → Option (Int32)) (x1 : Int32) : Option (Int32) :=
  (if 30 < x1 then
  some ((-2))
  else
  bd1 (f_X4_anyGainsByHorse la_deep la_beasts la_kind la_mood no_dead no_wet no_wounds x1) fun r_1 =>
  (if r_1 = 0 then
  some (x1)
  else
  k2 (x1 + 1)))
noncomputable def f_X4_leastWeeks_L2 (la_deep : Int32) (la_beasts : Int32) (la_kind : Nat → Int32) (la_mood : Nat → Int32) (no_dead : Int32) (no_wet : Int32) (no_wounds : Nat → Int32) : Nat → Int32 → Option (Int32)
  | 0 => fun _ => none
  | n + 1 => f_X4_leastWeeks_b2 la_deep la_beasts la_kind la_mood no_dead no_wet no_wounds (f_X4_leastWeeks_L2 la_deep la_beasts la_kind la_mood no_dead no_wet no_wounds n)
noncomputable def f_X4_leastWeeks (la_deep : Int32) (la_beasts : Int32) (la_kind : Nat → Int32) (la_mood : Nat → Int32) (no_dead : Int32) (no_wet : Int32) (no_wounds : Nat → Int32) : Option (Int32) :=
  f_X4_leastWeeks_L2 la_deep la_beasts la_kind la_mood no_dead no_wet no_wounds fuelN 0
noncomputable def f_X4_told_B27 (la_deep : Int32) (x6 : Int64) (t0 : Int64) : Option (Int64) :=
  (if x6 ≤ 1 then
  some (t0)
  else
  if x6 = 0 then none else
  some (t0 / x6))
noncomputable def f_X4_told (la_deep : Int32) (p1 : Int64) (p3 : Int32) : Option (Int64) :=
  bd1 (f_X4_full la_deep) fun r_1 =>
  bd1 (f_X4_commonDivisor  (if 0 < p1 then p1 else -p1) r_1) fun r_3 =>
  (if p3 = 0 then
  f_X4_told_B27 la_deep r_3 p1
  else
  f_X4_told_B27 la_deep r_3 r_1)
noncomputable def f_X1_gainByOpening_B54 (k5 : Int64 → Int32 → Option (Int64)) (la_deep : Int32) (la_beasts : Int32) (la_who : Nat → Int32) (la_kind : Nat → Int32) (la_mood : Nat → Int32) (no_dead : Int32) (no_wet : Int32) (no_strong : Nat → Int32) (no_at : Nat → Int32) (no_wounds : Nat → Int32) (x1 : Int32) (x2 : Int64) (x4 : Int32) : Option (Int64) :=
  k5 x2 (x4 + 1)
noncomputable def f_X1_gainByOpening_b5 (la_deep : Int32) (la_beasts : Int32) (la_who : Nat → Int32) (la_kind : Nat → Int32) (la_mood : Nat → Int32) (no_dead : Int32) (no_wet : Int32) (no_strong : Nat → Int32) (no_at : Nat → Int32) (no_wounds : Nat → Int32) (x1 : Int32) (k5 : Int64 → Int32 → Option (Int64)) (x2 : Int64) (x4 : Int32) : Option (Int64) :=
  (if la_beasts ≤ x4 then
  some (x2)
  else
  gIn x4 5 <|
  (if (no_at x4.toNatClampNeg) = x1 then
  bd1 (f_X4_worthInOpen la_deep la_kind la_mood no_dead no_wet no_wounds x4) fun r_2 =>
  bd1 (f_X4_worthIn la_deep la_who la_kind la_mood no_dead no_wet no_strong no_wounds x4 x1) fun r_4 =>
  f_X1_gainByOpening_B54 k5 la_deep la_beasts la_who la_kind la_mood no_dead no_wet no_strong no_at no_wounds x1 (x2 + (r_2 - r_4)) x4
  else
  f_X1_gainByOpening_B54 k5 la_deep la_beasts la_who la_kind la_mood no_dead no_wet no_strong no_at no_wounds x1 x2 x4))
noncomputable def f_X1_gainByOpening_L5 (la_deep : Int32) (la_beasts : Int32) (la_who : Nat → Int32) (la_kind : Nat → Int32) (la_mood : Nat → Int32) (no_dead : Int32) (no_wet : Int32) (no_strong : Nat → Int32) (no_at : Nat → Int32) (no_wounds : Nat → Int32) (x1 : Int32) : Nat → Int64 → Int32 → Option (Int64)
  | 0 => fun _ _ => none
  | n + 1 => f_X1_gainByOpening_b5 la_deep la_beasts la_who la_kind la_mood no_dead no_wet no_strong no_at no_wounds x1 (f_X1_gainByOpening_L5 la_deep la_beasts la_who la_kind la_mood no_dead no_wet no_strong no_at no_wounds x1 n)
noncomputable def f_X1_gainByOpening (la_deep : Int32) (la_beasts : Int32) (la_who : Nat → Int32) (la_kind : Nat → Int32) (la_mood : Nat → Int32) (no_dead : Int32) (no_wet : Int32) (no_strong : Nat → Int32) (no_at : Nat → Int32) (no_wounds : Nat → Int32) (p1 : Int32) : Option (Int64) :=
  f_X1_gainByOpening_L5 la_deep la_beasts la_who la_kind la_mood no_dead no_wet no_strong no_at no_wounds p1 fuelN 0 0
noncomputable def f_X1_laneBestOpened_B41 (k8 : Int32 → Int64 → Int32 → Option (Int32)) (la_lanes : Int32) (la_deep : Int32) (la_beasts : Int32) (la_who : Nat → Int32) (la_kind : Nat → Int32) (la_mood : Nat → Int32) (no_dead : Int32) (no_wet : Int32) (no_strong : Nat → Int32) (no_at : Nat → Int32) (no_wounds : Nat → Int32) (x1 : Int32) (x2 : Int64) (x4 : Int32) : Option (Int32) :=
  k8 x1 x2 (x4 + 1)
noncomputable def f_X1_laneBestOpened_b8 (la_lanes : Int32) (la_deep : Int32) (la_beasts : Int32) (la_who : Nat → Int32) (la_kind : Nat → Int32) (la_mood : Nat → Int32) (no_dead : Int32) (no_wet : Int32) (no_strong : Nat → Int32) (no_at : Nat → Int32) (no_wounds : Nat → Int32) (k8 : Int32 → Int64 → Int32 → Option (Int32)) (x1 : Int32) (x2 : Int64) (x4 : Int32) : Option (Int32) :=
  (if la_lanes ≤ x4 then
  some (x1)
  else
  bd1 (f_X1_gainByOpening la_deep la_beasts la_who la_kind la_mood no_dead no_wet no_strong no_at no_wounds x4) fun r_1 =>
  (if x2 ≤ r_1 then
  f_X1_laneBestOpened_B41 k8 la_lanes la_deep la_beasts la_who la_kind la_mood no_dead no_wet no_strong no_at no_wounds x1 x2 x4
  else
  f_X1_laneBestOpened_B41 k8 la_lanes la_deep la_beasts la_who la_kind la_mood no_dead no_wet no_strong no_at no_wounds x4 r_1 x4))
noncomputable def f_X1_laneBestOpened_L8 (la_lanes : Int32) (la_deep : Int32) (la_beasts : Int32) (la_who : Nat → Int32) (la_kind : Nat → Int32) (la_mood : Nat → Int32) (no_dead : Int32) (no_wet : Int32) (no_strong : Nat → Int32) (no_at : Nat → Int32) (no_wounds : Nat → Int32) : Nat → Int32 → Int64 → Int32 → Option (Int32)
  | 0 => fun _ _ _ => none
  | n + 1 => f_X1_laneBestOpened_b8 la_lanes la_deep la_beasts la_who la_kind la_mood no_dead no_wet no_strong no_at no_wounds (f_X1_laneBestOpened_L8 la_lanes la_deep la_beasts la_who la_kind la_mood no_dead no_wet no_strong no_at no_wounds n)
noncomputable def f_X1_laneBestOpened (la_lanes : Int32) (la_deep : Int32) (la_beasts : Int32) (la_who : Nat → Int32) (la_kind : Nat → Int32) (la_mood : Nat → Int32) (no_dead : Int32) (no_wet : Int32) (no_strong : Nat → Int32) (no_at : Nat → Int32) (no_wounds : Nat → Int32) : Option (Int32) :=
  f_X1_laneBestOpened_L8 la_lanes la_deep la_beasts la_who la_kind la_mood no_dead no_wet no_strong no_at no_wounds fuelN (-2) 0 0
noncomputable def f_X1_weigh_b14 (la_lanes : Int32) (la_deep : Int32) (la_who : Nat → Int32) (la_kind : Nat → Int32) (la_mood : Nat → Int32) (no_dead : Int32) (no_wet : Int32) (no_strong : Nat → Int32) (no_wounds : Nat → Int32) (x1 : Int32) (ga_worthInOpen : Int64) (k14 : Int32 → (Nat → Int64) → Option (Int64 × (Nat → Int64))) (x2 : Int32) (ga_worths : Nat → Int64) : Option (Int64 × (Nat → Int64)) :=
  (if la_lanes ≤ x2 then
  some (ga_worthInOpen, ga_worths)
  else
  bd1 (f_X4_worthIn la_deep la_who la_kind la_mood no_dead no_wet no_strong no_wounds x1 x2) fun r_3 =>
  gIn x2 6 <|
  k14 (x2 + 1) (vp_updL ga_worths x2.toNatClampNeg r_3))
noncomputable def f_X1_weigh_L14 (la_lanes : Int32) (la_deep : Int32) (la_who : Nat → Int32) (la_kind : Nat → Int32) (la_mood : Nat → Int32) (no_dead : Int32) (no_wet : Int32) (no_strong : Nat → Int32) (no_wounds : Nat → Int32) (x1 : Int32) (ga_worthInOpen : Int64) : Nat → Int32 → (Nat → Int64) → Option (Int64 × (Nat → Int64))
  | 0 => fun _ _ => none
  | n + 1 => f_X1_weigh_b14 la_lanes la_deep la_who la_kind la_mood no_dead no_wet no_strong no_wounds x1 ga_worthInOpen (f_X1_weigh_L14 la_lanes la_deep la_who la_kind la_mood no_dead no_wet no_strong no_wounds x1 ga_worthInOpen n)
noncomputable def f_X1_weigh (la_lanes : Int32) (la_deep : Int32) (la_who : Nat → Int32) (la_kind : Nat → Int32) (la_mood : Nat → Int32) (no_dead : Int32) (no_wet : Int32) (no_strong : Nat → Int32) (no_wounds : Nat → Int32) (ga_worthInOpen : Int64) (ga_worths : Nat → Int64) (p1 : Int32) : Option (Int64 × (Nat → Int64)) :=
  bd1 (f_X4_worthInOpen la_deep la_kind la_mood no_dead no_wet no_wounds p1) fun r_1 =>
  f_X1_weigh_L14 la_lanes la_deep la_who la_kind la_mood no_dead no_wet no_strong no_wounds p1 r_1 fuelN 0 ga_worths
noncomputable def f_X1_worthIfOpened (ga_worthInOpen : Int64) (ga_worths : Nat → Int64) (p1 : Int32) (p2 : Int32) : Option (Int64) :=
  (if p1 = p2 then
  some (ga_worthInOpen)
  else
  gIn p1 6 <|
  some (ga_worths p1.toNatClampNeg))
noncomputable def f_X1_isRest_b10 (la_lanes : Int32) (ga_worthInOpen : Int64) (ga_worths : Nat → Int64) (x1 : Int32) (x2 : Int32) (x3 : Int64) (k10 : Int32 → Option (Int32)) (x5 : Int32) : Option (Int32) :=
  (if la_lanes ≤ x5 then
  some (1)
  else
  bd1 (f_X1_worthIfOpened ga_worthInOpen ga_worths x5 x2) fun r_3 =>
  (if x3 < r_3 then
  some (0)
  else
  bd1 (f_X1_worthIfOpened ga_worthInOpen ga_worths x1 x5) fun r_5 =>
  (if x3 ≤ r_5 then
  k10 (x5 + 1)
  else
  some (0))))
noncomputable def f_X1_isRest_L10 (la_lanes : Int32) (ga_worthInOpen : Int64) (ga_worths : Nat → Int64) (x1 : Int32) (x2 : Int32) (x3 : Int64) : Nat → Int32 → Option (Int32)
  | 0 => fun _ => none
  | n + 1 => f_X1_isRest_b10 la_lanes ga_worthInOpen ga_worths x1 x2 x3 (f_X1_isRest_L10 la_lanes ga_worthInOpen ga_worths x1 x2 x3 n)
noncomputable def f_X1_isRest (la_lanes : Int32) (ga_worthInOpen : Int64) (ga_worths : Nat → Int64) (p1 : Int32) (p2 : Int32) : Option (Int32) :=
  bd1 (f_X1_worthIfOpened ga_worthInOpen ga_worths p1 p2) fun r_1 =>
  f_X1_isRest_L10 la_lanes ga_worthInOpen ga_worths p1 p2 r_1 fuelN 0
noncomputable def f_X1_countRests_B51 (k4 : Int32 → Int32 → Option (Int32)) (la_lanes : Int32) (ga_worthInOpen : Int64) (ga_worths : Nat → Int64) (x1 : Int32) (x2 : Int32) : Option (Int32) :=
  k4 x1 (x2 + 1)
noncomputable def f_X1_countRests_B43 (k4 : Int32 → Int32 → Option (Int32)) (k17 : Int32 → Int32 → Option (Int32)) (la_lanes : Int32) (ga_worthInOpen : Int64) (ga_worths : Nat → Int64) (x2 : Int32) (x3 : Int32) (t0 : Int32) (t1 : Int32) : Option (Int32) :=
  k17 (t0 + t1) (x3 + 1)
noncomputable def f_X1_countRests_b17 (k4 : Int32 → Int32 → Option (Int32)) (la_lanes : Int32) (ga_worthInOpen : Int64) (ga_worths : Nat → Int64) (x2 : Int32) (k17 : Int32 → Int32 → Option (Int32)) (x1 : Int32) (x3 : Int32) : Option (Int32) :=
  (if la_lanes ≤ x3 then
  f_X1_countRests_B51 k4 la_lanes ga_worthInOpen ga_worths x1 x2
  else
  bd1 (f_X1_isRest la_lanes ga_worthInOpen ga_worths x2 x3) fun r_1 =>
  (if r_1 = 0 then
  f_X1_countRests_B43 k4 k17 la_lanes ga_worthInOpen ga_worths x2 x3 x1 0
  else
  f_X1_countRests_B43 k4 k17 la_lanes ga_worthInOpen ga_worths x2 x3 x1 1))
noncomputable def f_X1_countRests_L17 (k4 : Int32 → Int32 → Option (Int32)) (la_lanes : Int32) (ga_worthInOpen : Int64) (ga_worths : Nat → Int64) (x2 : Int32) : Nat → Int32 → Int32 → Option (Int32)
  | 0 => fun _ _ => none
  | n + 1 => f_X1_countRests_b17 k4 la_lanes ga_worthInOpen ga_worths x2 (f_X1_countRests_L17 k4 la_lanes ga_worthInOpen ga_worths x2 n)
noncomputable def f_X1_countRests_b4 (la_lanes : Int32) (ga_worthInOpen : Int64) (ga_worths : Nat → Int64) (k4 : Int32 → Int32 → Option (Int32)) (x1 : Int32) (x2 : Int32) : Option (Int32) :=
  (if la_lanes ≤ x2 then
  some (x1)
  else
  f_X1_countRests_L17 k4 la_lanes ga_worthInOpen ga_worths x2 fuelN x1 0)
noncomputable def f_X1_countRests_L4 (la_lanes : Int32) (ga_worthInOpen : Int64) (ga_worths : Nat → Int64) : Nat → Int32 → Int32 → Option (Int32)
  | 0 => fun _ _ => none
  | n + 1 => f_X1_countRests_b4 la_lanes ga_worthInOpen ga_worths (f_X1_countRests_L4 la_lanes ga_worthInOpen ga_worths n)
noncomputable def f_X1_countRests (la_lanes : Int32) (ga_worthInOpen : Int64) (ga_worths : Nat → Int64) : Option (Int32) :=
  f_X1_countRests_L4 la_lanes ga_worthInOpen ga_worths fuelN 0 0
noncomputable def f_X1_firstRest_B48 (k2 : Int32 → Option (Int32)) (la_lanes : Int32) (ga_worthInOpen : Int64) (ga_worths : Nat → Int64) (x1 : Int32) : Option (Int32) :=
  k2 (x1 + 1)
noncomputable def f_X1_firstRest_b15 (k2 : Int32 → Option (Int32)) (la_lanes : Int32) (ga_worthInOpen : Int64) (ga_worths : Nat → Int64) (x1 : Int32) (k15 : Int32 → Option (Int32)) (x2 : Int32) : Option (Int32) :=
  (if la_lanes ≤ x2 then
  f_X1_firstRest_B48 k2 la_lanes ga_worthInOpen ga_worths x1
  else
  bd1 (f_X1_isRest la_lanes ga_worthInOpen ga_worths x1 x2) fun r_1 =>
  (if r_1 = 0 then
  k15 (x2 + 1)
  else
  some ((10 * x1) + x2)))
noncomputable def f_X1_firstRest_L15 (k2 : Int32 → Option (Int32)) (la_lanes : Int32) (ga_worthInOpen : Int64) (ga_worths : Nat → Int64) (x1 : Int32) : Nat → Int32 → Option (Int32)
  | 0 => fun _ => none
  | n + 1 => f_X1_firstRest_b15 k2 la_lanes ga_worthInOpen ga_worths x1 (f_X1_firstRest_L15 k2 la_lanes ga_worthInOpen ga_worths x1 n)
noncomputable def f_X1_firstRest_b2 (la_lanes : Int32) (ga_worthInOpen : Int64) (ga_worths : Nat → Int64) (k2 : Int32 → Option (Int32)) (x1 : Int32) : Option (Int32) :=
  (if la_lanes ≤ x1 then
  some ((-2))
  else
  f_X1_firstRest_L15 k2 la_lanes ga_worthInOpen ga_worths x1 fuelN 0)
noncomputable def f_X1_firstRest_L2 (la_lanes : Int32) (ga_worthInOpen : Int64) (ga_worths : Nat → Int64) : Nat → Int32 → Option (Int32)
  | 0 => fun _ => none
  | n + 1 => f_X1_firstRest_b2 la_lanes ga_worthInOpen ga_worths (f_X1_firstRest_L2 la_lanes ga_worthInOpen ga_worths n)
noncomputable def f_X1_firstRest (la_lanes : Int32) (ga_worthInOpen : Int64) (ga_worths : Nat → Int64) : Option (Int32) :=
  f_X1_firstRest_L2 la_lanes ga_worthInOpen ga_worths fuelN 0
noncomputable def f_X6_findWorths_b2 (la_lanes : Int32) (la_deep : Int32) (la_who : Nat → Int32) (la_kind : Nat → Int32) (la_mood : Nat → Int32) (no_dead : Int32) (no_wet : Int32) (no_strong : Nat → Int32) (no_wounds : Nat → Int32) (x1 : Int32) (k2 : Int32 → (Nat → Int64) → Option ((Nat → Int64))) (x2 : Int32) (pl_worths : Nat → Int64) : Option ((Nat → Int64)) :=
  (if la_lanes ≤ x2 then
  some (pl_worths)
  else
  bd1 (f_X4_worthIn la_deep la_who la_kind la_mood no_dead no_wet no_strong no_wounds x1 x2) fun r_1 =>
  gIn x2 6 <|
  k2 (x2 + 1) (vp_updL pl_worths x2.toNatClampNeg r_1))
noncomputable def f_X6_findWorths_L2 (la_lanes : Int32) (la_deep : Int32) (la_who : Nat → Int32) (la_kind : Nat → Int32) (la_mood : Nat → Int32) (no_dead : Int32) (no_wet : Int32) (no_strong : Nat → Int32) (no_wounds : Nat → Int32) (x1 : Int32) : Nat → Int32 → (Nat → Int64) → Option ((Nat → Int64))
  | 0 => fun _ _ => none
  | n + 1 => f_X6_findWorths_b2 la_lanes la_deep la_who la_kind la_mood no_dead no_wet no_strong no_wounds x1 (f_X6_findWorths_L2 la_lanes la_deep la_who la_kind la_mood no_dead no_wet no_strong no_wounds x1 n)
noncomputable def f_X6_findWorths (la_lanes : Int32) (la_deep : Int32) (la_who : Nat → Int32) (la_kind : Nat → Int32) (la_mood : Nat → Int32) (no_dead : Int32) (no_wet : Int32) (no_strong : Nat → Int32) (no_wounds : Nat → Int32) (pl_worths : Nat → Int64) (p1 : Int32) : Option ((Nat → Int64)) :=
  f_X6_findWorths_L2 la_lanes la_deep la_who la_kind la_mood no_dead no_wet no_strong no_wounds p1 fuelN 0 pl_worths
noncomputable def f_X6_isFree (no_dead : Int32) (p1 : Int32) (p2 : Int32) (p3 : Int32) : Option (Int32) :=
  bd1 (f_X8_isDead no_dead p1) fun r_1 =>
  (if r_1 = 0 then
  (if ((p3 >>> (p2 &&& 31)) &&& 1) = 0 then
  some (1)
  else
  some (0))
  else
  some (0))
noncomputable def f_X6_withLane (pl_worths : Nat → Int64) (pl_most : Nat → Int64) (p1 : Int32) (p2 : Int32) (p3 : Int32) : Option (Int64) :=
  gIn p2 6 <|
  gIn (((p1 + 1) * 64) + (p3 ||| ((1 : Int32) <<< (p2 &&& 31)))) 384 <|
  some ((pl_worths p2.toNatClampNeg) + (pl_most (((p1 + 1) * 64) + (p3 ||| ((1 : Int32) <<< (p2 &&& 31)))).toNatClampNeg))
noncomputable def f_X6_mostFrom_B53 (k17 : Int64 → Int32 → Option (Int64)) (la_lanes : Int32) (no_dead : Int32) (pl_worths : Nat → Int64) (pl_most : Nat → Int64) (x1 : Int32) (x2 : Int32) (x3 : Int64) (x5 : Int32) : Option (Int64) :=
  k17 x3 (x5 + 1)
noncomputable def f_X6_mostFrom_b17 (la_lanes : Int32) (no_dead : Int32) (pl_worths : Nat → Int64) (pl_most : Nat → Int64) (x1 : Int32) (x2 : Int32) (k17 : Int64 → Int32 → Option (Int64)) (x3 : Int64) (x5 : Int32) : Option (Int64) :=
  (if la_lanes ≤ x5 then
  some (x3)
  else
  bd1 (f_X6_isFree no_dead x1 x5 x2) fun r_2 =>
  (if r_2 = 0 then
  f_X6_mostFrom_B53 k17 la_lanes no_dead pl_worths pl_most x1 x2 x3 x5
  else
  bd1 (f_X6_withLane pl_worths pl_most x1 x5 x2) fun r_5 =>
  f_X6_mostFrom_B53 k17 la_lanes no_dead pl_worths pl_most x1 x2 (if r_5 < x3 then x3 else r_5) x5))
noncomputable def f_X6_mostFrom_L17 (la_lanes : Int32) (no_dead : Int32) (pl_worths : Nat → Int64) (pl_most : Nat → Int64) (x1 : Int32) (x2 : Int32) : Nat → Int64 → Int32 → Option (Int64)
  | 0 => fun _ _ => none
  | n + 1 => f_X6_mostFrom_b17 la_lanes no_dead pl_worths pl_most x1 x2 (f_X6_mostFrom_L17 la_lanes no_dead pl_worths pl_most x1 x2 n)
noncomputable def f_X6_mostFrom (la_lanes : Int32) (no_dead : Int32) (pl_worths : Nat → Int64) (pl_most : Nat → Int64) (p1 : Int32) (p2 : Int32) : Option (Int64) :=
  gIn (((p1 + 1) * 64) + p2) 384 <|
  f_X6_mostFrom_L17 la_lanes no_dead pl_worths pl_most p1 p2 fuelN (pl_most (((p1 + 1) * 64) + p2).toNatClampNeg) 0
noncomputable def f_X6_firstLaneFor_B47 (k2 : Int32 → Option (Int32)) (la_lanes : Int32) (no_dead : Int32) (pl_worths : Nat → Int64) (pl_most : Nat → Int64) (x1 : Int32) (x2 : Int32) (x3 : Int32) : Option (Int32) :=
  k2 (x3 + 1)
noncomputable def f_X6_firstLaneFor_b2 (la_lanes : Int32) (no_dead : Int32) (pl_worths : Nat → Int64) (pl_most : Nat → Int64) (x1 : Int32) (x2 : Int32) (k2 : Int32 → Option (Int32)) (x3 : Int32) : Option (Int32) :=
  (if la_lanes ≤ x3 then
  some ((-2))
  else
  bd1 (f_X6_isFree no_dead x1 x3 x2) fun r_1 =>
  (if r_1 = 0 then
  f_X6_firstLaneFor_B47 k2 la_lanes no_dead pl_worths pl_most x1 x2 x3
  else
  bd1 (f_X6_withLane pl_worths pl_most x1 x3 x2) fun r_4 =>
  gIn ((x1 * 64) + x2) 384 <|
  (if r_4 = (pl_most ((x1 * 64) + x2).toNatClampNeg) then
  some (x3)
  else
  f_X6_firstLaneFor_B47 k2 la_lanes no_dead pl_worths pl_most x1 x2 x3)))
noncomputable def f_X6_firstLaneFor_L2 (la_lanes : Int32) (no_dead : Int32) (pl_worths : Nat → Int64) (pl_most : Nat → Int64) (x1 : Int32) (x2 : Int32) : Nat → Int32 → Option (Int32)
  | 0 => fun _ => none
  | n + 1 => f_X6_firstLaneFor_b2 la_lanes no_dead pl_worths pl_most x1 x2 (f_X6_firstLaneFor_L2 la_lanes no_dead pl_worths pl_most x1 x2 n)
noncomputable def f_X6_firstLaneFor (la_lanes : Int32) (no_dead : Int32) (pl_worths : Nat → Int64) (pl_most : Nat → Int64) (p1 : Int32) (p2 : Int32) : Option (Int32) :=
  f_X6_firstLaneFor_L2 la_lanes no_dead pl_worths pl_most p1 p2 fuelN 0
noncomputable def f_X6_laneFor (la_beasts : Int32) (pl_lanes : Nat → Int32) (p1 : Int32) : Option (Int32) :=
  bd1 (f_X2_hasBeast la_beasts p1) fun r_1 =>
  (if r_1 = 0 then
  some ((-2))
  else
  gIn p1 5 <|
  some (pl_lanes p1.toNatClampNeg))
noncomputable def f_X6_greatestSum (pl_most : Nat → Int64) : Option (Int64) :=
  some (pl_most (0 : Int32).toNatClampNeg)
noncomputable def f_X6_livingLeftOut_B43 (k4 : Int32 → Int32 → Option (Int32)) (la_beasts : Int32) (no_dead : Int32) (pl_lanes : Nat → Int32) (x2 : Int32) (t0 : Int32) (t1 : Int32) : Option (Int32) :=
  k4 (t0 + t1) (x2 + 1)
noncomputable def f_X6_livingLeftOut_B42 (k4 : Int32 → Int32 → Option (Int32)) (la_beasts : Int32) (no_dead : Int32) (pl_lanes : Nat → Int32) (x2 : Int32) (t0 : Int32) : Option (Int32) :=
  f_X6_livingLeftOut_B43 k4 la_beasts no_dead pl_lanes x2 t0 0
noncomputable def f_X6_livingLeftOut_b4 (la_beasts : Int32) (no_dead : Int32) (pl_lanes : Nat → Int32) (k4 : Int32 → Int32 → Option (Int32)) (x1 : Int32) (x2 : Int32) : Option (Int32) :=
  (if la_beasts ≤ x2 then
  some (x1)
  else
  gIn x2 5 <|
  (if (pl_lanes x2.toNatClampNeg) = (-2) then
  bd1 (f_X8_isDead no_dead x2) fun r_2 =>
  (if r_2 = 0 then
  f_X6_livingLeftOut_B43 k4 la_beasts no_dead pl_lanes x2 x1 1
  else
  f_X6_livingLeftOut_B42 k4 la_beasts no_dead pl_lanes x2 x1)
  else
  f_X6_livingLeftOut_B42 k4 la_beasts no_dead pl_lanes x2 x1))
noncomputable def f_X6_livingLeftOut_L4 (la_beasts : Int32) (no_dead : Int32) (pl_lanes : Nat → Int32) : Nat → Int32 → Int32 → Option (Int32)
  | 0 => fun _ _ => none
  | n + 1 => f_X6_livingLeftOut_b4 la_beasts no_dead pl_lanes (f_X6_livingLeftOut_L4 la_beasts no_dead pl_lanes n)
noncomputable def f_X6_livingLeftOut (la_beasts : Int32) (no_dead : Int32) (pl_lanes : Nat → Int32) : Option (Int32) :=
  f_X6_livingLeftOut_L4 la_beasts no_dead pl_lanes fuelN 0 0
noncomputable def f_X6_settle_B152 (k100 : Int32 → Int32 → (Nat → Int64) → (Nat → Int32) → Option ((Nat → Int64) × (Nat → Int64) × (Nat → Int32))) (la_lanes : Int32) (la_deep : Int32) (la_beasts : Int32) (la_who : Nat → Int32) (la_kind : Nat → Int32) (la_mood : Nat → Int32) (no_dead : Int32) (no_wet : Int32) (no_strong : Nat → Int32) (no_wounds : Nat → Int32) (x3 : Int32) (t0 : Int32) (t1 : Int32) (pl_worths : Nat → Int64) (pl_most : Nat → Int64) (pl_lanes : Nat → Int32) : Option ((Nat → Int64) × (Nat → Int64) × (Nat → Int32)) :=
  k100 (t0 ||| t1) (x3 + 1) pl_worths pl_lanes
noncomputable def f_X6_settle_b100 (la_lanes : Int32) (la_deep : Int32) (la_beasts : Int32) (la_who : Nat → Int32) (la_kind : Nat → Int32) (la_mood : Nat → Int32) (no_dead : Int32) (no_wet : Int32) (no_strong : Nat → Int32) (no_wounds : Nat → Int32) (pl_most : Nat → Int64) (k100 : Int32 → Int32 → (Nat → Int64) → (Nat → Int32) → Option ((Nat → Int64) × (Nat → Int64) × (Nat → Int32))) (x2 : Int32) (x3 : Int32) (pl_worths : Nat → Int64) (pl_lanes : Nat → Int32) : Option ((Nat → Int64) × (Nat → Int64) × (Nat → Int32)) :=
  (if la_beasts ≤ x3 then
  some (pl_worths, pl_most, pl_lanes)
  else
  bd1 (f_X6_findWorths la_lanes la_deep la_who la_kind la_mood no_dead no_wet no_strong no_wounds pl_worths x3) fun pl_worths_1 =>
  bd1 (f_X6_firstLaneFor la_lanes no_dead pl_worths_1 pl_most x3 x2) fun r_3 =>
  gIn x3 5 <|
  gIn x3 5 <|
  (if ((upd pl_lanes x3.toNatClampNeg r_3) x3.toNatClampNeg) = (-2) then
  f_X6_settle_B152 k100 la_lanes la_deep la_beasts la_who la_kind la_mood no_dead no_wet no_strong no_wounds x3 x2 0 pl_worths_1 pl_most (upd pl_lanes x3.toNatClampNeg r_3)
  else
  gIn x3 5 <|
  f_X6_settle_B152 k100 la_lanes la_deep la_beasts la_who la_kind la_mood no_dead no_wet no_strong no_wounds x3 x2 ((1 : Int32) <<< (((upd pl_lanes x3.toNatClampNeg r_3) x3.toNatClampNeg) &&& 31)) pl_worths_1 pl_most (upd pl_lanes x3.toNatClampNeg r_3)))
noncomputable def f_X6_settle_L100 (la_lanes : Int32) (la_deep : Int32) (la_beasts : Int32) (la_who : Nat → Int32) (la_kind : Nat → Int32) (la_mood : Nat → Int32) (no_dead : Int32) (no_wet : Int32) (no_strong : Nat → Int32) (no_wounds : Nat → Int32) (pl_most : Nat → Int64) : Nat → Int32 → Int32 → (Nat → Int64) → (Nat → Int32) → Option ((Nat → Int64) × (Nat → Int64) × (Nat → Int32))
  | 0 => fun _ _ _ _ => none
  | n + 1 => f_X6_settle_b100 la_lanes la_deep la_beasts la_who la_kind la_mood no_dead no_wet no_strong no_wounds pl_most (f_X6_settle_L100 la_lanes la_deep la_beasts la_who la_kind la_mood no_dead no_wet no_strong no_wounds pl_most n)
noncomputable def f_X6_settle_B96 (la_lanes : Int32) (la_deep : Int32) (la_beasts : Int32) (la_who : Nat → Int32) (la_kind : Nat → Int32) (la_mood : Nat → Int32) (no_dead : Int32) (no_wet : Int32) (no_strong : Nat → Int32) (no_wounds : Nat → Int32) (pl_worths : Nat → Int64) (pl_most : Nat → Int64) (pl_lanes : Nat → Int32) : Option ((Nat → Int64) × (Nat → Int64) × (Nat → Int32)) :=
  f_X6_settle_L100 la_lanes la_deep la_beasts la_who la_kind la_mood no_dead no_wet no_strong no_wounds pl_most fuelN 0 0 pl_worths pl_lanes
noncomputable def f_X6_settle_B90 (k51 : Int32 → (Nat → Int64) → (Nat → Int64) → Option ((Nat → Int64) × (Nat → Int64) × (Nat → Int32))) (la_lanes : Int32) (la_deep : Int32) (la_beasts : Int32) (la_who : Nat → Int32) (la_kind : Nat → Int32) (la_mood : Nat → Int32) (no_dead : Int32) (no_wet : Int32) (no_strong : Nat → Int32) (no_wounds : Nat → Int32) (x1 : Int32) (x2 : Int32) (pl_worths : Nat → Int64) (pl_most : Nat → Int64) (pl_lanes : Nat → Int32) : Option ((Nat → Int64) × (Nat → Int64) × (Nat → Int32)) :=
  k51 (x2 + (-1)) pl_worths pl_most
noncomputable def f_X6_settle_b62 (k51 : Int32 → (Nat → Int64) → (Nat → Int64) → Option ((Nat → Int64) × (Nat → Int64) × (Nat → Int32))) (la_lanes : Int32) (la_deep : Int32) (la_beasts : Int32) (la_who : Nat → Int32) (la_kind : Nat → Int32) (la_mood : Nat → Int32) (no_dead : Int32) (no_wet : Int32) (no_strong : Nat → Int32) (no_wounds : Nat → Int32) (x1 : Int32) (x2 : Int32) (pl_worths : Nat → Int64) (pl_lanes : Nat → Int32) (k62 : Int32 → (Nat → Int64) → Option ((Nat → Int64) × (Nat → Int64) × (Nat → Int32))) (x3 : Int32) (pl_most : Nat → Int64) : Option ((Nat → Int64) × (Nat → Int64) × (Nat → Int32)) :=
  (if x1 ≤ x3 then
  f_X6_settle_B90 k51 la_lanes la_deep la_beasts la_who la_kind la_mood no_dead no_wet no_strong no_wounds x1 x2 pl_worths pl_most pl_lanes
  else
  bd1 (f_X6_mostFrom la_lanes no_dead pl_worths pl_most x2 x3) fun r_10 =>
  gIn ((x2 * 64) + x3) 384 <|
  k62 (x3 + 1) (vp_updL pl_most ((x2 * 64) + x3).toNatClampNeg r_10))
noncomputable def f_X6_settle_L62 (k51 : Int32 → (Nat → Int64) → (Nat → Int64) → Option ((Nat → Int64) × (Nat → Int64) × (Nat → Int32))) (la_lanes : Int32) (la_deep : Int32) (la_beasts : Int32) (la_who : Nat → Int32) (la_kind : Nat → Int32) (la_mood : Nat → Int32) (no_dead : Int32) (no_wet : Int32) (no_strong : Nat → Int32) (no_wounds : Nat → Int32) (x1 : Int32) (x2 : Int32) (pl_worths : Nat → Int64) (pl_lanes : Nat → Int32) : Nat → Int32 → (Nat → Int64) → Option ((Nat → Int64) × (Nat → Int64) × (Nat → Int32))
  | 0 => fun _ _ => none
  | n + 1 => f_X6_settle_b62 k51 la_lanes la_deep la_beasts la_who la_kind la_mood no_dead no_wet no_strong no_wounds x1 x2 pl_worths pl_lanes (f_X6_settle_L62 k51 la_lanes la_deep la_beasts la_who la_kind la_mood no_dead no_wet no_strong no_wounds x1 x2 pl_worths pl_lanes n)
noncomputable def f_X6_settle_b51 (la_lanes : Int32) (la_deep : Int32) (la_beasts : Int32) (la_who : Nat → Int32) (la_kind : Nat → Int32) (la_mood : Nat → Int32) (no_dead : Int32) (no_wet : Int32) (no_strong : Nat → Int32) (no_wounds : Nat → Int32) (x1 : Int32) (pl_lanes : Nat → Int32) (k51 : Int32 → (Nat → Int64) → (Nat → Int64) → Option ((Nat → Int64) × (Nat → Int64) × (Nat → Int32))) (x2 : Int32) (pl_worths : Nat → Int64) (pl_most : Nat → Int64) : Option ((Nat → Int64) × (Nat → Int64) × (Nat → Int32)) :=
  (if x2 < 0 then
  f_X6_settle_B96 la_lanes la_deep la_beasts la_who la_kind la_mood no_dead no_wet no_strong no_wounds pl_worths pl_most pl_lanes
  else
  bd1 (f_X6_findWorths la_lanes la_deep la_who la_kind la_mood no_dead no_wet no_strong no_wounds pl_worths x2) fun pl_worths_8 =>
  f_X6_settle_L62 k51 la_lanes la_deep la_beasts la_who la_kind la_mood no_dead no_wet no_strong no_wounds x1 x2 pl_worths_8 pl_lanes fuelN 0 pl_most)
noncomputable def f_X6_settle_L51 (la_lanes : Int32) (la_deep : Int32) (la_beasts : Int32) (la_who : Nat → Int32) (la_kind : Nat → Int32) (la_mood : Nat → Int32) (no_dead : Int32) (no_wet : Int32) (no_strong : Nat → Int32) (no_wounds : Nat → Int32) (x1 : Int32) (pl_lanes : Nat → Int32) : Nat → Int32 → (Nat → Int64) → (Nat → Int64) → Option ((Nat → Int64) × (Nat → Int64) × (Nat → Int32))
  | 0 => fun _ _ _ => none
  | n + 1 => f_X6_settle_b51 la_lanes la_deep la_beasts la_who la_kind la_mood no_dead no_wet no_strong no_wounds x1 pl_lanes (f_X6_settle_L51 la_lanes la_deep la_beasts la_who la_kind la_mood no_dead no_wet no_strong no_wounds x1 pl_lanes n)
noncomputable def f_X6_settle_B41 (la_lanes : Int32) (la_deep : Int32) (la_beasts : Int32) (la_who : Nat → Int32) (la_kind : Nat → Int32) (la_mood : Nat → Int32) (no_dead : Int32) (no_wet : Int32) (no_strong : Nat → Int32) (no_wounds : Nat → Int32) (x1 : Int32) (pl_worths : Nat → Int64) (pl_most : Nat → Int64) (pl_lanes : Nat → Int32) : Option ((Nat → Int64) × (Nat → Int64) × (Nat → Int32)) :=
  f_X6_settle_L51 la_lanes la_deep la_beasts la_who la_kind la_mood no_dead no_wet no_strong no_wounds x1 pl_lanes fuelN (la_beasts - 1) pl_worths pl_most
noncomputable def f_X6_settle_b12 (la_lanes : Int32) (la_deep : Int32) (la_beasts : Int32) (la_who : Nat → Int32) (la_kind : Nat → Int32) (la_mood : Nat → Int32) (no_dead : Int32) (no_wet : Int32) (no_strong : Nat → Int32) (no_wounds : Nat → Int32) (x1 : Int32) (pl_worths : Nat → Int64) (pl_lanes : Nat → Int32) (k12 : Int32 → (Nat → Int64) → Option ((Nat → Int64) × (Nat → Int64) × (Nat → Int32))) (x2 : Int32) (pl_most : Nat → Int64) : Option ((Nat → Int64) × (Nat → Int64) × (Nat → Int32)) :=
  (if x1 ≤ x2 then
  f_X6_settle_B41 la_lanes la_deep la_beasts la_who la_kind la_mood no_dead no_wet no_strong no_wounds x1 pl_worths pl_most pl_lanes
  else
  gIn ((la_beasts * 64) + x2) 384 <|
  k12 (x2 + 1) (vp_updL pl_most ((la_beasts * 64) + x2).toNatClampNeg 0))
noncomputable def f_X6_settle_L12 (la_lanes : Int32) (la_deep : Int32) (la_beasts : Int32) (la_who : Nat → Int32) (la_kind : Nat → Int32) (la_mood : Nat → Int32) (no_dead : Int32) (no_wet : Int32) (no_strong : Nat → Int32) (no_wounds : Nat → Int32) (x1 : Int32) (pl_worths : Nat → Int64) (pl_lanes : Nat → Int32) : Nat → Int32 → (Nat → Int64) → Option ((Nat → Int64) × (Nat → Int64) × (Nat → Int32))
  | 0 => fun _ _ => none
  | n + 1 => f_X6_settle_b12 la_lanes la_deep la_beasts la_who la_kind la_mood no_dead no_wet no_strong no_wounds x1 pl_worths pl_lanes (f_X6_settle_L12 la_lanes la_deep la_beasts la_who la_kind la_mood no_dead no_wet no_strong no_wounds x1 pl_worths pl_lanes n)
noncomputable def f_X6_settle (la_lanes : Int32) (la_deep : Int32) (la_beasts : Int32) (la_who : Nat → Int32) (la_kind : Nat → Int32) (la_mood : Nat → Int32) (no_dead : Int32) (no_wet : Int32) (no_strong : Nat → Int32) (no_wounds : Nat → Int32) (pl_worths : Nat → Int64) (pl_most : Nat → Int64) (pl_lanes : Nat → Int32) : Option ((Nat → Int64) × (Nat → Int64) × (Nat → Int32)) :=
  f_X6_settle_L12 la_lanes la_deep la_beasts la_who la_kind la_mood no_dead no_wet no_strong no_wounds ((1 : Int32) <<< (la_lanes &&& 31)) pl_worths pl_lanes fuelN 0 pl_most
noncomputable def f_X3_lostOn (p0 : Int32) (p1 : Int32) : Option (Int32) :=
  some (((p0 * p1) + 99) / 100)
noncomputable def f_X3_citiesOnWay (ma_cities : Int32) : Option (Int32) :=
  some (ma_cities)
noncomputable def f_X3_cityOnWay (ma_cities : Int32) (ma_way : Nat → Int32) (p1 : Int32) : Option (Int32) :=
  (if p1 < 0 then
  some ((-1))
  else
  (if ma_cities ≤ p1 then
  some ((-1))
  else
  gIn p1 6 <|
  some (ma_way p1.toNatClampNeg)))
noncomputable def f_X3_keepIfBetter (ma_cities : Int32) (ma_come : Int32) (ma_walked : Nat → Int32) (ma_way : Nat → Int32) (p1 : Int32) (p2 : Int32) : Option (Int32 × Int32 × (Nat → Int32)) :=
  (if p1 ≤ ma_come then
  some (ma_cities, ma_come, ma_way)
  else
  gCp (if (6 : Int32) < p2 then 6 else p2) 6 <|
  some (p2, p1, va_cpy ma_walked ma_way ((0 : Int32).toNatClampNeg) ((0 : Int32).toNatClampNeg) ((if (6 : Int32) < p2 then 6 else p2).toNatClampNeg)))
noncomputable def f_X3_neighboursOf_B36 (k4 : Int32 → Int32 → Option (Int32)) (la_cities : Int32) (la_passBetween : Nat → Int32) (x1 : Int32) (x3 : Int32) (t0 : Int32) (t1 : Int32) : Option (Int32) :=
  k4 (t0 ||| t1) (x3 + 1)
noncomputable def f_X3_neighboursOf_b4 (la_cities : Int32) (la_passBetween : Nat → Int32) (x1 : Int32) (k4 : Int32 → Int32 → Option (Int32)) (x2 : Int32) (x3 : Int32) : Option (Int32) :=
  (if la_cities ≤ x3 then
  some (x2)
  else
  bd1 (f_X2_lossBetween la_cities la_passBetween x1 x3) fun r_1 =>
  (if r_1 = (-1) then
  f_X3_neighboursOf_B36 k4 la_cities la_passBetween x1 x3 x2 0
  else
  f_X3_neighboursOf_B36 k4 la_cities la_passBetween x1 x3 x2 ((1 : Int32) <<< (x3 &&& 31))))
noncomputable def f_X3_neighboursOf_L4 (la_cities : Int32) (la_passBetween : Nat → Int32) (x1 : Int32) : Nat → Int32 → Int32 → Option (Int32)
  | 0 => fun _ _ => none
  | n + 1 => f_X3_neighboursOf_b4 la_cities la_passBetween x1 (f_X3_neighboursOf_L4 la_cities la_passBetween x1 n)
noncomputable def f_X3_neighboursOf (la_cities : Int32) (la_passBetween : Nat → Int32) (p1 : Int32) : Option (Int32) :=
  f_X3_neighboursOf_L4 la_cities la_passBetween p1 fuelN 0 0
noncomputable def f_X3_walk_B100 (k34 : Int32 → Int32 → Int32 → (Nat → Int32) → (Nat → Int32) → Option (Int32 × Int32 × (Nat → Int32) × (Nat → Int32))) (rec : Int32 → (Nat → Int32) → Int32 → Int32 → (Nat → Int32) → (Nat → Int32) → Int32 → Int32 → Int32 → Int32 → Int32 → Option (Int32 × Int32 × (Nat → Int32) × (Nat → Int32))) (la_cities : Int32) (la_passBetween : Nat → Int32) (x1 : Int32) (x2 : Int32) (x3 : Int32) (x4 : Int32) (x5 : Int32) (x6 : Int32) (ma_cities : Int32) (ma_come : Int32) (ma_walked : Nat → Int32) (ma_way : Nat → Int32) : Option (Int32 × Int32 × (Nat → Int32) × (Nat → Int32)) :=
  k34 (x6 + 1) ma_cities ma_come ma_walked ma_way
noncomputable def f_X3_walk_b34 (rec : Int32 → (Nat → Int32) → Int32 → Int32 → (Nat → Int32) → (Nat → Int32) → Int32 → Int32 → Int32 → Int32 → Int32 → Option (Int32 × Int32 × (Nat → Int32) × (Nat → Int32))) (la_cities : Int32) (la_passBetween : Nat → Int32) (x1 : Int32) (x2 : Int32) (x3 : Int32) (x4 : Int32) (x5 : Int32) (k34 : Int32 → Int32 → Int32 → (Nat → Int32) → (Nat → Int32) → Option (Int32 × Int32 × (Nat → Int32) × (Nat → Int32))) (x6 : Int32) (ma_cities : Int32) (ma_come : Int32) (ma_walked : Nat → Int32) (ma_way : Nat → Int32) : Option (Int32 × Int32 × (Nat → Int32) × (Nat → Int32)) :=
  (if la_cities ≤ x6 then
  some (ma_cities, ma_come, ma_walked, ma_way)
  else
  bd1 (f_X2_lossBetween la_cities la_passBetween x1 x6) fun r_2 =>
  (if r_2 = (-1) then
  f_X3_walk_B100 k34 rec la_cities la_passBetween x1 x2 x3 x4 x5 x6 ma_cities ma_come ma_walked ma_way
  else
  (if ((x5 >>> (x6 &&& 31)) &&& 1) = 0 then
  bd1 (f_X3_lostOn  x3 r_2) fun r_4 =>
  bd4 (rec la_cities la_passBetween ma_cities ma_come ma_walked ma_way x6 x2 (x3 - r_4) (x4 + 1) (x5 ||| ((1 : Int32) <<< (x6 &&& 31)))) fun ma_cities_6 ma_come_7 ma_walked_8 ma_way_9 =>
  f_X3_walk_B100 k34 rec la_cities la_passBetween x1 x2 x3 x4 x5 x6 ma_cities_6 ma_come_7 ma_walked_8 ma_way_9
  else
  f_X3_walk_B100 k34 rec la_cities la_passBetween x1 x2 x3 x4 x5 x6 ma_cities ma_come ma_walked ma_way)))
noncomputable def f_X3_walk_L34 (rec : Int32 → (Nat → Int32) → Int32 → Int32 → (Nat → Int32) → (Nat → Int32) → Int32 → Int32 → Int32 → Int32 → Int32 → Option (Int32 × Int32 × (Nat → Int32) × (Nat → Int32))) (la_cities : Int32) (la_passBetween : Nat → Int32) (x1 : Int32) (x2 : Int32) (x3 : Int32) (x4 : Int32) (x5 : Int32) : Nat → Int32 → Int32 → Int32 → (Nat → Int32) → (Nat → Int32) → Option (Int32 × Int32 × (Nat → Int32) × (Nat → Int32))
  | 0 => fun _ _ _ _ _ => none
  | n + 1 => f_X3_walk_b34 rec la_cities la_passBetween x1 x2 x3 x4 x5 (f_X3_walk_L34 rec la_cities la_passBetween x1 x2 x3 x4 x5 n)
noncomputable def f_X3_walk_r (rec : Int32 → (Nat → Int32) → Int32 → Int32 → (Nat → Int32) → (Nat → Int32) → Int32 → Int32 → Int32 → Int32 → Int32 → Option (Int32 × Int32 × (Nat → Int32) × (Nat → Int32))) (la_cities : Int32) (la_passBetween : Nat → Int32) (ma_cities : Int32) (ma_come : Int32) (ma_walked : Nat → Int32) (ma_way : Nat → Int32) (p1 : Int32) (p2 : Int32) (p3 : Int32) (p4 : Int32) (p5 : Int32) : Option (Int32 × Int32 × (Nat → Int32) × (Nat → Int32)) :=
  (if p4 < 6 then
  gIn p4 6 <|
  (if p1 = p2 then
  bd3 (f_X3_keepIfBetter ma_cities ma_come (upd ma_walked p4.toNatClampNeg p1) ma_way p3 (p4 + 1)) fun ma_cities_11 ma_come_12 ma_way_13 =>
  some (ma_cities_11, ma_come_12, upd ma_walked p4.toNatClampNeg p1, ma_way_13)
  else
  f_X3_walk_L34 rec la_cities la_passBetween p1 p2 p3 p4 p5 fuelN 0 ma_cities ma_come (upd ma_walked p4.toNatClampNeg p1) ma_way)
  else
  some (ma_cities, ma_come, ma_walked, ma_way))
noncomputable def f_X3_walk : Nat → Int32 → (Nat → Int32) → Int32 → Int32 → (Nat → Int32) → (Nat → Int32) → Int32 → Int32 → Int32 → Int32 → Int32 → Option (Int32 × Int32 × (Nat → Int32) × (Nat → Int32))
  | 0 => fun _ _ _ _ _ _ _ _ _ _ _ => none
  | d + 1 => f_X3_walk_r (f_X3_walk d)
noncomputable def f_X3_citiesFrom_B61 (k6 : Int32 → Int32 → Option (Int32)) (la_cities : Int32) (la_passBetween : Nat → Int32) (x2 : Int32) (x3 : Int32) : Option (Int32) :=
  k6 x2 (x3 + 1)
noncomputable def f_X3_citiesFrom_B53 (k6 : Int32 → Int32 → Option (Int32)) (k20 : Int32 → Int32 → Option (Int32)) (la_cities : Int32) (la_passBetween : Nat → Int32) (x3 : Int32) (x4 : Int32) (t0 : Int32) (t1 : Int32) : Option (Int32) :=
  k20 (t0 ||| t1) (x4 + 1)
noncomputable def f_X3_citiesFrom_b20 (k6 : Int32 → Int32 → Option (Int32)) (la_cities : Int32) (la_passBetween : Nat → Int32) (x3 : Int32) (k20 : Int32 → Int32 → Option (Int32)) (x2 : Int32) (x4 : Int32) : Option (Int32) :=
  (if la_cities ≤ x4 then
  f_X3_citiesFrom_B61 k6 la_cities la_passBetween x2 x3
  else
  (if ((x2 >>> (x4 &&& 31)) &&& 1) = 1 then
  bd1 (f_X3_neighboursOf la_cities la_passBetween x4) fun r_1 =>
  f_X3_citiesFrom_B53 k6 k20 la_cities la_passBetween x3 x4 x2 r_1
  else
  f_X3_citiesFrom_B53 k6 k20 la_cities la_passBetween x3 x4 x2 0))
noncomputable def f_X3_citiesFrom_L20 (k6 : Int32 → Int32 → Option (Int32)) (la_cities : Int32) (la_passBetween : Nat → Int32) (x3 : Int32) : Nat → Int32 → Int32 → Option (Int32)
  | 0 => fun _ _ => none
  | n + 1 => f_X3_citiesFrom_b20 k6 la_cities la_passBetween x3 (f_X3_citiesFrom_L20 k6 la_cities la_passBetween x3 n)
noncomputable def f_X3_citiesFrom_b6 (la_cities : Int32) (la_passBetween : Nat → Int32) (k6 : Int32 → Int32 → Option (Int32)) (x2 : Int32) (x3 : Int32) : Option (Int32) :=
  (if la_cities ≤ x3 then
  some (x2)
  else
  f_X3_citiesFrom_L20 k6 la_cities la_passBetween x3 fuelN x2 0)
noncomputable def f_X3_citiesFrom_L6 (la_cities : Int32) (la_passBetween : Nat → Int32) : Nat → Int32 → Int32 → Option (Int32)
  | 0 => fun _ _ => none
  | n + 1 => f_X3_citiesFrom_b6 la_cities la_passBetween (f_X3_citiesFrom_L6 la_cities la_passBetween n)
noncomputable def f_X3_citiesFrom (la_cities : Int32) (la_passBetween : Nat → Int32) (p1 : Int32) : Option (Int32) :=
  f_X3_citiesFrom_L6 la_cities la_passBetween fuelN ((1 : Int32) <<< (p1 &&& 31)) 0
noncomputable def f_X3_mostThatCome (la_cities : Int32) (la_passBetween : Nat → Int32) (ma_cities : Int32) (ma_come : Int32) (ma_walked : Nat → Int32) (ma_way : Nat → Int32) (p1 : Int32) (p2 : Int32) (p3 : Int32) : Option (Int32 × Int32 × Int32 × (Nat → Int32) × (Nat → Int32)) :=
  bd4 (f_X3_walk 7 la_cities la_passBetween 0 (-2) ma_walked ma_way p1 p2 p3 (0 : Int32) ((1 : Int32) <<< (p1 &&& 31))) fun ma_cities_1 ma_come_2 ma_walked_3 ma_way_4 =>
  some (ma_come_2, ma_cities_1, ma_come_2, ma_walked_3, ma_way_4)
noncomputable def f_X3_dearestPass_B95 (k21 : Int32 → Int32 → Int32 → Int32 → Option (Int32 × Int32 × Int32 × (Nat → Int32) × (Nat → Int32))) (la_cities : Int32) (la_passBetween : Nat → Int32) (x4 : Int32) (x5 : Int32) (x6 : Int32) (x7 : Int32) (x8 : Int32) (ma_cities : Int32) (ma_come : Int32) (ma_walked : Nat → Int32) (ma_way : Nat → Int32) : Option (Int32 × Int32 × Int32 × (Nat → Int32) × (Nat → Int32)) :=
  k21 x4 x5 (x6 - x8) (x7 + 1)
noncomputable def f_X3_dearestPass_b21 (la_cities : Int32) (la_passBetween : Nat → Int32) (ma_cities : Int32) (ma_come : Int32) (ma_walked : Nat → Int32) (ma_way : Nat → Int32) (k21 : Int32 → Int32 → Int32 → Int32 → Option (Int32 × Int32 × Int32 × (Nat → Int32) × (Nat → Int32))) (x4 : Int32) (x5 : Int32) (x6 : Int32) (x7 : Int32) : Option (Int32 × Int32 × Int32 × (Nat → Int32) × (Nat → Int32)) :=
  (if ma_cities ≤ (x7 + 1) then
  some (x4, ma_cities, ma_come, ma_walked, ma_way)
  else
  gIn x7 6 <|
  gIn (x7 + 1) 6 <|
  bd1 (f_X2_lossBetween la_cities la_passBetween (ma_way x7.toNatClampNeg) (ma_way (x7 + 1).toNatClampNeg)) fun r_9 =>
  bd1 (f_X3_lostOn  x6 r_9) fun r_11 =>
  (if r_11 ≤ x5 then
  f_X3_dearestPass_B95 k21 la_cities la_passBetween x4 x5 x6 x7 r_11 ma_cities ma_come ma_walked ma_way
  else
  gIn x7 6 <|
  gIn (x7 + 1) 6 <|
  f_X3_dearestPass_B95 k21 la_cities la_passBetween ((10 * (ma_way x7.toNatClampNeg)) + (ma_way (x7 + 1).toNatClampNeg)) r_11 x6 x7 r_11 ma_cities ma_come ma_walked ma_way))
noncomputable def f_X3_dearestPass_L21 (la_cities : Int32) (la_passBetween : Nat → Int32) (ma_cities : Int32) (ma_come : Int32) (ma_walked : Nat → Int32) (ma_way : Nat → Int32) : Nat → Int32 → Int32 → Int32 → Int32 → Option (Int32 × Int32 × Int32 × (Nat → Int32) × (Nat → Int32))
  | 0 => fun _ _ _ _ => none
  | n + 1 => f_X3_dearestPass_b21 la_cities la_passBetween ma_cities ma_come ma_walked ma_way (f_X3_dearestPass_L21 la_cities la_passBetween ma_cities ma_come ma_walked ma_way n)
noncomputable def f_X3_dearestPass (la_cities : Int32) (la_passBetween : Nat → Int32) (ma_cities : Int32) (ma_come : Int32) (ma_walked : Nat → Int32) (ma_way : Nat → Int32) (p1 : Int32) (p2 : Int32) (p3 : Int32) : Option (Int32 × Int32 × Int32 × (Nat → Int32) × (Nat → Int32)) :=
  bd5 (f_X3_mostThatCome la_cities la_passBetween ma_cities ma_come ma_walked ma_way p1 p2 p3) fun r_1 ma_cities_2 ma_come_3 ma_walked_4 ma_way_5 =>
  f_X3_dearestPass_L21 la_cities la_passBetween ma_cities_2 ma_come_3 ma_walked_4 ma_way_5 fuelN (-2) 0 p3 0
noncomputable def f_X3_leastThatSetOut_B76 (k27 : Int32 → Int32 → Int32 → Int32 → Int32 → (Nat → Int32) → (Nat → Int32) → Option (Int32 × Int32 × Int32 × (Nat → Int32) × (Nat → Int32))) (la_cities : Int32) (la_passBetween : Nat → Int32) (x1 : Int32) (x2 : Int32) (x3 : Int32) (x4 : Int32) (x5 : Int32) (x6 : Int32) (ma_cities : Int32) (ma_come : Int32) (ma_walked : Nat → Int32) (ma_way : Nat → Int32) : Option (Int32 × Int32 × Int32 × (Nat → Int32) × (Nat → Int32)) :=
  k27 x4 x5 (x6 + 1) ma_cities ma_come ma_walked ma_way
noncomputable def f_X3_leastThatSetOut_b27 (la_cities : Int32) (la_passBetween : Nat → Int32) (x1 : Int32) (x2 : Int32) (x3 : Int32) (k27 : Int32 → Int32 → Int32 → Int32 → Int32 → (Nat → Int32) → (Nat → Int32) → Option (Int32 × Int32 × Int32 × (Nat → Int32) × (Nat → Int32))) (x4 : Int32) (x5 : Int32) (x6 : Int32) (ma_cities : Int32) (ma_come : Int32) (ma_walked : Nat → Int32) (ma_way : Nat → Int32) : Option (Int32 × Int32 × Int32 × (Nat → Int32) × (Nat → Int32)) :=
  (if 999 ≤ x6 then
  some (x5, ma_cities, ma_come, ma_walked, ma_way)
  else
  (if x5 ≤ x4 then
  some (x5, ma_cities, ma_come, ma_walked, ma_way)
  else
  bd5 (f_X3_mostThatCome la_cities la_passBetween ma_cities ma_come ma_walked ma_way x1 x2 ((x4 + x5) / 2)) fun r_7 ma_cities_8 ma_come_9 ma_walked_10 ma_way_11 =>
  (if r_7 < x3 then
  f_X3_leastThatSetOut_B76 k27 la_cities la_passBetween x1 x2 x3 (((x4 + x5) / 2) + 1) x5 x6 ma_cities_8 ma_come_9 ma_walked_10 ma_way_11
  else
  f_X3_leastThatSetOut_B76 k27 la_cities la_passBetween x1 x2 x3 x4 ((x4 + x5) / 2) x6 ma_cities_8 ma_come_9 ma_walked_10 ma_way_11)))
noncomputable def f_X3_leastThatSetOut_L27 (la_cities : Int32) (la_passBetween : Nat → Int32) (x1 : Int32) (x2 : Int32) (x3 : Int32) : Nat → Int32 → Int32 → Int32 → Int32 → Int32 → (Nat → Int32) → (Nat → Int32) → Option (Int32 × Int32 × Int32 × (Nat → Int32) × (Nat → Int32))
  | 0 => fun _ _ _ _ _ _ _ => none
  | n + 1 => f_X3_leastThatSetOut_b27 la_cities la_passBetween x1 x2 x3 (f_X3_leastThatSetOut_L27 la_cities la_passBetween x1 x2 x3 n)
noncomputable def f_X3_leastThatSetOut (la_cities : Int32) (la_passBetween : Nat → Int32) (ma_cities : Int32) (ma_come : Int32) (ma_walked : Nat → Int32) (ma_way : Nat → Int32) (p1 : Int32) (p2 : Int32) (p3 : Int32) : Option (Int32 × Int32 × Int32 × (Nat → Int32) × (Nat → Int32)) :=
  bd5 (f_X3_mostThatCome la_cities la_passBetween ma_cities ma_come ma_walked ma_way p1 p2 (999 : Int32)) fun r_1 ma_cities_2 ma_come_3 ma_walked_4 ma_way_5 =>
  (if p3 ≤ r_1 then
  f_X3_leastThatSetOut_L27 la_cities la_passBetween p1 p2 p3 fuelN 0 999 0 ma_cities_2 ma_come_3 ma_walked_4 ma_way_5
  else
  some ((-2), ma_cities_2, ma_come_3, ma_walked_4, ma_way_5))
noncomputable def f_X10_turnBy_B88 (k17 : Int32 → Int32 → Option (Int32)) (la_beasts : Int32) (la_kind : Nat → Int32) (la_mood : Nat → Int32) (no_dead : Int32) (no_wet : Int32) (no_at : Nat → Int32) (x1 : Int32) (x2 : Int32) (x3 : Int32) : Option (Int32) :=
  k17 x2 (x3 + 1)
noncomputable def f_X10_turnBy_b17 (la_beasts : Int32) (la_kind : Nat → Int32) (la_mood : Nat → Int32) (no_dead : Int32) (no_wet : Int32) (no_at : Nat → Int32) (x1 : Int32) (k17 : Int32 → Int32 → Option (Int32)) (x2 : Int32) (x3 : Int32) : Option (Int32) :=
  (if la_beasts ≤ x3 then
  some (x2)
  else
  gIn x3 5 <|
  gIn x1 5 <|
  (if 1 < (if 0 ≤ ((no_at x3.toNatClampNeg) - (no_at x1.toNatClampNeg)) then (no_at x3.toNatClampNeg) - (no_at x1.toNatClampNeg) else 0 - ((no_at x3.toNatClampNeg) - (no_at x1.toNatClampNeg))) then
  f_X10_turnBy_B88 k17 la_beasts la_kind la_mood no_dead no_wet no_at x1 x2 x3
  else
  bd1 (f_X8_isDead no_dead x3) fun r_6 =>
  (if r_6 = 0 then
  bd1 (f_X4_holdOf la_kind la_mood no_wet x3) fun r_9 =>
  (if 50 ≤ r_9 then
  f_X10_turnBy_B88 k17 la_beasts la_kind la_mood no_dead no_wet no_at x1 x2 x3
  else
  f_X10_turnBy_B88 k17 la_beasts la_kind la_mood no_dead no_wet no_at x1 (x2 ||| ((1 : Int32) <<< (x3 &&& 31))) x3)
  else
  f_X10_turnBy_B88 k17 la_beasts la_kind la_mood no_dead no_wet no_at x1 x2 x3)))
noncomputable def f_X10_turnBy_L17 (la_beasts : Int32) (la_kind : Nat → Int32) (la_mood : Nat → Int32) (no_dead : Int32) (no_wet : Int32) (no_at : Nat → Int32) (x1 : Int32) : Nat → Int32 → Int32 → Option (Int32)
  | 0 => fun _ _ => none
  | n + 1 => f_X10_turnBy_b17 la_beasts la_kind la_mood no_dead no_wet no_at x1 (f_X10_turnBy_L17 la_beasts la_kind la_mood no_dead no_wet no_at x1 n)
noncomputable def f_X10_turnBy (la_beasts : Int32) (la_kind : Nat → Int32) (la_mood : Nat → Int32) (no_dead : Int32) (no_wet : Int32) (no_at : Nat → Int32) (p1 : Int32) : Option (Int32) :=
  bd1 (f_X8_isDead no_dead p1) fun r_1 =>
  (if r_1 = 0 then
  f_X10_turnBy_L17 la_beasts la_kind la_mood no_dead no_wet no_at p1 fuelN 0 0
  else
  some (0))
noncomputable def f_X10_turnBySet_B35 (k4 : Int32 → Int32 → Option (Int32)) (la_beasts : Int32) (tr_turns : Nat → Int32) (x1 : Int32) (x3 : Int32) (t0 : Int32) (t1 : Int32) : Option (Int32) :=
  k4 (t0 ||| t1) (x3 + 1)
noncomputable def f_X10_turnBySet_b4 (la_beasts : Int32) (tr_turns : Nat → Int32) (x1 : Int32) (k4 : Int32 → Int32 → Option (Int32)) (x2 : Int32) (x3 : Int32) : Option (Int32) :=
  (if la_beasts ≤ x3 then
  some (x2)
  else
  (if ((x1 >>> (x3 &&& 31)) &&& 1) = 1 then
  gIn x3 5 <|
  f_X10_turnBySet_B35 k4 la_beasts tr_turns x1 x3 x2 (tr_turns x3.toNatClampNeg)
  else
  f_X10_turnBySet_B35 k4 la_beasts tr_turns x1 x3 x2 0))
noncomputable def f_X10_turnBySet_L4 (la_beasts : Int32) (tr_turns : Nat → Int32) (x1 : Int32) : Nat → Int32 → Int32 → Option (Int32)
  | 0 => fun _ _ => none
  | n + 1 => f_X10_turnBySet_b4 la_beasts tr_turns x1 (f_X10_turnBySet_L4 la_beasts tr_turns x1 n)
noncomputable def f_X10_turnBySet (la_beasts : Int32) (tr_turns : Nat → Int32) (p1 : Int32) : Option (Int32) :=
  f_X10_turnBySet_L4 la_beasts tr_turns p1 fuelN 0 0
noncomputable def f_X10_count_b32 (la_beasts : Int32) (x1 : Int32) (tr_sets : Int32) (tr_inSome : Int32) (tr_inAll : Int32) (k32 : Int32 → (Nat → Int32) → Option (Int32 × Int32 × Int32 × (Nat → Int32))) (x2 : Int32) (tr_setsWith : Nat → Int32) : Option (Int32 × Int32 × Int32 × (Nat → Int32)) :=
  (if la_beasts ≤ x2 then
  some (tr_sets, tr_inSome, tr_inAll, tr_setsWith)
  else
  gIn x2 5 <|
  gIn x2 5 <|
  k32 (x2 + 1) (upd tr_setsWith x2.toNatClampNeg ((tr_setsWith x2.toNatClampNeg) + ((x1 >>> (x2 &&& 31)) &&& 1))))
noncomputable def f_X10_count_L32 (la_beasts : Int32) (x1 : Int32) (tr_sets : Int32) (tr_inSome : Int32) (tr_inAll : Int32) : Nat → Int32 → (Nat → Int32) → Option (Int32 × Int32 × Int32 × (Nat → Int32))
  | 0 => fun _ _ => none
  | n + 1 => f_X10_count_b32 la_beasts x1 tr_sets tr_inSome tr_inAll (f_X10_count_L32 la_beasts x1 tr_sets tr_inSome tr_inAll n)
noncomputable def f_X10_count (la_beasts : Int32) (tr_sets : Int32) (tr_inSome : Int32) (tr_inAll : Int32) (tr_setsWith : Nat → Int32) (p1 : Int32) : Option (Int32 × Int32 × Int32 × (Nat → Int32)) :=
  f_X10_count_L32 la_beasts p1 (tr_sets + 1) (tr_inSome ||| p1) (tr_inAll &&& p1) fuelN 0 tr_setsWith
noncomputable def f_X10_bestToAsk_B67 (k10 : Int32 → Int32 → Int32 → Option (Int32)) (la_beasts : Int32) (tr_sets : Int32) (tr_setsWith : Nat → Int32) (x1 : Int32) (x2 : Int32) (x3 : Int32) : Option (Int32) :=
  k10 x1 x2 (x3 + 1)
noncomputable def f_X10_bestToAsk_B62 (k10 : Int32 → Int32 → Int32 → Option (Int32)) (la_beasts : Int32) (tr_sets : Int32) (tr_setsWith : Nat → Int32) (x3 : Int32) (x4 : Int32) : Option (Int32) :=
  f_X10_bestToAsk_B67 k10 la_beasts tr_sets tr_setsWith x3 x4 x3
noncomputable def f_X10_bestToAsk_b10 (la_beasts : Int32) (tr_sets : Int32) (tr_setsWith : Nat → Int32) (k10 : Int32 → Int32 → Int32 → Option (Int32)) (x1 : Int32) (x2 : Int32) (x3 : Int32) : Option (Int32) :=
  (if la_beasts ≤ x3 then
  some (x1)
  else
  (if tr_sets ≤ 0 then
  some (x1)
  else
  gIn x3 5 <|
  gIn x3 5 <|
  (if x1 = (-2) then
  f_X10_bestToAsk_B62 k10 la_beasts tr_sets tr_setsWith x3 (if (tr_setsWith x3.toNatClampNeg) < (tr_sets - (tr_setsWith x3.toNatClampNeg)) then tr_sets - (tr_setsWith x3.toNatClampNeg) else tr_setsWith x3.toNatClampNeg)
  else
  (if x2 ≤ (if (tr_setsWith x3.toNatClampNeg) < (tr_sets - (tr_setsWith x3.toNatClampNeg)) then tr_sets - (tr_setsWith x3.toNatClampNeg) else tr_setsWith x3.toNatClampNeg) then
  f_X10_bestToAsk_B67 k10 la_beasts tr_sets tr_setsWith x1 x2 x3
  else
  f_X10_bestToAsk_B62 k10 la_beasts tr_sets tr_setsWith x3 (if (tr_setsWith x3.toNatClampNeg) < (tr_sets - (tr_setsWith x3.toNatClampNeg)) then tr_sets - (tr_setsWith x3.toNatClampNeg) else tr_setsWith x3.toNatClampNeg)))))
noncomputable def f_X10_bestToAsk_L10 (la_beasts : Int32) (tr_sets : Int32) (tr_setsWith : Nat → Int32) : Nat → Int32 → Int32 → Int32 → Option (Int32)
  | 0 => fun _ _ _ => none
  | n + 1 => f_X10_bestToAsk_b10 la_beasts tr_sets tr_setsWith (f_X10_bestToAsk_L10 la_beasts tr_sets tr_setsWith n)
noncomputable def f_X10_bestToAsk (la_beasts : Int32) (tr_sets : Int32) (tr_setsWith : Nat → Int32) : Option (Int32) :=
  f_X10_bestToAsk_L10 la_beasts tr_sets tr_setsWith fuelN (-2) tr_sets 0
noncomputable def f_X10_findSets_B131 (la_beasts : Int32) (la_turned : Int32) (la_kind : Nat → Int32) (la_mood : Nat → Int32) (no_dead : Int32) (no_wet : Int32) (no_at : Nat → Int32) (t1 : Int32) (tr_sets : Int32) (tr_inSome : Int32) (tr_inAll : Int32) (tr_turns : Nat → Int32) (tr_setsWith : Nat → Int32) : Option (Int32 × Int32 × Int32 × (Nat → Int32) × (Nat → Int32)) :=
  some (tr_sets, tr_inSome, t1, tr_turns, tr_setsWith)
noncomputable def f_X10_findSets_B115 (la_beasts : Int32) (la_turned : Int32) (la_kind : Nat → Int32) (la_mood : Nat → Int32) (no_dead : Int32) (no_wet : Int32) (no_at : Nat → Int32) (tr_sets : Int32) (tr_inSome : Int32) (tr_inAll : Int32) (tr_turns : Nat → Int32) (tr_setsWith : Nat → Int32) : Option (Int32 × Int32 × Int32 × (Nat → Int32) × (Nat → Int32)) :=
  (if tr_sets = 0 then
  f_X10_findSets_B131 la_beasts la_turned la_kind la_mood no_dead no_wet no_at 0 tr_sets tr_inSome tr_inAll tr_turns tr_setsWith
  else
  f_X10_findSets_B131 la_beasts la_turned la_kind la_mood no_dead no_wet no_at tr_inAll tr_sets tr_inSome tr_inAll tr_turns tr_setsWith)
noncomputable def f_X10_findSets_B109 (k64 : Int32 → Int32 → Int32 → Int32 → (Nat → Int32) → Option (Int32 × Int32 × Int32 × (Nat → Int32) × (Nat → Int32))) (la_beasts : Int32) (la_turned : Int32) (la_kind : Nat → Int32) (la_mood : Nat → Int32) (no_dead : Int32) (no_wet : Int32) (no_at : Nat → Int32) (x1 : Int32) (tr_sets : Int32) (tr_inSome : Int32) (tr_inAll : Int32) (tr_turns : Nat → Int32) (tr_setsWith : Nat → Int32) : Option (Int32 × Int32 × Int32 × (Nat → Int32) × (Nat → Int32)) :=
  k64 (x1 + 1) tr_sets tr_inSome tr_inAll tr_setsWith
noncomputable def f_X10_findSets_b64 (la_beasts : Int32) (la_turned : Int32) (la_kind : Nat → Int32) (la_mood : Nat → Int32) (no_dead : Int32) (no_wet : Int32) (no_at : Nat → Int32) (tr_turns : Nat → Int32) (k64 : Int32 → Int32 → Int32 → Int32 → (Nat → Int32) → Option (Int32 × Int32 × Int32 × (Nat → Int32) × (Nat → Int32))) (x1 : Int32) (tr_sets : Int32) (tr_inSome : Int32) (tr_inAll : Int32) (tr_setsWith : Nat → Int32) : Option (Int32 × Int32 × Int32 × (Nat → Int32) × (Nat → Int32)) :=
  (if ((1 : Int32) <<< (la_beasts &&& 31)) ≤ x1 then
  f_X10_findSets_B115 la_beasts la_turned la_kind la_mood no_dead no_wet no_at tr_sets tr_inSome tr_inAll tr_turns tr_setsWith
  else
  (if (x1 &&& no_dead) = 0 then
  bd1 (f_X10_turnBySet la_beasts tr_turns x1) fun r_1 =>
  (if r_1 = la_turned then
  bd4 (f_X10_count la_beasts tr_sets tr_inSome tr_inAll tr_setsWith x1) fun tr_sets_3 tr_inSome_4 tr_inAll_5 tr_setsWith_6 =>
  f_X10_findSets_B109 k64 la_beasts la_turned la_kind la_mood no_dead no_wet no_at x1 tr_sets_3 tr_inSome_4 tr_inAll_5 tr_turns tr_setsWith_6
  else
  f_X10_findSets_B109 k64 la_beasts la_turned la_kind la_mood no_dead no_wet no_at x1 tr_sets tr_inSome tr_inAll tr_turns tr_setsWith)
  else
  f_X10_findSets_B109 k64 la_beasts la_turned la_kind la_mood no_dead no_wet no_at x1 tr_sets tr_inSome tr_inAll tr_turns tr_setsWith))
noncomputable def f_X10_findSets_L64 (la_beasts : Int32) (la_turned : Int32) (la_kind : Nat → Int32) (la_mood : Nat → Int32) (no_dead : Int32) (no_wet : Int32) (no_at : Nat → Int32) (tr_turns : Nat → Int32) : Nat → Int32 → Int32 → Int32 → Int32 → (Nat → Int32) → Option (Int32 × Int32 × Int32 × (Nat → Int32) × (Nat → Int32))
  | 0 => fun _ _ _ _ _ => none
  | n + 1 => f_X10_findSets_b64 la_beasts la_turned la_kind la_mood no_dead no_wet no_at tr_turns (f_X10_findSets_L64 la_beasts la_turned la_kind la_mood no_dead no_wet no_at tr_turns n)
noncomputable def f_X10_findSets_B62 (la_beasts : Int32) (la_turned : Int32) (la_kind : Nat → Int32) (la_mood : Nat → Int32) (no_dead : Int32) (no_wet : Int32) (no_at : Nat → Int32) (tr_sets : Int32) (tr_inSome : Int32) (tr_inAll : Int32) (tr_turns : Nat → Int32) (tr_setsWith : Nat → Int32) : Option (Int32 × Int32 × Int32 × (Nat → Int32) × (Nat → Int32)) :=
  f_X10_findSets_L64 la_beasts la_turned la_kind la_mood no_dead no_wet no_at tr_turns fuelN 1 tr_sets tr_inSome tr_inAll tr_setsWith
noncomputable def f_X10_findSets_b27 (la_beasts : Int32) (la_turned : Int32) (la_kind : Nat → Int32) (la_mood : Nat → Int32) (no_dead : Int32) (no_wet : Int32) (no_at : Nat → Int32) (tr_sets : Int32) (tr_inSome : Int32) (tr_inAll : Int32) (k27 : Int32 → (Nat → Int32) → (Nat → Int32) → Option (Int32 × Int32 × Int32 × (Nat → Int32) × (Nat → Int32))) (x1 : Int32) (tr_turns : Nat → Int32) (tr_setsWith : Nat → Int32) : Option (Int32 × Int32 × Int32 × (Nat → Int32) × (Nat → Int32)) :=
  (if la_beasts ≤ x1 then
  f_X10_findSets_B62 la_beasts la_turned la_kind la_mood no_dead no_wet no_at tr_sets tr_inSome tr_inAll tr_turns tr_setsWith
  else
  bd1 (f_X10_turnBy la_beasts la_kind la_mood no_dead no_wet no_at x1) fun r_8 =>
  gIn x1 5 <|
  gIn x1 5 <|
  k27 (x1 + 1) (upd tr_turns x1.toNatClampNeg r_8) (upd tr_setsWith x1.toNatClampNeg 0))
noncomputable def f_X10_findSets_L27 (la_beasts : Int32) (la_turned : Int32) (la_kind : Nat → Int32) (la_mood : Nat → Int32) (no_dead : Int32) (no_wet : Int32) (no_at : Nat → Int32) (tr_sets : Int32) (tr_inSome : Int32) (tr_inAll : Int32) : Nat → Int32 → (Nat → Int32) → (Nat → Int32) → Option (Int32 × Int32 × Int32 × (Nat → Int32) × (Nat → Int32))
  | 0 => fun _ _ _ => none
  | n + 1 => f_X10_findSets_b27 la_beasts la_turned la_kind la_mood no_dead no_wet no_at tr_sets tr_inSome tr_inAll (f_X10_findSets_L27 la_beasts la_turned la_kind la_mood no_dead no_wet no_at tr_sets tr_inSome tr_inAll n)
noncomputable def f_X10_findSets (la_beasts : Int32) (la_turned : Int32) (la_kind : Nat → Int32) (la_mood : Nat → Int32) (no_dead : Int32) (no_wet : Int32) (no_at : Nat → Int32) (tr_sets : Int32) (tr_inSome : Int32) (tr_inAll : Int32) (tr_turns : Nat → Int32) (tr_setsWith : Nat → Int32) : Option (Int32 × Int32 × Int32 × (Nat → Int32) × (Nat → Int32)) :=
  f_X10_findSets_L27 la_beasts la_turned la_kind la_mood no_dead no_wet no_at 0 0 (((1 : Int32) <<< (la_beasts &&& 31)) - 1) fuelN 0 tr_turns tr_setsWith
noncomputable def f_X0_leaveBehind (no_drawn : Int32) (no_strong : Nat → Int32) (fi_drawn : Int32) (fi_left : Nat → Int32) : Option (Int32 × (Nat → Int32)) :=
  some (fi_drawn, va_cpy fi_left no_strong ((0 : Int32).toNatClampNeg) ((0 : Int32).toNatClampNeg) ((6 : Int32).toNatClampNeg))
noncomputable def f_X0_holdsAllSteps_b2 (la_deep : Int32) (x1 : Int32) (k2 : Int32 → Int32 → Option (Int32 × Int32)) (x2 : Int32) (fi_drawn : Int32) : Option (Int32 × Int32) :=
  (if la_deep ≤ x2 then
  some (1, fi_drawn)
  else
  (if ((((75 * fi_drawn) + 74) - ((75 * fi_drawn) + 74) / 65537 * 65537) - (((75 * fi_drawn) + 74) - ((75 * fi_drawn) + 74) / 65537 * 65537) / 100 * 100) < x1 then
  k2 (x2 + 1) (((75 * fi_drawn) + 74) - ((75 * fi_drawn) + 74) / 65537 * 65537)
  else
  some (0, ((75 * fi_drawn) + 74) - ((75 * fi_drawn) + 74) / 65537 * 65537)))
noncomputable def f_X0_holdsAllSteps_L2 (la_deep : Int32) (x1 : Int32) : Nat → Int32 → Int32 → Option (Int32 × Int32)
  | 0 => fun _ _ => none
  | n + 1 => f_X0_holdsAllSteps_b2 la_deep x1 (f_X0_holdsAllSteps_L2 la_deep x1 n)
noncomputable def f_X0_holdsAllSteps (la_deep : Int32) (fi_drawn : Int32) (p1 : Int32) : Option (Int32 × Int32) :=
  f_X0_holdsAllSteps_L2 la_deep p1 fuelN 0 fi_drawn
noncomputable def f_X0_charge (la_deep : Int32) (la_who : Nat → Int32) (la_kind : Nat → Int32) (la_mood : Nat → Int32) (no_dead : Int32) (no_wet : Int32) (no_at : Nat → Int32) (no_wounds : Nat → Int32) (fi_drawn : Int32) (fi_foeHarm : Int32) (fi_ownHarm : Int32) (fi_gotAcross : Int32) (fi_left : Nat → Int32) (p1 : Int32) : Option (Int32 × Int32 × Int32 × Int32 × (Nat → Int32)) :=
  bd1 (f_X4_forceOf la_kind no_dead no_wounds p1) fun r_1 =>
  bd1 (f_X4_holdOf la_kind la_mood no_wet p1) fun r_3 =>
  bd2 (f_X0_holdsAllSteps la_deep fi_drawn r_3) fun r_5 fi_drawn_6 =>
  (if r_5 = 0 then
  bd1 (f_X4_turningHarm  r_1) fun r_23 =>
  some (fi_drawn_6, fi_foeHarm, fi_ownHarm + r_23, fi_gotAcross, fi_left)
  else
  gIn p1 5 <|
  gIn p1 5 <|
  gIn (no_at p1.toNatClampNeg) 6 <|
  gIn (no_at p1.toNatClampNeg) 6 <|
  bd1 (f_X4_foeHarm  (la_kind p1.toNatClampNeg) r_1 (la_who (no_at p1.toNatClampNeg).toNatClampNeg) (fi_left (no_at p1.toNatClampNeg).toNatClampNeg)) fun r_13 =>
  gIn p1 5 <|
  gIn (no_at p1.toNatClampNeg) 6 <|
  gIn (no_at p1.toNatClampNeg) 6 <|
  bd1 (f_X4_ownHarm  (la_kind p1.toNatClampNeg) r_1 (la_who (no_at p1.toNatClampNeg).toNatClampNeg) (fi_left (no_at p1.toNatClampNeg).toNatClampNeg)) fun r_18 =>
  gIn (no_at p1.toNatClampNeg) 6 <|
  (if (la_who (no_at p1.toNatClampNeg).toNatClampNeg) = 2 then
  gIn (no_at p1.toNatClampNeg) 6 <|
  gIn (no_at p1.toNatClampNeg) 6 <|
  some (fi_drawn_6, fi_foeHarm + r_13, fi_ownHarm + r_18, fi_gotAcross ||| ((1 : Int32) <<< (p1 &&& 31)), upd fi_left (no_at p1.toNatClampNeg).toNatClampNeg ((fi_left (no_at p1.toNatClampNeg).toNatClampNeg) - r_13))
  else
  some (fi_drawn_6, fi_foeHarm + r_13, fi_ownHarm + r_18, fi_gotAcross ||| ((1 : Int32) <<< (p1 &&& 31)), fi_left)))
noncomputable def f_X0_fightFrom_B67 (k40 : Int32 → Int32 → Int32 → Int32 → Int32 → (Nat → Int32) → Option (Int32 × Int32 × Int32 × Int32 × (Nat → Int32))) (la_deep : Int32) (la_beasts : Int32) (la_who : Nat → Int32) (la_kind : Nat → Int32) (la_mood : Nat → Int32) (no_dead : Int32) (no_wet : Int32) (no_strong : Nat → Int32) (no_at : Nat → Int32) (no_wounds : Nat → Int32) (x2 : Int32) (fi_drawn : Int32) (fi_foeHarm : Int32) (fi_ownHarm : Int32) (fi_gotAcross : Int32) (fi_left : Nat → Int32) : Option (Int32 × Int32 × Int32 × Int32 × (Nat → Int32)) :=
  k40 (x2 + 1) fi_drawn fi_foeHarm fi_ownHarm fi_gotAcross fi_left
noncomputable def f_X0_fightFrom_b40 (la_deep : Int32) (la_beasts : Int32) (la_who : Nat → Int32) (la_kind : Nat → Int32) (la_mood : Nat → Int32) (no_dead : Int32) (no_wet : Int32) (no_strong : Nat → Int32) (no_at : Nat → Int32) (no_wounds : Nat → Int32) (k40 : Int32 → Int32 → Int32 → Int32 → Int32 → (Nat → Int32) → Option (Int32 × Int32 × Int32 × Int32 × (Nat → Int32))) (x2 : Int32) (fi_drawn : Int32) (fi_foeHarm : Int32) (fi_ownHarm : Int32) (fi_gotAcross : Int32) (fi_left : Nat → Int32) : Option (Int32 × Int32 × Int32 × Int32 × (Nat → Int32)) :=
  (if la_beasts ≤ x2 then
  some (fi_drawn, fi_foeHarm, fi_ownHarm, fi_gotAcross, fi_left)
  else
  bd1 (f_X8_isDead no_dead x2) fun r_1 =>
  (if r_1 = 0 then
  bd5 (f_X0_charge la_deep la_who la_kind la_mood no_dead no_wet no_at no_wounds fi_drawn fi_foeHarm fi_ownHarm fi_gotAcross fi_left x2) fun fi_drawn_4 fi_foeHarm_5 fi_ownHarm_6 fi_gotAcross_7 fi_left_8 =>
  f_X0_fightFrom_B67 k40 la_deep la_beasts la_who la_kind la_mood no_dead no_wet no_strong no_at no_wounds x2 fi_drawn_4 fi_foeHarm_5 fi_ownHarm_6 fi_gotAcross_7 fi_left_8
  else
  f_X0_fightFrom_B67 k40 la_deep la_beasts la_who la_kind la_mood no_dead no_wet no_strong no_at no_wounds x2 fi_drawn fi_foeHarm fi_ownHarm fi_gotAcross fi_left))
noncomputable def f_X0_fightFrom_L40 (la_deep : Int32) (la_beasts : Int32) (la_who : Nat → Int32) (la_kind : Nat → Int32) (la_mood : Nat → Int32) (no_dead : Int32) (no_wet : Int32) (no_strong : Nat → Int32) (no_at : Nat → Int32) (no_wounds : Nat → Int32) : Nat → Int32 → Int32 → Int32 → Int32 → Int32 → (Nat → Int32) → Option (Int32 × Int32 × Int32 × Int32 × (Nat → Int32))
  | 0 => fun _ _ _ _ _ _ => none
  | n + 1 => f_X0_fightFrom_b40 la_deep la_beasts la_who la_kind la_mood no_dead no_wet no_strong no_at no_wounds (f_X0_fightFrom_L40 la_deep la_beasts la_who la_kind la_mood no_dead no_wet no_strong no_at no_wounds n)
noncomputable def f_X0_fightFrom (la_deep : Int32) (la_beasts : Int32) (la_who : Nat → Int32) (la_kind : Nat → Int32) (la_mood : Nat → Int32) (no_dead : Int32) (no_wet : Int32) (no_strong : Nat → Int32) (no_at : Nat → Int32) (no_wounds : Nat → Int32) (fi_drawn : Int32) (fi_foeHarm : Int32) (fi_ownHarm : Int32) (fi_gotAcross : Int32) (fi_left : Nat → Int32) (p1 : Int32) : Option (Int32 × Int32 × Int32 × Int32 × (Nat → Int32)) :=
  f_X0_fightFrom_L40 la_deep la_beasts la_who la_kind la_mood no_dead no_wet no_strong no_at no_wounds fuelN 0 p1 0 0 0 (va_cpy no_strong fi_left ((0 : Int32).toNatClampNeg) ((0 : Int32).toNatClampNeg) ((6 : Int32).toNatClampNeg))
noncomputable def f_X0_fightMany_B152 (k48 : Int32 → Int32 → Int32 → Int32 → Int32 → Int32 → Int32 → Int32 → (Nat → Int32) → (Nat → Int32) → Option (Int32 × Int32 × Int32 × Int32 × Int32 × Int32 × Int32 × (Nat → Int32) × (Nat → Int32))) (la_deep : Int32) (la_beasts : Int32) (la_who : Nat → Int32) (la_kind : Nat → Int32) (la_mood : Nat → Int32) (no_dead : Int32) (no_wet : Int32) (no_strong : Nat → Int32) (no_at : Nat → Int32) (no_wounds : Nat → Int32) (x2 : Int32) (x3 : Int32) (fi_drawn : Int32) (fi_foeHarm : Int32) (fi_ownHarm : Int32) (fi_gotAcross : Int32) (fi_foeHarmInAll : Int32) (fi_ownHarmInAll : Int32) (fi_wins : Int32) (fi_left : Nat → Int32) (fi_crossings : Nat → Int32) : Option (Int32 × Int32 × Int32 × Int32 × Int32 × Int32 × Int32 × (Nat → Int32) × (Nat → Int32)) :=
  k48 (x3 + 1) fi_drawn fi_foeHarm fi_ownHarm fi_gotAcross fi_foeHarmInAll fi_ownHarmInAll fi_wins fi_left fi_crossings
noncomputable def f_X0_fightMany_b115 (k48 : Int32 → Int32 → Int32 → Int32 → Int32 → Int32 → Int32 → Int32 → (Nat → Int32) → (Nat → Int32) → Option (Int32 × Int32 × Int32 × Int32 × Int32 × Int32 × Int32 × (Nat → Int32) × (Nat → Int32))) (la_deep : Int32) (la_beasts : Int32) (la_who : Nat → Int32) (la_kind : Nat → Int32) (la_mood : Nat → Int32) (no_dead : Int32) (no_wet : Int32) (no_strong : Nat → Int32) (no_at : Nat → Int32) (no_wounds : Nat → Int32) (x2 : Int32) (x3 : Int32) (fi_drawn : Int32) (fi_foeHarm : Int32) (fi_ownHarm : Int32) (fi_gotAcross : Int32) (fi_foeHarmInAll : Int32) (fi_ownHarmInAll : Int32) (fi_wins : Int32) (fi_left : Nat → Int32) (k115 : Int32 → (Nat → Int32) → Option (Int32 × Int32 × Int32 × Int32 × Int32 × Int32 × Int32 × (Nat → Int32) × (Nat → Int32))) (x4 : Int32) (fi_crossings : Nat → Int32) : Option (Int32 × Int32 × Int32 × Int32 × Int32 × Int32 × Int32 × (Nat → Int32) × (Nat → Int32)) :=
  (if la_beasts ≤ x4 then
  f_X0_fightMany_B152 k48 la_deep la_beasts la_who la_kind la_mood no_dead no_wet no_strong no_at no_wounds x2 x3 fi_drawn fi_foeHarm fi_ownHarm fi_gotAcross fi_foeHarmInAll fi_ownHarmInAll fi_wins fi_left fi_crossings
  else
  gIn x4 5 <|
  gIn x4 5 <|
  k115 (x4 + 1) (upd fi_crossings x4.toNatClampNeg ((fi_crossings x4.toNatClampNeg) + ((fi_gotAcross >>> (x4 &&& 31)) &&& 1))))
noncomputable def f_X0_fightMany_L115 (k48 : Int32 → Int32 → Int32 → Int32 → Int32 → Int32 → Int32 → Int32 → (Nat → Int32) → (Nat → Int32) → Option (Int32 × Int32 × Int32 × Int32 × Int32 × Int32 × Int32 × (Nat → Int32) × (Nat → Int32))) (la_deep : Int32) (la_beasts : Int32) (la_who : Nat → Int32) (la_kind : Nat → Int32) (la_mood : Nat → Int32) (no_dead : Int32) (no_wet : Int32) (no_strong : Nat → Int32) (no_at : Nat → Int32) (no_wounds : Nat → Int32) (x2 : Int32) (x3 : Int32) (fi_drawn : Int32) (fi_foeHarm : Int32) (fi_ownHarm : Int32) (fi_gotAcross : Int32) (fi_foeHarmInAll : Int32) (fi_ownHarmInAll : Int32) (fi_wins : Int32) (fi_left : Nat → Int32) : Nat → Int32 → (Nat → Int32) → Option (Int32 × Int32 × Int32 × Int32 × Int32 × Int32 × Int32 × (Nat → Int32) × (Nat → Int32))
  | 0 => fun _ _ => none
  | n + 1 => f_X0_fightMany_b115 k48 la_deep la_beasts la_who la_kind la_mood no_dead no_wet no_strong no_at no_wounds x2 x3 fi_drawn fi_foeHarm fi_ownHarm fi_gotAcross fi_foeHarmInAll fi_ownHarmInAll fi_wins fi_left (f_X0_fightMany_L115 k48 la_deep la_beasts la_who la_kind la_mood no_dead no_wet no_strong no_at no_wounds x2 x3 fi_drawn fi_foeHarm fi_ownHarm fi_gotAcross fi_foeHarmInAll fi_ownHarmInAll fi_wins fi_left n)
noncomputable def f_X0_fightMany_B108 (k48 : Int32 → Int32 → Int32 → Int32 → Int32 → Int32 → Int32 → Int32 → (Nat → Int32) → (Nat → Int32) → Option (Int32 × Int32 × Int32 × Int32 × Int32 × Int32 × Int32 × (Nat → Int32) × (Nat → Int32))) (la_deep : Int32) (la_beasts : Int32) (la_who : Nat → Int32) (la_kind : Nat → Int32) (la_mood : Nat → Int32) (no_dead : Int32) (no_wet : Int32) (no_strong : Nat → Int32) (no_at : Nat → Int32) (no_wounds : Nat → Int32) (x2 : Int32) (x3 : Int32) (t1 : Int32) (t2 : Int32) (fi_drawn : Int32) (fi_foeHarm : Int32) (fi_ownHarm : Int32) (fi_gotAcross : Int32) (fi_foeHarmInAll : Int32) (fi_ownHarmInAll : Int32) (fi_wins : Int32) (fi_left : Nat → Int32) (fi_crossings : Nat → Int32) : Option (Int32 × Int32 × Int32 × Int32 × Int32 × Int32 × Int32 × (Nat → Int32) × (Nat → Int32)) :=
  f_X0_fightMany_L115 k48 la_deep la_beasts la_who la_kind la_mood no_dead no_wet no_strong no_at no_wounds x2 x3 fi_drawn fi_foeHarm fi_ownHarm fi_gotAcross fi_foeHarmInAll fi_ownHarmInAll (t1 + t2) fi_left fuelN 0 fi_crossings
noncomputable def f_X0_fightMany_b48 (la_deep : Int32) (la_beasts : Int32) (la_who : Nat → Int32) (la_kind : Nat → Int32) (la_mood : Nat → Int32) (no_dead : Int32) (no_wet : Int32) (no_strong : Nat → Int32) (no_at : Nat → Int32) (no_wounds : Nat → Int32) (x2 : Int32) (k48 : Int32 → Int32 → Int32 → Int32 → Int32 → Int32 → Int32 → Int32 → (Nat → Int32) → (Nat → Int32) → Option (Int32 × Int32 × Int32 × Int32 × Int32 × Int32 × Int32 × (Nat → Int32) × (Nat → Int32))) (x3 : Int32) (fi_drawn : Int32) (fi_foeHarm : Int32) (fi_ownHarm : Int32) (fi_gotAcross : Int32) (fi_foeHarmInAll : Int32) (fi_ownHarmInAll : Int32) (fi_wins : Int32) (fi_left : Nat → Int32) (fi_crossings : Nat → Int32) : Option (Int32 × Int32 × Int32 × Int32 × Int32 × Int32 × Int32 × (Nat → Int32) × (Nat → Int32)) :=
  (if x2 ≤ x3 then
  some (fi_drawn, fi_foeHarm, fi_ownHarm, fi_gotAcross, fi_foeHarmInAll, fi_ownHarmInAll, fi_wins, fi_left, fi_crossings)
  else
  bd5 (f_X0_fightFrom la_deep la_beasts la_who la_kind la_mood no_dead no_wet no_strong no_at no_wounds fi_drawn fi_foeHarm fi_ownHarm fi_gotAcross fi_left fi_drawn) fun fi_drawn_1 fi_foeHarm_2 fi_ownHarm_3 fi_gotAcross_4 fi_left_5 =>
  (if fi_foeHarm_2 ≤ fi_ownHarm_3 then
  f_X0_fightMany_B108 k48 la_deep la_beasts la_who la_kind la_mood no_dead no_wet no_strong no_at no_wounds x2 x3 fi_wins 0 fi_drawn_1 fi_foeHarm_2 fi_ownHarm_3 fi_gotAcross_4 (fi_foeHarmInAll + fi_foeHarm_2) (fi_ownHarmInAll + fi_ownHarm_3) fi_wins fi_left_5 fi_crossings
  else
  f_X0_fightMany_B108 k48 la_deep la_beasts la_who la_kind la_mood no_dead no_wet no_strong no_at no_wounds x2 x3 fi_wins 1 fi_drawn_1 fi_foeHarm_2 fi_ownHarm_3 fi_gotAcross_4 (fi_foeHarmInAll + fi_foeHarm_2) (fi_ownHarmInAll + fi_ownHarm_3) fi_wins fi_left_5 fi_crossings))
noncomputable def f_X0_fightMany_L48 (la_deep : Int32) (la_beasts : Int32) (la_who : Nat → Int32) (la_kind : Nat → Int32) (la_mood : Nat → Int32) (no_dead : Int32) (no_wet : Int32) (no_strong : Nat → Int32) (no_at : Nat → Int32) (no_wounds : Nat → Int32) (x2 : Int32) : Nat → Int32 → Int32 → Int32 → Int32 → Int32 → Int32 → Int32 → Int32 → (Nat → Int32) → (Nat → Int32) → Option (Int32 × Int32 × Int32 × Int32 × Int32 × Int32 × Int32 × (Nat → Int32) × (Nat → Int32))
  | 0 => fun _ _ _ _ _ _ _ _ _ _ => none
  | n + 1 => f_X0_fightMany_b48 la_deep la_beasts la_who la_kind la_mood no_dead no_wet no_strong no_at no_wounds x2 (f_X0_fightMany_L48 la_deep la_beasts la_who la_kind la_mood no_dead no_wet no_strong no_at no_wounds x2 n)
noncomputable def f_X0_fightMany_B41 (la_deep : Int32) (la_beasts : Int32) (la_who : Nat → Int32) (la_kind : Nat → Int32) (la_mood : Nat → Int32) (no_dead : Int32) (no_wet : Int32) (no_strong : Nat → Int32) (no_at : Nat → Int32) (no_wounds : Nat → Int32) (x1 : Int32) (x2 : Int32) (fi_drawn : Int32) (fi_foeHarm : Int32) (fi_ownHarm : Int32) (fi_gotAcross : Int32) (fi_foeHarmInAll : Int32) (fi_ownHarmInAll : Int32) (fi_wins : Int32) (fi_left : Nat → Int32) (fi_crossings : Nat → Int32) : Option (Int32 × Int32 × Int32 × Int32 × Int32 × Int32 × Int32 × (Nat → Int32) × (Nat → Int32)) :=
  f_X0_fightMany_L48 la_deep la_beasts la_who la_kind la_mood no_dead no_wet no_strong no_at no_wounds x2 fuelN 0 x1 fi_foeHarm fi_ownHarm fi_gotAcross fi_foeHarmInAll fi_ownHarmInAll fi_wins fi_left fi_crossings
noncomputable def f_X0_fightMany_b17 (la_deep : Int32) (la_beasts : Int32) (la_who : Nat → Int32) (la_kind : Nat → Int32) (la_mood : Nat → Int32) (no_dead : Int32) (no_wet : Int32) (no_strong : Nat → Int32) (no_at : Nat → Int32) (no_wounds : Nat → Int32) (x1 : Int32) (x2 : Int32) (fi_drawn : Int32) (fi_foeHarm : Int32) (fi_ownHarm : Int32) (fi_gotAcross : Int32) (fi_foeHarmInAll : Int32) (fi_ownHarmInAll : Int32) (fi_wins : Int32) (fi_left : Nat → Int32) (k17 : Int32 → (Nat → Int32) → Option (Int32 × Int32 × Int32 × Int32 × Int32 × Int32 × Int32 × (Nat → Int32) × (Nat → Int32))) (x3 : Int32) (fi_crossings : Nat → Int32) : Option (Int32 × Int32 × Int32 × Int32 × Int32 × Int32 × Int32 × (Nat → Int32) × (Nat → Int32)) :=
  (if la_beasts ≤ x3 then
  f_X0_fightMany_B41 la_deep la_beasts la_who la_kind la_mood no_dead no_wet no_strong no_at no_wounds x1 x2 fi_drawn fi_foeHarm fi_ownHarm fi_gotAcross fi_foeHarmInAll fi_ownHarmInAll fi_wins fi_left fi_crossings
  else
  gIn x3 5 <|
  k17 (x3 + 1) (upd fi_crossings x3.toNatClampNeg 0))
noncomputable def f_X0_fightMany_L17 (la_deep : Int32) (la_beasts : Int32) (la_who : Nat → Int32) (la_kind : Nat → Int32) (la_mood : Nat → Int32) (no_dead : Int32) (no_wet : Int32) (no_strong : Nat → Int32) (no_at : Nat → Int32) (no_wounds : Nat → Int32) (x1 : Int32) (x2 : Int32) (fi_drawn : Int32) (fi_foeHarm : Int32) (fi_ownHarm : Int32) (fi_gotAcross : Int32) (fi_foeHarmInAll : Int32) (fi_ownHarmInAll : Int32) (fi_wins : Int32) (fi_left : Nat → Int32) : Nat → Int32 → (Nat → Int32) → Option (Int32 × Int32 × Int32 × Int32 × Int32 × Int32 × Int32 × (Nat → Int32) × (Nat → Int32))
  | 0 => fun _ _ => none
  | n + 1 => f_X0_fightMany_b17 la_deep la_beasts la_who la_kind la_mood no_dead no_wet no_strong no_at no_wounds x1 x2 fi_drawn fi_foeHarm fi_ownHarm fi_gotAcross fi_foeHarmInAll fi_ownHarmInAll fi_wins fi_left (f_X0_fightMany_L17 la_deep la_beasts la_who la_kind la_mood no_dead no_wet no_strong no_at no_wounds x1 x2 fi_drawn fi_foeHarm fi_ownHarm fi_gotAcross fi_foeHarmInAll fi_ownHarmInAll fi_wins fi_left n)
noncomputable def f_X0_fightMany (la_deep : Int32) (la_beasts : Int32) (la_who : Nat → Int32) (la_kind : Nat → Int32) (la_mood : Nat → Int32) (no_dead : Int32) (no_wet : Int32) (no_strong : Nat → Int32) (no_at : Nat → Int32) (no_wounds : Nat → Int32) (fi_drawn : Int32) (fi_foeHarm : Int32) (fi_ownHarm : Int32) (fi_gotAcross : Int32) (fi_foeHarmInAll : Int32) (fi_ownHarmInAll : Int32) (fi_wins : Int32) (fi_left : Nat → Int32) (fi_crossings : Nat → Int32) (p1 : Int32) (p2 : Int32) : Option (Int32 × Int32 × Int32 × Int32 × Int32 × Int32 × Int32 × (Nat → Int32) × (Nat → Int32)) :=
  f_X0_fightMany_L17 la_deep la_beasts la_who la_kind la_mood no_dead no_wet no_strong no_at no_wounds p1 p2 fi_drawn fi_foeHarm fi_ownHarm fi_gotAcross 0 0 0 fi_left fuelN 0 fi_crossings
noncomputable def f_X5_forget (pa_acts : Int32) (pa_marks : Int32) : Option (Int32 × Int32) :=
  some (0, 0)
noncomputable def f_X5_keep (no_dead : Int32) (no_wet : Int32) (no_drawn : Int32) (no_strong : Nat → Int32) (no_at : Nat → Int32) (no_wounds : Nat → Int32) (pa_latest : Int32) (pa_acts : Int32) (pa_kept : Nat → Option Nat) (ks_dead : Int32) (ks_wet : Int32) (ks_drawn : Int32) (ks_strong : Nat → Int32) (ks_at : Nat → Int32) (ks_wounds : Nat → Int32) : Option (Int32 × Int32 × Int32 × Int32 × Int32 × (Nat → Int32) × (Nat → Int32) × (Nat → Int32)) :=
  (if 16 ≤ (pa_latest + 1) then
  gIn 0 16 <|
  bd6 (f_X8_copyOf ks_dead ks_wet ks_drawn ks_strong ks_at ks_wounds no_dead no_wet no_drawn no_strong no_at no_wounds) fun ks_dead_2 ks_wet_3 ks_drawn_4 ks_strong_5 ks_at_6 ks_wounds_7 =>
  some (0, if (pa_acts + 1) < 16 then pa_acts + 1 else 16, ks_dead_2, ks_wet_3, ks_drawn_4, ks_strong_5, ks_at_6, ks_wounds_7)
  else
  gIn (pa_latest + 1) 16 <|
  bd6 (f_X8_copyOf ks_dead ks_wet ks_drawn ks_strong ks_at ks_wounds no_dead no_wet no_drawn no_strong no_at no_wounds) fun ks_dead_10 ks_wet_11 ks_drawn_12 ks_strong_13 ks_at_14 ks_wounds_15 =>
  some (pa_latest + 1, if (pa_acts + 1) < 16 then pa_acts + 1 else 16, ks_dead_10, ks_wet_11, ks_drawn_12, ks_strong_13, ks_at_14, ks_wounds_15))
noncomputable def f_X5_takeBack_B41 (pa_kept : Nat → Option Nat) (ks_dead : Int32) (ks_wet : Int32) (ks_drawn : Int32) (ks_strong : Nat → Int32) (ks_at : Nat → Int32) (ks_wounds : Nat → Int32) (t1 : Int32) (no_dead : Int32) (no_wet : Int32) (no_drawn : Int32) (no_strong : Nat → Int32) (no_at : Nat → Int32) (no_wounds : Nat → Int32) (pa_latest : Int32) (pa_acts : Int32) : Option (Int32 × Int32 × Int32 × Int32 × (Nat → Int32) × (Nat → Int32) × (Nat → Int32) × Int32 × Int32) :=
  some (1, no_dead, no_wet, no_drawn, no_strong, no_at, no_wounds, t1, pa_acts - 1)
noncomputable def f_X5_takeBack (no_dead : Int32) (no_wet : Int32) (no_drawn : Int32) (no_strong : Nat → Int32) (no_at : Nat → Int32) (no_wounds : Nat → Int32) (pa_latest : Int32) (pa_acts : Int32) (pa_kept : Nat → Option Nat) (ks_dead : Int32) (ks_wet : Int32) (ks_drawn : Int32) (ks_strong : Nat → Int32) (ks_at : Nat → Int32) (ks_wounds : Nat → Int32) : Option (Int32 × Int32 × Int32 × Int32 × (Nat → Int32) × (Nat → Int32) × (Nat → Int32) × Int32 × Int32) :=
  (if pa_acts = 0 then
  some (0, no_dead, no_wet, no_drawn, no_strong, no_at, no_wounds, pa_latest, pa_acts)
  else
  gIn pa_latest 16 <|
  bd6 (f_X8_copyOf no_dead no_wet no_drawn no_strong no_at no_wounds ks_dead ks_wet ks_drawn ks_strong ks_at ks_wounds) fun no_dead_2 no_wet_3 no_drawn_4 no_strong_5 no_at_6 no_wounds_7 =>
  (if pa_latest ≤ 0 then
  f_X5_takeBack_B41 pa_kept ks_dead ks_wet ks_drawn ks_strong ks_at ks_wounds 15 no_dead_2 no_wet_3 no_drawn_4 no_strong_5 no_at_6 no_wounds_7 pa_latest pa_acts
  else
  f_X5_takeBack_B41 pa_kept ks_dead ks_wet ks_drawn ks_strong ks_at ks_wounds (pa_latest - 1) no_dead_2 no_wet_3 no_drawn_4 no_strong_5 no_at_6 no_wounds_7 pa_latest pa_acts))
noncomputable def f_X5_addMark (no_dead : Int32) (no_wet : Int32) (no_drawn : Int32) (no_strong : Nat → Int32) (no_at : Nat → Int32) (no_wounds : Nat → Int32) (pa_marks : Int32) (pa_marked : Nat → Option Nat) (mk_dead : Int32) (mk_wet : Int32) (mk_drawn : Int32) (mk_strong : Nat → Int32) (mk_at : Nat → Int32) (mk_wounds : Nat → Int32) : Option (Int32 × Int32 × Int32 × Int32 × Int32 × (Nat → Int32) × (Nat → Int32) × (Nat → Int32)) :=
  (if pa_marks < 3 then
  gIn pa_marks 3 <|
  bd6 (f_X8_copyOf mk_dead mk_wet mk_drawn mk_strong mk_at mk_wounds no_dead no_wet no_drawn no_strong no_at no_wounds) fun mk_dead_2 mk_wet_3 mk_drawn_4 mk_strong_5 mk_at_6 mk_wounds_7 =>
  some ((pa_marks + 1) - 1, pa_marks + 1, mk_dead_2, mk_wet_3, mk_drawn_4, mk_strong_5, mk_at_6, mk_wounds_7)
  else
  some ((-1), pa_marks, mk_dead, mk_wet, mk_drawn, mk_strong, mk_at, mk_wounds))
noncomputable def f_X5_goBack (no_dead : Int32) (no_wet : Int32) (no_drawn : Int32) (no_strong : Nat → Int32) (no_at : Nat → Int32) (no_wounds : Nat → Int32) (pa_acts : Int32) (pa_marks : Int32) (pa_marked : Nat → Option Nat) (mk_dead : Int32) (mk_wet : Int32) (mk_drawn : Int32) (mk_strong : Nat → Int32) (mk_at : Nat → Int32) (mk_wounds : Nat → Int32) (p1 : Int32) : Option (Int32 × Int32 × Int32 × Int32 × (Nat → Int32) × (Nat → Int32) × (Nat → Int32) × Int32) :=
  (if p1 < 0 then
  some (0, no_dead, no_wet, no_drawn, no_strong, no_at, no_wounds, pa_acts)
  else
  (if pa_marks ≤ p1 then
  some (0, no_dead, no_wet, no_drawn, no_strong, no_at, no_wounds, pa_acts)
  else
  (if p1 < 3 then
  gIn p1 3 <|
  bd6 (f_X8_copyOf no_dead no_wet no_drawn no_strong no_at no_wounds mk_dead mk_wet mk_drawn mk_strong mk_at mk_wounds) fun no_dead_2 no_wet_3 no_drawn_4 no_strong_5 no_at_6 no_wounds_7 =>
  some (1, no_dead_2, no_wet_3, no_drawn_4, no_strong_5, no_at_6, no_wounds_7, 0)
  else
  some (0, no_dead, no_wet, no_drawn, no_strong, no_at, no_wounds, pa_acts))))
noncomputable def f_X11_outside_B10 : Option (Int32) :=
  some (1)
noncomputable def f_X11_outside (p0 : Int32) (p1 : Int32) (p2 : Int32) : Option (Int32) :=
  (if p0 < p1 then
  f_X11_outside_B10
  else
  (if p0 ≤ p2 then
  some (0)
  else
  f_X11_outside_B10))
noncomputable def f_X9_begin (tk_limit : Int32) (tk_start : Int32) (tk_end : Int32) (tk_sort : Int32) (p1 : Int32) : Option (Int32 × Int32 × Int32 × Int32) :=
  some (if (900 : Int32) < p1 then 900 else p1, 0, 0, 0)
noncomputable def f_X9_runOn_B50 (tape : Nat → Int32) (tk_limit : Int32) (tk_start : Int32) (tk_end : Int32) : Option (Int32 × Int32) :=
  (if tk_end ≤ tk_start then
  some (0, tk_end)
  else
  some (1, tk_end))
noncomputable def f_X9_runOn_b0 (tape : Nat → Int32) (tk_limit : Int32) (tk_start : Int32) (x1 : Int32) (x2 : Int32) (k0 : Int32 → Option (Int32 × Int32)) (tk_end : Int32) : Option (Int32 × Int32) :=
  (if tk_limit ≤ tk_end then
  f_X9_runOn_B50 tape tk_limit tk_start tk_end
  else
  gIn tk_end 900 <|
  (if (tape tk_end.toNatClampNeg) < x1 then
  f_X9_runOn_B50 tape tk_limit tk_start tk_end
  else
  gIn tk_end 900 <|
  (if x2 < (tape tk_end.toNatClampNeg) then
  f_X9_runOn_B50 tape tk_limit tk_start tk_end
  else
  k0 (tk_end + 1))))
noncomputable def f_X9_runOn_L0 (tape : Nat → Int32) (tk_limit : Int32) (tk_start : Int32) (x1 : Int32) (x2 : Int32) : Nat → Int32 → Option (Int32 × Int32)
  | 0 => fun _ => none
  | n + 1 => f_X9_runOn_b0 tape tk_limit tk_start x1 x2 (f_X9_runOn_L0 tape tk_limit tk_start x1 x2 n)
noncomputable def f_X9_runOn (tape : Nat → Int32) (tk_limit : Int32) (tk_start : Int32) (tk_end : Int32) (p1 : Int32) (p2 : Int32) : Option (Int32 × Int32) :=
  f_X9_runOn_L0 tape tk_limit tk_start p1 p2 fuelN tk_end
noncomputable def f_X9_isWord_b28 (p1 : Nat) (tape : Nat → Int32) (tk_start : Int32) (tk_end : Int32) (tk_sort : Int32) (k28 : Int32 → Option (Int32)) (x2 : Int32) : Option (Int32) :=
  (if (nI (lenT.getD p1 0)) ≤ x2 then
  some (1)
  else
  gIn (tk_start + x2) 900 <|
  gIn x2 (lenT.getD p1 0) <|
  (if (tape (tk_start + x2).toNatClampNeg) = (sch p1 x2.toNatClampNeg) then
  k28 (x2 + 1)
  else
  some (0)))
noncomputable def f_X9_isWord_L28 (p1 : Nat) (tape : Nat → Int32) (tk_start : Int32) (tk_end : Int32) (tk_sort : Int32) : Nat → Int32 → Option (Int32)
  | 0 => fun _ => none
  | n + 1 => f_X9_isWord_b28 p1 tape tk_start tk_end tk_sort (f_X9_isWord_L28 p1 tape tk_start tk_end tk_sort n)
noncomputable def f_X9_isWord (tape : Nat → Int32) (tk_start : Int32) (tk_end : Int32) (tk_sort : Int32) (p1 : Nat) : Option (Int32) :=
  (if tk_sort = 1 then
  (if (tk_end - tk_start) = (nI (lenT.getD p1 0)) then
  f_X9_isWord_L28 p1 tape tk_start tk_end tk_sort fuelN 0
  else
  some (0))
  else
  some (0))
noncomputable def f_X9_value_b7 (tape : Nat → Int32) (tk_start : Int32) (tk_end : Int32) (k7 : Int32 → Int32 → Option (Int32)) (x1 : Int32) (x2 : Int32) : Option (Int32) :=
  (if tk_end ≤ x2 then
  some (x1)
  else
  gIn x2 900 <|
  k7 (((10 * x1) + (tape x2.toNatClampNeg)) - 48) (x2 + 1))
noncomputable def f_X9_value_L7 (tape : Nat → Int32) (tk_start : Int32) (tk_end : Int32) : Nat → Int32 → Int32 → Option (Int32)
  | 0 => fun _ _ => none
  | n + 1 => f_X9_value_b7 tape tk_start tk_end (f_X9_value_L7 tape tk_start tk_end n)
noncomputable def f_X9_value (tape : Nat → Int32) (tk_start : Int32) (tk_end : Int32) : Option (Int32) :=
  f_X9_value_L7 tape tk_start tk_end fuelN 0 tk_start
noncomputable def f_X9_beginsLine_B54 (tape : Nat → Int32) (tk_start : Int32) (tk_end : Int32) (tk_sort : Int32) : Option (Int32) :=
  some (1)
noncomputable def f_X9_beginsLine (tape : Nat → Int32) (tk_start : Int32) (tk_end : Int32) (tk_sort : Int32) : Option (Int32) :=
  bd1 (f_X9_isWord tape tk_start tk_end tk_sort 1) fun r_1 =>
  (if r_1 = 0 then
  bd1 (f_X9_isWord tape tk_start tk_end tk_sort 2) fun r_4 =>
  (if r_4 = 0 then
  bd1 (f_X9_isWord tape tk_start tk_end tk_sort 3) fun r_7 =>
  (if r_7 = 0 then
  bd1 (f_X9_isWord tape tk_start tk_end tk_sort 4) fun r_10 =>
  (if r_10 = 0 then
  bd1 (f_X9_isWord tape tk_start tk_end tk_sort 5) fun r_13 =>
  (if r_13 = 0 then
  bd1 (f_X9_isWord tape tk_start tk_end tk_sort 6) fun r_16 =>
  (if r_16 = 0 then
  some (0)
  else
  f_X9_beginsLine_B54 tape tk_start tk_end tk_sort)
  else
  f_X9_beginsLine_B54 tape tk_start tk_end tk_sort)
  else
  f_X9_beginsLine_B54 tape tk_start tk_end tk_sort)
  else
  f_X9_beginsLine_B54 tape tk_start tk_end tk_sort)
  else
  f_X9_beginsLine_B54 tape tk_start tk_end tk_sort)
  else
  f_X9_beginsLine_B54 tape tk_start tk_end tk_sort)
noncomputable def f_X9_isSameAs_b31 (tape : Nat → Int32) (tk_limit : Int32) (tk_start : Int32) (tk_end : Int32) (x1 : Int32) (k31 : Int32 → Option (Int32)) (x3 : Int32) : Option (Int32) :=
  (if (tk_end - tk_start) ≤ x3 then
  some (1)
  else
  gIn (tk_start + x3) 900 <|
  gIn (x1 + x3) 900 <|
  (if (tape (tk_start + x3).toNatClampNeg) = (tape (x1 + x3).toNatClampNeg) then
  k31 (x3 + 1)
  else
  some (0)))
noncomputable def f_X9_isSameAs_L31 (tape : Nat → Int32) (tk_limit : Int32) (tk_start : Int32) (tk_end : Int32) (x1 : Int32) : Nat → Int32 → Option (Int32)
  | 0 => fun _ => none
  | n + 1 => f_X9_isSameAs_b31 tape tk_limit tk_start tk_end x1 (f_X9_isSameAs_L31 tape tk_limit tk_start tk_end x1 n)
noncomputable def f_X9_isSameAs (tape : Nat → Int32) (tk_limit : Int32) (tk_start : Int32) (tk_end : Int32) (p1 : Int32) (p2 : Int32) : Option (Int32) :=
  (if (tk_end - tk_start) = (p2 - p1) then
  (if p1 < 0 then
  some (0)
  else
  (if p2 ≤ tk_limit then
  f_X9_isSameAs_L31 tape tk_limit tk_start tk_end p1 fuelN 0
  else
  some (0)))
  else
  some (0))
noncomputable def f_X9_step_B172 (tape : Nat → Int32) (tk_limit : Int32) (t1 : Int32) (tk_start : Int32) (tk_end : Int32) (tk_sort : Int32) : Option (Int32 × Int32 × Int32) :=
  some (tk_start, tk_end, t1)
noncomputable def f_X9_step_B136 (tape : Nat → Int32) (tk_limit : Int32) (t1 : Int32) (tk_start : Int32) (tk_end : Int32) (tk_sort : Int32) : Option (Int32 × Int32 × Int32) :=
  some (tk_start, tk_end, t1)
noncomputable def f_X9_step_B46 (tape : Nat → Int32) (tk_limit : Int32) (tk_start : Int32) (tk_end : Int32) (tk_sort : Int32) : Option (Int32 × Int32 × Int32) :=
  (if tk_start < tk_limit then
  gIn tk_start 900 <|
  (if (tape tk_start.toNatClampNeg) = 59 then
  some (tk_start, tk_start + 1, 3)
  else
  bd2 (f_X9_runOn tape tk_limit tk_start tk_start (97 : Int32) (122 : Int32)) fun r_2 tk_end_3 =>
  (if r_2 = 0 then
  bd2 (f_X9_runOn tape tk_limit tk_start tk_end_3 (48 : Int32) (57 : Int32)) fun r_6 tk_end_7 =>
  (if r_6 = 0 then
  some (tk_start, tk_end_7, 4)
  else
  (if 3 < (tk_end_7 - tk_start) then
  f_X9_step_B172 tape tk_limit 4 tk_start tk_end_7 tk_sort
  else
  f_X9_step_B172 tape tk_limit 2 tk_start tk_end_7 tk_sort))
  else
  (if 8 < (tk_end_3 - tk_start) then
  f_X9_step_B136 tape tk_limit 4 tk_start tk_end_3 tk_sort
  else
  f_X9_step_B136 tape tk_limit 1 tk_start tk_end_3 tk_sort)))
  else
  some (tk_start, tk_start, 0))
noncomputable def f_X9_step_b8 (tape : Nat → Int32) (tk_limit : Int32) (tk_end : Int32) (tk_sort : Int32) (k8 : Int32 → Option (Int32 × Int32 × Int32)) (tk_start : Int32) : Option (Int32 × Int32 × Int32) :=
  (if tk_limit ≤ tk_start then
  f_X9_step_B46 tape tk_limit tk_start tk_end tk_sort
  else
  gIn tk_start 900 <|
  (if (tape tk_start.toNatClampNeg) = 32 then
  k8 (tk_start + 1)
  else
  f_X9_step_B46 tape tk_limit tk_start tk_end tk_sort))
noncomputable def f_X9_step_L8 (tape : Nat → Int32) (tk_limit : Int32) (tk_end : Int32) (tk_sort : Int32) : Nat → Int32 → Option (Int32 × Int32 × Int32)
  | 0 => fun _ => none
  | n + 1 => f_X9_step_b8 tape tk_limit tk_end tk_sort (f_X9_step_L8 tape tk_limit tk_end tk_sort n)
noncomputable def f_X9_step (tape : Nat → Int32) (tk_limit : Int32) (tk_start : Int32) (tk_end : Int32) (tk_sort : Int32) : Option (Int32 × Int32 × Int32) :=
  f_X9_step_L8 tape tk_limit tk_end tk_sort fuelN tk_end
noncomputable def f_X7_fail (rd_faultFound : Int32) (rd_faultAt : Int32) (tk_start : Int32) (p1 : Int32) : Option (Int32 × Int32 × Int32) :=
  some (0, p1, tk_start)
noncomputable def f_X7_whoIsTold (tape : Nat → Int32) (tk_start : Int32) (tk_end : Int32) (tk_sort : Int32) : Option (Int32) :=
  bd1 (f_X9_isWord tape tk_start tk_end tk_sort 9) fun r_1 =>
  (if r_1 = 0 then
  bd1 (f_X9_isWord tape tk_start tk_end tk_sort 10) fun r_4 =>
  (if r_4 = 0 then
  bd1 (f_X9_isWord tape tk_start tk_end tk_sort 11) fun r_7 =>
  (if r_7 = 0 then
  bd1 (f_X9_isWord tape tk_start tk_end tk_sort 12) fun r_10 =>
  (if r_10 = 0 then
  some ((-1))
  else
  some (3))
  else
  some (2))
  else
  some (1))
  else
  some (0))
noncomputable def f_X7_kindIsTold (tape : Nat → Int32) (tk_start : Int32) (tk_end : Int32) (tk_sort : Int32) : Option (Int32) :=
  bd1 (f_X9_isWord tape tk_start tk_end tk_sort 13) fun r_1 =>
  (if r_1 = 0 then
  bd1 (f_X9_isWord tape tk_start tk_end tk_sort 14) fun r_4 =>
  (if r_4 = 0 then
  bd1 (f_X9_isWord tape tk_start tk_end tk_sort 15) fun r_7 =>
  (if r_7 = 0 then
  bd1 (f_X9_isWord tape tk_start tk_end tk_sort 16) fun r_10 =>
  (if r_10 = 0 then
  some ((-1))
  else
  some (3))
  else
  some (2))
  else
  some (1))
  else
  some (0))
noncomputable def f_X7_indexOfName_b2 (tape : Nat → Int32) (rd_names : Int32) (rd_nameStarts : Nat → Int32) (rd_nameEnds : Nat → Int32) (tk_limit : Int32) (tk_start : Int32) (tk_end : Int32) (k2 : Int32 → Option (Int32)) (x1 : Int32) : Option (Int32) :=
  (if rd_names ≤ x1 then
  some ((-1))
  else
  (if 11 ≤ x1 then
  some ((-1))
  else
  gIn x1 11 <|
  gIn x1 11 <|
  bd1 (f_X9_isSameAs tape tk_limit tk_start tk_end (rd_nameStarts x1.toNatClampNeg) (rd_nameEnds x1.toNatClampNeg)) fun r_3 =>
  (if r_3 = 0 then
  k2 (x1 + 1)
  else
  some (x1))))
noncomputable def f_X7_indexOfName_L2 (tape : Nat → Int32) (rd_names : Int32) (rd_nameStarts : Nat → Int32) (rd_nameEnds : Nat → Int32) (tk_limit : Int32) (tk_start : Int32) (tk_end : Int32) : Nat → Int32 → Option (Int32)
  | 0 => fun _ => none
  | n + 1 => f_X7_indexOfName_b2 tape rd_names rd_nameStarts rd_nameEnds tk_limit tk_start tk_end (f_X7_indexOfName_L2 tape rd_names rd_nameStarts rd_nameEnds tk_limit tk_start tk_end n)
noncomputable def f_X7_indexOfName (tape : Nat → Int32) (rd_names : Int32) (rd_nameStarts : Nat → Int32) (rd_nameEnds : Nat → Int32) (tk_limit : Int32) (tk_start : Int32) (tk_end : Int32) : Option (Int32) :=
  f_X7_indexOfName_L2 tape rd_names rd_nameStarts rd_nameEnds tk_limit tk_start tk_end fuelN 0
noncomputable def f_X7_readNewName_B28 (tape : Nat → Int32) (tk_limit : Int32) (rd_names : Int32) (rd_faultFound : Int32) (rd_faultAt : Int32) (rd_nameStarts : Nat → Int32) (rd_nameEnds : Nat → Int32) (rd_nameNumbers : Nat → Int32) (rd_nameIsBeast : Nat → Int32) (tk_start : Int32) (tk_end : Int32) (tk_sort : Int32) : Option (Int32 × Int32 × Int32 × Int32 × (Nat → Int32) × (Nat → Int32) × (Nat → Int32) × (Nat → Int32) × Int32 × Int32 × Int32) :=
  bd3 (f_X7_fail rd_faultFound rd_faultAt tk_start (1 : Int32)) fun r_5 rd_faultFound_6 rd_faultAt_7 =>
  some (r_5, rd_names, rd_faultFound_6, rd_faultAt_7, rd_nameStarts, rd_nameEnds, rd_nameNumbers, rd_nameIsBeast, tk_start, tk_end, tk_sort)
noncomputable def f_X7_readNewName (tape : Nat → Int32) (rd_names : Int32) (rd_faultFound : Int32) (rd_faultAt : Int32) (rd_nameStarts : Nat → Int32) (rd_nameEnds : Nat → Int32) (rd_nameNumbers : Nat → Int32) (rd_nameIsBeast : Nat → Int32) (tk_limit : Int32) (tk_start : Int32) (tk_end : Int32) (tk_sort : Int32) (p1 : Int32) (p2 : Int32) : Option (Int32 × Int32 × Int32 × Int32 × (Nat → Int32) × (Nat → Int32) × (Nat → Int32) × (Nat → Int32) × Int32 × Int32 × Int32) :=
  bd3 (f_X9_step tape tk_limit tk_start tk_end tk_sort) fun tk_start_1 tk_end_2 tk_sort_3 =>
  (if tk_sort_3 = 1 then
  bd1 (f_X9_beginsLine tape tk_start_1 tk_end_2 tk_sort_3) fun r_10 =>
  (if r_10 = 0 then
  bd1 (f_X7_indexOfName tape rd_names rd_nameStarts rd_nameEnds tk_limit tk_start_1 tk_end_2) fun r_13 =>
  (if r_13 = (-1) then
  (if 11 ≤ rd_names then
  some (1, rd_names, rd_faultFound, rd_faultAt, rd_nameStarts, rd_nameEnds, rd_nameNumbers, rd_nameIsBeast, tk_start_1, tk_end_2, tk_sort_3)
  else
  gIn rd_names 11 <|
  gIn rd_names 11 <|
  gIn rd_names 11 <|
  gIn rd_names 11 <|
  some (1, rd_names + 1, rd_faultFound, rd_faultAt, upd rd_nameStarts rd_names.toNatClampNeg tk_start_1, upd rd_nameEnds rd_names.toNatClampNeg tk_end_2, upd rd_nameNumbers rd_names.toNatClampNeg p2, upd rd_nameIsBeast rd_names.toNatClampNeg (vp_nar .boolean p1), tk_start_1, tk_end_2, tk_sort_3))
  else
  bd3 (f_X7_fail rd_faultFound rd_faultAt tk_start_1 (3 : Int32)) fun r_19 rd_faultFound_20 rd_faultAt_21 =>
  some (r_19, rd_names, rd_faultFound_20, rd_faultAt_21, rd_nameStarts, rd_nameEnds, rd_nameNumbers, rd_nameIsBeast, tk_start_1, tk_end_2, tk_sort_3))
  else
  f_X7_readNewName_B28 tape tk_limit rd_names rd_faultFound rd_faultAt rd_nameStarts rd_nameEnds rd_nameNumbers rd_nameIsBeast tk_start_1 tk_end_2 tk_sort_3)
  else
  f_X7_readNewName_B28 tape tk_limit rd_names rd_faultFound rd_faultAt rd_nameStarts rd_nameEnds rd_nameNumbers rd_nameIsBeast tk_start_1 tk_end_2 tk_sort_3)
noncomputable def f_X7_readKnownName_B28 (tape : Nat → Int32) (rd_names : Int32) (rd_nameStarts : Nat → Int32) (rd_nameEnds : Nat → Int32) (rd_nameNumbers : Nat → Int32) (rd_nameIsBeast : Nat → Int32) (tk_limit : Int32) (rd_faultFound : Int32) (rd_faultAt : Int32) (tk_start : Int32) (tk_end : Int32) (tk_sort : Int32) : Option (Int32 × Int32 × Int32 × Int32 × Int32 × Int32) :=
  bd3 (f_X7_fail rd_faultFound rd_faultAt tk_start (1 : Int32)) fun r_5 rd_faultFound_6 rd_faultAt_7 =>
  some ((-1), rd_faultFound_6, rd_faultAt_7, tk_start, tk_end, tk_sort)
noncomputable def f_X7_readKnownName_B56 (tape : Nat → Int32) (rd_names : Int32) (rd_nameStarts : Nat → Int32) (rd_nameEnds : Nat → Int32) (rd_nameNumbers : Nat → Int32) (rd_nameIsBeast : Nat → Int32) (tk_limit : Int32) (rd_faultFound : Int32) (rd_faultAt : Int32) (tk_start : Int32) (tk_end : Int32) (tk_sort : Int32) : Option (Int32 × Int32 × Int32 × Int32 × Int32 × Int32) :=
  bd3 (f_X7_fail rd_faultFound rd_faultAt tk_start (2 : Int32)) fun r_15 rd_faultFound_16 rd_faultAt_17 =>
  some ((-1), rd_faultFound_16, rd_faultAt_17, tk_start, tk_end, tk_sort)
noncomputable def f_X7_readKnownName (tape : Nat → Int32) (rd_names : Int32) (rd_faultFound : Int32) (rd_faultAt : Int32) (rd_nameStarts : Nat → Int32) (rd_nameEnds : Nat → Int32) (rd_nameNumbers : Nat → Int32) (rd_nameIsBeast : Nat → Int32) (tk_limit : Int32) (tk_start : Int32) (tk_end : Int32) (tk_sort : Int32) (p1 : Int32) : Option (Int32 × Int32 × Int32 × Int32 × Int32 × Int32) :=
  bd3 (f_X9_step tape tk_limit tk_start tk_end tk_sort) fun tk_start_1 tk_end_2 tk_sort_3 =>
  (if tk_sort_3 = 1 then
  bd1 (f_X9_beginsLine tape tk_start_1 tk_end_2 tk_sort_3) fun r_10 =>
  (if r_10 = 0 then
  bd1 (f_X7_indexOfName tape rd_names rd_nameStarts rd_nameEnds tk_limit tk_start_1 tk_end_2) fun r_13 =>
  (if r_13 = (-1) then
  f_X7_readKnownName_B56 tape rd_names rd_nameStarts rd_nameEnds rd_nameNumbers rd_nameIsBeast tk_limit rd_faultFound rd_faultAt tk_start_1 tk_end_2 tk_sort_3
  else
  gIn r_13 11 <|
  (if (rd_nameIsBeast r_13.toNatClampNeg) = p1 then
  gIn r_13 11 <|
  some (rd_nameNumbers r_13.toNatClampNeg, rd_faultFound, rd_faultAt, tk_start_1, tk_end_2, tk_sort_3)
  else
  f_X7_readKnownName_B56 tape rd_names rd_nameStarts rd_nameEnds rd_nameNumbers rd_nameIsBeast tk_limit rd_faultFound rd_faultAt tk_start_1 tk_end_2 tk_sort_3))
  else
  f_X7_readKnownName_B28 tape rd_names rd_nameStarts rd_nameEnds rd_nameNumbers rd_nameIsBeast tk_limit rd_faultFound rd_faultAt tk_start_1 tk_end_2 tk_sort_3)
  else
  f_X7_readKnownName_B28 tape rd_names rd_nameStarts rd_nameEnds rd_nameNumbers rd_nameIsBeast tk_limit rd_faultFound rd_faultAt tk_start_1 tk_end_2 tk_sort_3)
noncomputable def f_X7_readWord_B26 (p1 : Nat) (tape : Nat → Int32) (tk_limit : Int32) (rd_faultFound : Int32) (rd_faultAt : Int32) (tk_start : Int32) (tk_end : Int32) (tk_sort : Int32) : Option (Int32 × Int32 × Int32 × Int32 × Int32 × Int32) :=
  some (1, rd_faultFound, rd_faultAt, tk_start, tk_end, tk_sort)
noncomputable def f_X7_readWord (tape : Nat → Int32) (rd_faultFound : Int32) (rd_faultAt : Int32) (tk_limit : Int32) (tk_start : Int32) (tk_end : Int32) (tk_sort : Int32) (p1 : Nat) : Option (Int32 × Int32 × Int32 × Int32 × Int32 × Int32) :=
  bd3 (f_X9_step tape tk_limit tk_start tk_end tk_sort) fun tk_start_1 tk_end_2 tk_sort_3 =>
  bd1 (f_X9_isWord tape tk_start_1 tk_end_2 tk_sort_3 p1) fun r_5 =>
  (if r_5 = 0 then
  bd3 (f_X7_fail rd_faultFound rd_faultAt tk_start_1 (1 : Int32)) fun r_8 rd_faultFound_9 rd_faultAt_10 =>
  (if r_8 = 0 then
  some (0, rd_faultFound_9, rd_faultAt_10, tk_start_1, tk_end_2, tk_sort_3)
  else
  f_X7_readWord_B26 p1 tape tk_limit rd_faultFound_9 rd_faultAt_10 tk_start_1 tk_end_2 tk_sort_3)
  else
  f_X7_readWord_B26 p1 tape tk_limit rd_faultFound rd_faultAt tk_start_1 tk_end_2 tk_sort_3)
noncomputable def f_X7_readWhole (tape : Nat → Int32) (rd_faultFound : Int32) (rd_faultAt : Int32) (tk_limit : Int32) (tk_start : Int32) (tk_end : Int32) (tk_sort : Int32) (p1 : Int32) (p2 : Int32) : Option (Int32 × Int32 × Int32 × Int32 × Int32 × Int32) :=
  bd3 (f_X9_step tape tk_limit tk_start tk_end tk_sort) fun tk_start_1 tk_end_2 tk_sort_3 =>
  (if tk_sort_3 = 2 then
  bd1 (f_X9_value tape tk_start_1 tk_end_2) fun r_5 =>
  bd1 (f_X11_outside  r_5 p1 p2) fun r_7 =>
  (if r_7 = 0 then
  some (r_5, rd_faultFound, rd_faultAt, tk_start_1, tk_end_2, tk_sort_3)
  else
  bd3 (f_X7_fail rd_faultFound rd_faultAt tk_start_1 (4 : Int32)) fun r_10 rd_faultFound_11 rd_faultAt_12 =>
  some ((-1), rd_faultFound_11, rd_faultAt_12, tk_start_1, tk_end_2, tk_sort_3))
  else
  bd3 (f_X7_fail rd_faultFound rd_faultAt tk_start_1 (1 : Int32)) fun r_15 rd_faultFound_16 rd_faultAt_17 =>
  some ((-1), rd_faultFound_16, rd_faultAt_17, tk_start_1, tk_end_2, tk_sort_3))
noncomputable def f_X7_readFirstLine_B87 (tape : Nat → Int32) (tk_limit : Int32) (x1 : Int32) (t0 : Int32) (rd_faultFound : Int32) (rd_faultAt : Int32) (tk_start : Int32) (tk_end : Int32) (tk_sort : Int32) (dr_lanes : Int32) (dr_deep : Int32) : Option (Int32 × Int32 × Int32 × Int32 × Int32 × Int32 × Int32 × Int32) :=
  (if t0 = (-1) then
  some (0, rd_faultFound, rd_faultAt, tk_start, tk_end, tk_sort, dr_lanes, dr_deep)
  else
  some (1, rd_faultFound, rd_faultAt, tk_start, tk_end, tk_sort, x1, t0))
noncomputable def f_X7_readFirstLine_B60 (tape : Nat → Int32) (tk_limit : Int32) (t0 : Int32) (rd_faultFound : Int32) (rd_faultAt : Int32) (tk_start : Int32) (tk_end : Int32) (tk_sort : Int32) (dr_lanes : Int32) (dr_deep : Int32) : Option (Int32 × Int32 × Int32 × Int32 × Int32 × Int32 × Int32 × Int32) :=
  (if t0 = (-1) then
  some (0, rd_faultFound, rd_faultAt, tk_start, tk_end, tk_sort, dr_lanes, dr_deep)
  else
  bd6 (f_X7_readWord tape rd_faultFound rd_faultAt tk_limit tk_start tk_end tk_sort 8) fun r_16 rd_faultFound_17 rd_faultAt_18 tk_start_19 tk_end_20 tk_sort_21 =>
  (if r_16 = 0 then
  f_X7_readFirstLine_B87 tape tk_limit t0 (-1) rd_faultFound_17 rd_faultAt_18 tk_start_19 tk_end_20 tk_sort_21 dr_lanes dr_deep
  else
  bd6 (f_X7_readWhole tape rd_faultFound_17 rd_faultAt_18 tk_limit tk_start_19 tk_end_20 tk_sort_21 (1 : Int32) (5 : Int32)) fun r_24 rd_faultFound_25 rd_faultAt_26 tk_start_27 tk_end_28 tk_sort_29 =>
  f_X7_readFirstLine_B87 tape tk_limit t0 r_24 rd_faultFound_25 rd_faultAt_26 tk_start_27 tk_end_28 tk_sort_29 dr_lanes dr_deep))
noncomputable def f_X7_readFirstLine_B36 (tape : Nat → Int32) (tk_limit : Int32) (t1 : Int32) (rd_faultFound : Int32) (rd_faultAt : Int32) (tk_start : Int32) (tk_end : Int32) (tk_sort : Int32) (dr_lanes : Int32) (dr_deep : Int32) : Option (Int32 × Int32 × Int32 × Int32 × Int32 × Int32 × Int32 × Int32) :=
  bd3 (f_X7_fail rd_faultFound rd_faultAt tk_start t1) fun r_41 rd_faultFound_42 rd_faultAt_43 =>
  some (r_41, rd_faultFound_42, rd_faultAt_43, tk_start, tk_end, tk_sort, dr_lanes, dr_deep)
noncomputable def f_X7_readFirstLine (tape : Nat → Int32) (rd_faultFound : Int32) (rd_faultAt : Int32) (tk_limit : Int32) (tk_start : Int32) (tk_end : Int32) (tk_sort : Int32) (dr_lanes : Int32) (dr_deep : Int32) : Option (Int32 × Int32 × Int32 × Int32 × Int32 × Int32 × Int32 × Int32) :=
  bd3 (f_X9_step tape tk_limit tk_start tk_end tk_sort) fun tk_start_1 tk_end_2 tk_sort_3 =>
  bd1 (f_X9_isWord tape tk_start_1 tk_end_2 tk_sort_3 1) fun r_5 =>
  (if r_5 = 0 then
  bd1 (f_X9_beginsLine tape tk_start_1 tk_end_2 tk_sort_3) fun r_38 =>
  (if r_38 = 0 then
  f_X7_readFirstLine_B36 tape tk_limit 1 rd_faultFound rd_faultAt tk_start_1 tk_end_2 tk_sort_3 dr_lanes dr_deep
  else
  f_X7_readFirstLine_B36 tape tk_limit 6 rd_faultFound rd_faultAt tk_start_1 tk_end_2 tk_sort_3 dr_lanes dr_deep)
  else
  bd6 (f_X7_readWord tape rd_faultFound rd_faultAt tk_limit tk_start_1 tk_end_2 tk_sort_3 7) fun r_8 rd_faultFound_9 rd_faultAt_10 tk_start_11 tk_end_12 tk_sort_13 =>
  (if r_8 = 0 then
  f_X7_readFirstLine_B60 tape tk_limit (-1) rd_faultFound_9 rd_faultAt_10 tk_start_11 tk_end_12 tk_sort_13 dr_lanes dr_deep
  else
  bd6 (f_X7_readWhole tape rd_faultFound_9 rd_faultAt_10 tk_limit tk_start_11 tk_end_12 tk_sort_13 (2 : Int32) (6 : Int32)) fun r_31 rd_faultFound_32 rd_faultAt_33 tk_start_34 tk_end_35 tk_sort_36 =>
  f_X7_readFirstLine_B60 tape tk_limit r_31 rd_faultFound_32 rd_faultAt_33 tk_start_34 tk_end_35 tk_sort_36 dr_lanes dr_deep))
noncomputable def f_X7_readLane_B93 (tape : Nat → Int32) (tk_limit : Int32) (dr_lanes : Int32) (x1 : Int32) (x2 : Int32) (t0 : Int32) (rd_faultFound : Int32) (rd_faultAt : Int32) (tk_start : Int32) (tk_end : Int32) (tk_sort : Int32) (dr_lanesTold : Int32) (dr_who : Nat → Int32) (dr_firstStrong : Nat → Int32) : Option (Int32 × Int32 × Int32 × Int32 × Int32 × Int32 × Int32 × (Nat → Int32) × (Nat → Int32)) :=
  (if t0 = (-1) then
  some (0, rd_faultFound, rd_faultAt, tk_start, tk_end, tk_sort, dr_lanesTold, dr_who, dr_firstStrong)
  else
  bd3 (f_X2_tellLane dr_lanes dr_lanesTold dr_who dr_firstStrong x1 x2 t0) fun dr_lanesTold_17 dr_who_18 dr_firstStrong_19 =>
  some (1, rd_faultFound, rd_faultAt, tk_start, tk_end, tk_sort, dr_lanesTold_17, dr_who_18, dr_firstStrong_19))
noncomputable def f_X7_readLane (tape : Nat → Int32) (rd_faultFound : Int32) (rd_faultAt : Int32) (tk_limit : Int32) (tk_start : Int32) (tk_end : Int32) (tk_sort : Int32) (dr_lanes : Int32) (dr_lanesTold : Int32) (dr_who : Nat → Int32) (dr_firstStrong : Nat → Int32) : Option (Int32 × Int32 × Int32 × Int32 × Int32 × Int32 × Int32 × (Nat → Int32) × (Nat → Int32)) :=
  bd6 (f_X7_readWhole tape rd_faultFound rd_faultAt tk_limit tk_start tk_end tk_sort (0 : Int32) (dr_lanes - 1)) fun r_1 rd_faultFound_2 rd_faultAt_3 tk_start_4 tk_end_5 tk_sort_6 =>
  (if r_1 = (-1) then
  some (0, rd_faultFound_2, rd_faultAt_3, tk_start_4, tk_end_5, tk_sort_6, dr_lanesTold, dr_who, dr_firstStrong)
  else
  bd1 (f_X2_isLaneTold dr_lanesTold r_1) fun r_8 =>
  (if r_8 = 0 then
  bd3 (f_X9_step tape tk_limit tk_start_4 tk_end_5 tk_sort_6) fun tk_start_11 tk_end_12 tk_sort_13 =>
  bd1 (f_X7_whoIsTold tape tk_start_11 tk_end_12 tk_sort_13) fun r_15 =>
  (if r_15 = (-1) then
  bd3 (f_X7_fail rd_faultFound_2 rd_faultAt_3 tk_start_11 (1 : Int32)) fun r_35 rd_faultFound_36 rd_faultAt_37 =>
  some (r_35, rd_faultFound_36, rd_faultAt_37, tk_start_11, tk_end_12, tk_sort_13, dr_lanesTold, dr_who, dr_firstStrong)
  else
  (if r_15 = 2 then
  bd6 (f_X7_readWhole tape rd_faultFound_2 rd_faultAt_3 tk_limit tk_start_11 tk_end_12 tk_sort_13 (0 : Int32) (60 : Int32)) fun r_28 rd_faultFound_29 rd_faultAt_30 tk_start_31 tk_end_32 tk_sort_33 =>
  f_X7_readLane_B93 tape tk_limit dr_lanes r_1 r_15 r_28 rd_faultFound_29 rd_faultAt_30 tk_start_31 tk_end_32 tk_sort_33 dr_lanesTold dr_who dr_firstStrong
  else
  (if r_15 = 3 then
  bd6 (f_X7_readWhole tape rd_faultFound_2 rd_faultAt_3 tk_limit tk_start_11 tk_end_12 tk_sort_13 (0 : Int32) (30 : Int32)) fun r_21 rd_faultFound_22 rd_faultAt_23 tk_start_24 tk_end_25 tk_sort_26 =>
  f_X7_readLane_B93 tape tk_limit dr_lanes r_1 r_15 r_21 rd_faultFound_22 rd_faultAt_23 tk_start_24 tk_end_25 tk_sort_26 dr_lanesTold dr_who dr_firstStrong
  else
  f_X7_readLane_B93 tape tk_limit dr_lanes r_1 r_15 0 rd_faultFound_2 rd_faultAt_3 tk_start_11 tk_end_12 tk_sort_13 dr_lanesTold dr_who dr_firstStrong)))
  else
  bd3 (f_X7_fail rd_faultFound_2 rd_faultAt_3 tk_start_4 (3 : Int32)) fun r_40 rd_faultFound_41 rd_faultAt_42 =>
  some (r_40, rd_faultFound_41, rd_faultAt_42, tk_start_4, tk_end_5, tk_sort_6, dr_lanesTold, dr_who, dr_firstStrong)))
noncomputable def f_X7_readBeast_B123 (tape : Nat → Int32) (tk_limit : Int32) (dr_lanes : Int32) (x1 : Int32) (x2 : Int32) (x3 : Int32) (t0 : Int32) (rd_names : Int32) (rd_faultFound : Int32) (rd_faultAt : Int32) (rd_nameStarts : Nat → Int32) (rd_nameEnds : Nat → Int32) (rd_nameNumbers : Nat → Int32) (rd_nameIsBeast : Nat → Int32) (tk_start : Int32) (tk_end : Int32) (tk_sort : Int32) (dr_beasts : Int32) (dr_kind : Nat → Int32) (dr_firstLane : Nat → Int32) (dr_mood : Nat → Int32) (dr_price : Nat → Int32) : Option (Int32 × Int32 × Int32 × Int32 × (Nat → Int32) × (Nat → Int32) × (Nat → Int32) × (Nat → Int32) × Int32 × Int32 × Int32 × Int32 × (Nat → Int32) × (Nat → Int32) × (Nat → Int32) × (Nat → Int32)) :=
  (if t0 = (-1) then
  some (0, rd_names, rd_faultFound, rd_faultAt, rd_nameStarts, rd_nameEnds, rd_nameNumbers, rd_nameIsBeast, tk_start, tk_end, tk_sort, dr_beasts, dr_kind, dr_firstLane, dr_mood, dr_price)
  else
  bd5 (f_X2_addBeast dr_beasts dr_kind dr_firstLane dr_mood dr_price x1 x2 x3 t0) fun dr_beasts_44 dr_kind_45 dr_firstLane_46 dr_mood_47 dr_price_48 =>
  some (1, rd_names, rd_faultFound, rd_faultAt, rd_nameStarts, rd_nameEnds, rd_nameNumbers, rd_nameIsBeast, tk_start, tk_end, tk_sort, dr_beasts_44, dr_kind_45, dr_firstLane_46, dr_mood_47, dr_price_48))
noncomputable def f_X7_readBeast_B95 (tape : Nat → Int32) (tk_limit : Int32) (dr_lanes : Int32) (x1 : Int32) (x2 : Int32) (t0 : Int32) (rd_names : Int32) (rd_faultFound : Int32) (rd_faultAt : Int32) (rd_nameStarts : Nat → Int32) (rd_nameEnds : Nat → Int32) (rd_nameNumbers : Nat → Int32) (rd_nameIsBeast : Nat → Int32) (tk_start : Int32) (tk_end : Int32) (tk_sort : Int32) (dr_beasts : Int32) (dr_kind : Nat → Int32) (dr_firstLane : Nat → Int32) (dr_mood : Nat → Int32) (dr_price : Nat → Int32) : Option (Int32 × Int32 × Int32 × Int32 × (Nat → Int32) × (Nat → Int32) × (Nat → Int32) × (Nat → Int32) × Int32 × Int32 × Int32 × Int32 × (Nat → Int32) × (Nat → Int32) × (Nat → Int32) × (Nat → Int32)) :=
  (if t0 = (-1) then
  some (0, rd_names, rd_faultFound, rd_faultAt, rd_nameStarts, rd_nameEnds, rd_nameNumbers, rd_nameIsBeast, tk_start, tk_end, tk_sort, dr_beasts, dr_kind, dr_firstLane, dr_mood, dr_price)
  else
  bd6 (f_X7_readWord tape rd_faultFound rd_faultAt tk_limit tk_start tk_end tk_sort 19) fun r_36 rd_faultFound_37 rd_faultAt_38 tk_start_39 tk_end_40 tk_sort_41 =>
  (if r_36 = 0 then
  f_X7_readBeast_B123 tape tk_limit dr_lanes x1 x2 t0 (-1) rd_names rd_faultFound_37 rd_faultAt_38 rd_nameStarts rd_nameEnds rd_nameNumbers rd_nameIsBeast tk_start_39 tk_end_40 tk_sort_41 dr_beasts dr_kind dr_firstLane dr_mood dr_price
  else
  bd6 (f_X7_readWhole tape rd_faultFound_37 rd_faultAt_38 tk_limit tk_start_39 tk_end_40 tk_sort_41 (1 : Int32) (99 : Int32)) fun r_50 rd_faultFound_51 rd_faultAt_52 tk_start_53 tk_end_54 tk_sort_55 =>
  f_X7_readBeast_B123 tape tk_limit dr_lanes x1 x2 t0 r_50 rd_names rd_faultFound_51 rd_faultAt_52 rd_nameStarts rd_nameEnds rd_nameNumbers rd_nameIsBeast tk_start_53 tk_end_54 tk_sort_55 dr_beasts dr_kind dr_firstLane dr_mood dr_price))
noncomputable def f_X7_readBeast_B67 (tape : Nat → Int32) (tk_limit : Int32) (dr_lanes : Int32) (x1 : Int32) (t0 : Int32) (rd_names : Int32) (rd_faultFound : Int32) (rd_faultAt : Int32) (rd_nameStarts : Nat → Int32) (rd_nameEnds : Nat → Int32) (rd_nameNumbers : Nat → Int32) (rd_nameIsBeast : Nat → Int32) (tk_start : Int32) (tk_end : Int32) (tk_sort : Int32) (dr_beasts : Int32) (dr_kind : Nat → Int32) (dr_firstLane : Nat → Int32) (dr_mood : Nat → Int32) (dr_price : Nat → Int32) : Option (Int32 × Int32 × Int32 × Int32 × (Nat → Int32) × (Nat → Int32) × (Nat → Int32) × (Nat → Int32) × Int32 × Int32 × Int32 × Int32 × (Nat → Int32) × (Nat → Int32) × (Nat → Int32) × (Nat → Int32)) :=
  (if t0 = (-1) then
  some (0, rd_names, rd_faultFound, rd_faultAt, rd_nameStarts, rd_nameEnds, rd_nameNumbers, rd_nameIsBeast, tk_start, tk_end, tk_sort, dr_beasts, dr_kind, dr_firstLane, dr_mood, dr_price)
  else
  bd6 (f_X7_readWord tape rd_faultFound rd_faultAt tk_limit tk_start tk_end tk_sort 18) fun r_28 rd_faultFound_29 rd_faultAt_30 tk_start_31 tk_end_32 tk_sort_33 =>
  (if r_28 = 0 then
  f_X7_readBeast_B95 tape tk_limit dr_lanes x1 t0 (-1) rd_names rd_faultFound_29 rd_faultAt_30 rd_nameStarts rd_nameEnds rd_nameNumbers rd_nameIsBeast tk_start_31 tk_end_32 tk_sort_33 dr_beasts dr_kind dr_firstLane dr_mood dr_price
  else
  bd6 (f_X7_readWhole tape rd_faultFound_29 rd_faultAt_30 tk_limit tk_start_31 tk_end_32 tk_sort_33 (0 : Int32) (100 : Int32)) fun r_57 rd_faultFound_58 rd_faultAt_59 tk_start_60 tk_end_61 tk_sort_62 =>
  f_X7_readBeast_B95 tape tk_limit dr_lanes x1 t0 r_57 rd_names rd_faultFound_58 rd_faultAt_59 rd_nameStarts rd_nameEnds rd_nameNumbers rd_nameIsBeast tk_start_60 tk_end_61 tk_sort_62 dr_beasts dr_kind dr_firstLane dr_mood dr_price))
noncomputable def f_X7_readBeast (tape : Nat → Int32) (rd_names : Int32) (rd_faultFound : Int32) (rd_faultAt : Int32) (rd_nameStarts : Nat → Int32) (rd_nameEnds : Nat → Int32) (rd_nameNumbers : Nat → Int32) (rd_nameIsBeast : Nat → Int32) (tk_limit : Int32) (tk_start : Int32) (tk_end : Int32) (tk_sort : Int32) (dr_lanes : Int32) (dr_beasts : Int32) (dr_kind : Nat → Int32) (dr_firstLane : Nat → Int32) (dr_mood : Nat → Int32) (dr_price : Nat → Int32) : Option (Int32 × Int32 × Int32 × Int32 × (Nat → Int32) × (Nat → Int32) × (Nat → Int32) × (Nat → Int32) × Int32 × Int32 × Int32 × Int32 × (Nat → Int32) × (Nat → Int32) × (Nat → Int32) × (Nat → Int32)) :=
  bd11 (f_X7_readNewName tape rd_names rd_faultFound rd_faultAt rd_nameStarts rd_nameEnds rd_nameNumbers rd_nameIsBeast tk_limit tk_start tk_end tk_sort (1 : Int32) dr_beasts) fun r_1 rd_names_2 rd_faultFound_3 rd_faultAt_4 rd_nameStarts_5 rd_nameEnds_6 rd_nameNumbers_7 rd_nameIsBeast_8 tk_start_9 tk_end_10 tk_sort_11 =>
  (if r_1 = 0 then
  some (0, rd_names_2, rd_faultFound_3, rd_faultAt_4, rd_nameStarts_5, rd_nameEnds_6, rd_nameNumbers_7, rd_nameIsBeast_8, tk_start_9, tk_end_10, tk_sort_11, dr_beasts, dr_kind, dr_firstLane, dr_mood, dr_price)
  else
  bd3 (f_X9_step tape tk_limit tk_start_9 tk_end_10 tk_sort_11) fun tk_start_14 tk_end_15 tk_sort_16 =>
  bd1 (f_X7_kindIsTold tape tk_start_14 tk_end_15 tk_sort_16) fun r_18 =>
  (if r_18 = (-1) then
  bd3 (f_X7_fail rd_faultFound_3 rd_faultAt_4 tk_start_14 (1 : Int32)) fun r_71 rd_faultFound_72 rd_faultAt_73 =>
  some (r_71, rd_names_2, rd_faultFound_72, rd_faultAt_73, rd_nameStarts_5, rd_nameEnds_6, rd_nameNumbers_7, rd_nameIsBeast_8, tk_start_14, tk_end_15, tk_sort_16, dr_beasts, dr_kind, dr_firstLane, dr_mood, dr_price)
  else
  bd6 (f_X7_readWord tape rd_faultFound_3 rd_faultAt_4 tk_limit tk_start_14 tk_end_15 tk_sort_16 17) fun r_20 rd_faultFound_21 rd_faultAt_22 tk_start_23 tk_end_24 tk_sort_25 =>
  (if r_20 = 0 then
  f_X7_readBeast_B67 tape tk_limit dr_lanes r_18 (-1) rd_names_2 rd_faultFound_21 rd_faultAt_22 rd_nameStarts_5 rd_nameEnds_6 rd_nameNumbers_7 rd_nameIsBeast_8 tk_start_23 tk_end_24 tk_sort_25 dr_beasts dr_kind dr_firstLane dr_mood dr_price
  else
  bd6 (f_X7_readWhole tape rd_faultFound_21 rd_faultAt_22 tk_limit tk_start_23 tk_end_24 tk_sort_25 (0 : Int32) (dr_lanes - 1)) fun r_64 rd_faultFound_65 rd_faultAt_66 tk_start_67 tk_end_68 tk_sort_69 =>
  f_X7_readBeast_B67 tape tk_limit dr_lanes r_18 r_64 rd_names_2 rd_faultFound_65 rd_faultAt_66 rd_nameStarts_5 rd_nameEnds_6 rd_nameNumbers_7 rd_nameIsBeast_8 tk_start_67 tk_end_68 tk_sort_69 dr_beasts dr_kind dr_firstLane dr_mood dr_price)))
noncomputable def f_X7_readCity (tape : Nat → Int32) (rd_names : Int32) (rd_faultFound : Int32) (rd_faultAt : Int32) (rd_nameStarts : Nat → Int32) (rd_nameEnds : Nat → Int32) (rd_nameNumbers : Nat → Int32) (rd_nameIsBeast : Nat → Int32) (tk_limit : Int32) (tk_start : Int32) (tk_end : Int32) (tk_sort : Int32) (dr_cities : Int32) : Option (Int32 × Int32 × Int32 × Int32 × (Nat → Int32) × (Nat → Int32) × (Nat → Int32) × (Nat → Int32) × Int32 × Int32 × Int32 × Int32) :=
  bd11 (f_X7_readNewName tape rd_names rd_faultFound rd_faultAt rd_nameStarts rd_nameEnds rd_nameNumbers rd_nameIsBeast tk_limit tk_start tk_end tk_sort (0 : Int32) dr_cities) fun r_1 rd_names_2 rd_faultFound_3 rd_faultAt_4 rd_nameStarts_5 rd_nameEnds_6 rd_nameNumbers_7 rd_nameIsBeast_8 tk_start_9 tk_end_10 tk_sort_11 =>
  (if r_1 = 0 then
  some (0, rd_names_2, rd_faultFound_3, rd_faultAt_4, rd_nameStarts_5, rd_nameEnds_6, rd_nameNumbers_7, rd_nameIsBeast_8, tk_start_9, tk_end_10, tk_sort_11, dr_cities)
  else
  some (1, rd_names_2, rd_faultFound_3, rd_faultAt_4, rd_nameStarts_5, rd_nameEnds_6, rd_nameNumbers_7, rd_nameIsBeast_8, tk_start_9, tk_end_10, tk_sort_11, dr_cities + 1))
noncomputable def f_X7_readPass_B44 (tape : Nat → Int32) (rd_names : Int32) (rd_nameStarts : Nat → Int32) (rd_nameEnds : Nat → Int32) (rd_nameNumbers : Nat → Int32) (rd_nameIsBeast : Nat → Int32) (tk_limit : Int32) (dr_cities : Int32) (rd_faultFound : Int32) (rd_faultAt : Int32) (tk_start : Int32) (tk_end : Int32) (tk_sort : Int32) (dr_passes : Int32) (dr_passBetween : Nat → Int32) : Option (Int32 × Int32 × Int32 × Int32 × Int32 × Int32 × Int32 × (Nat → Int32)) :=
  bd3 (f_X7_fail rd_faultFound rd_faultAt tk_start (3 : Int32)) fun r_15 rd_faultFound_16 rd_faultAt_17 =>
  some (r_15, rd_faultFound_16, rd_faultAt_17, tk_start, tk_end, tk_sort, dr_passes, dr_passBetween)
noncomputable def f_X7_readPass_B70 (tape : Nat → Int32) (rd_names : Int32) (rd_nameStarts : Nat → Int32) (rd_nameEnds : Nat → Int32) (rd_nameNumbers : Nat → Int32) (rd_nameIsBeast : Nat → Int32) (tk_limit : Int32) (dr_cities : Int32) (x1 : Int32) (x2 : Int32) (t0 : Int32) (rd_faultFound : Int32) (rd_faultAt : Int32) (tk_start : Int32) (tk_end : Int32) (tk_sort : Int32) (dr_passes : Int32) (dr_passBetween : Nat → Int32) : Option (Int32 × Int32 × Int32 × Int32 × Int32 × Int32 × Int32 × (Nat → Int32)) :=
  (if t0 = (-1) then
  some (0, rd_faultFound, rd_faultAt, tk_start, tk_end, tk_sort, dr_passes, dr_passBetween)
  else
  bd2 (f_X2_addPass dr_cities dr_passes dr_passBetween x1 x2 t0) fun dr_passes_30 dr_passBetween_31 =>
  some (1, rd_faultFound, rd_faultAt, tk_start, tk_end, tk_sort, dr_passes_30, dr_passBetween_31))
