def strC (own : String) (k len : Nat) (bytes : List Int32) : List Cond := [Cond.exactly (.string own k) "java/lang/String", Cond.eq (.field (.string own k) "java/lang/String" "coder" "B") (.int 0), Cond.arrayOf (.field (.string own k) "java/lang/String" "value" "[B") .byte, Cond.eq (.length (.field (.string own k) "java/lang/String" "value" "[B")) (.int (Int32.ofNat len))] ++ (List.range len).map (fun j => Cond.eq (.elem (.field (.string own k) "java/lang/String" "value" "[B") (.int (Int32.ofNat j))) (.int (bytes.getD j 0)))
def flCs : List Cond := flatC (Jvm.Cond.and given_1 narrow_1)

theorem in_fl {args : Array Value} {s : State} (hgv : (Jvm.Cond.and given_1 narrow_1).before args s = true) (ws : List Cond) (ps : List Nat) (hp : ws = ps.filterMap (fun i => flCs[i]?)) : ∀ w ∈ ws, w.before args s = true := by
  intro w hw
  rw [hp] at hw
  obtain ⟨q, -, hq⟩ := List.mem_filterMap.mp hw
  exact flat_of_before _ hgv w (List.mem_of_getElem? hq)
theorem str_of {args : Array Value} {s : State} {A : Nat → Prop} {own : String} {k len : Nat} {bytes : List Int32} (hm : ∀ w ∈ strC own k len bytes, w.before args s = true) (hl : len < 2 ^ 31) (hA : ∀ a : Nat, a < s.heap.size → ¬ A a) : ∃ p : Nat × Nat, (va_O "java/lang/String" p.1 A s s.heap ∧ va_OF "java/lang/String" "coder" "B" (.int 0) p.1 A s s.heap ∧ va_OF "java/lang/String" "value" "[B" (.ref p.2) p.1 A s s.heap ∧ va_T .byte p.2 len (fun j => .int (bytes.getD j 0)) A s s.heap) ∧ (Term.string own k).eval args s none [] s = some (.ref p.1) := by
  have m4 : ∀ (i : Nat) (w : Cond), ([Cond.exactly (.string own k) "java/lang/String", Cond.eq (.field (.string own k) "java/lang/String" "coder" "B") (.int 0), Cond.arrayOf (.field (.string own k) "java/lang/String" "value" "[B") .byte, Cond.eq (.length (.field (.string own k) "java/lang/String" "value" "[B")) (.int (Int32.ofNat len))] : List Cond)[i]? = some w → w.before args s = true := fun i w h => hm w (List.mem_append_left _ (List.mem_of_getElem? h))
  obtain ⟨aK, aV, h, ev⟩ := vk_Sof (args := args) (s := s) (N := 1) (tm := fun _ => Term.string own k) (len := [len]) (byt := [bytes]) (A := A) (fun i hi => by rw [show i = 0 by omega]; exact hl) (fun i hi => m4 0 _ rfl) (fun i hi => m4 1 _ rfl) (fun i hi => m4 2 _ rfl) (fun i hi => by rw [show i = 0 by omega]; exact m4 3 _ rfl) (fun i hi j hj => by
    rw [show i = 0 by omega] at hj ⊢
    exact hm _ (List.mem_append_right _ (List.mem_map.mpr ⟨j, List.mem_range.mpr hj, rfl⟩))) (fun i j hi hj h => absurd (show i = j by omega) h) hA
  have h := h.1 0 (by decide)
  exact ⟨(aK 0, aV 0), h, ev 0 (by decide)⟩
theorem strTab_id : ∀ i, i < nR → (strTab[i]?).map (fun q => q.2.2.2) = some i := by decide +kernel
set_option maxRecDepth 100000 in
theorem sm_0 {args : Array Value} {s : State} (hgv : (Jvm.Cond.and given_1 narrow_1).before args s = true) : ∀ w ∈ strC "ElephantLine" 397 (lenT.getD (cn 0) 0) (bytT.getD (cn 0) []), w.before args s = true := in_fl hgv _ [253, 254, 255, 256, 257, 258, 259, 260, 261, 262, 263, 264, 265, 266, 267, 268, 269, 270, 271, 272, 273, 274] rfl
set_option maxRecDepth 100000 in
theorem sm_1 {args : Array Value} {s : State} (hgv : (Jvm.Cond.and given_1 narrow_1).before args s = true) : ∀ w ∈ strC "ElephantLineModel" 144 (lenT.getD (cn 1) 0) (bytT.getD (cn 1) []), w.before args s = true := in_fl hgv _ [275, 276, 277, 278, 279, 280, 281, 282, 283] rfl
set_option maxRecDepth 100000 in
theorem sm_2 {args : Array Value} {s : State} (hgv : (Jvm.Cond.and given_1 narrow_1).before args s = true) : ∀ w ∈ strC "ElephantLineModel" 146 (lenT.getD (cn 2) 0) (bytT.getD (cn 2) []), w.before args s = true := in_fl hgv _ [305, 306, 307, 308, 309, 310, 311, 312] rfl
set_option maxRecDepth 100000 in
theorem sm_3 {args : Array Value} {s : State} (hgv : (Jvm.Cond.and given_1 narrow_1).before args s = true) : ∀ w ∈ strC "ElephantLineModel" 148 (lenT.getD (cn 3) 0) (bytT.getD (cn 3) []), w.before args s = true := in_fl hgv _ [352, 353, 354, 355, 356, 357, 358, 359, 360] rfl
set_option maxRecDepth 100000 in
theorem sm_4 {args : Array Value} {s : State} (hgv : (Jvm.Cond.and given_1 narrow_1).before args s = true) : ∀ w ∈ strC "ElephantLineModel" 150 (lenT.getD (cn 4) 0) (bytT.getD (cn 4) []), w.before args s = true := in_fl hgv _ [363, 364, 365, 366, 367, 368, 369, 370] rfl
set_option maxRecDepth 100000 in
theorem sm_5 {args : Array Value} {s : State} (hgv : (Jvm.Cond.and given_1 narrow_1).before args s = true) : ∀ w ∈ strC "ElephantLineModel" 152 (lenT.getD (cn 5) 0) (bytT.getD (cn 5) []), w.before args s = true := in_fl hgv _ [373, 374, 375, 376, 377, 378, 379, 380] rfl
set_option maxRecDepth 100000 in
theorem sm_6 {args : Array Value} {s : State} (hgv : (Jvm.Cond.and given_1 narrow_1).before args s = true) : ∀ w ∈ strC "ElephantLineModel" 154 (lenT.getD (cn 6) 0) (bytT.getD (cn 6) []), w.before args s = true := in_fl hgv _ [383, 384, 385, 386, 387, 388, 389, 390, 391, 392] rfl
set_option maxRecDepth 100000 in
theorem sm_7 {args : Array Value} {s : State} (hgv : (Jvm.Cond.and given_1 narrow_1).before args s = true) : ∀ w ∈ strC "ElephantLineModel" 216 (lenT.getD (cn 7) 0) (bytT.getD (cn 7) []), w.before args s = true := in_fl hgv _ [286, 287, 288, 289, 290, 291, 292, 293, 294] rfl
set_option maxRecDepth 100000 in
theorem sm_8 {args : Array Value} {s : State} (hgv : (Jvm.Cond.and given_1 narrow_1).before args s = true) : ∀ w ∈ strC "ElephantLineModel" 221 (lenT.getD (cn 8) 0) (bytT.getD (cn 8) []), w.before args s = true := in_fl hgv _ [296, 297, 298, 299, 300, 301, 302, 303] rfl
set_option maxRecDepth 100000 in
theorem sm_9 {args : Array Value} {s : State} (hgv : (Jvm.Cond.and given_1 narrow_1).before args s = true) : ∀ w ∈ strC "ElephantLineModel" 233 (lenT.getD (cn 9) 0) (bytT.getD (cn 9) []), w.before args s = true := in_fl hgv _ [315, 316, 317, 318, 319, 320, 321, 322] rfl
set_option maxRecDepth 100000 in
theorem sm_10 {args : Array Value} {s : State} (hgv : (Jvm.Cond.and given_1 narrow_1).before args s = true) : ∀ w ∈ strC "ElephantLineModel" 235 (lenT.getD (cn 10) 0) (bytT.getD (cn 10) []), w.before args s = true := in_fl hgv _ [324, 325, 326, 327, 328, 329, 330, 331] rfl
set_option maxRecDepth 100000 in
theorem sm_11 {args : Array Value} {s : State} (hgv : (Jvm.Cond.and given_1 narrow_1).before args s = true) : ∀ w ∈ strC "ElephantLineModel" 237 (lenT.getD (cn 11) 0) (bytT.getD (cn 11) []), w.before args s = true := in_fl hgv _ [333, 334, 335, 336, 337, 338, 339, 340] rfl
set_option maxRecDepth 100000 in
theorem sm_12 {args : Array Value} {s : State} (hgv : (Jvm.Cond.and given_1 narrow_1).before args s = true) : ∀ w ∈ strC "ElephantLineModel" 239 (lenT.getD (cn 12) 0) (bytT.getD (cn 12) []), w.before args s = true := in_fl hgv _ [342, 343, 344, 345, 346, 347, 348, 349, 350] rfl
set_option maxRecDepth 100000 in
theorem sm_13 {args : Array Value} {s : State} (hgv : (Jvm.Cond.and given_1 narrow_1).before args s = true) : ∀ w ∈ strC "ElephantLineModel" 254 (lenT.getD (cn 13) 0) (bytT.getD (cn 13) []), w.before args s = true := in_fl hgv _ [395, 396, 397, 398, 399, 400, 401, 402, 403] rfl
set_option maxRecDepth 100000 in
theorem sm_14 {args : Array Value} {s : State} (hgv : (Jvm.Cond.and given_1 narrow_1).before args s = true) : ∀ w ∈ strC "ElephantLineModel" 256 (lenT.getD (cn 14) 0) (bytT.getD (cn 14) []), w.before args s = true := in_fl hgv _ [405, 406, 407, 408, 409, 410, 411, 412] rfl
set_option maxRecDepth 100000 in
theorem sm_15 {args : Array Value} {s : State} (hgv : (Jvm.Cond.and given_1 narrow_1).before args s = true) : ∀ w ∈ strC "ElephantLineModel" 258 (lenT.getD (cn 15) 0) (bytT.getD (cn 15) []), w.before args s = true := in_fl hgv _ [414, 415, 416, 417, 418, 419, 420, 421, 422] rfl
set_option maxRecDepth 100000 in
theorem sm_16 {args : Array Value} {s : State} (hgv : (Jvm.Cond.and given_1 narrow_1).before args s = true) : ∀ w ∈ strC "ElephantLineModel" 260 (lenT.getD (cn 16) 0) (bytT.getD (cn 16) []), w.before args s = true := in_fl hgv _ [424, 425, 426, 427, 428, 429, 430, 431, 432, 433] rfl
set_option maxRecDepth 100000 in
theorem sm_17 {args : Array Value} {s : State} (hgv : (Jvm.Cond.and given_1 narrow_1).before args s = true) : ∀ w ∈ strC "ElephantLineModel" 262 (lenT.getD (cn 17) 0) (bytT.getD (cn 17) []), w.before args s = true := in_fl hgv _ [435, 436, 437, 438, 439, 440] rfl
set_option maxRecDepth 100000 in
theorem sm_18 {args : Array Value} {s : State} (hgv : (Jvm.Cond.and given_1 narrow_1).before args s = true) : ∀ w ∈ strC "ElephantLineModel" 263 (lenT.getD (cn 18) 0) (bytT.getD (cn 18) []), w.before args s = true := in_fl hgv _ [442, 443, 444, 445, 446, 447, 448, 449] rfl
set_option maxRecDepth 100000 in
theorem sm_19 {args : Array Value} {s : State} (hgv : (Jvm.Cond.and given_1 narrow_1).before args s = true) : ∀ w ∈ strC "ElephantLineModel" 265 (lenT.getD (cn 19) 0) (bytT.getD (cn 19) []), w.before args s = true := in_fl hgv _ [451, 452, 453, 454, 455, 456, 457, 458, 459] rfl
set_option maxRecDepth 100000 in
theorem sm_20 {args : Array Value} {s : State} (hgv : (Jvm.Cond.and given_1 narrow_1).before args s = true) : ∀ w ∈ strC "ElephantLineModel" 291 (lenT.getD (cn 20) 0) (bytT.getD (cn 20) []), w.before args s = true := in_fl hgv _ [461, 462, 463, 464, 465, 466, 467, 468, 469] rfl
set_option maxRecDepth 100000 in
theorem sm_21 {args : Array Value} {s : State} (hgv : (Jvm.Cond.and given_1 narrow_1).before args s = true) : ∀ w ∈ strC "ElephantLine$Reader" 81 (lenT.getD (cn 21) 0) (bytT.getD (cn 21) []), w.before args s = true := in_fl hgv _ [25, 26, 27, 28, 29, 30, 31, 32, 33] rfl
set_option maxRecDepth 100000 in
theorem sm_22 {args : Array Value} {s : State} (hgv : (Jvm.Cond.and given_1 narrow_1).before args s = true) : ∀ w ∈ strC "ElephantLine$Reader" 90 (lenT.getD (cn 22) 0) (bytT.getD (cn 22) []), w.before args s = true := in_fl hgv _ [87, 88, 89, 90, 91, 92, 93, 94, 95] rfl
set_option maxRecDepth 100000 in
theorem sm_23 {args : Array Value} {s : State} (hgv : (Jvm.Cond.and given_1 narrow_1).before args s = true) : ∀ w ∈ strC "ElephantLine$Reader" 99 (lenT.getD (cn 23) 0) (bytT.getD (cn 23) []), w.before args s = true := in_fl hgv _ [96, 97, 98, 99, 100, 101, 102, 103] rfl
set_option maxRecDepth 100000 in
theorem sm_24 {args : Array Value} {s : State} (hgv : (Jvm.Cond.and given_1 narrow_1).before args s = true) : ∀ w ∈ strC "ElephantLine$Reader" 105 (lenT.getD (cn 24) 0) (bytT.getD (cn 24) []), w.before args s = true := in_fl hgv _ [104, 105, 106, 107, 108, 109, 110, 111] rfl
set_option maxRecDepth 100000 in
theorem sm_25 {args : Array Value} {s : State} (hgv : (Jvm.Cond.and given_1 narrow_1).before args s = true) : ∀ w ∈ strC "ElephantLine$Reader" 110 (lenT.getD (cn 25) 0) (bytT.getD (cn 25) []), w.before args s = true := in_fl hgv _ [146, 147, 148, 149, 150, 151, 152, 153, 154] rfl
set_option maxRecDepth 100000 in
theorem sm_26 {args : Array Value} {s : State} (hgv : (Jvm.Cond.and given_1 narrow_1).before args s = true) : ∀ w ∈ strC "ElephantLine$Reader" 115 (lenT.getD (cn 26) 0) (bytT.getD (cn 26) []), w.before args s = true := in_fl hgv _ [215, 216, 217, 218, 219, 220, 221, 222] rfl
set_option maxRecDepth 100000 in
theorem sm_27 {args : Array Value} {s : State} (hgv : (Jvm.Cond.and given_1 narrow_1).before args s = true) : ∀ w ∈ strC "ElephantLine$Reader" 123 (lenT.getD (cn 27) 0) (bytT.getD (cn 27) []), w.before args s = true := in_fl hgv _ [224, 225, 226, 227, 228, 229, 230, 231] rfl
set_option maxRecDepth 100000 in
theorem sm_28 {args : Array Value} {s : State} (hgv : (Jvm.Cond.and given_1 narrow_1).before args s = true) : ∀ w ∈ strC "ElephantLine$Reader" 131 (lenT.getD (cn 28) 0) (bytT.getD (cn 28) []), w.before args s = true := in_fl hgv _ [242, 243, 244, 245, 246, 247, 248, 249, 250, 251] rfl
set_option maxRecDepth 100000 in
theorem sm_29 {args : Array Value} {s : State} (hgv : (Jvm.Cond.and given_1 narrow_1).before args s = true) : ∀ w ∈ strC "ElephantLine$Reader" 147 (lenT.getD (cn 29) 0) (bytT.getD (cn 29) []), w.before args s = true := in_fl hgv _ [113, 114, 115, 116, 117, 118, 119, 120] rfl
set_option maxRecDepth 100000 in
theorem sm_30 {args : Array Value} {s : State} (hgv : (Jvm.Cond.and given_1 narrow_1).before args s = true) : ∀ w ∈ strC "ElephantLine$Reader" 149 (lenT.getD (cn 30) 0) (bytT.getD (cn 30) []), w.before args s = true := in_fl hgv _ [121, 122, 123, 124, 125, 126, 127, 128] rfl
set_option maxRecDepth 100000 in
theorem sm_31 {args : Array Value} {s : State} (hgv : (Jvm.Cond.and given_1 narrow_1).before args s = true) : ∀ w ∈ strC "ElephantLine$Reader" 151 (lenT.getD (cn 31) 0) (bytT.getD (cn 31) []), w.before args s = true := in_fl hgv _ [129, 130, 131, 132, 133, 134, 135, 136] rfl
set_option maxRecDepth 100000 in
theorem sm_32 {args : Array Value} {s : State} (hgv : (Jvm.Cond.and given_1 narrow_1).before args s = true) : ∀ w ∈ strC "ElephantLine$Reader" 153 (lenT.getD (cn 32) 0) (bytT.getD (cn 32) []), w.before args s = true := in_fl hgv _ [137, 138, 139, 140, 141, 142, 143, 144, 145] rfl
set_option maxRecDepth 100000 in
theorem sm_33 {args : Array Value} {s : State} (hgv : (Jvm.Cond.and given_1 narrow_1).before args s = true) : ∀ w ∈ strC "ElephantLine$Reader" 162 (lenT.getD (cn 33) 0) (bytT.getD (cn 33) []), w.before args s = true := in_fl hgv _ [192, 193, 194, 195, 196, 197] rfl
set_option maxRecDepth 100000 in
theorem sm_34 {args : Array Value} {s : State} (hgv : (Jvm.Cond.and given_1 narrow_1).before args s = true) : ∀ w ∈ strC "ElephantLine$Reader" 164 (lenT.getD (cn 34) 0) (bytT.getD (cn 34) []), w.before args s = true := in_fl hgv _ [198, 199, 200, 201, 202, 203, 204, 205] rfl
set_option maxRecDepth 100000 in
theorem sm_35 {args : Array Value} {s : State} (hgv : (Jvm.Cond.and given_1 narrow_1).before args s = true) : ∀ w ∈ strC "ElephantLine$Reader" 166 (lenT.getD (cn 35) 0) (bytT.getD (cn 35) []), w.before args s = true := in_fl hgv _ [206, 207, 208, 209, 210, 211, 212, 213, 214] rfl
set_option maxRecDepth 100000 in
theorem sm_36 {args : Array Value} {s : State} (hgv : (Jvm.Cond.and given_1 narrow_1).before args s = true) : ∀ w ∈ strC "ElephantLine$Reader" 172 (lenT.getD (cn 36) 0) (bytT.getD (cn 36) []), w.before args s = true := in_fl hgv _ [156, 157, 158, 159, 160, 161, 162, 163, 164] rfl
set_option maxRecDepth 100000 in
theorem sm_37 {args : Array Value} {s : State} (hgv : (Jvm.Cond.and given_1 narrow_1).before args s = true) : ∀ w ∈ strC "ElephantLine$Reader" 174 (lenT.getD (cn 37) 0) (bytT.getD (cn 37) []), w.before args s = true := in_fl hgv _ [165, 166, 167, 168, 169, 170, 171, 172] rfl
set_option maxRecDepth 100000 in
theorem sm_38 {args : Array Value} {s : State} (hgv : (Jvm.Cond.and given_1 narrow_1).before args s = true) : ∀ w ∈ strC "ElephantLine$Reader" 176 (lenT.getD (cn 38) 0) (bytT.getD (cn 38) []), w.before args s = true := in_fl hgv _ [173, 174, 175, 176, 177, 178, 179, 180, 181] rfl
set_option maxRecDepth 100000 in
theorem sm_39 {args : Array Value} {s : State} (hgv : (Jvm.Cond.and given_1 narrow_1).before args s = true) : ∀ w ∈ strC "ElephantLine$Reader" 178 (lenT.getD (cn 39) 0) (bytT.getD (cn 39) []), w.before args s = true := in_fl hgv _ [182, 183, 184, 185, 186, 187, 188, 189, 190, 191] rfl
set_option maxRecDepth 100000 in
theorem sm_40 {args : Array Value} {s : State} (hgv : (Jvm.Cond.and given_1 narrow_1).before args s = true) : ∀ w ∈ strC "ElephantLine$Reader" 187 (lenT.getD (cn 40) 0) (bytT.getD (cn 40) []), w.before args s = true := in_fl hgv _ [233, 234, 235, 236, 237, 238, 239, 240, 241] rfl
set_option maxRecDepth 100000 in
theorem sm_41 {args : Array Value} {s : State} (hgv : (Jvm.Cond.and given_1 narrow_1).before args s = true) : ∀ w ∈ strC "ElephantLine$Tokens" 46 (lenT.getD (cn 41) 0) (bytT.getD (cn 41) []), w.before args s = true := in_fl hgv _ [34, 35, 36, 37, 38, 39, 40, 41, 42] rfl
set_option maxRecDepth 100000 in
theorem sm_42 {args : Array Value} {s : State} (hgv : (Jvm.Cond.and given_1 narrow_1).before args s = true) : ∀ w ∈ strC "ElephantLine$Tokens" 52 (lenT.getD (cn 42) 0) (bytT.getD (cn 42) []), w.before args s = true := in_fl hgv _ [44, 45, 46, 47, 48, 49, 50, 51] rfl
set_option maxRecDepth 100000 in
theorem sm_43 {args : Array Value} {s : State} (hgv : (Jvm.Cond.and given_1 narrow_1).before args s = true) : ∀ w ∈ strC "ElephantLine$Tokens" 54 (lenT.getD (cn 43) 0) (bytT.getD (cn 43) []), w.before args s = true := in_fl hgv _ [52, 53, 54, 55, 56, 57, 58, 59, 60] rfl
set_option maxRecDepth 100000 in
theorem sm_44 {args : Array Value} {s : State} (hgv : (Jvm.Cond.and given_1 narrow_1).before args s = true) : ∀ w ∈ strC "ElephantLine$Tokens" 56 (lenT.getD (cn 44) 0) (bytT.getD (cn 44) []), w.before args s = true := in_fl hgv _ [61, 62, 63, 64, 65, 66, 67, 68] rfl
set_option maxRecDepth 100000 in
theorem sm_45 {args : Array Value} {s : State} (hgv : (Jvm.Cond.and given_1 narrow_1).before args s = true) : ∀ w ∈ strC "ElephantLine$Tokens" 58 (lenT.getD (cn 45) 0) (bytT.getD (cn 45) []), w.before args s = true := in_fl hgv _ [69, 70, 71, 72, 73, 74, 75, 76] rfl
set_option maxRecDepth 100000 in
theorem sm_46 {args : Array Value} {s : State} (hgv : (Jvm.Cond.and given_1 narrow_1).before args s = true) : ∀ w ∈ strC "ElephantLine$Tokens" 60 (lenT.getD (cn 46) 0) (bytT.getD (cn 46) []), w.before args s = true := in_fl hgv _ [77, 78, 79, 80, 81, 82, 83, 84, 85, 86] rfl
theorem lw_SS {args : Array Value} {s : State} {A : Nat → Prop} (hts : ∀ w ∈ lw_tbl, w.before args s = true) (hgv : (Jvm.Cond.and given_1 narrow_1).before args s = true) (hA : ∀ a : Nat, a < s.heap.size → ¬ A a) : ∃ sa sv : Nat → Nat, SS sa sv A s s.heap := by
  have hl : ∀ i, i < nR → lenT.getD (cn i) 0 < 2 ^ 31 := fun i hi => by rw [(sch_all (cn i) (cn_lt i hi)).1]; exact (sch_all (cn i) (cn_lt i hi)).2
  have h0 : ∀ r : Nat, ∃ p : Nat × Nat, r < nR → (va_O "java/lang/String" p.1 A s s.heap ∧ va_OF "java/lang/String" "coder" "B" (.int 0) p.1 A s s.heap ∧ va_OF "java/lang/String" "value" "[B" (.ref p.2) p.1 A s s.heap ∧ va_T .byte p.2 (lenT.getD (cn r) 0) (fun j => .int ((bytT.getD (cn r) []).getD j 0)) A s s.heap) ∧ ∀ q, strTab[r]? = some q → (Term.string q.1 q.2.1).eval args s none [] s = some (.ref p.1) := by
    intro r
    match r with
    | 0 => exact (str_of (sm_0 hgv) (hl 0 (by decide)) hA).imp (fun p h _ => ⟨h.1, fun q hq => by cases hq; exact h.2⟩)
    | 1 => exact (str_of (sm_1 hgv) (hl 1 (by decide)) hA).imp (fun p h _ => ⟨h.1, fun q hq => by cases hq; exact h.2⟩)
    | 2 => exact (str_of (sm_2 hgv) (hl 2 (by decide)) hA).imp (fun p h _ => ⟨h.1, fun q hq => by cases hq; exact h.2⟩)
    | 3 => exact (str_of (sm_3 hgv) (hl 3 (by decide)) hA).imp (fun p h _ => ⟨h.1, fun q hq => by cases hq; exact h.2⟩)
    | 4 => exact (str_of (sm_4 hgv) (hl 4 (by decide)) hA).imp (fun p h _ => ⟨h.1, fun q hq => by cases hq; exact h.2⟩)
    | 5 => exact (str_of (sm_5 hgv) (hl 5 (by decide)) hA).imp (fun p h _ => ⟨h.1, fun q hq => by cases hq; exact h.2⟩)
    | 6 => exact (str_of (sm_6 hgv) (hl 6 (by decide)) hA).imp (fun p h _ => ⟨h.1, fun q hq => by cases hq; exact h.2⟩)
    | 7 => exact (str_of (sm_7 hgv) (hl 7 (by decide)) hA).imp (fun p h _ => ⟨h.1, fun q hq => by cases hq; exact h.2⟩)
    | 8 => exact (str_of (sm_8 hgv) (hl 8 (by decide)) hA).imp (fun p h _ => ⟨h.1, fun q hq => by cases hq; exact h.2⟩)
    | 9 => exact (str_of (sm_9 hgv) (hl 9 (by decide)) hA).imp (fun p h _ => ⟨h.1, fun q hq => by cases hq; exact h.2⟩)
    | 10 => exact (str_of (sm_10 hgv) (hl 10 (by decide)) hA).imp (fun p h _ => ⟨h.1, fun q hq => by cases hq; exact h.2⟩)
    | 11 => exact (str_of (sm_11 hgv) (hl 11 (by decide)) hA).imp (fun p h _ => ⟨h.1, fun q hq => by cases hq; exact h.2⟩)
    | 12 => exact (str_of (sm_12 hgv) (hl 12 (by decide)) hA).imp (fun p h _ => ⟨h.1, fun q hq => by cases hq; exact h.2⟩)
    | 13 => exact (str_of (sm_13 hgv) (hl 13 (by decide)) hA).imp (fun p h _ => ⟨h.1, fun q hq => by cases hq; exact h.2⟩)
    | 14 => exact (str_of (sm_14 hgv) (hl 14 (by decide)) hA).imp (fun p h _ => ⟨h.1, fun q hq => by cases hq; exact h.2⟩)
    | 15 => exact (str_of (sm_15 hgv) (hl 15 (by decide)) hA).imp (fun p h _ => ⟨h.1, fun q hq => by cases hq; exact h.2⟩)
    | 16 => exact (str_of (sm_16 hgv) (hl 16 (by decide)) hA).imp (fun p h _ => ⟨h.1, fun q hq => by cases hq; exact h.2⟩)
    | 17 => exact (str_of (sm_17 hgv) (hl 17 (by decide)) hA).imp (fun p h _ => ⟨h.1, fun q hq => by cases hq; exact h.2⟩)
    | 18 => exact (str_of (sm_18 hgv) (hl 18 (by decide)) hA).imp (fun p h _ => ⟨h.1, fun q hq => by cases hq; exact h.2⟩)
    | 19 => exact (str_of (sm_19 hgv) (hl 19 (by decide)) hA).imp (fun p h _ => ⟨h.1, fun q hq => by cases hq; exact h.2⟩)
    | 20 => exact (str_of (sm_20 hgv) (hl 20 (by decide)) hA).imp (fun p h _ => ⟨h.1, fun q hq => by cases hq; exact h.2⟩)
    | 21 => exact (str_of (sm_21 hgv) (hl 21 (by decide)) hA).imp (fun p h _ => ⟨h.1, fun q hq => by cases hq; exact h.2⟩)
    | 22 => exact (str_of (sm_22 hgv) (hl 22 (by decide)) hA).imp (fun p h _ => ⟨h.1, fun q hq => by cases hq; exact h.2⟩)
    | 23 => exact (str_of (sm_23 hgv) (hl 23 (by decide)) hA).imp (fun p h _ => ⟨h.1, fun q hq => by cases hq; exact h.2⟩)
    | 24 => exact (str_of (sm_24 hgv) (hl 24 (by decide)) hA).imp (fun p h _ => ⟨h.1, fun q hq => by cases hq; exact h.2⟩)
    | 25 => exact (str_of (sm_25 hgv) (hl 25 (by decide)) hA).imp (fun p h _ => ⟨h.1, fun q hq => by cases hq; exact h.2⟩)
    | 26 => exact (str_of (sm_26 hgv) (hl 26 (by decide)) hA).imp (fun p h _ => ⟨h.1, fun q hq => by cases hq; exact h.2⟩)
    | 27 => exact (str_of (sm_27 hgv) (hl 27 (by decide)) hA).imp (fun p h _ => ⟨h.1, fun q hq => by cases hq; exact h.2⟩)
    | 28 => exact (str_of (sm_28 hgv) (hl 28 (by decide)) hA).imp (fun p h _ => ⟨h.1, fun q hq => by cases hq; exact h.2⟩)
    | 29 => exact (str_of (sm_29 hgv) (hl 29 (by decide)) hA).imp (fun p h _ => ⟨h.1, fun q hq => by cases hq; exact h.2⟩)
    | 30 => exact (str_of (sm_30 hgv) (hl 30 (by decide)) hA).imp (fun p h _ => ⟨h.1, fun q hq => by cases hq; exact h.2⟩)
    | 31 => exact (str_of (sm_31 hgv) (hl 31 (by decide)) hA).imp (fun p h _ => ⟨h.1, fun q hq => by cases hq; exact h.2⟩)
    | 32 => exact (str_of (sm_32 hgv) (hl 32 (by decide)) hA).imp (fun p h _ => ⟨h.1, fun q hq => by cases hq; exact h.2⟩)
    | 33 => exact (str_of (sm_33 hgv) (hl 33 (by decide)) hA).imp (fun p h _ => ⟨h.1, fun q hq => by cases hq; exact h.2⟩)
    | 34 => exact (str_of (sm_34 hgv) (hl 34 (by decide)) hA).imp (fun p h _ => ⟨h.1, fun q hq => by cases hq; exact h.2⟩)
    | 35 => exact (str_of (sm_35 hgv) (hl 35 (by decide)) hA).imp (fun p h _ => ⟨h.1, fun q hq => by cases hq; exact h.2⟩)
    | 36 => exact (str_of (sm_36 hgv) (hl 36 (by decide)) hA).imp (fun p h _ => ⟨h.1, fun q hq => by cases hq; exact h.2⟩)
    | 37 => exact (str_of (sm_37 hgv) (hl 37 (by decide)) hA).imp (fun p h _ => ⟨h.1, fun q hq => by cases hq; exact h.2⟩)
    | 38 => exact (str_of (sm_38 hgv) (hl 38 (by decide)) hA).imp (fun p h _ => ⟨h.1, fun q hq => by cases hq; exact h.2⟩)
    | 39 => exact (str_of (sm_39 hgv) (hl 39 (by decide)) hA).imp (fun p h _ => ⟨h.1, fun q hq => by cases hq; exact h.2⟩)
    | 40 => exact (str_of (sm_40 hgv) (hl 40 (by decide)) hA).imp (fun p h _ => ⟨h.1, fun q hq => by cases hq; exact h.2⟩)
    | 41 => exact (str_of (sm_41 hgv) (hl 41 (by decide)) hA).imp (fun p h _ => ⟨h.1, fun q hq => by cases hq; exact h.2⟩)
    | 42 => exact (str_of (sm_42 hgv) (hl 42 (by decide)) hA).imp (fun p h _ => ⟨h.1, fun q hq => by cases hq; exact h.2⟩)
    | 43 => exact (str_of (sm_43 hgv) (hl 43 (by decide)) hA).imp (fun p h _ => ⟨h.1, fun q hq => by cases hq; exact h.2⟩)
    | 44 => exact (str_of (sm_44 hgv) (hl 44 (by decide)) hA).imp (fun p h _ => ⟨h.1, fun q hq => by cases hq; exact h.2⟩)
    | 45 => exact (str_of (sm_45 hgv) (hl 45 (by decide)) hA).imp (fun p h _ => ⟨h.1, fun q hq => by cases hq; exact h.2⟩)
    | 46 => exact (str_of (sm_46 hgv) (hl 46 (by decide)) hA).imp (fun p h _ => ⟨h.1, fun q hq => by cases hq; exact h.2⟩)
    | r + 47 => exact ⟨(0, 0), fun h => absurd h (by show ¬ r + 47 < 47; omega)⟩
  refine ⟨fun r => (Classical.choose (h0 r)).1, fun r => (Classical.choose (h0 r)).2, fun i hi => (Classical.choose_spec (h0 i) hi).1, ?_, ?_, ?_⟩
  · exact va_Zof (hts _ (TB_in 3 _ (List.mem_of_getElem? (i := 44) rfl))) (hts _ (TB_in 1 _ (List.mem_of_getElem? (i := 15) rfl))) (va_eqi (in_fl hgv [Cond.eq (Term.static "java/lang/String" "COMPACT_STRINGS" "Z") (Term.int 1)] [4] rfl _ List.mem_cons_self)) hA
  · exact va_Zqof (hts _ (TB_in 3 _ (List.mem_of_getElem? (i := 60) rfl))) (hts _ (TB_in 1 _ (List.mem_of_getElem? (i := 17) rfl))) (in_fl hgv [Cond.isRef (Term.static "jdk/internal/util/Preconditions" "SIOOBE_FORMATTER" "Ljava/util/function/BiFunction;")] [5] rfl _ List.mem_cons_self) hA
  · intro q hq
    obtain ⟨r, hr⟩ := List.mem_iff_getElem?.mp hq
    have hr47 : r < nR := (List.getElem?_eq_some_iff.mp hr).1
    have e : q.2.2.2 = r := by
      have key : ∀ i, i < nR → ∀ q, strTab[i]? = some q → q.2.2.2 = i := by
        intro i hi q hq
        have := strTab_id i hi
        rw [hq] at this
        exact Option.some.inj this
      exact key r hr47 q hr
    refine vk_R.of (A := #[]) (hts _ (li_S _ (List.mem_map.mpr ⟨q, hq, rfl⟩))) ?_
    rw [e]
    exact (Classical.choose_spec (h0 r) hr47).2 q hr
