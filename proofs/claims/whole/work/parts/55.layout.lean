/-! PART 55: the layout of the slots of the start. -/
section W55
def wy_t : List Nat := [110, 2, 109, 2, 0, 0, 0, 0, 0, 0, 0, 0, 0, 2, 106, 2, 0, 0, 2, 100, 5, 0, 0, 0, 0, 0, 0, 0, 0, 0, 0, 0, 0, 0, 5, 0, 0, 0, 0, 0, 0, 0, 0, 0, 0, 0, 0, 5, 0, 0, 0, 0, 0, 0, 0, 0, 0, 0, 0, 0, 0, 104, 0, 101, 0, 0, 0, 0, 5, 0, 0, 0, 102, 103, 109, 2, 0, 0, 0, 0, 0, 0, 0, 0, 0, 2, 5, 0, 0, 0, 0, 0, 0, 0, 0, 0, 5, 0, 0, 0, 0, 0, 0, 0, 0, 0, 0, 0, 0, 0, 0, 0, 0, 0, 0, 1, 107, 2, 1, 2, 0, 0, 1, 0, 0, 0, 5, 0, 0, 0, 0, 0, 0, 0, 0, 0, 0, 5, 0, 0, 107, 2, 1, 5, 0, 0, 0, 0, 0, 0, 0, 2, 0, 107, 2, 1, 0, 2, 105, 2, 0, 14, 103, 109, 2, 0, 0, 0, 0, 0, 0, 0, 0, 0, 2, 5, 0, 0, 0, 0, 0, 0, 0, 0, 0, 5, 0, 0, 0, 0, 0, 0, 0, 0, 0, 0, 0, 0, 0, 0, 0, 0, 0, 0, 1, 107, 2, 1, 2, 0, 0, 1, 0, 0, 0, 108, 107, 2, 1, 0, 0, 0, 2, 1, 3, 0, 108, 107, 2, 1, 0, 0, 0, 2, 1, 3, 0, 115, 111, 2, 2, 112, 2, 3, 0, 0, 0, 1, 0, 0, 0, 0, 0, 0, 3, 0, 0, 3, 0, 0, 0, 112, 2, 3, 0, 0, 0, 1, 0, 0, 0, 0, 0, 0, 3, 0, 0, 3, 0, 0, 0, 2, 0, 2, 0, 0, 20, 113, 0, 113, 0, 113, 0, 0, 0, 0, 0, 0, 0, 0, 0, 0, 0, 0, 0, 0, 0, 0, 0, 0, 0, 0, 0, 3, 0, 0, 0, 0, 0, 0, 0, 0, 3, 0, 0, 0, 1, 0, 0, 0, 0, 0, 0, 0, 0, 0, 1, 3, 0, 1, 0, 1, 2, 0, 0, 2, 0, 0, 0, 0, 0, 0, 0, 0, 2, 0, 0, 0, 0, 0, 0, 0, 1, 0, 1, 0, 0, 0, 0, 1, 0, 0, 0, 0, 0, 0, 0, 0, 0, 0, 0, 0, 0, 0, 0, 1, 3, 0]
def wy_f : List (List Nat) := [[4, 0, 4, 0, 4, 4, 4, 0, 4, 0, 4, 0, 0, 4, 4, 4, 0], [4, 4, 4, 4, 4, 4, 4, 0, 0, 4, 0, 0, 4, 0, 4, 0, 0, 0], [4, 5, 4, 0, 4, 0, 4, 4, 0, 4, 4, 0, 4, 0, 4, 0, 4, 4, 4, 0], [4, 4, 0, 4, 0, 4, 4, 4, 4, 4, 0, 4, 4, 4, 4, 4, 0, 0, 0], [4, 5, 0, 4, 0], [4, 4, 4, 4, 5, 5, 0, 0, 0, 0, 1, 0, 0, 1, 0, 4, 0, 1, 4, 0], [4, 4, 4, 0, 0, 6, 0, 5, 3, 4], [4, 4, 0], [4, 4, 4, 4, 0, 4, 4, 4, 4, 4, 4, 4, 0, 0, 0, 1, 0], [4, 0, 4, 4, 4, 4, 4, 0, 4, 4, 0, 4, 0, 4, 0, 0], [4, 0, 4, 4, 4, 4, 4, 4, 4, 4, 5], [6, 6, 6, 6, 6, 0, 0, 0], [4, 0, 4, 4, 4, 4, 4, 4, 4, 4, 4, 0, 4, 4, 4, 4, 4, 4, 4, 4, 4], [0, 7, 0], [0, 0, 0, 7, 5, 5, 5, 0], [0, 4, 4, 0, 0, 3, 0, 0, 0, 0, 0, 4, 0, 5, 5, 5, 0, 4, 4, 0, 0, 4, 4, 4, 4, 0, 0, 0, 5, 0, 4, 4, 4, 0, 0, 4, 4, 4, 4, 4, 4, 4, 4, 0, 4, 4, 4, 0, 0, 4, 4, 4, 4, 4, 4, 4, 4, 4, 4, 0, 0, 0, 0, 0, 0, 0, 0, 0, 0, 0, 4, 4, 4, 4, 4, 4, 4, 4, 4, 4, 4, 0, 0, 4, 4, 4, 4, 0, 4, 4, 4, 4, 4, 4, 0, 4, 4, 4, 4, 4, 4, 4, 0, 0, 0, 4, 0, 4, 0, 4, 0, 1, 4, 0, 0, 0, 4, 4, 4, 4, 4, 4, 0, 4, 0, 4, 0, 4, 0, 4, 0, 4, 4, 4, 4, 4, 4, 4, 4, 4, 4, 4, 4, 4, 4, 4, 4, 4, 4, 4, 4, 0, 0, 0, 0, 0, 4, 4, 4, 4, 4, 4, 4, 4, 4, 4, 0, 0, 0, 0, 0, 0, 0, 0, 0, 1, 0, 0, 4, 4], [], [], [], []]
def wy_l : List (List Int) := [[1, -1, 2, 14, 19, 61, 63, 72, 158, 161, -1], [], [3, -1, 4, 5, 6, 7, 8, -1, 12, 9, -1, 10, -1, 11, -1, -1], [], [], [], [], [], [], [], [], [], [], [], [15, 16, 17, -1, -1, -1, -1, -1, -1, 18], [], [], [], [], [20, -1, 30, -1, 31, 32, 33, -1, 34, -1, 47, -1, -1, 58, 59, 60, -1], [21, 22, 23, 24, 25, 26, 27, 28, 29], [], [], [], [], [], [], [], [], [], [], [], [], [], [35, 36, 37, 38, 39, 40, 41, 42, 43, 44, 45, 46], [], [], [], [], [], [], [], [], [], [], [], [], [48, 49, 50, 51, 52, 53, 54, 55, 56, 57], [], [], [], [], [], [], [], [], [], [], [], [], [], [14, -1, -1, 62, -1], [], [14, 2, 19, 64, 65, 66, 67, -1, -1, 20, -1, -1, 68, -1, 71, -1, -1, -1], [], [], [], [], [69, 70], [], [], [], [2, -1, 126, -1, 137, -1, 140, 143, -1, 149, 150, -1, 151, -1, 152, -1, 153, 156, 157, -1], [74, 86, -1, 96, -1, 114, 115, 116, 119, 120, -1, 121, 122, 123, 124, 125, -1, -1, -1], [75, -1, 76, 77, 78, 79, 80, -1, 84, 81, -1, 82, -1, 83, -1, -1], [], [], [], [], [], [], [], [], [], [], [], [87, 88, 89, 90, 91, 92, 93, 94, 95], [], [], [], [], [], [], [], [], [], [97, 98, 99, 100, 101, 102, 103, 104, 105, 106, 107, 108, 109, 110, 111, 112, 113], [], [], [], [], [], [], [], [], [], [], [], [], [], [], [], [], [], [], [], [117, 118, -1], [], [], [], [], [], [], [], [], [], [127, 128, 129, 130, 131, 132, 133, 134, 135, 136], [], [], [], [], [], [], [], [], [], [], [138, 139], [], [], [141, 142, -1], [], [], [144, 145, 146, 147, 148], [], [], [], [], [], [], [], [], [], [154, 155, -1], [], [], [], [], [72, 19, 34, 47, -1, -1, -1, -1, -1, -1, -1, -1, -1, -1, -1, 159, -1, -1, 160, -1], [], [], [], [163, 175, -1, 185, -1, 203, 204, 205, 208, 209, -1, 210, 211, 212, 213, 214, -1, -1, -1], [164, -1, 165, 166, 167, 168, 169, -1, 173, 170, -1, 171, -1, 172, -1, -1], [], [], [], [], [], [], [], [], [], [], [], [176, 177, 178, 179, 180, 181, 182, 183, 184], [], [], [], [], [], [], [], [], [], [186, 187, 188, 189, 190, 191, 192, 193, 194, 195, 196, 197, 198, 199, 200, 201, 202], [], [], [], [], [], [], [], [], [], [], [], [], [], [], [], [], [], [], [], [206, 207, -1], [], [], [], [], [], [], [], [], [], [72, 19, 158, 216, -1, 219, 220, 221, 222, 223, 224, 225, -1, -1, -1, -1, -1], [217, 218, -1], [], [], [], [], [], [], [], [], [], [72, 19, 158, 227, -1, 230, 231, 232, 233, 234, 235, 236, -1, -1, -1, -1, -1], [228, 229, -1], [], [], [], [], [], [], [], [], [], [-1, 238, 239, -1, -1, -1, -1, -1, -1, -1, -1, 240, -1, -1, -1, -1, -1, 281, 282, -1, -1, 283, 284, 285, 286, -1, -1, -1, -1, -1, 287, 289, 291, -1, -1, 293, 294, 295, 296, 297, 298, 299, 300, -1, 301, 302, 303, -1, -1, 304, 305, 306, 307, 308, 309, 310, 311, 312, 313, -1, -1, -1, -1, -1, -1, -1, -1, -1, -1, -1, 314, 315, 316, 317, 318, 319, 320, 321, 322, 323, 324, -1, -1, 325, 326, 327, 328, -1, 329, 330, 331, 332, 333, 334, -1, 335, 336, 337, 338, 339, 340, 341, -1, -1, -1, 342, -1, 343, -1, 344, -1, -1, 345, -1, -1, -1, 346, 347, 348, 349, 350, 351, -1, 352, -1, 353, -1, 354, -1, 355, -1, 356, 357, 358, 359, 360, 361, 362, 363, 364, 365, 366, 367, 368, 369, 370, 371, 372, 373, 374, 375, -1, -1, -1, -1, -1, 376, 377, 378, 379, 380, 381, 382, 383, 384, 385, -1, -1, -1, -1, -1, -1, -1, -1, -1, -1, -1, -1, 386, 387], [-1, -1, -1, -1, -1, -1, -1, -1], [], [], [242, -1, 243, 244, 245, 246, 247, 248, 249, 250, 251, -1, 252, 253, 254, 255, 256, 257, 258, 259, 260], [], [], [], [], [], [], [], [], [], [], [], [], [], [], [], [], [], [], [], [262, -1, 263, 264, 265, 266, 267, 268, 269, 270, 271, -1, 272, 273, 274, 275, 276, 277, 278, 279, 280], [], [], [], [], [], [], [], [], [], [], [], [], [], [], [], [], [], [], [], [], [], [], [], [], [], [-1, -1, -1], [], [-1, -1, -1], [], [-1, -1, -1], [], [], [], [], [], [], [], [], [], [], [], [], [], [], [], [], [], [], [], [], [], [], [], [], [], [], [], [], [], [], [], [], [], [], [], [], [], [], [], [], [], [], [], [], [], [], [], [], [], [], [], [], [], [], [], [], [], [], [], [], [], [], [], [], [], [], [], [], [], [], [], [], [], [], [], [], [], [], [], [], [], [], [], [], [], [], [], [], [], [], [], [], [], [], [], []]
/-- 1000001: the law's row of one long; names kept for the reference's parts: of part f the 64 from 2000000 + 64 * f on (0: the Part; 1: its variables; 2, 3, 4: its Ints; 16 + 16 * r + g: the g-th array of its r-th) -/
def wy_p (j : Nat) : Nat := bif Nat.ble 2000000 j then (bif Nat.beq ((j - 2000000) % 64) 0 then 114 else bif Nat.blt ((j - 2000000) % 64) 2 || Nat.ble 5 ((j - 2000000) % 64) then 0 else 113) else bif Nat.beq j 1000001 then 1 else 0
def wy_q (j : Nat) : Bool := Nat.ble 2000000 j && (Nat.blt j 4000000 && (Nat.beq ((j - 2000000) % 64) 1 || Nat.ble 16 ((j - 2000000) % 64)))
theorem wy_p_v (j : Nat) : wy_p j = 114 ∨ wy_p j = 113 ∨ wy_p j = 0 ∨ wy_p j = 1 := by
  unfold wy_p
  cases Nat.ble 2000000 j with
  | false =>
    cases Nat.beq j 1000001 with
    | true => exact Or.inr (Or.inr (Or.inr rfl))
    | false => exact Or.inr (Or.inr (Or.inl rfl))
  | true =>
    cases Nat.beq ((j - 2000000) % 64) 0 with
    | true => exact Or.inl rfl
    | false =>
      cases Nat.blt ((j - 2000000) % 64) 2 || Nat.ble 5 ((j - 2000000) % 64) with
      | true => exact Or.inr (Or.inr (Or.inl rfl))
      | false => exact Or.inr (Or.inl rfl)
def wY0 : wY := (fun j => bif Nat.blt j 388 then (pe_at wy_t j).getD 0 else bif Nat.ble 4000000 j then (bif Nat.beq ((j - 4000000) % 64) 10 then 0 else bif Nat.blt ((j - 4000000) % 64) 32 then (j - 4000000) % 64 else (j - 4000000) % 64 + 68) else wy_p j, fun c => (pe_at wy_f c).getD [], fun j i => (pe_at ((pe_at wy_l j).getD []) i).getD (-1), 388, fun j => bif Nat.beq j 288 || (Nat.beq j 290 || (Nat.beq j 292 || ((Nat.ble 4000000 j && Nat.beq ((j - 4000000) % 64) 10) || wy_q j))) then 1 else 0)
theorem wy_pr {S : wS} {j : Nat} (h : Nat.blt j 388 = true) : w_pr wY0 S j := ⟨Or.inl (Nat.le_of_ble_eq_true h), by have := Nat.le_of_ble_eq_true h; unfold wG; omega⟩
theorem w_rg0 {x : Int} (h1 : -2147483648 ≤ x) (h2 : x ≤ 2147483647) : w_rg 0 x := ⟨h1, h2⟩
theorem w_rg1 {x : Int} (h1 : -9223372036854775808 ≤ x) (h2 : x ≤ 9223372036854775807) : w_rg 1 x := ⟨h1, h2⟩
theorem w_rg2 {x : Int} (h1 : -128 ≤ x) (h2 : x ≤ 127) : w_rg 2 x := ⟨h1, h2⟩
theorem wt_out : wY0.ty 1000001 = 1 := by decide +kernel
theorem wt_0 : wY0.ty 0 = 110 := by decide +kernel
theorem wt_1 : wY0.ty 1 = 2 := by decide +kernel
theorem wt_2 : wY0.ty 2 = 109 := by decide +kernel
theorem wt_3 : wY0.ty 3 = 2 := by decide +kernel
theorem wt_4 : wY0.ty 4 = 0 := by decide +kernel
theorem wt_5 : wY0.ty 5 = 0 := by decide +kernel
theorem wt_6 : wY0.ty 6 = 0 := by decide +kernel
theorem wt_7 : wY0.ty 7 = 0 := by decide +kernel
theorem wt_8 : wY0.ty 8 = 0 := by decide +kernel
theorem wt_9 : wY0.ty 9 = 0 := by decide +kernel
theorem wt_10 : wY0.ty 10 = 0 := by decide +kernel
theorem wt_11 : wY0.ty 11 = 0 := by decide +kernel
theorem wt_12 : wY0.ty 12 = 0 := by decide +kernel
theorem wt_13 : wY0.ty 13 = 2 := by decide +kernel
theorem wt_14 : wY0.ty 14 = 106 := by decide +kernel
theorem wt_15 : wY0.ty 15 = 2 := by decide +kernel
theorem wt_16 : wY0.ty 16 = 0 := by decide +kernel
theorem wt_17 : wY0.ty 17 = 0 := by decide +kernel
theorem wt_18 : wY0.ty 18 = 2 := by decide +kernel
theorem wt_19 : wY0.ty 19 = 100 := by decide +kernel
theorem wt_20 : wY0.ty 20 = 5 := by decide +kernel
theorem wt_21 : wY0.ty 21 = 0 := by decide +kernel
theorem wt_22 : wY0.ty 22 = 0 := by decide +kernel
theorem wt_23 : wY0.ty 23 = 0 := by decide +kernel
theorem wt_24 : wY0.ty 24 = 0 := by decide +kernel
theorem wt_25 : wY0.ty 25 = 0 := by decide +kernel
theorem wt_26 : wY0.ty 26 = 0 := by decide +kernel
theorem wt_27 : wY0.ty 27 = 0 := by decide +kernel
theorem wt_28 : wY0.ty 28 = 0 := by decide +kernel
theorem wt_29 : wY0.ty 29 = 0 := by decide +kernel
theorem wt_30 : wY0.ty 30 = 0 := by decide +kernel
theorem wt_31 : wY0.ty 31 = 0 := by decide +kernel
theorem wt_32 : wY0.ty 32 = 0 := by decide +kernel
theorem wt_33 : wY0.ty 33 = 0 := by decide +kernel
theorem wt_34 : wY0.ty 34 = 5 := by decide +kernel
theorem wt_35 : wY0.ty 35 = 0 := by decide +kernel
theorem wt_36 : wY0.ty 36 = 0 := by decide +kernel
theorem wt_37 : wY0.ty 37 = 0 := by decide +kernel
theorem wt_38 : wY0.ty 38 = 0 := by decide +kernel
theorem wt_39 : wY0.ty 39 = 0 := by decide +kernel
theorem wt_40 : wY0.ty 40 = 0 := by decide +kernel
theorem wt_41 : wY0.ty 41 = 0 := by decide +kernel
theorem wt_42 : wY0.ty 42 = 0 := by decide +kernel
theorem wt_43 : wY0.ty 43 = 0 := by decide +kernel
theorem wt_44 : wY0.ty 44 = 0 := by decide +kernel
theorem wt_45 : wY0.ty 45 = 0 := by decide +kernel
theorem wt_46 : wY0.ty 46 = 0 := by decide +kernel
theorem wt_47 : wY0.ty 47 = 5 := by decide +kernel
theorem wt_48 : wY0.ty 48 = 0 := by decide +kernel
theorem wt_49 : wY0.ty 49 = 0 := by decide +kernel
theorem wt_50 : wY0.ty 50 = 0 := by decide +kernel
theorem wt_51 : wY0.ty 51 = 0 := by decide +kernel
theorem wt_52 : wY0.ty 52 = 0 := by decide +kernel
theorem wt_53 : wY0.ty 53 = 0 := by decide +kernel
theorem wt_54 : wY0.ty 54 = 0 := by decide +kernel
theorem wt_55 : wY0.ty 55 = 0 := by decide +kernel
theorem wt_56 : wY0.ty 56 = 0 := by decide +kernel
theorem wt_57 : wY0.ty 57 = 0 := by decide +kernel
theorem wt_58 : wY0.ty 58 = 0 := by decide +kernel
theorem wt_59 : wY0.ty 59 = 0 := by decide +kernel
theorem wt_60 : wY0.ty 60 = 0 := by decide +kernel
theorem wt_61 : wY0.ty 61 = 104 := by decide +kernel
theorem wt_62 : wY0.ty 62 = 0 := by decide +kernel
theorem wt_63 : wY0.ty 63 = 101 := by decide +kernel
theorem wt_64 : wY0.ty 64 = 0 := by decide +kernel
theorem wt_65 : wY0.ty 65 = 0 := by decide +kernel
theorem wt_66 : wY0.ty 66 = 0 := by decide +kernel
theorem wt_67 : wY0.ty 67 = 0 := by decide +kernel
theorem wt_68 : wY0.ty 68 = 5 := by decide +kernel
theorem wt_69 : wY0.ty 69 = 0 := by decide +kernel
theorem wt_70 : wY0.ty 70 = 0 := by decide +kernel
theorem wt_71 : wY0.ty 71 = 0 := by decide +kernel
theorem wt_72 : wY0.ty 72 = 102 := by decide +kernel
theorem wt_73 : wY0.ty 73 = 103 := by decide +kernel
theorem wt_74 : wY0.ty 74 = 109 := by decide +kernel
theorem wt_75 : wY0.ty 75 = 2 := by decide +kernel
theorem wt_76 : wY0.ty 76 = 0 := by decide +kernel
theorem wt_77 : wY0.ty 77 = 0 := by decide +kernel
theorem wt_78 : wY0.ty 78 = 0 := by decide +kernel
theorem wt_79 : wY0.ty 79 = 0 := by decide +kernel
theorem wt_80 : wY0.ty 80 = 0 := by decide +kernel
theorem wt_81 : wY0.ty 81 = 0 := by decide +kernel
theorem wt_82 : wY0.ty 82 = 0 := by decide +kernel
theorem wt_83 : wY0.ty 83 = 0 := by decide +kernel
theorem wt_84 : wY0.ty 84 = 0 := by decide +kernel
theorem wt_85 : wY0.ty 85 = 2 := by decide +kernel
theorem wt_86 : wY0.ty 86 = 5 := by decide +kernel
theorem wt_87 : wY0.ty 87 = 0 := by decide +kernel
theorem wt_88 : wY0.ty 88 = 0 := by decide +kernel
theorem wt_89 : wY0.ty 89 = 0 := by decide +kernel
theorem wt_90 : wY0.ty 90 = 0 := by decide +kernel
theorem wt_91 : wY0.ty 91 = 0 := by decide +kernel
theorem wt_92 : wY0.ty 92 = 0 := by decide +kernel
theorem wt_93 : wY0.ty 93 = 0 := by decide +kernel
theorem wt_94 : wY0.ty 94 = 0 := by decide +kernel
theorem wt_95 : wY0.ty 95 = 0 := by decide +kernel
theorem wt_96 : wY0.ty 96 = 5 := by decide +kernel
theorem wt_97 : wY0.ty 97 = 0 := by decide +kernel
theorem wt_98 : wY0.ty 98 = 0 := by decide +kernel
theorem wt_99 : wY0.ty 99 = 0 := by decide +kernel
theorem wt_100 : wY0.ty 100 = 0 := by decide +kernel
theorem wt_101 : wY0.ty 101 = 0 := by decide +kernel
theorem wt_102 : wY0.ty 102 = 0 := by decide +kernel
theorem wt_103 : wY0.ty 103 = 0 := by decide +kernel
theorem wt_104 : wY0.ty 104 = 0 := by decide +kernel
theorem wt_105 : wY0.ty 105 = 0 := by decide +kernel
theorem wt_106 : wY0.ty 106 = 0 := by decide +kernel
theorem wt_107 : wY0.ty 107 = 0 := by decide +kernel
theorem wt_108 : wY0.ty 108 = 0 := by decide +kernel
theorem wt_109 : wY0.ty 109 = 0 := by decide +kernel
theorem wt_110 : wY0.ty 110 = 0 := by decide +kernel
theorem wt_111 : wY0.ty 111 = 0 := by decide +kernel
theorem wt_112 : wY0.ty 112 = 0 := by decide +kernel
theorem wt_113 : wY0.ty 113 = 0 := by decide +kernel
theorem wt_114 : wY0.ty 114 = 0 := by decide +kernel
theorem wt_115 : wY0.ty 115 = 1 := by decide +kernel
theorem wt_116 : wY0.ty 116 = 107 := by decide +kernel
theorem wt_117 : wY0.ty 117 = 2 := by decide +kernel
theorem wt_118 : wY0.ty 118 = 1 := by decide +kernel
theorem wt_119 : wY0.ty 119 = 2 := by decide +kernel
theorem wt_120 : wY0.ty 120 = 0 := by decide +kernel
theorem wt_121 : wY0.ty 121 = 0 := by decide +kernel
theorem wt_122 : wY0.ty 122 = 1 := by decide +kernel
theorem wt_123 : wY0.ty 123 = 0 := by decide +kernel
theorem wt_124 : wY0.ty 124 = 0 := by decide +kernel
theorem wt_125 : wY0.ty 125 = 0 := by decide +kernel
theorem wt_126 : wY0.ty 126 = 5 := by decide +kernel
theorem wt_127 : wY0.ty 127 = 0 := by decide +kernel
theorem wt_128 : wY0.ty 128 = 0 := by decide +kernel
theorem wt_129 : wY0.ty 129 = 0 := by decide +kernel
theorem wt_130 : wY0.ty 130 = 0 := by decide +kernel
theorem wt_131 : wY0.ty 131 = 0 := by decide +kernel
theorem wt_132 : wY0.ty 132 = 0 := by decide +kernel
theorem wt_133 : wY0.ty 133 = 0 := by decide +kernel
theorem wt_134 : wY0.ty 134 = 0 := by decide +kernel
theorem wt_135 : wY0.ty 135 = 0 := by decide +kernel
theorem wt_136 : wY0.ty 136 = 0 := by decide +kernel
theorem wt_137 : wY0.ty 137 = 5 := by decide +kernel
theorem wt_138 : wY0.ty 138 = 0 := by decide +kernel
theorem wt_139 : wY0.ty 139 = 0 := by decide +kernel
theorem wt_140 : wY0.ty 140 = 107 := by decide +kernel
theorem wt_141 : wY0.ty 141 = 2 := by decide +kernel
theorem wt_142 : wY0.ty 142 = 1 := by decide +kernel
theorem wt_143 : wY0.ty 143 = 5 := by decide +kernel
theorem wt_144 : wY0.ty 144 = 0 := by decide +kernel
theorem wt_145 : wY0.ty 145 = 0 := by decide +kernel
theorem wt_146 : wY0.ty 146 = 0 := by decide +kernel
theorem wt_147 : wY0.ty 147 = 0 := by decide +kernel
theorem wt_148 : wY0.ty 148 = 0 := by decide +kernel
theorem wt_149 : wY0.ty 149 = 0 := by decide +kernel
theorem wt_150 : wY0.ty 150 = 0 := by decide +kernel
theorem wt_151 : wY0.ty 151 = 2 := by decide +kernel
theorem wt_152 : wY0.ty 152 = 0 := by decide +kernel
theorem wt_153 : wY0.ty 153 = 107 := by decide +kernel
theorem wt_154 : wY0.ty 154 = 2 := by decide +kernel
theorem wt_155 : wY0.ty 155 = 1 := by decide +kernel
theorem wt_156 : wY0.ty 156 = 0 := by decide +kernel
theorem wt_157 : wY0.ty 157 = 2 := by decide +kernel
theorem wt_158 : wY0.ty 158 = 105 := by decide +kernel
theorem wt_159 : wY0.ty 159 = 2 := by decide +kernel
theorem wt_160 : wY0.ty 160 = 0 := by decide +kernel
theorem wt_161 : wY0.ty 161 = 14 := by decide +kernel
theorem wt_162 : wY0.ty 162 = 103 := by decide +kernel
theorem wt_163 : wY0.ty 163 = 109 := by decide +kernel
theorem wt_164 : wY0.ty 164 = 2 := by decide +kernel
theorem wt_165 : wY0.ty 165 = 0 := by decide +kernel
theorem wt_166 : wY0.ty 166 = 0 := by decide +kernel
theorem wt_167 : wY0.ty 167 = 0 := by decide +kernel
theorem wt_168 : wY0.ty 168 = 0 := by decide +kernel
theorem wt_169 : wY0.ty 169 = 0 := by decide +kernel
theorem wt_170 : wY0.ty 170 = 0 := by decide +kernel
theorem wt_171 : wY0.ty 171 = 0 := by decide +kernel
theorem wt_172 : wY0.ty 172 = 0 := by decide +kernel
theorem wt_173 : wY0.ty 173 = 0 := by decide +kernel
theorem wt_174 : wY0.ty 174 = 2 := by decide +kernel
theorem wt_175 : wY0.ty 175 = 5 := by decide +kernel
theorem wt_176 : wY0.ty 176 = 0 := by decide +kernel
theorem wt_177 : wY0.ty 177 = 0 := by decide +kernel
theorem wt_178 : wY0.ty 178 = 0 := by decide +kernel
theorem wt_179 : wY0.ty 179 = 0 := by decide +kernel
theorem wt_180 : wY0.ty 180 = 0 := by decide +kernel
theorem wt_181 : wY0.ty 181 = 0 := by decide +kernel
theorem wt_182 : wY0.ty 182 = 0 := by decide +kernel
theorem wt_183 : wY0.ty 183 = 0 := by decide +kernel
theorem wt_184 : wY0.ty 184 = 0 := by decide +kernel
theorem wt_185 : wY0.ty 185 = 5 := by decide +kernel
theorem wt_186 : wY0.ty 186 = 0 := by decide +kernel
theorem wt_187 : wY0.ty 187 = 0 := by decide +kernel
theorem wt_188 : wY0.ty 188 = 0 := by decide +kernel
theorem wt_189 : wY0.ty 189 = 0 := by decide +kernel
theorem wt_190 : wY0.ty 190 = 0 := by decide +kernel
theorem wt_191 : wY0.ty 191 = 0 := by decide +kernel
theorem wt_192 : wY0.ty 192 = 0 := by decide +kernel
theorem wt_193 : wY0.ty 193 = 0 := by decide +kernel
theorem wt_194 : wY0.ty 194 = 0 := by decide +kernel
theorem wt_195 : wY0.ty 195 = 0 := by decide +kernel
theorem wt_196 : wY0.ty 196 = 0 := by decide +kernel
theorem wt_197 : wY0.ty 197 = 0 := by decide +kernel
theorem wt_198 : wY0.ty 198 = 0 := by decide +kernel
theorem wt_199 : wY0.ty 199 = 0 := by decide +kernel
theorem wt_200 : wY0.ty 200 = 0 := by decide +kernel
theorem wt_201 : wY0.ty 201 = 0 := by decide +kernel
theorem wt_202 : wY0.ty 202 = 0 := by decide +kernel
theorem wt_203 : wY0.ty 203 = 0 := by decide +kernel
theorem wt_204 : wY0.ty 204 = 1 := by decide +kernel
theorem wt_205 : wY0.ty 205 = 107 := by decide +kernel
theorem wt_206 : wY0.ty 206 = 2 := by decide +kernel
theorem wt_207 : wY0.ty 207 = 1 := by decide +kernel
theorem wt_208 : wY0.ty 208 = 2 := by decide +kernel
theorem wt_209 : wY0.ty 209 = 0 := by decide +kernel
theorem wt_210 : wY0.ty 210 = 0 := by decide +kernel
theorem wt_211 : wY0.ty 211 = 1 := by decide +kernel
theorem wt_212 : wY0.ty 212 = 0 := by decide +kernel
theorem wt_213 : wY0.ty 213 = 0 := by decide +kernel
theorem wt_214 : wY0.ty 214 = 0 := by decide +kernel
theorem wt_215 : wY0.ty 215 = 108 := by decide +kernel
theorem wt_216 : wY0.ty 216 = 107 := by decide +kernel
theorem wt_217 : wY0.ty 217 = 2 := by decide +kernel
theorem wt_218 : wY0.ty 218 = 1 := by decide +kernel
theorem wt_219 : wY0.ty 219 = 0 := by decide +kernel
theorem wt_220 : wY0.ty 220 = 0 := by decide +kernel
theorem wt_221 : wY0.ty 221 = 0 := by decide +kernel
theorem wt_222 : wY0.ty 222 = 2 := by decide +kernel
theorem wt_223 : wY0.ty 223 = 1 := by decide +kernel
theorem wt_224 : wY0.ty 224 = 3 := by decide +kernel
theorem wt_225 : wY0.ty 225 = 0 := by decide +kernel
theorem wt_226 : wY0.ty 226 = 108 := by decide +kernel
theorem wt_227 : wY0.ty 227 = 107 := by decide +kernel
theorem wt_228 : wY0.ty 228 = 2 := by decide +kernel
theorem wt_229 : wY0.ty 229 = 1 := by decide +kernel
theorem wt_230 : wY0.ty 230 = 0 := by decide +kernel
theorem wt_231 : wY0.ty 231 = 0 := by decide +kernel
theorem wt_232 : wY0.ty 232 = 0 := by decide +kernel
theorem wt_233 : wY0.ty 233 = 2 := by decide +kernel
theorem wt_234 : wY0.ty 234 = 1 := by decide +kernel
theorem wt_235 : wY0.ty 235 = 3 := by decide +kernel
theorem wt_236 : wY0.ty 236 = 0 := by decide +kernel
theorem wt_237 : wY0.ty 237 = 115 := by decide +kernel
theorem wt_238 : wY0.ty 238 = 111 := by decide +kernel
theorem wt_239 : wY0.ty 239 = 2 := by decide +kernel
theorem wt_240 : wY0.ty 240 = 2 := by decide +kernel
theorem wt_241 : wY0.ty 241 = 112 := by decide +kernel
theorem wt_242 : wY0.ty 242 = 2 := by decide +kernel
theorem wt_243 : wY0.ty 243 = 3 := by decide +kernel
theorem wt_244 : wY0.ty 244 = 0 := by decide +kernel
theorem wt_245 : wY0.ty 245 = 0 := by decide +kernel
theorem wt_246 : wY0.ty 246 = 0 := by decide +kernel
theorem wt_247 : wY0.ty 247 = 1 := by decide +kernel
theorem wt_248 : wY0.ty 248 = 0 := by decide +kernel
theorem wt_249 : wY0.ty 249 = 0 := by decide +kernel
theorem wt_250 : wY0.ty 250 = 0 := by decide +kernel
theorem wt_251 : wY0.ty 251 = 0 := by decide +kernel
theorem wt_252 : wY0.ty 252 = 0 := by decide +kernel
theorem wt_253 : wY0.ty 253 = 0 := by decide +kernel
theorem wt_254 : wY0.ty 254 = 3 := by decide +kernel
theorem wt_255 : wY0.ty 255 = 0 := by decide +kernel
theorem wt_256 : wY0.ty 256 = 0 := by decide +kernel
theorem wt_257 : wY0.ty 257 = 3 := by decide +kernel
theorem wt_258 : wY0.ty 258 = 0 := by decide +kernel
theorem wt_259 : wY0.ty 259 = 0 := by decide +kernel
theorem wt_260 : wY0.ty 260 = 0 := by decide +kernel
theorem wt_261 : wY0.ty 261 = 112 := by decide +kernel
theorem wt_262 : wY0.ty 262 = 2 := by decide +kernel
theorem wt_263 : wY0.ty 263 = 3 := by decide +kernel
theorem wt_264 : wY0.ty 264 = 0 := by decide +kernel
theorem wt_265 : wY0.ty 265 = 0 := by decide +kernel
theorem wt_266 : wY0.ty 266 = 0 := by decide +kernel
theorem wt_267 : wY0.ty 267 = 1 := by decide +kernel
theorem wt_268 : wY0.ty 268 = 0 := by decide +kernel
theorem wt_269 : wY0.ty 269 = 0 := by decide +kernel
theorem wt_270 : wY0.ty 270 = 0 := by decide +kernel
theorem wt_271 : wY0.ty 271 = 0 := by decide +kernel
theorem wt_272 : wY0.ty 272 = 0 := by decide +kernel
theorem wt_273 : wY0.ty 273 = 0 := by decide +kernel
theorem wt_274 : wY0.ty 274 = 3 := by decide +kernel
theorem wt_275 : wY0.ty 275 = 0 := by decide +kernel
theorem wt_276 : wY0.ty 276 = 0 := by decide +kernel
theorem wt_277 : wY0.ty 277 = 3 := by decide +kernel
theorem wt_278 : wY0.ty 278 = 0 := by decide +kernel
theorem wt_279 : wY0.ty 279 = 0 := by decide +kernel
theorem wt_280 : wY0.ty 280 = 0 := by decide +kernel
theorem wt_281 : wY0.ty 281 = 2 := by decide +kernel
theorem wt_282 : wY0.ty 282 = 0 := by decide +kernel
theorem wt_283 : wY0.ty 283 = 2 := by decide +kernel
theorem wt_284 : wY0.ty 284 = 0 := by decide +kernel
theorem wt_285 : wY0.ty 285 = 0 := by decide +kernel
theorem wt_286 : wY0.ty 286 = 20 := by decide +kernel
theorem wt_287 : wY0.ty 287 = 113 := by decide +kernel
theorem wt_288 : wY0.ty 288 = 0 := by decide +kernel
theorem wt_289 : wY0.ty 289 = 113 := by decide +kernel
theorem wt_290 : wY0.ty 290 = 0 := by decide +kernel
theorem wt_291 : wY0.ty 291 = 113 := by decide +kernel
theorem wt_292 : wY0.ty 292 = 0 := by decide +kernel
theorem wt_293 : wY0.ty 293 = 0 := by decide +kernel
theorem wt_294 : wY0.ty 294 = 0 := by decide +kernel
theorem wt_295 : wY0.ty 295 = 0 := by decide +kernel
theorem wt_296 : wY0.ty 296 = 0 := by decide +kernel
theorem wt_297 : wY0.ty 297 = 0 := by decide +kernel
theorem wt_298 : wY0.ty 298 = 0 := by decide +kernel
theorem wt_299 : wY0.ty 299 = 0 := by decide +kernel
theorem wt_300 : wY0.ty 300 = 0 := by decide +kernel
theorem wt_301 : wY0.ty 301 = 0 := by decide +kernel
theorem wt_302 : wY0.ty 302 = 0 := by decide +kernel
theorem wt_303 : wY0.ty 303 = 0 := by decide +kernel
theorem wt_304 : wY0.ty 304 = 0 := by decide +kernel
theorem wt_305 : wY0.ty 305 = 0 := by decide +kernel
theorem wt_306 : wY0.ty 306 = 0 := by decide +kernel
theorem wt_307 : wY0.ty 307 = 0 := by decide +kernel
theorem wt_308 : wY0.ty 308 = 0 := by decide +kernel
theorem wt_309 : wY0.ty 309 = 0 := by decide +kernel
theorem wt_310 : wY0.ty 310 = 0 := by decide +kernel
theorem wt_311 : wY0.ty 311 = 0 := by decide +kernel
theorem wt_312 : wY0.ty 312 = 0 := by decide +kernel
theorem wt_313 : wY0.ty 313 = 3 := by decide +kernel
theorem wt_314 : wY0.ty 314 = 0 := by decide +kernel
theorem wt_315 : wY0.ty 315 = 0 := by decide +kernel
theorem wt_316 : wY0.ty 316 = 0 := by decide +kernel
theorem wt_317 : wY0.ty 317 = 0 := by decide +kernel
theorem wt_318 : wY0.ty 318 = 0 := by decide +kernel
theorem wt_319 : wY0.ty 319 = 0 := by decide +kernel
theorem wt_320 : wY0.ty 320 = 0 := by decide +kernel
theorem wt_321 : wY0.ty 321 = 0 := by decide +kernel
theorem wt_322 : wY0.ty 322 = 3 := by decide +kernel
theorem wt_323 : wY0.ty 323 = 0 := by decide +kernel
theorem wt_324 : wY0.ty 324 = 0 := by decide +kernel
theorem wt_325 : wY0.ty 325 = 0 := by decide +kernel
theorem wt_326 : wY0.ty 326 = 1 := by decide +kernel
theorem wt_327 : wY0.ty 327 = 0 := by decide +kernel
theorem wt_328 : wY0.ty 328 = 0 := by decide +kernel
theorem wt_329 : wY0.ty 329 = 0 := by decide +kernel
theorem wt_330 : wY0.ty 330 = 0 := by decide +kernel
theorem wt_331 : wY0.ty 331 = 0 := by decide +kernel
theorem wt_332 : wY0.ty 332 = 0 := by decide +kernel
theorem wt_333 : wY0.ty 333 = 0 := by decide +kernel
theorem wt_334 : wY0.ty 334 = 0 := by decide +kernel
theorem wt_335 : wY0.ty 335 = 0 := by decide +kernel
theorem wt_336 : wY0.ty 336 = 1 := by decide +kernel
theorem wt_337 : wY0.ty 337 = 3 := by decide +kernel
theorem wt_338 : wY0.ty 338 = 0 := by decide +kernel
theorem wt_339 : wY0.ty 339 = 1 := by decide +kernel
theorem wt_340 : wY0.ty 340 = 0 := by decide +kernel
theorem wt_341 : wY0.ty 341 = 1 := by decide +kernel
theorem wt_342 : wY0.ty 342 = 2 := by decide +kernel
theorem wt_343 : wY0.ty 343 = 0 := by decide +kernel
theorem wt_344 : wY0.ty 344 = 0 := by decide +kernel
theorem wt_345 : wY0.ty 345 = 2 := by decide +kernel
theorem wt_346 : wY0.ty 346 = 0 := by decide +kernel
theorem wt_347 : wY0.ty 347 = 0 := by decide +kernel
theorem wt_348 : wY0.ty 348 = 0 := by decide +kernel
theorem wt_349 : wY0.ty 349 = 0 := by decide +kernel
theorem wt_350 : wY0.ty 350 = 0 := by decide +kernel
theorem wt_351 : wY0.ty 351 = 0 := by decide +kernel
theorem wt_352 : wY0.ty 352 = 0 := by decide +kernel
theorem wt_353 : wY0.ty 353 = 0 := by decide +kernel
theorem wt_354 : wY0.ty 354 = 2 := by decide +kernel
theorem wt_355 : wY0.ty 355 = 0 := by decide +kernel
theorem wt_356 : wY0.ty 356 = 0 := by decide +kernel
theorem wt_357 : wY0.ty 357 = 0 := by decide +kernel
theorem wt_358 : wY0.ty 358 = 0 := by decide +kernel
theorem wt_359 : wY0.ty 359 = 0 := by decide +kernel
theorem wt_360 : wY0.ty 360 = 0 := by decide +kernel
theorem wt_361 : wY0.ty 361 = 0 := by decide +kernel
theorem wt_362 : wY0.ty 362 = 1 := by decide +kernel
theorem wt_363 : wY0.ty 363 = 0 := by decide +kernel
theorem wt_364 : wY0.ty 364 = 1 := by decide +kernel
theorem wt_365 : wY0.ty 365 = 0 := by decide +kernel
theorem wt_366 : wY0.ty 366 = 0 := by decide +kernel
theorem wt_367 : wY0.ty 367 = 0 := by decide +kernel
theorem wt_368 : wY0.ty 368 = 0 := by decide +kernel
theorem wt_369 : wY0.ty 369 = 1 := by decide +kernel
theorem wt_370 : wY0.ty 370 = 0 := by decide +kernel
theorem wt_371 : wY0.ty 371 = 0 := by decide +kernel
theorem wt_372 : wY0.ty 372 = 0 := by decide +kernel
theorem wt_373 : wY0.ty 373 = 0 := by decide +kernel
theorem wt_374 : wY0.ty 374 = 0 := by decide +kernel
theorem wt_375 : wY0.ty 375 = 0 := by decide +kernel
theorem wt_376 : wY0.ty 376 = 0 := by decide +kernel
theorem wt_377 : wY0.ty 377 = 0 := by decide +kernel
theorem wt_378 : wY0.ty 378 = 0 := by decide +kernel
theorem wt_379 : wY0.ty 379 = 0 := by decide +kernel
theorem wt_380 : wY0.ty 380 = 0 := by decide +kernel
theorem wt_381 : wY0.ty 381 = 0 := by decide +kernel
theorem wt_382 : wY0.ty 382 = 0 := by decide +kernel
theorem wt_383 : wY0.ty 383 = 0 := by decide +kernel
theorem wt_384 : wY0.ty 384 = 0 := by decide +kernel
theorem wt_385 : wY0.ty 385 = 1 := by decide +kernel
theorem wt_386 : wY0.ty 386 = 3 := by decide +kernel
theorem wt_387 : wY0.ty 387 = 0 := by decide +kernel
theorem wf_0_0 : (wY0.fk 0)[0]? = some 4 := by decide +kernel
theorem wf_0_1 : (wY0.fk 0)[1]? = some 0 := by decide +kernel
theorem wf_0_2 : (wY0.fk 0)[2]? = some 4 := by decide +kernel
theorem wf_0_3 : (wY0.fk 0)[3]? = some 0 := by decide +kernel
theorem wf_0_4 : (wY0.fk 0)[4]? = some 4 := by decide +kernel
theorem wf_0_5 : (wY0.fk 0)[5]? = some 4 := by decide +kernel
theorem wf_0_6 : (wY0.fk 0)[6]? = some 4 := by decide +kernel
theorem wf_0_7 : (wY0.fk 0)[7]? = some 0 := by decide +kernel
theorem wf_0_8 : (wY0.fk 0)[8]? = some 4 := by decide +kernel
theorem wf_0_9 : (wY0.fk 0)[9]? = some 0 := by decide +kernel
theorem wf_0_10 : (wY0.fk 0)[10]? = some 4 := by decide +kernel
theorem wf_0_11 : (wY0.fk 0)[11]? = some 0 := by decide +kernel
theorem wf_0_12 : (wY0.fk 0)[12]? = some 0 := by decide +kernel
theorem wf_0_13 : (wY0.fk 0)[13]? = some 4 := by decide +kernel
theorem wf_0_14 : (wY0.fk 0)[14]? = some 4 := by decide +kernel
theorem wf_0_15 : (wY0.fk 0)[15]? = some 4 := by decide +kernel
theorem wf_0_16 : (wY0.fk 0)[16]? = some 0 := by decide +kernel
theorem wf_1_0 : (wY0.fk 1)[0]? = some 4 := by decide +kernel
theorem wf_1_1 : (wY0.fk 1)[1]? = some 4 := by decide +kernel
theorem wf_1_2 : (wY0.fk 1)[2]? = some 4 := by decide +kernel
theorem wf_1_3 : (wY0.fk 1)[3]? = some 4 := by decide +kernel
theorem wf_1_4 : (wY0.fk 1)[4]? = some 4 := by decide +kernel
theorem wf_1_5 : (wY0.fk 1)[5]? = some 4 := by decide +kernel
theorem wf_1_6 : (wY0.fk 1)[6]? = some 4 := by decide +kernel
theorem wf_1_7 : (wY0.fk 1)[7]? = some 0 := by decide +kernel
theorem wf_1_8 : (wY0.fk 1)[8]? = some 0 := by decide +kernel
theorem wf_1_9 : (wY0.fk 1)[9]? = some 4 := by decide +kernel
theorem wf_1_10 : (wY0.fk 1)[10]? = some 0 := by decide +kernel
theorem wf_1_11 : (wY0.fk 1)[11]? = some 0 := by decide +kernel
theorem wf_1_12 : (wY0.fk 1)[12]? = some 4 := by decide +kernel
theorem wf_1_13 : (wY0.fk 1)[13]? = some 0 := by decide +kernel
theorem wf_1_14 : (wY0.fk 1)[14]? = some 4 := by decide +kernel
theorem wf_1_15 : (wY0.fk 1)[15]? = some 0 := by decide +kernel
theorem wf_1_16 : (wY0.fk 1)[16]? = some 0 := by decide +kernel
theorem wf_1_17 : (wY0.fk 1)[17]? = some 0 := by decide +kernel
theorem wf_2_0 : (wY0.fk 2)[0]? = some 4 := by decide +kernel
theorem wf_2_1 : (wY0.fk 2)[1]? = some 5 := by decide +kernel
theorem wf_2_2 : (wY0.fk 2)[2]? = some 4 := by decide +kernel
theorem wf_2_3 : (wY0.fk 2)[3]? = some 0 := by decide +kernel
theorem wf_2_4 : (wY0.fk 2)[4]? = some 4 := by decide +kernel
theorem wf_2_5 : (wY0.fk 2)[5]? = some 0 := by decide +kernel
theorem wf_2_6 : (wY0.fk 2)[6]? = some 4 := by decide +kernel
theorem wf_2_7 : (wY0.fk 2)[7]? = some 4 := by decide +kernel
theorem wf_2_8 : (wY0.fk 2)[8]? = some 0 := by decide +kernel
theorem wf_2_9 : (wY0.fk 2)[9]? = some 4 := by decide +kernel
theorem wf_2_10 : (wY0.fk 2)[10]? = some 4 := by decide +kernel
theorem wf_2_11 : (wY0.fk 2)[11]? = some 0 := by decide +kernel
theorem wf_2_12 : (wY0.fk 2)[12]? = some 4 := by decide +kernel
theorem wf_2_13 : (wY0.fk 2)[13]? = some 0 := by decide +kernel
theorem wf_2_14 : (wY0.fk 2)[14]? = some 4 := by decide +kernel
theorem wf_2_15 : (wY0.fk 2)[15]? = some 0 := by decide +kernel
theorem wf_2_16 : (wY0.fk 2)[16]? = some 4 := by decide +kernel
theorem wf_2_17 : (wY0.fk 2)[17]? = some 4 := by decide +kernel
theorem wf_2_18 : (wY0.fk 2)[18]? = some 4 := by decide +kernel
theorem wf_2_19 : (wY0.fk 2)[19]? = some 0 := by decide +kernel
theorem wf_3_0 : (wY0.fk 3)[0]? = some 4 := by decide +kernel
theorem wf_3_1 : (wY0.fk 3)[1]? = some 4 := by decide +kernel
theorem wf_3_2 : (wY0.fk 3)[2]? = some 0 := by decide +kernel
theorem wf_3_3 : (wY0.fk 3)[3]? = some 4 := by decide +kernel
theorem wf_3_4 : (wY0.fk 3)[4]? = some 0 := by decide +kernel
theorem wf_3_5 : (wY0.fk 3)[5]? = some 4 := by decide +kernel
theorem wf_3_6 : (wY0.fk 3)[6]? = some 4 := by decide +kernel
theorem wf_3_7 : (wY0.fk 3)[7]? = some 4 := by decide +kernel
theorem wf_3_8 : (wY0.fk 3)[8]? = some 4 := by decide +kernel
theorem wf_3_9 : (wY0.fk 3)[9]? = some 4 := by decide +kernel
theorem wf_3_10 : (wY0.fk 3)[10]? = some 0 := by decide +kernel
theorem wf_3_11 : (wY0.fk 3)[11]? = some 4 := by decide +kernel
theorem wf_3_12 : (wY0.fk 3)[12]? = some 4 := by decide +kernel
theorem wf_3_13 : (wY0.fk 3)[13]? = some 4 := by decide +kernel
theorem wf_3_14 : (wY0.fk 3)[14]? = some 4 := by decide +kernel
theorem wf_3_15 : (wY0.fk 3)[15]? = some 4 := by decide +kernel
theorem wf_3_16 : (wY0.fk 3)[16]? = some 0 := by decide +kernel
theorem wf_3_17 : (wY0.fk 3)[17]? = some 0 := by decide +kernel
theorem wf_3_18 : (wY0.fk 3)[18]? = some 0 := by decide +kernel
theorem wf_4_0 : (wY0.fk 4)[0]? = some 4 := by decide +kernel
theorem wf_4_1 : (wY0.fk 4)[1]? = some 5 := by decide +kernel
theorem wf_4_2 : (wY0.fk 4)[2]? = some 0 := by decide +kernel
theorem wf_4_3 : (wY0.fk 4)[3]? = some 4 := by decide +kernel
theorem wf_4_4 : (wY0.fk 4)[4]? = some 0 := by decide +kernel
theorem wf_5_0 : (wY0.fk 5)[0]? = some 4 := by decide +kernel
theorem wf_5_1 : (wY0.fk 5)[1]? = some 4 := by decide +kernel
theorem wf_5_2 : (wY0.fk 5)[2]? = some 4 := by decide +kernel
theorem wf_5_3 : (wY0.fk 5)[3]? = some 4 := by decide +kernel
theorem wf_5_4 : (wY0.fk 5)[4]? = some 5 := by decide +kernel
theorem wf_5_5 : (wY0.fk 5)[5]? = some 5 := by decide +kernel
theorem wf_5_6 : (wY0.fk 5)[6]? = some 0 := by decide +kernel
theorem wf_5_7 : (wY0.fk 5)[7]? = some 0 := by decide +kernel
theorem wf_5_8 : (wY0.fk 5)[8]? = some 0 := by decide +kernel
theorem wf_5_9 : (wY0.fk 5)[9]? = some 0 := by decide +kernel
theorem wf_5_10 : (wY0.fk 5)[10]? = some 1 := by decide +kernel
theorem wf_5_11 : (wY0.fk 5)[11]? = some 0 := by decide +kernel
theorem wf_5_12 : (wY0.fk 5)[12]? = some 0 := by decide +kernel
theorem wf_5_13 : (wY0.fk 5)[13]? = some 1 := by decide +kernel
theorem wf_5_14 : (wY0.fk 5)[14]? = some 0 := by decide +kernel
theorem wf_5_15 : (wY0.fk 5)[15]? = some 4 := by decide +kernel
theorem wf_5_16 : (wY0.fk 5)[16]? = some 0 := by decide +kernel
theorem wf_5_17 : (wY0.fk 5)[17]? = some 1 := by decide +kernel
theorem wf_5_18 : (wY0.fk 5)[18]? = some 4 := by decide +kernel
theorem wf_5_19 : (wY0.fk 5)[19]? = some 0 := by decide +kernel
theorem wf_6_0 : (wY0.fk 6)[0]? = some 4 := by decide +kernel
theorem wf_6_1 : (wY0.fk 6)[1]? = some 4 := by decide +kernel
theorem wf_6_2 : (wY0.fk 6)[2]? = some 4 := by decide +kernel
theorem wf_6_3 : (wY0.fk 6)[3]? = some 0 := by decide +kernel
theorem wf_6_4 : (wY0.fk 6)[4]? = some 0 := by decide +kernel
theorem wf_6_5 : (wY0.fk 6)[5]? = some 6 := by decide +kernel
theorem wf_6_6 : (wY0.fk 6)[6]? = some 0 := by decide +kernel
theorem wf_6_7 : (wY0.fk 6)[7]? = some 5 := by decide +kernel
theorem wf_6_8 : (wY0.fk 6)[8]? = some 3 := by decide +kernel
theorem wf_6_9 : (wY0.fk 6)[9]? = some 4 := by decide +kernel
theorem wf_7_0 : (wY0.fk 7)[0]? = some 4 := by decide +kernel
theorem wf_7_1 : (wY0.fk 7)[1]? = some 4 := by decide +kernel
theorem wf_7_2 : (wY0.fk 7)[2]? = some 0 := by decide +kernel
theorem wf_8_0 : (wY0.fk 8)[0]? = some 4 := by decide +kernel
theorem wf_8_1 : (wY0.fk 8)[1]? = some 4 := by decide +kernel
theorem wf_8_2 : (wY0.fk 8)[2]? = some 4 := by decide +kernel
theorem wf_8_3 : (wY0.fk 8)[3]? = some 4 := by decide +kernel
theorem wf_8_4 : (wY0.fk 8)[4]? = some 0 := by decide +kernel
theorem wf_8_5 : (wY0.fk 8)[5]? = some 4 := by decide +kernel
theorem wf_8_6 : (wY0.fk 8)[6]? = some 4 := by decide +kernel
theorem wf_8_7 : (wY0.fk 8)[7]? = some 4 := by decide +kernel
theorem wf_8_8 : (wY0.fk 8)[8]? = some 4 := by decide +kernel
theorem wf_8_9 : (wY0.fk 8)[9]? = some 4 := by decide +kernel
theorem wf_8_10 : (wY0.fk 8)[10]? = some 4 := by decide +kernel
theorem wf_8_11 : (wY0.fk 8)[11]? = some 4 := by decide +kernel
theorem wf_8_12 : (wY0.fk 8)[12]? = some 0 := by decide +kernel
theorem wf_8_13 : (wY0.fk 8)[13]? = some 0 := by decide +kernel
theorem wf_8_14 : (wY0.fk 8)[14]? = some 0 := by decide +kernel
theorem wf_8_15 : (wY0.fk 8)[15]? = some 1 := by decide +kernel
theorem wf_8_16 : (wY0.fk 8)[16]? = some 0 := by decide +kernel
theorem wf_9_0 : (wY0.fk 9)[0]? = some 4 := by decide +kernel
theorem wf_9_1 : (wY0.fk 9)[1]? = some 0 := by decide +kernel
theorem wf_9_2 : (wY0.fk 9)[2]? = some 4 := by decide +kernel
theorem wf_9_3 : (wY0.fk 9)[3]? = some 4 := by decide +kernel
theorem wf_9_4 : (wY0.fk 9)[4]? = some 4 := by decide +kernel
theorem wf_9_5 : (wY0.fk 9)[5]? = some 4 := by decide +kernel
theorem wf_9_6 : (wY0.fk 9)[6]? = some 4 := by decide +kernel
theorem wf_9_7 : (wY0.fk 9)[7]? = some 0 := by decide +kernel
theorem wf_9_8 : (wY0.fk 9)[8]? = some 4 := by decide +kernel
theorem wf_9_9 : (wY0.fk 9)[9]? = some 4 := by decide +kernel
theorem wf_9_10 : (wY0.fk 9)[10]? = some 0 := by decide +kernel
theorem wf_9_11 : (wY0.fk 9)[11]? = some 4 := by decide +kernel
theorem wf_9_12 : (wY0.fk 9)[12]? = some 0 := by decide +kernel
theorem wf_9_13 : (wY0.fk 9)[13]? = some 4 := by decide +kernel
theorem wf_9_14 : (wY0.fk 9)[14]? = some 0 := by decide +kernel
theorem wf_9_15 : (wY0.fk 9)[15]? = some 0 := by decide +kernel
theorem wf_10_0 : (wY0.fk 10)[0]? = some 4 := by decide +kernel
theorem wf_10_1 : (wY0.fk 10)[1]? = some 0 := by decide +kernel
theorem wf_10_2 : (wY0.fk 10)[2]? = some 4 := by decide +kernel
theorem wf_10_3 : (wY0.fk 10)[3]? = some 4 := by decide +kernel
theorem wf_10_4 : (wY0.fk 10)[4]? = some 4 := by decide +kernel
theorem wf_10_5 : (wY0.fk 10)[5]? = some 4 := by decide +kernel
theorem wf_10_6 : (wY0.fk 10)[6]? = some 4 := by decide +kernel
theorem wf_10_7 : (wY0.fk 10)[7]? = some 4 := by decide +kernel
theorem wf_10_8 : (wY0.fk 10)[8]? = some 4 := by decide +kernel
theorem wf_10_9 : (wY0.fk 10)[9]? = some 4 := by decide +kernel
theorem wf_10_10 : (wY0.fk 10)[10]? = some 5 := by decide +kernel
theorem wf_11_0 : (wY0.fk 11)[0]? = some 6 := by decide +kernel
theorem wf_11_1 : (wY0.fk 11)[1]? = some 6 := by decide +kernel
theorem wf_11_2 : (wY0.fk 11)[2]? = some 6 := by decide +kernel
theorem wf_11_3 : (wY0.fk 11)[3]? = some 6 := by decide +kernel
theorem wf_11_4 : (wY0.fk 11)[4]? = some 6 := by decide +kernel
theorem wf_11_5 : (wY0.fk 11)[5]? = some 0 := by decide +kernel
theorem wf_11_6 : (wY0.fk 11)[6]? = some 0 := by decide +kernel
theorem wf_11_7 : (wY0.fk 11)[7]? = some 0 := by decide +kernel
theorem wf_12_0 : (wY0.fk 12)[0]? = some 4 := by decide +kernel
theorem wf_12_1 : (wY0.fk 12)[1]? = some 0 := by decide +kernel
theorem wf_12_2 : (wY0.fk 12)[2]? = some 4 := by decide +kernel
theorem wf_12_3 : (wY0.fk 12)[3]? = some 4 := by decide +kernel
theorem wf_12_4 : (wY0.fk 12)[4]? = some 4 := by decide +kernel
theorem wf_12_5 : (wY0.fk 12)[5]? = some 4 := by decide +kernel
theorem wf_12_6 : (wY0.fk 12)[6]? = some 4 := by decide +kernel
theorem wf_12_7 : (wY0.fk 12)[7]? = some 4 := by decide +kernel
theorem wf_12_8 : (wY0.fk 12)[8]? = some 4 := by decide +kernel
theorem wf_12_9 : (wY0.fk 12)[9]? = some 4 := by decide +kernel
theorem wf_12_10 : (wY0.fk 12)[10]? = some 4 := by decide +kernel
theorem wf_12_11 : (wY0.fk 12)[11]? = some 0 := by decide +kernel
theorem wf_12_12 : (wY0.fk 12)[12]? = some 4 := by decide +kernel
theorem wf_12_13 : (wY0.fk 12)[13]? = some 4 := by decide +kernel
theorem wf_12_14 : (wY0.fk 12)[14]? = some 4 := by decide +kernel
theorem wf_12_15 : (wY0.fk 12)[15]? = some 4 := by decide +kernel
theorem wf_12_16 : (wY0.fk 12)[16]? = some 4 := by decide +kernel
theorem wf_12_17 : (wY0.fk 12)[17]? = some 4 := by decide +kernel
theorem wf_12_18 : (wY0.fk 12)[18]? = some 4 := by decide +kernel
theorem wf_12_19 : (wY0.fk 12)[19]? = some 4 := by decide +kernel
theorem wf_12_20 : (wY0.fk 12)[20]? = some 4 := by decide +kernel
theorem wf_13_0 : (wY0.fk 13)[0]? = some 0 := by decide +kernel
theorem wf_13_1 : (wY0.fk 13)[1]? = some 7 := by decide +kernel
theorem wf_13_2 : (wY0.fk 13)[2]? = some 0 := by decide +kernel
theorem wf_14_0 : (wY0.fk 14)[0]? = some 0 := by decide +kernel
theorem wf_14_1 : (wY0.fk 14)[1]? = some 0 := by decide +kernel
theorem wf_14_2 : (wY0.fk 14)[2]? = some 0 := by decide +kernel
theorem wf_14_3 : (wY0.fk 14)[3]? = some 7 := by decide +kernel
theorem wf_14_4 : (wY0.fk 14)[4]? = some 5 := by decide +kernel
theorem wf_14_5 : (wY0.fk 14)[5]? = some 5 := by decide +kernel
theorem wf_14_6 : (wY0.fk 14)[6]? = some 5 := by decide +kernel
theorem wf_14_7 : (wY0.fk 14)[7]? = some 0 := by decide +kernel
theorem wf_15_0 : (wY0.fk 15)[0]? = some 0 := by decide +kernel
theorem wf_15_1 : (wY0.fk 15)[1]? = some 4 := by decide +kernel
theorem wf_15_2 : (wY0.fk 15)[2]? = some 4 := by decide +kernel
theorem wf_15_3 : (wY0.fk 15)[3]? = some 0 := by decide +kernel
theorem wf_15_4 : (wY0.fk 15)[4]? = some 0 := by decide +kernel
theorem wf_15_5 : (wY0.fk 15)[5]? = some 3 := by decide +kernel
theorem wf_15_6 : (wY0.fk 15)[6]? = some 0 := by decide +kernel
theorem wf_15_7 : (wY0.fk 15)[7]? = some 0 := by decide +kernel
theorem wf_15_8 : (wY0.fk 15)[8]? = some 0 := by decide +kernel
theorem wf_15_9 : (wY0.fk 15)[9]? = some 0 := by decide +kernel
theorem wf_15_10 : (wY0.fk 15)[10]? = some 0 := by decide +kernel
theorem wf_15_11 : (wY0.fk 15)[11]? = some 4 := by decide +kernel
theorem wf_15_12 : (wY0.fk 15)[12]? = some 0 := by decide +kernel
theorem wf_15_13 : (wY0.fk 15)[13]? = some 5 := by decide +kernel
theorem wf_15_14 : (wY0.fk 15)[14]? = some 5 := by decide +kernel
theorem wf_15_15 : (wY0.fk 15)[15]? = some 5 := by decide +kernel
theorem wf_15_16 : (wY0.fk 15)[16]? = some 0 := by decide +kernel
theorem wf_15_17 : (wY0.fk 15)[17]? = some 4 := by decide +kernel
theorem wf_15_18 : (wY0.fk 15)[18]? = some 4 := by decide +kernel
theorem wf_15_19 : (wY0.fk 15)[19]? = some 0 := by decide +kernel
theorem wf_15_20 : (wY0.fk 15)[20]? = some 0 := by decide +kernel
theorem wf_15_21 : (wY0.fk 15)[21]? = some 4 := by decide +kernel
theorem wf_15_22 : (wY0.fk 15)[22]? = some 4 := by decide +kernel
theorem wf_15_23 : (wY0.fk 15)[23]? = some 4 := by decide +kernel
theorem wf_15_24 : (wY0.fk 15)[24]? = some 4 := by decide +kernel
theorem wf_15_25 : (wY0.fk 15)[25]? = some 0 := by decide +kernel
theorem wf_15_26 : (wY0.fk 15)[26]? = some 0 := by decide +kernel
theorem wf_15_27 : (wY0.fk 15)[27]? = some 0 := by decide +kernel
theorem wf_15_28 : (wY0.fk 15)[28]? = some 5 := by decide +kernel
theorem wf_15_29 : (wY0.fk 15)[29]? = some 0 := by decide +kernel
theorem wf_15_30 : (wY0.fk 15)[30]? = some 4 := by decide +kernel
theorem wf_15_31 : (wY0.fk 15)[31]? = some 4 := by decide +kernel
theorem wf_15_32 : (wY0.fk 15)[32]? = some 4 := by decide +kernel
theorem wf_15_33 : (wY0.fk 15)[33]? = some 0 := by decide +kernel
theorem wf_15_34 : (wY0.fk 15)[34]? = some 0 := by decide +kernel
theorem wf_15_35 : (wY0.fk 15)[35]? = some 4 := by decide +kernel
theorem wf_15_36 : (wY0.fk 15)[36]? = some 4 := by decide +kernel
theorem wf_15_37 : (wY0.fk 15)[37]? = some 4 := by decide +kernel
theorem wf_15_38 : (wY0.fk 15)[38]? = some 4 := by decide +kernel
theorem wf_15_39 : (wY0.fk 15)[39]? = some 4 := by decide +kernel
theorem wf_15_40 : (wY0.fk 15)[40]? = some 4 := by decide +kernel
theorem wf_15_41 : (wY0.fk 15)[41]? = some 4 := by decide +kernel
theorem wf_15_42 : (wY0.fk 15)[42]? = some 4 := by decide +kernel
theorem wf_15_43 : (wY0.fk 15)[43]? = some 0 := by decide +kernel
theorem wf_15_44 : (wY0.fk 15)[44]? = some 4 := by decide +kernel
theorem wf_15_45 : (wY0.fk 15)[45]? = some 4 := by decide +kernel
theorem wf_15_46 : (wY0.fk 15)[46]? = some 4 := by decide +kernel
theorem wf_15_47 : (wY0.fk 15)[47]? = some 0 := by decide +kernel
theorem wf_15_48 : (wY0.fk 15)[48]? = some 0 := by decide +kernel
theorem wf_15_49 : (wY0.fk 15)[49]? = some 4 := by decide +kernel
theorem wf_15_50 : (wY0.fk 15)[50]? = some 4 := by decide +kernel
theorem wf_15_51 : (wY0.fk 15)[51]? = some 4 := by decide +kernel
theorem wf_15_52 : (wY0.fk 15)[52]? = some 4 := by decide +kernel
theorem wf_15_53 : (wY0.fk 15)[53]? = some 4 := by decide +kernel
theorem wf_15_54 : (wY0.fk 15)[54]? = some 4 := by decide +kernel
theorem wf_15_55 : (wY0.fk 15)[55]? = some 4 := by decide +kernel
theorem wf_15_56 : (wY0.fk 15)[56]? = some 4 := by decide +kernel
theorem wf_15_57 : (wY0.fk 15)[57]? = some 4 := by decide +kernel
theorem wf_15_58 : (wY0.fk 15)[58]? = some 4 := by decide +kernel
theorem wf_15_59 : (wY0.fk 15)[59]? = some 0 := by decide +kernel
theorem wf_15_60 : (wY0.fk 15)[60]? = some 0 := by decide +kernel
theorem wf_15_61 : (wY0.fk 15)[61]? = some 0 := by decide +kernel
theorem wf_15_62 : (wY0.fk 15)[62]? = some 0 := by decide +kernel
theorem wf_15_63 : (wY0.fk 15)[63]? = some 0 := by decide +kernel
theorem wf_15_64 : (wY0.fk 15)[64]? = some 0 := by decide +kernel
theorem wf_15_65 : (wY0.fk 15)[65]? = some 0 := by decide +kernel
theorem wf_15_66 : (wY0.fk 15)[66]? = some 0 := by decide +kernel
theorem wf_15_67 : (wY0.fk 15)[67]? = some 0 := by decide +kernel
theorem wf_15_68 : (wY0.fk 15)[68]? = some 0 := by decide +kernel
theorem wf_15_69 : (wY0.fk 15)[69]? = some 0 := by decide +kernel
theorem wf_15_70 : (wY0.fk 15)[70]? = some 4 := by decide +kernel
theorem wf_15_71 : (wY0.fk 15)[71]? = some 4 := by decide +kernel
theorem wf_15_72 : (wY0.fk 15)[72]? = some 4 := by decide +kernel
theorem wf_15_73 : (wY0.fk 15)[73]? = some 4 := by decide +kernel
theorem wf_15_74 : (wY0.fk 15)[74]? = some 4 := by decide +kernel
theorem wf_15_75 : (wY0.fk 15)[75]? = some 4 := by decide +kernel
theorem wf_15_76 : (wY0.fk 15)[76]? = some 4 := by decide +kernel
theorem wf_15_77 : (wY0.fk 15)[77]? = some 4 := by decide +kernel
theorem wf_15_78 : (wY0.fk 15)[78]? = some 4 := by decide +kernel
theorem wf_15_79 : (wY0.fk 15)[79]? = some 4 := by decide +kernel
theorem wf_15_80 : (wY0.fk 15)[80]? = some 4 := by decide +kernel
theorem wf_15_81 : (wY0.fk 15)[81]? = some 0 := by decide +kernel
theorem wf_15_82 : (wY0.fk 15)[82]? = some 0 := by decide +kernel
theorem wf_15_83 : (wY0.fk 15)[83]? = some 4 := by decide +kernel
theorem wf_15_84 : (wY0.fk 15)[84]? = some 4 := by decide +kernel
theorem wf_15_85 : (wY0.fk 15)[85]? = some 4 := by decide +kernel
theorem wf_15_86 : (wY0.fk 15)[86]? = some 4 := by decide +kernel
theorem wf_15_87 : (wY0.fk 15)[87]? = some 0 := by decide +kernel
theorem wf_15_88 : (wY0.fk 15)[88]? = some 4 := by decide +kernel
theorem wf_15_89 : (wY0.fk 15)[89]? = some 4 := by decide +kernel
theorem wf_15_90 : (wY0.fk 15)[90]? = some 4 := by decide +kernel
theorem wf_15_91 : (wY0.fk 15)[91]? = some 4 := by decide +kernel
theorem wf_15_92 : (wY0.fk 15)[92]? = some 4 := by decide +kernel
theorem wf_15_93 : (wY0.fk 15)[93]? = some 4 := by decide +kernel
theorem wf_15_94 : (wY0.fk 15)[94]? = some 0 := by decide +kernel
theorem wf_15_95 : (wY0.fk 15)[95]? = some 4 := by decide +kernel
theorem wf_15_96 : (wY0.fk 15)[96]? = some 4 := by decide +kernel
theorem wf_15_97 : (wY0.fk 15)[97]? = some 4 := by decide +kernel
theorem wf_15_98 : (wY0.fk 15)[98]? = some 4 := by decide +kernel
theorem wf_15_99 : (wY0.fk 15)[99]? = some 4 := by decide +kernel
theorem wf_15_100 : (wY0.fk 15)[100]? = some 4 := by decide +kernel
theorem wf_15_101 : (wY0.fk 15)[101]? = some 4 := by decide +kernel
theorem wf_15_102 : (wY0.fk 15)[102]? = some 0 := by decide +kernel
theorem wf_15_103 : (wY0.fk 15)[103]? = some 0 := by decide +kernel
theorem wf_15_104 : (wY0.fk 15)[104]? = some 0 := by decide +kernel
theorem wf_15_105 : (wY0.fk 15)[105]? = some 4 := by decide +kernel
theorem wf_15_106 : (wY0.fk 15)[106]? = some 0 := by decide +kernel
theorem wf_15_107 : (wY0.fk 15)[107]? = some 4 := by decide +kernel
theorem wf_15_108 : (wY0.fk 15)[108]? = some 0 := by decide +kernel
theorem wf_15_109 : (wY0.fk 15)[109]? = some 4 := by decide +kernel
theorem wf_15_110 : (wY0.fk 15)[110]? = some 0 := by decide +kernel
theorem wf_15_111 : (wY0.fk 15)[111]? = some 1 := by decide +kernel
theorem wf_15_112 : (wY0.fk 15)[112]? = some 4 := by decide +kernel
theorem wf_15_113 : (wY0.fk 15)[113]? = some 0 := by decide +kernel
theorem wf_15_114 : (wY0.fk 15)[114]? = some 0 := by decide +kernel
theorem wf_15_115 : (wY0.fk 15)[115]? = some 0 := by decide +kernel
theorem wf_15_116 : (wY0.fk 15)[116]? = some 4 := by decide +kernel
theorem wf_15_117 : (wY0.fk 15)[117]? = some 4 := by decide +kernel
theorem wf_15_118 : (wY0.fk 15)[118]? = some 4 := by decide +kernel
theorem wf_15_119 : (wY0.fk 15)[119]? = some 4 := by decide +kernel
theorem wf_15_120 : (wY0.fk 15)[120]? = some 4 := by decide +kernel
theorem wf_15_121 : (wY0.fk 15)[121]? = some 4 := by decide +kernel
theorem wf_15_122 : (wY0.fk 15)[122]? = some 0 := by decide +kernel
theorem wf_15_123 : (wY0.fk 15)[123]? = some 4 := by decide +kernel
theorem wf_15_124 : (wY0.fk 15)[124]? = some 0 := by decide +kernel
theorem wf_15_125 : (wY0.fk 15)[125]? = some 4 := by decide +kernel
theorem wf_15_126 : (wY0.fk 15)[126]? = some 0 := by decide +kernel
theorem wf_15_127 : (wY0.fk 15)[127]? = some 4 := by decide +kernel
theorem wf_15_128 : (wY0.fk 15)[128]? = some 0 := by decide +kernel
theorem wf_15_129 : (wY0.fk 15)[129]? = some 4 := by decide +kernel
theorem wf_15_130 : (wY0.fk 15)[130]? = some 0 := by decide +kernel
theorem wf_15_131 : (wY0.fk 15)[131]? = some 4 := by decide +kernel
theorem wf_15_132 : (wY0.fk 15)[132]? = some 4 := by decide +kernel
theorem wf_15_133 : (wY0.fk 15)[133]? = some 4 := by decide +kernel
theorem wf_15_134 : (wY0.fk 15)[134]? = some 4 := by decide +kernel
theorem wf_15_135 : (wY0.fk 15)[135]? = some 4 := by decide +kernel
theorem wf_15_136 : (wY0.fk 15)[136]? = some 4 := by decide +kernel
theorem wf_15_137 : (wY0.fk 15)[137]? = some 4 := by decide +kernel
theorem wf_15_138 : (wY0.fk 15)[138]? = some 4 := by decide +kernel
theorem wf_15_139 : (wY0.fk 15)[139]? = some 4 := by decide +kernel
theorem wf_15_140 : (wY0.fk 15)[140]? = some 4 := by decide +kernel
theorem wf_15_141 : (wY0.fk 15)[141]? = some 4 := by decide +kernel
theorem wf_15_142 : (wY0.fk 15)[142]? = some 4 := by decide +kernel
theorem wf_15_143 : (wY0.fk 15)[143]? = some 4 := by decide +kernel
theorem wf_15_144 : (wY0.fk 15)[144]? = some 4 := by decide +kernel
theorem wf_15_145 : (wY0.fk 15)[145]? = some 4 := by decide +kernel
theorem wf_15_146 : (wY0.fk 15)[146]? = some 4 := by decide +kernel
theorem wf_15_147 : (wY0.fk 15)[147]? = some 4 := by decide +kernel
theorem wf_15_148 : (wY0.fk 15)[148]? = some 4 := by decide +kernel
theorem wf_15_149 : (wY0.fk 15)[149]? = some 4 := by decide +kernel
theorem wf_15_150 : (wY0.fk 15)[150]? = some 4 := by decide +kernel
theorem wf_15_151 : (wY0.fk 15)[151]? = some 0 := by decide +kernel
theorem wf_15_152 : (wY0.fk 15)[152]? = some 0 := by decide +kernel
theorem wf_15_153 : (wY0.fk 15)[153]? = some 0 := by decide +kernel
theorem wf_15_154 : (wY0.fk 15)[154]? = some 0 := by decide +kernel
theorem wf_15_155 : (wY0.fk 15)[155]? = some 0 := by decide +kernel
theorem wf_15_156 : (wY0.fk 15)[156]? = some 4 := by decide +kernel
theorem wf_15_157 : (wY0.fk 15)[157]? = some 4 := by decide +kernel
theorem wf_15_158 : (wY0.fk 15)[158]? = some 4 := by decide +kernel
theorem wf_15_159 : (wY0.fk 15)[159]? = some 4 := by decide +kernel
theorem wf_15_160 : (wY0.fk 15)[160]? = some 4 := by decide +kernel
theorem wf_15_161 : (wY0.fk 15)[161]? = some 4 := by decide +kernel
theorem wf_15_162 : (wY0.fk 15)[162]? = some 4 := by decide +kernel
theorem wf_15_163 : (wY0.fk 15)[163]? = some 4 := by decide +kernel
theorem wf_15_164 : (wY0.fk 15)[164]? = some 4 := by decide +kernel
theorem wf_15_165 : (wY0.fk 15)[165]? = some 4 := by decide +kernel
theorem wf_15_166 : (wY0.fk 15)[166]? = some 0 := by decide +kernel
theorem wf_15_167 : (wY0.fk 15)[167]? = some 0 := by decide +kernel
theorem wf_15_168 : (wY0.fk 15)[168]? = some 0 := by decide +kernel
theorem wf_15_169 : (wY0.fk 15)[169]? = some 0 := by decide +kernel
theorem wf_15_170 : (wY0.fk 15)[170]? = some 0 := by decide +kernel
theorem wf_15_171 : (wY0.fk 15)[171]? = some 0 := by decide +kernel
theorem wf_15_172 : (wY0.fk 15)[172]? = some 0 := by decide +kernel
theorem wf_15_173 : (wY0.fk 15)[173]? = some 0 := by decide +kernel
theorem wf_15_174 : (wY0.fk 15)[174]? = some 0 := by decide +kernel
theorem wf_15_175 : (wY0.fk 15)[175]? = some 1 := by decide +kernel
theorem wf_15_176 : (wY0.fk 15)[176]? = some 0 := by decide +kernel
theorem wf_15_177 : (wY0.fk 15)[177]? = some 0 := by decide +kernel
theorem wf_15_178 : (wY0.fk 15)[178]? = some 4 := by decide +kernel
theorem wf_15_179 : (wY0.fk 15)[179]? = some 4 := by decide +kernel
theorem wl_0_0 : wY0.ln 0 0 = 1 := by decide +kernel
theorem wl_0_2 : wY0.ln 0 2 = 2 := by decide +kernel
theorem wl_0_3 : wY0.ln 0 3 = 14 := by decide +kernel
theorem wl_0_4 : wY0.ln 0 4 = 19 := by decide +kernel
theorem wl_0_5 : wY0.ln 0 5 = 61 := by decide +kernel
theorem wl_0_6 : wY0.ln 0 6 = 63 := by decide +kernel
theorem wl_0_7 : wY0.ln 0 7 = 72 := by decide +kernel
theorem wl_0_8 : wY0.ln 0 8 = 158 := by decide +kernel
theorem wl_0_9 : wY0.ln 0 9 = 161 := by decide +kernel
theorem wl_2_0 : wY0.ln 2 0 = 3 := by decide +kernel
theorem wl_2_2 : wY0.ln 2 2 = 4 := by decide +kernel
theorem wl_2_3 : wY0.ln 2 3 = 5 := by decide +kernel
theorem wl_2_4 : wY0.ln 2 4 = 6 := by decide +kernel
theorem wl_2_5 : wY0.ln 2 5 = 7 := by decide +kernel
theorem wl_2_6 : wY0.ln 2 6 = 8 := by decide +kernel
theorem wl_2_8 : wY0.ln 2 8 = 12 := by decide +kernel
theorem wl_2_9 : wY0.ln 2 9 = 9 := by decide +kernel
theorem wl_2_11 : wY0.ln 2 11 = 10 := by decide +kernel
theorem wl_2_13 : wY0.ln 2 13 = 11 := by decide +kernel
theorem wl_14_0 : wY0.ln 14 0 = 15 := by decide +kernel
theorem wl_14_1 : wY0.ln 14 1 = 16 := by decide +kernel
theorem wl_14_2 : wY0.ln 14 2 = 17 := by decide +kernel
theorem wl_14_9 : wY0.ln 14 9 = 18 := by decide +kernel
theorem wl_19_0 : wY0.ln 19 0 = 20 := by decide +kernel
theorem wl_19_2 : wY0.ln 19 2 = 30 := by decide +kernel
theorem wl_19_4 : wY0.ln 19 4 = 31 := by decide +kernel
theorem wl_19_5 : wY0.ln 19 5 = 32 := by decide +kernel
theorem wl_19_6 : wY0.ln 19 6 = 33 := by decide +kernel
theorem wl_19_8 : wY0.ln 19 8 = 34 := by decide +kernel
theorem wl_19_10 : wY0.ln 19 10 = 47 := by decide +kernel
theorem wl_19_13 : wY0.ln 19 13 = 58 := by decide +kernel
theorem wl_19_14 : wY0.ln 19 14 = 59 := by decide +kernel
theorem wl_19_15 : wY0.ln 19 15 = 60 := by decide +kernel
theorem wl_20_0 : wY0.ln 20 0 = 21 := by decide +kernel
theorem wl_20_1 : wY0.ln 20 1 = 22 := by decide +kernel
theorem wl_20_2 : wY0.ln 20 2 = 23 := by decide +kernel
theorem wl_20_3 : wY0.ln 20 3 = 24 := by decide +kernel
theorem wl_20_4 : wY0.ln 20 4 = 25 := by decide +kernel
theorem wl_20_5 : wY0.ln 20 5 = 26 := by decide +kernel
theorem wl_20_6 : wY0.ln 20 6 = 27 := by decide +kernel
theorem wl_20_7 : wY0.ln 20 7 = 28 := by decide +kernel
theorem wl_20_8 : wY0.ln 20 8 = 29 := by decide +kernel
theorem wl_34_0 : wY0.ln 34 0 = 35 := by decide +kernel
theorem wl_34_1 : wY0.ln 34 1 = 36 := by decide +kernel
theorem wl_34_2 : wY0.ln 34 2 = 37 := by decide +kernel
theorem wl_34_3 : wY0.ln 34 3 = 38 := by decide +kernel
theorem wl_34_4 : wY0.ln 34 4 = 39 := by decide +kernel
theorem wl_34_5 : wY0.ln 34 5 = 40 := by decide +kernel
theorem wl_34_6 : wY0.ln 34 6 = 41 := by decide +kernel
theorem wl_34_7 : wY0.ln 34 7 = 42 := by decide +kernel
theorem wl_34_8 : wY0.ln 34 8 = 43 := by decide +kernel
theorem wl_34_9 : wY0.ln 34 9 = 44 := by decide +kernel
theorem wl_34_10 : wY0.ln 34 10 = 45 := by decide +kernel
theorem wl_34_11 : wY0.ln 34 11 = 46 := by decide +kernel
theorem wl_47_0 : wY0.ln 47 0 = 48 := by decide +kernel
theorem wl_47_1 : wY0.ln 47 1 = 49 := by decide +kernel
theorem wl_47_2 : wY0.ln 47 2 = 50 := by decide +kernel
theorem wl_47_3 : wY0.ln 47 3 = 51 := by decide +kernel
theorem wl_47_4 : wY0.ln 47 4 = 52 := by decide +kernel
theorem wl_47_5 : wY0.ln 47 5 = 53 := by decide +kernel
theorem wl_47_6 : wY0.ln 47 6 = 54 := by decide +kernel
theorem wl_47_7 : wY0.ln 47 7 = 55 := by decide +kernel
theorem wl_47_8 : wY0.ln 47 8 = 56 := by decide +kernel
theorem wl_47_9 : wY0.ln 47 9 = 57 := by decide +kernel
theorem wl_61_0 : wY0.ln 61 0 = 14 := by decide +kernel
theorem wl_61_3 : wY0.ln 61 3 = 62 := by decide +kernel
theorem wl_63_0 : wY0.ln 63 0 = 14 := by decide +kernel
theorem wl_63_1 : wY0.ln 63 1 = 2 := by decide +kernel
theorem wl_63_2 : wY0.ln 63 2 = 19 := by decide +kernel
theorem wl_63_3 : wY0.ln 63 3 = 64 := by decide +kernel
theorem wl_63_4 : wY0.ln 63 4 = 65 := by decide +kernel
theorem wl_63_5 : wY0.ln 63 5 = 66 := by decide +kernel
theorem wl_63_6 : wY0.ln 63 6 = 67 := by decide +kernel
theorem wl_63_9 : wY0.ln 63 9 = 20 := by decide +kernel
theorem wl_63_12 : wY0.ln 63 12 = 68 := by decide +kernel
theorem wl_63_14 : wY0.ln 63 14 = 71 := by decide +kernel
theorem wl_68_0 : wY0.ln 68 0 = 69 := by decide +kernel
theorem wl_68_1 : wY0.ln 68 1 = 70 := by decide +kernel
theorem wl_72_0 : wY0.ln 72 0 = 2 := by decide +kernel
theorem wl_72_2 : wY0.ln 72 2 = 126 := by decide +kernel
theorem wl_72_4 : wY0.ln 72 4 = 137 := by decide +kernel
theorem wl_72_6 : wY0.ln 72 6 = 140 := by decide +kernel
theorem wl_72_7 : wY0.ln 72 7 = 143 := by decide +kernel
theorem wl_72_9 : wY0.ln 72 9 = 149 := by decide +kernel
theorem wl_72_10 : wY0.ln 72 10 = 150 := by decide +kernel
theorem wl_72_12 : wY0.ln 72 12 = 151 := by decide +kernel
theorem wl_72_14 : wY0.ln 72 14 = 152 := by decide +kernel
theorem wl_72_16 : wY0.ln 72 16 = 153 := by decide +kernel
theorem wl_72_17 : wY0.ln 72 17 = 156 := by decide +kernel
theorem wl_72_18 : wY0.ln 72 18 = 157 := by decide +kernel
theorem wl_73_0 : wY0.ln 73 0 = 74 := by decide +kernel
theorem wl_73_1 : wY0.ln 73 1 = 86 := by decide +kernel
theorem wl_73_3 : wY0.ln 73 3 = 96 := by decide +kernel
theorem wl_73_5 : wY0.ln 73 5 = 114 := by decide +kernel
theorem wl_73_6 : wY0.ln 73 6 = 115 := by decide +kernel
theorem wl_73_7 : wY0.ln 73 7 = 116 := by decide +kernel
theorem wl_73_8 : wY0.ln 73 8 = 119 := by decide +kernel
theorem wl_73_9 : wY0.ln 73 9 = 120 := by decide +kernel
theorem wl_73_11 : wY0.ln 73 11 = 121 := by decide +kernel
theorem wl_73_12 : wY0.ln 73 12 = 122 := by decide +kernel
theorem wl_73_13 : wY0.ln 73 13 = 123 := by decide +kernel
theorem wl_73_14 : wY0.ln 73 14 = 124 := by decide +kernel
theorem wl_73_15 : wY0.ln 73 15 = 125 := by decide +kernel
theorem wl_74_0 : wY0.ln 74 0 = 75 := by decide +kernel
theorem wl_74_2 : wY0.ln 74 2 = 76 := by decide +kernel
theorem wl_74_3 : wY0.ln 74 3 = 77 := by decide +kernel
theorem wl_74_4 : wY0.ln 74 4 = 78 := by decide +kernel
theorem wl_74_5 : wY0.ln 74 5 = 79 := by decide +kernel
theorem wl_74_6 : wY0.ln 74 6 = 80 := by decide +kernel
theorem wl_74_8 : wY0.ln 74 8 = 84 := by decide +kernel
theorem wl_74_9 : wY0.ln 74 9 = 81 := by decide +kernel
theorem wl_74_11 : wY0.ln 74 11 = 82 := by decide +kernel
theorem wl_74_13 : wY0.ln 74 13 = 83 := by decide +kernel
theorem wl_86_0 : wY0.ln 86 0 = 87 := by decide +kernel
theorem wl_86_1 : wY0.ln 86 1 = 88 := by decide +kernel
theorem wl_86_2 : wY0.ln 86 2 = 89 := by decide +kernel
theorem wl_86_3 : wY0.ln 86 3 = 90 := by decide +kernel
theorem wl_86_4 : wY0.ln 86 4 = 91 := by decide +kernel
theorem wl_86_5 : wY0.ln 86 5 = 92 := by decide +kernel
theorem wl_86_6 : wY0.ln 86 6 = 93 := by decide +kernel
theorem wl_86_7 : wY0.ln 86 7 = 94 := by decide +kernel
theorem wl_86_8 : wY0.ln 86 8 = 95 := by decide +kernel
theorem wl_96_0 : wY0.ln 96 0 = 97 := by decide +kernel
theorem wl_96_1 : wY0.ln 96 1 = 98 := by decide +kernel
theorem wl_96_2 : wY0.ln 96 2 = 99 := by decide +kernel
theorem wl_96_3 : wY0.ln 96 3 = 100 := by decide +kernel
theorem wl_96_4 : wY0.ln 96 4 = 101 := by decide +kernel
theorem wl_96_5 : wY0.ln 96 5 = 102 := by decide +kernel
theorem wl_96_6 : wY0.ln 96 6 = 103 := by decide +kernel
theorem wl_96_7 : wY0.ln 96 7 = 104 := by decide +kernel
theorem wl_96_8 : wY0.ln 96 8 = 105 := by decide +kernel
theorem wl_96_9 : wY0.ln 96 9 = 106 := by decide +kernel
theorem wl_96_10 : wY0.ln 96 10 = 107 := by decide +kernel
theorem wl_96_11 : wY0.ln 96 11 = 108 := by decide +kernel
theorem wl_96_12 : wY0.ln 96 12 = 109 := by decide +kernel
theorem wl_96_13 : wY0.ln 96 13 = 110 := by decide +kernel
theorem wl_96_14 : wY0.ln 96 14 = 111 := by decide +kernel
theorem wl_96_15 : wY0.ln 96 15 = 112 := by decide +kernel
theorem wl_96_16 : wY0.ln 96 16 = 113 := by decide +kernel
theorem wl_116_0 : wY0.ln 116 0 = 117 := by decide +kernel
theorem wl_116_1 : wY0.ln 116 1 = 118 := by decide +kernel
theorem wl_126_0 : wY0.ln 126 0 = 127 := by decide +kernel
theorem wl_126_1 : wY0.ln 126 1 = 128 := by decide +kernel
theorem wl_126_2 : wY0.ln 126 2 = 129 := by decide +kernel
theorem wl_126_3 : wY0.ln 126 3 = 130 := by decide +kernel
theorem wl_126_4 : wY0.ln 126 4 = 131 := by decide +kernel
theorem wl_126_5 : wY0.ln 126 5 = 132 := by decide +kernel
theorem wl_126_6 : wY0.ln 126 6 = 133 := by decide +kernel
theorem wl_126_7 : wY0.ln 126 7 = 134 := by decide +kernel
theorem wl_126_8 : wY0.ln 126 8 = 135 := by decide +kernel
theorem wl_126_9 : wY0.ln 126 9 = 136 := by decide +kernel
theorem wl_137_0 : wY0.ln 137 0 = 138 := by decide +kernel
theorem wl_137_1 : wY0.ln 137 1 = 139 := by decide +kernel
theorem wl_140_0 : wY0.ln 140 0 = 141 := by decide +kernel
theorem wl_140_1 : wY0.ln 140 1 = 142 := by decide +kernel
theorem wl_143_0 : wY0.ln 143 0 = 144 := by decide +kernel
theorem wl_143_1 : wY0.ln 143 1 = 145 := by decide +kernel
theorem wl_143_2 : wY0.ln 143 2 = 146 := by decide +kernel
theorem wl_143_3 : wY0.ln 143 3 = 147 := by decide +kernel
theorem wl_143_4 : wY0.ln 143 4 = 148 := by decide +kernel
theorem wl_153_0 : wY0.ln 153 0 = 154 := by decide +kernel
theorem wl_153_1 : wY0.ln 153 1 = 155 := by decide +kernel
theorem wl_158_0 : wY0.ln 158 0 = 72 := by decide +kernel
theorem wl_158_1 : wY0.ln 158 1 = 19 := by decide +kernel
theorem wl_158_2 : wY0.ln 158 2 = 34 := by decide +kernel
theorem wl_158_3 : wY0.ln 158 3 = 47 := by decide +kernel
theorem wl_158_15 : wY0.ln 158 15 = 159 := by decide +kernel
theorem wl_158_18 : wY0.ln 158 18 = 160 := by decide +kernel
theorem wl_162_0 : wY0.ln 162 0 = 163 := by decide +kernel
theorem wl_162_1 : wY0.ln 162 1 = 175 := by decide +kernel
theorem wl_162_3 : wY0.ln 162 3 = 185 := by decide +kernel
theorem wl_162_5 : wY0.ln 162 5 = 203 := by decide +kernel
theorem wl_162_6 : wY0.ln 162 6 = 204 := by decide +kernel
theorem wl_162_7 : wY0.ln 162 7 = 205 := by decide +kernel
theorem wl_162_8 : wY0.ln 162 8 = 208 := by decide +kernel
theorem wl_162_9 : wY0.ln 162 9 = 209 := by decide +kernel
theorem wl_162_11 : wY0.ln 162 11 = 210 := by decide +kernel
theorem wl_162_12 : wY0.ln 162 12 = 211 := by decide +kernel
theorem wl_162_13 : wY0.ln 162 13 = 212 := by decide +kernel
theorem wl_162_14 : wY0.ln 162 14 = 213 := by decide +kernel
theorem wl_162_15 : wY0.ln 162 15 = 214 := by decide +kernel
theorem wl_163_0 : wY0.ln 163 0 = 164 := by decide +kernel
theorem wl_163_2 : wY0.ln 163 2 = 165 := by decide +kernel
theorem wl_163_3 : wY0.ln 163 3 = 166 := by decide +kernel
theorem wl_163_4 : wY0.ln 163 4 = 167 := by decide +kernel
theorem wl_163_5 : wY0.ln 163 5 = 168 := by decide +kernel
theorem wl_163_6 : wY0.ln 163 6 = 169 := by decide +kernel
theorem wl_163_8 : wY0.ln 163 8 = 173 := by decide +kernel
theorem wl_163_9 : wY0.ln 163 9 = 170 := by decide +kernel
theorem wl_163_11 : wY0.ln 163 11 = 171 := by decide +kernel
theorem wl_163_13 : wY0.ln 163 13 = 172 := by decide +kernel
theorem wl_175_0 : wY0.ln 175 0 = 176 := by decide +kernel
theorem wl_175_1 : wY0.ln 175 1 = 177 := by decide +kernel
theorem wl_175_2 : wY0.ln 175 2 = 178 := by decide +kernel
theorem wl_175_3 : wY0.ln 175 3 = 179 := by decide +kernel
theorem wl_175_4 : wY0.ln 175 4 = 180 := by decide +kernel
theorem wl_175_5 : wY0.ln 175 5 = 181 := by decide +kernel
theorem wl_175_6 : wY0.ln 175 6 = 182 := by decide +kernel
theorem wl_175_7 : wY0.ln 175 7 = 183 := by decide +kernel
theorem wl_175_8 : wY0.ln 175 8 = 184 := by decide +kernel
theorem wl_185_0 : wY0.ln 185 0 = 186 := by decide +kernel
theorem wl_185_1 : wY0.ln 185 1 = 187 := by decide +kernel
theorem wl_185_2 : wY0.ln 185 2 = 188 := by decide +kernel
theorem wl_185_3 : wY0.ln 185 3 = 189 := by decide +kernel
theorem wl_185_4 : wY0.ln 185 4 = 190 := by decide +kernel
theorem wl_185_5 : wY0.ln 185 5 = 191 := by decide +kernel
theorem wl_185_6 : wY0.ln 185 6 = 192 := by decide +kernel
theorem wl_185_7 : wY0.ln 185 7 = 193 := by decide +kernel
theorem wl_185_8 : wY0.ln 185 8 = 194 := by decide +kernel
theorem wl_185_9 : wY0.ln 185 9 = 195 := by decide +kernel
theorem wl_185_10 : wY0.ln 185 10 = 196 := by decide +kernel
theorem wl_185_11 : wY0.ln 185 11 = 197 := by decide +kernel
theorem wl_185_12 : wY0.ln 185 12 = 198 := by decide +kernel
theorem wl_185_13 : wY0.ln 185 13 = 199 := by decide +kernel
theorem wl_185_14 : wY0.ln 185 14 = 200 := by decide +kernel
theorem wl_185_15 : wY0.ln 185 15 = 201 := by decide +kernel
theorem wl_185_16 : wY0.ln 185 16 = 202 := by decide +kernel
theorem wl_205_0 : wY0.ln 205 0 = 206 := by decide +kernel
theorem wl_205_1 : wY0.ln 205 1 = 207 := by decide +kernel
theorem wl_215_0 : wY0.ln 215 0 = 72 := by decide +kernel
theorem wl_215_1 : wY0.ln 215 1 = 19 := by decide +kernel
theorem wl_215_2 : wY0.ln 215 2 = 158 := by decide +kernel
theorem wl_215_3 : wY0.ln 215 3 = 216 := by decide +kernel
theorem wl_215_5 : wY0.ln 215 5 = 219 := by decide +kernel
theorem wl_215_6 : wY0.ln 215 6 = 220 := by decide +kernel
theorem wl_215_7 : wY0.ln 215 7 = 221 := by decide +kernel
theorem wl_215_8 : wY0.ln 215 8 = 222 := by decide +kernel
theorem wl_215_9 : wY0.ln 215 9 = 223 := by decide +kernel
theorem wl_215_10 : wY0.ln 215 10 = 224 := by decide +kernel
theorem wl_215_11 : wY0.ln 215 11 = 225 := by decide +kernel
theorem wl_216_0 : wY0.ln 216 0 = 217 := by decide +kernel
theorem wl_216_1 : wY0.ln 216 1 = 218 := by decide +kernel
theorem wl_226_0 : wY0.ln 226 0 = 72 := by decide +kernel
theorem wl_226_1 : wY0.ln 226 1 = 19 := by decide +kernel
theorem wl_226_2 : wY0.ln 226 2 = 158 := by decide +kernel
theorem wl_226_3 : wY0.ln 226 3 = 227 := by decide +kernel
theorem wl_226_5 : wY0.ln 226 5 = 230 := by decide +kernel
theorem wl_226_6 : wY0.ln 226 6 = 231 := by decide +kernel
theorem wl_226_7 : wY0.ln 226 7 = 232 := by decide +kernel
theorem wl_226_8 : wY0.ln 226 8 = 233 := by decide +kernel
theorem wl_226_9 : wY0.ln 226 9 = 234 := by decide +kernel
theorem wl_226_10 : wY0.ln 226 10 = 235 := by decide +kernel
theorem wl_226_11 : wY0.ln 226 11 = 236 := by decide +kernel
theorem wl_227_0 : wY0.ln 227 0 = 228 := by decide +kernel
theorem wl_227_1 : wY0.ln 227 1 = 229 := by decide +kernel
theorem wl_237_1 : wY0.ln 237 1 = 238 := by decide +kernel
theorem wl_237_2 : wY0.ln 237 2 = 239 := by decide +kernel
theorem wl_237_11 : wY0.ln 237 11 = 240 := by decide +kernel
theorem wl_237_17 : wY0.ln 237 17 = 281 := by decide +kernel
theorem wl_237_18 : wY0.ln 237 18 = 282 := by decide +kernel
theorem wl_237_21 : wY0.ln 237 21 = 283 := by decide +kernel
theorem wl_237_22 : wY0.ln 237 22 = 284 := by decide +kernel
theorem wl_237_23 : wY0.ln 237 23 = 285 := by decide +kernel
theorem wl_237_24 : wY0.ln 237 24 = 286 := by decide +kernel
theorem wl_237_30 : wY0.ln 237 30 = 287 := by decide +kernel
theorem wl_237_31 : wY0.ln 237 31 = 289 := by decide +kernel
theorem wl_237_32 : wY0.ln 237 32 = 291 := by decide +kernel
theorem wl_237_35 : wY0.ln 237 35 = 293 := by decide +kernel
theorem wl_237_36 : wY0.ln 237 36 = 294 := by decide +kernel
theorem wl_237_37 : wY0.ln 237 37 = 295 := by decide +kernel
theorem wl_237_38 : wY0.ln 237 38 = 296 := by decide +kernel
theorem wl_237_39 : wY0.ln 237 39 = 297 := by decide +kernel
theorem wl_237_40 : wY0.ln 237 40 = 298 := by decide +kernel
theorem wl_237_41 : wY0.ln 237 41 = 299 := by decide +kernel
theorem wl_237_42 : wY0.ln 237 42 = 300 := by decide +kernel
theorem wl_237_44 : wY0.ln 237 44 = 301 := by decide +kernel
theorem wl_237_45 : wY0.ln 237 45 = 302 := by decide +kernel
theorem wl_237_46 : wY0.ln 237 46 = 303 := by decide +kernel
theorem wl_237_49 : wY0.ln 237 49 = 304 := by decide +kernel
theorem wl_237_50 : wY0.ln 237 50 = 305 := by decide +kernel
theorem wl_237_51 : wY0.ln 237 51 = 306 := by decide +kernel
theorem wl_237_52 : wY0.ln 237 52 = 307 := by decide +kernel
theorem wl_237_53 : wY0.ln 237 53 = 308 := by decide +kernel
theorem wl_237_54 : wY0.ln 237 54 = 309 := by decide +kernel
theorem wl_237_55 : wY0.ln 237 55 = 310 := by decide +kernel
theorem wl_237_56 : wY0.ln 237 56 = 311 := by decide +kernel
theorem wl_237_57 : wY0.ln 237 57 = 312 := by decide +kernel
theorem wl_237_58 : wY0.ln 237 58 = 313 := by decide +kernel
theorem wl_237_70 : wY0.ln 237 70 = 314 := by decide +kernel
theorem wl_237_71 : wY0.ln 237 71 = 315 := by decide +kernel
theorem wl_237_72 : wY0.ln 237 72 = 316 := by decide +kernel
theorem wl_237_73 : wY0.ln 237 73 = 317 := by decide +kernel
theorem wl_237_74 : wY0.ln 237 74 = 318 := by decide +kernel
theorem wl_237_75 : wY0.ln 237 75 = 319 := by decide +kernel
theorem wl_237_76 : wY0.ln 237 76 = 320 := by decide +kernel
theorem wl_237_77 : wY0.ln 237 77 = 321 := by decide +kernel
theorem wl_237_78 : wY0.ln 237 78 = 322 := by decide +kernel
theorem wl_237_79 : wY0.ln 237 79 = 323 := by decide +kernel
theorem wl_237_80 : wY0.ln 237 80 = 324 := by decide +kernel
theorem wl_237_83 : wY0.ln 237 83 = 325 := by decide +kernel
theorem wl_237_84 : wY0.ln 237 84 = 326 := by decide +kernel
theorem wl_237_85 : wY0.ln 237 85 = 327 := by decide +kernel
theorem wl_237_86 : wY0.ln 237 86 = 328 := by decide +kernel
theorem wl_237_88 : wY0.ln 237 88 = 329 := by decide +kernel
theorem wl_237_89 : wY0.ln 237 89 = 330 := by decide +kernel
theorem wl_237_90 : wY0.ln 237 90 = 331 := by decide +kernel
theorem wl_237_91 : wY0.ln 237 91 = 332 := by decide +kernel
theorem wl_237_92 : wY0.ln 237 92 = 333 := by decide +kernel
theorem wl_237_93 : wY0.ln 237 93 = 334 := by decide +kernel
theorem wl_237_95 : wY0.ln 237 95 = 335 := by decide +kernel
theorem wl_237_96 : wY0.ln 237 96 = 336 := by decide +kernel
theorem wl_237_97 : wY0.ln 237 97 = 337 := by decide +kernel
theorem wl_237_98 : wY0.ln 237 98 = 338 := by decide +kernel
theorem wl_237_99 : wY0.ln 237 99 = 339 := by decide +kernel
theorem wl_237_100 : wY0.ln 237 100 = 340 := by decide +kernel
theorem wl_237_101 : wY0.ln 237 101 = 341 := by decide +kernel
theorem wl_237_105 : wY0.ln 237 105 = 342 := by decide +kernel
theorem wl_237_107 : wY0.ln 237 107 = 343 := by decide +kernel
theorem wl_237_109 : wY0.ln 237 109 = 344 := by decide +kernel
theorem wl_237_112 : wY0.ln 237 112 = 345 := by decide +kernel
theorem wl_237_116 : wY0.ln 237 116 = 346 := by decide +kernel
theorem wl_237_117 : wY0.ln 237 117 = 347 := by decide +kernel
theorem wl_237_118 : wY0.ln 237 118 = 348 := by decide +kernel
theorem wl_237_119 : wY0.ln 237 119 = 349 := by decide +kernel
theorem wl_237_120 : wY0.ln 237 120 = 350 := by decide +kernel
theorem wl_237_121 : wY0.ln 237 121 = 351 := by decide +kernel
theorem wl_237_123 : wY0.ln 237 123 = 352 := by decide +kernel
theorem wl_237_125 : wY0.ln 237 125 = 353 := by decide +kernel
theorem wl_237_127 : wY0.ln 237 127 = 354 := by decide +kernel
theorem wl_237_129 : wY0.ln 237 129 = 355 := by decide +kernel
theorem wl_237_131 : wY0.ln 237 131 = 356 := by decide +kernel
theorem wl_237_132 : wY0.ln 237 132 = 357 := by decide +kernel
theorem wl_237_133 : wY0.ln 237 133 = 358 := by decide +kernel
theorem wl_237_134 : wY0.ln 237 134 = 359 := by decide +kernel
theorem wl_237_135 : wY0.ln 237 135 = 360 := by decide +kernel
theorem wl_237_136 : wY0.ln 237 136 = 361 := by decide +kernel
theorem wl_237_137 : wY0.ln 237 137 = 362 := by decide +kernel
theorem wl_237_138 : wY0.ln 237 138 = 363 := by decide +kernel
theorem wl_237_139 : wY0.ln 237 139 = 364 := by decide +kernel
theorem wl_237_140 : wY0.ln 237 140 = 365 := by decide +kernel
theorem wl_237_141 : wY0.ln 237 141 = 366 := by decide +kernel
theorem wl_237_142 : wY0.ln 237 142 = 367 := by decide +kernel
theorem wl_237_143 : wY0.ln 237 143 = 368 := by decide +kernel
theorem wl_237_144 : wY0.ln 237 144 = 369 := by decide +kernel
theorem wl_237_145 : wY0.ln 237 145 = 370 := by decide +kernel
theorem wl_237_146 : wY0.ln 237 146 = 371 := by decide +kernel
theorem wl_237_147 : wY0.ln 237 147 = 372 := by decide +kernel
theorem wl_237_148 : wY0.ln 237 148 = 373 := by decide +kernel
theorem wl_237_149 : wY0.ln 237 149 = 374 := by decide +kernel
theorem wl_237_150 : wY0.ln 237 150 = 375 := by decide +kernel
theorem wl_237_156 : wY0.ln 237 156 = 376 := by decide +kernel
theorem wl_237_157 : wY0.ln 237 157 = 377 := by decide +kernel
theorem wl_237_158 : wY0.ln 237 158 = 378 := by decide +kernel
theorem wl_237_159 : wY0.ln 237 159 = 379 := by decide +kernel
theorem wl_237_160 : wY0.ln 237 160 = 380 := by decide +kernel
theorem wl_237_161 : wY0.ln 237 161 = 381 := by decide +kernel
theorem wl_237_162 : wY0.ln 237 162 = 382 := by decide +kernel
theorem wl_237_163 : wY0.ln 237 163 = 383 := by decide +kernel
theorem wl_237_164 : wY0.ln 237 164 = 384 := by decide +kernel
theorem wl_237_165 : wY0.ln 237 165 = 385 := by decide +kernel
theorem wl_237_178 : wY0.ln 237 178 = 386 := by decide +kernel
theorem wl_237_179 : wY0.ln 237 179 = 387 := by decide +kernel
theorem wl_241_0 : wY0.ln 241 0 = 242 := by decide +kernel
theorem wl_241_2 : wY0.ln 241 2 = 243 := by decide +kernel
theorem wl_241_3 : wY0.ln 241 3 = 244 := by decide +kernel
theorem wl_241_4 : wY0.ln 241 4 = 245 := by decide +kernel
theorem wl_241_5 : wY0.ln 241 5 = 246 := by decide +kernel
theorem wl_241_6 : wY0.ln 241 6 = 247 := by decide +kernel
theorem wl_241_7 : wY0.ln 241 7 = 248 := by decide +kernel
theorem wl_241_8 : wY0.ln 241 8 = 249 := by decide +kernel
theorem wl_241_9 : wY0.ln 241 9 = 250 := by decide +kernel
theorem wl_241_10 : wY0.ln 241 10 = 251 := by decide +kernel
theorem wl_241_12 : wY0.ln 241 12 = 252 := by decide +kernel
theorem wl_241_13 : wY0.ln 241 13 = 253 := by decide +kernel
theorem wl_241_14 : wY0.ln 241 14 = 254 := by decide +kernel
theorem wl_241_15 : wY0.ln 241 15 = 255 := by decide +kernel
theorem wl_241_16 : wY0.ln 241 16 = 256 := by decide +kernel
theorem wl_241_17 : wY0.ln 241 17 = 257 := by decide +kernel
theorem wl_241_18 : wY0.ln 241 18 = 258 := by decide +kernel
theorem wl_241_19 : wY0.ln 241 19 = 259 := by decide +kernel
theorem wl_241_20 : wY0.ln 241 20 = 260 := by decide +kernel
theorem wl_261_0 : wY0.ln 261 0 = 262 := by decide +kernel
theorem wl_261_2 : wY0.ln 261 2 = 263 := by decide +kernel
theorem wl_261_3 : wY0.ln 261 3 = 264 := by decide +kernel
theorem wl_261_4 : wY0.ln 261 4 = 265 := by decide +kernel
theorem wl_261_5 : wY0.ln 261 5 = 266 := by decide +kernel
theorem wl_261_6 : wY0.ln 261 6 = 267 := by decide +kernel
theorem wl_261_7 : wY0.ln 261 7 = 268 := by decide +kernel
theorem wl_261_8 : wY0.ln 261 8 = 269 := by decide +kernel
theorem wl_261_9 : wY0.ln 261 9 = 270 := by decide +kernel
theorem wl_261_10 : wY0.ln 261 10 = 271 := by decide +kernel
theorem wl_261_12 : wY0.ln 261 12 = 272 := by decide +kernel
theorem wl_261_13 : wY0.ln 261 13 = 273 := by decide +kernel
theorem wl_261_14 : wY0.ln 261 14 = 274 := by decide +kernel
theorem wl_261_15 : wY0.ln 261 15 = 275 := by decide +kernel
theorem wl_261_16 : wY0.ln 261 16 = 276 := by decide +kernel
theorem wl_261_17 : wY0.ln 261 17 = 277 := by decide +kernel
theorem wl_261_18 : wY0.ln 261 18 = 278 := by decide +kernel
theorem wl_261_19 : wY0.ln 261 19 = 279 := by decide +kernel
theorem wl_261_20 : wY0.ln 261 20 = 280 := by decide +kernel
end W55
