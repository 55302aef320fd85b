/-! PART 9j: the class's HostReader: where it stands; wordHere, take, next. -/
section W9j
variable {xs : List (Nat × List Int32)} {M : Nat → Prop} {d : Nat} {A B C S Z : wS} {Q : wO → wS → Prop} {T : Int → Int} {n : Int}
def wz_n : List (Nat × Int) := [(11, 4), (12, 1024), (18, 60), (20, 9), (21, 400), (22, 400), (23, 400), (24, 400), (25, 400), (26, 400), (27, 400), (28, 400), (29, 400), (30, 16), (34, 12), (47, 10), (62, 60), (68, 2), (71, 1024), (83, 4), (84, 64), (86, 9), (87, 60), (88, 60), (89, 60), (90, 60), (91, 60), (92, 60), (93, 60), (94, 60), (95, 60), (96, 17), (97, 400), (98, 400), (99, 400), (100, 400), (101, 400), (102, 400), (103, 400), (104, 400), (105, 400), (106, 400), (107, 400), (108, 400), (109, 400), (110, 400), (111, 400), (112, 400), (113, 400), (114, 3600), (115, 60), (119, 30), (125, 128), (126, 10), (137, 2), (143, 5), (149, 1024), (150, 6), (172, 4), (173, 64), (175, 9), (176, 60), (177, 60), (178, 60), (179, 60), (180, 60), (181, 60), (182, 60), (183, 60), (184, 60), (185, 17), (186, 400), (187, 400), (188, 400), (189, 400), (190, 400), (191, 400), (192, 400), (193, 400), (194, 400), (195, 400), (196, 400), (197, 400), (198, 400), (199, 400), (200, 400), (201, 400), (202, 400), (203, 3600), (204, 60), (208, 30), (214, 128), (219, 200), (220, 200), (221, 200), (222, 200), (223, 200), (224, 200), (230, 200), (231, 200), (232, 200), (233, 200), (234, 200), (235, 200)]
/-- the class's arrays that don't grow are as long as they were made -/
def w_CL (S : wS) : Prop := ∀ q ∈ wz_n, S q.1 (-1) = q.2
theorem w_CL_up {S : wS} {j : Nat} {i x : Int} (h : w_CL S) (hi : 0 ≤ i) : w_CL (w_up S j i x) := fun q hq => (w_up_at (by omega)).trans (h q hq)
theorem wz_lt : ∀ q ∈ wz_n, q.1 < 237 ∧ (q.1 < 15 ∨ 17 < q.1) ∧ q.1 ≠ 1 := by decide
theorem cl_11 {S : wS} (h : w_CL S) : S 11 (-1) = 4 := h (11, 4) (List.mem_of_getElem? (i := 0) rfl)
theorem cl_12 {S : wS} (h : w_CL S) : S 12 (-1) = 1024 := h (12, 1024) (List.mem_of_getElem? (i := 1) rfl)
theorem cl_18 {S : wS} (h : w_CL S) : S 18 (-1) = 60 := h (18, 60) (List.mem_of_getElem? (i := 2) rfl)
theorem cl_20 {S : wS} (h : w_CL S) : S 20 (-1) = 9 := h (20, 9) (List.mem_of_getElem? (i := 3) rfl)
theorem cl_21 {S : wS} (h : w_CL S) : S 21 (-1) = 400 := h (21, 400) (List.mem_of_getElem? (i := 4) rfl)
theorem cl_22 {S : wS} (h : w_CL S) : S 22 (-1) = 400 := h (22, 400) (List.mem_of_getElem? (i := 5) rfl)
theorem cl_23 {S : wS} (h : w_CL S) : S 23 (-1) = 400 := h (23, 400) (List.mem_of_getElem? (i := 6) rfl)
theorem cl_24 {S : wS} (h : w_CL S) : S 24 (-1) = 400 := h (24, 400) (List.mem_of_getElem? (i := 7) rfl)
theorem cl_25 {S : wS} (h : w_CL S) : S 25 (-1) = 400 := h (25, 400) (List.mem_of_getElem? (i := 8) rfl)
theorem cl_26 {S : wS} (h : w_CL S) : S 26 (-1) = 400 := h (26, 400) (List.mem_of_getElem? (i := 9) rfl)
theorem cl_27 {S : wS} (h : w_CL S) : S 27 (-1) = 400 := h (27, 400) (List.mem_of_getElem? (i := 10) rfl)
theorem cl_28 {S : wS} (h : w_CL S) : S 28 (-1) = 400 := h (28, 400) (List.mem_of_getElem? (i := 11) rfl)
theorem cl_29 {S : wS} (h : w_CL S) : S 29 (-1) = 400 := h (29, 400) (List.mem_of_getElem? (i := 12) rfl)
theorem cl_30 {S : wS} (h : w_CL S) : S 30 (-1) = 16 := h (30, 16) (List.mem_of_getElem? (i := 13) rfl)
theorem cl_34 {S : wS} (h : w_CL S) : S 34 (-1) = 12 := h (34, 12) (List.mem_of_getElem? (i := 14) rfl)
theorem cl_47 {S : wS} (h : w_CL S) : S 47 (-1) = 10 := h (47, 10) (List.mem_of_getElem? (i := 15) rfl)
theorem cl_62 {S : wS} (h : w_CL S) : S 62 (-1) = 60 := h (62, 60) (List.mem_of_getElem? (i := 16) rfl)
theorem cl_68 {S : wS} (h : w_CL S) : S 68 (-1) = 2 := h (68, 2) (List.mem_of_getElem? (i := 17) rfl)
theorem cl_71 {S : wS} (h : w_CL S) : S 71 (-1) = 1024 := h (71, 1024) (List.mem_of_getElem? (i := 18) rfl)
theorem cl_83 {S : wS} (h : w_CL S) : S 83 (-1) = 4 := h (83, 4) (List.mem_of_getElem? (i := 19) rfl)
theorem cl_84 {S : wS} (h : w_CL S) : S 84 (-1) = 64 := h (84, 64) (List.mem_of_getElem? (i := 20) rfl)
theorem cl_86 {S : wS} (h : w_CL S) : S 86 (-1) = 9 := h (86, 9) (List.mem_of_getElem? (i := 21) rfl)
theorem cl_87 {S : wS} (h : w_CL S) : S 87 (-1) = 60 := h (87, 60) (List.mem_of_getElem? (i := 22) rfl)
theorem cl_88 {S : wS} (h : w_CL S) : S 88 (-1) = 60 := h (88, 60) (List.mem_of_getElem? (i := 23) rfl)
theorem cl_89 {S : wS} (h : w_CL S) : S 89 (-1) = 60 := h (89, 60) (List.mem_of_getElem? (i := 24) rfl)
theorem cl_90 {S : wS} (h : w_CL S) : S 90 (-1) = 60 := h (90, 60) (List.mem_of_getElem? (i := 25) rfl)
theorem cl_91 {S : wS} (h : w_CL S) : S 91 (-1) = 60 := h (91, 60) (List.mem_of_getElem? (i := 26) rfl)
theorem cl_92 {S : wS} (h : w_CL S) : S 92 (-1) = 60 := h (92, 60) (List.mem_of_getElem? (i := 27) rfl)
theorem cl_93 {S : wS} (h : w_CL S) : S 93 (-1) = 60 := h (93, 60) (List.mem_of_getElem? (i := 28) rfl)
theorem cl_94 {S : wS} (h : w_CL S) : S 94 (-1) = 60 := h (94, 60) (List.mem_of_getElem? (i := 29) rfl)
theorem cl_95 {S : wS} (h : w_CL S) : S 95 (-1) = 60 := h (95, 60) (List.mem_of_getElem? (i := 30) rfl)
theorem cl_96 {S : wS} (h : w_CL S) : S 96 (-1) = 17 := h (96, 17) (List.mem_of_getElem? (i := 31) rfl)
theorem cl_97 {S : wS} (h : w_CL S) : S 97 (-1) = 400 := h (97, 400) (List.mem_of_getElem? (i := 32) rfl)
theorem cl_98 {S : wS} (h : w_CL S) : S 98 (-1) = 400 := h (98, 400) (List.mem_of_getElem? (i := 33) rfl)
theorem cl_99 {S : wS} (h : w_CL S) : S 99 (-1) = 400 := h (99, 400) (List.mem_of_getElem? (i := 34) rfl)
theorem cl_100 {S : wS} (h : w_CL S) : S 100 (-1) = 400 := h (100, 400) (List.mem_of_getElem? (i := 35) rfl)
theorem cl_101 {S : wS} (h : w_CL S) : S 101 (-1) = 400 := h (101, 400) (List.mem_of_getElem? (i := 36) rfl)
theorem cl_102 {S : wS} (h : w_CL S) : S 102 (-1) = 400 := h (102, 400) (List.mem_of_getElem? (i := 37) rfl)
theorem cl_103 {S : wS} (h : w_CL S) : S 103 (-1) = 400 := h (103, 400) (List.mem_of_getElem? (i := 38) rfl)
theorem cl_104 {S : wS} (h : w_CL S) : S 104 (-1) = 400 := h (104, 400) (List.mem_of_getElem? (i := 39) rfl)
theorem cl_105 {S : wS} (h : w_CL S) : S 105 (-1) = 400 := h (105, 400) (List.mem_of_getElem? (i := 40) rfl)
theorem cl_106 {S : wS} (h : w_CL S) : S 106 (-1) = 400 := h (106, 400) (List.mem_of_getElem? (i := 41) rfl)
theorem cl_107 {S : wS} (h : w_CL S) : S 107 (-1) = 400 := h (107, 400) (List.mem_of_getElem? (i := 42) rfl)
theorem cl_108 {S : wS} (h : w_CL S) : S 108 (-1) = 400 := h (108, 400) (List.mem_of_getElem? (i := 43) rfl)
theorem cl_109 {S : wS} (h : w_CL S) : S 109 (-1) = 400 := h (109, 400) (List.mem_of_getElem? (i := 44) rfl)
theorem cl_110 {S : wS} (h : w_CL S) : S 110 (-1) = 400 := h (110, 400) (List.mem_of_getElem? (i := 45) rfl)
theorem cl_111 {S : wS} (h : w_CL S) : S 111 (-1) = 400 := h (111, 400) (List.mem_of_getElem? (i := 46) rfl)
theorem cl_112 {S : wS} (h : w_CL S) : S 112 (-1) = 400 := h (112, 400) (List.mem_of_getElem? (i := 47) rfl)
theorem cl_113 {S : wS} (h : w_CL S) : S 113 (-1) = 400 := h (113, 400) (List.mem_of_getElem? (i := 48) rfl)
theorem cl_114 {S : wS} (h : w_CL S) : S 114 (-1) = 3600 := h (114, 3600) (List.mem_of_getElem? (i := 49) rfl)
theorem cl_115 {S : wS} (h : w_CL S) : S 115 (-1) = 60 := h (115, 60) (List.mem_of_getElem? (i := 50) rfl)
theorem cl_119 {S : wS} (h : w_CL S) : S 119 (-1) = 30 := h (119, 30) (List.mem_of_getElem? (i := 51) rfl)
theorem cl_125 {S : wS} (h : w_CL S) : S 125 (-1) = 128 := h (125, 128) (List.mem_of_getElem? (i := 52) rfl)
theorem cl_126 {S : wS} (h : w_CL S) : S 126 (-1) = 10 := h (126, 10) (List.mem_of_getElem? (i := 53) rfl)
theorem cl_137 {S : wS} (h : w_CL S) : S 137 (-1) = 2 := h (137, 2) (List.mem_of_getElem? (i := 54) rfl)
theorem cl_143 {S : wS} (h : w_CL S) : S 143 (-1) = 5 := h (143, 5) (List.mem_of_getElem? (i := 55) rfl)
theorem cl_149 {S : wS} (h : w_CL S) : S 149 (-1) = 1024 := h (149, 1024) (List.mem_of_getElem? (i := 56) rfl)
theorem cl_150 {S : wS} (h : w_CL S) : S 150 (-1) = 6 := h (150, 6) (List.mem_of_getElem? (i := 57) rfl)
theorem cl_172 {S : wS} (h : w_CL S) : S 172 (-1) = 4 := h (172, 4) (List.mem_of_getElem? (i := 58) rfl)
theorem cl_173 {S : wS} (h : w_CL S) : S 173 (-1) = 64 := h (173, 64) (List.mem_of_getElem? (i := 59) rfl)
theorem cl_175 {S : wS} (h : w_CL S) : S 175 (-1) = 9 := h (175, 9) (List.mem_of_getElem? (i := 60) rfl)
theorem cl_176 {S : wS} (h : w_CL S) : S 176 (-1) = 60 := h (176, 60) (List.mem_of_getElem? (i := 61) rfl)
theorem cl_177 {S : wS} (h : w_CL S) : S 177 (-1) = 60 := h (177, 60) (List.mem_of_getElem? (i := 62) rfl)
theorem cl_178 {S : wS} (h : w_CL S) : S 178 (-1) = 60 := h (178, 60) (List.mem_of_getElem? (i := 63) rfl)
theorem cl_179 {S : wS} (h : w_CL S) : S 179 (-1) = 60 := h (179, 60) (List.mem_of_getElem? (i := 64) rfl)
theorem cl_180 {S : wS} (h : w_CL S) : S 180 (-1) = 60 := h (180, 60) (List.mem_of_getElem? (i := 65) rfl)
theorem cl_181 {S : wS} (h : w_CL S) : S 181 (-1) = 60 := h (181, 60) (List.mem_of_getElem? (i := 66) rfl)
theorem cl_182 {S : wS} (h : w_CL S) : S 182 (-1) = 60 := h (182, 60) (List.mem_of_getElem? (i := 67) rfl)
theorem cl_183 {S : wS} (h : w_CL S) : S 183 (-1) = 60 := h (183, 60) (List.mem_of_getElem? (i := 68) rfl)
theorem cl_184 {S : wS} (h : w_CL S) : S 184 (-1) = 60 := h (184, 60) (List.mem_of_getElem? (i := 69) rfl)
theorem cl_185 {S : wS} (h : w_CL S) : S 185 (-1) = 17 := h (185, 17) (List.mem_of_getElem? (i := 70) rfl)
theorem cl_186 {S : wS} (h : w_CL S) : S 186 (-1) = 400 := h (186, 400) (List.mem_of_getElem? (i := 71) rfl)
theorem cl_187 {S : wS} (h : w_CL S) : S 187 (-1) = 400 := h (187, 400) (List.mem_of_getElem? (i := 72) rfl)
theorem cl_188 {S : wS} (h : w_CL S) : S 188 (-1) = 400 := h (188, 400) (List.mem_of_getElem? (i := 73) rfl)
theorem cl_189 {S : wS} (h : w_CL S) : S 189 (-1) = 400 := h (189, 400) (List.mem_of_getElem? (i := 74) rfl)
theorem cl_190 {S : wS} (h : w_CL S) : S 190 (-1) = 400 := h (190, 400) (List.mem_of_getElem? (i := 75) rfl)
theorem cl_191 {S : wS} (h : w_CL S) : S 191 (-1) = 400 := h (191, 400) (List.mem_of_getElem? (i := 76) rfl)
theorem cl_192 {S : wS} (h : w_CL S) : S 192 (-1) = 400 := h (192, 400) (List.mem_of_getElem? (i := 77) rfl)
theorem cl_193 {S : wS} (h : w_CL S) : S 193 (-1) = 400 := h (193, 400) (List.mem_of_getElem? (i := 78) rfl)
theorem cl_194 {S : wS} (h : w_CL S) : S 194 (-1) = 400 := h (194, 400) (List.mem_of_getElem? (i := 79) rfl)
theorem cl_195 {S : wS} (h : w_CL S) : S 195 (-1) = 400 := h (195, 400) (List.mem_of_getElem? (i := 80) rfl)
theorem cl_196 {S : wS} (h : w_CL S) : S 196 (-1) = 400 := h (196, 400) (List.mem_of_getElem? (i := 81) rfl)
theorem cl_197 {S : wS} (h : w_CL S) : S 197 (-1) = 400 := h (197, 400) (List.mem_of_getElem? (i := 82) rfl)
theorem cl_198 {S : wS} (h : w_CL S) : S 198 (-1) = 400 := h (198, 400) (List.mem_of_getElem? (i := 83) rfl)
theorem cl_199 {S : wS} (h : w_CL S) : S 199 (-1) = 400 := h (199, 400) (List.mem_of_getElem? (i := 84) rfl)
theorem cl_200 {S : wS} (h : w_CL S) : S 200 (-1) = 400 := h (200, 400) (List.mem_of_getElem? (i := 85) rfl)
theorem cl_201 {S : wS} (h : w_CL S) : S 201 (-1) = 400 := h (201, 400) (List.mem_of_getElem? (i := 86) rfl)
theorem cl_202 {S : wS} (h : w_CL S) : S 202 (-1) = 400 := h (202, 400) (List.mem_of_getElem? (i := 87) rfl)
theorem cl_203 {S : wS} (h : w_CL S) : S 203 (-1) = 3600 := h (203, 3600) (List.mem_of_getElem? (i := 88) rfl)
theorem cl_204 {S : wS} (h : w_CL S) : S 204 (-1) = 60 := h (204, 60) (List.mem_of_getElem? (i := 89) rfl)
theorem cl_208 {S : wS} (h : w_CL S) : S 208 (-1) = 30 := h (208, 30) (List.mem_of_getElem? (i := 90) rfl)
theorem cl_214 {S : wS} (h : w_CL S) : S 214 (-1) = 128 := h (214, 128) (List.mem_of_getElem? (i := 91) rfl)
theorem cl_219 {S : wS} (h : w_CL S) : S 219 (-1) = 200 := h (219, 200) (List.mem_of_getElem? (i := 92) rfl)
theorem cl_220 {S : wS} (h : w_CL S) : S 220 (-1) = 200 := h (220, 200) (List.mem_of_getElem? (i := 93) rfl)
theorem cl_221 {S : wS} (h : w_CL S) : S 221 (-1) = 200 := h (221, 200) (List.mem_of_getElem? (i := 94) rfl)
theorem cl_222 {S : wS} (h : w_CL S) : S 222 (-1) = 200 := h (222, 200) (List.mem_of_getElem? (i := 95) rfl)
theorem cl_223 {S : wS} (h : w_CL S) : S 223 (-1) = 200 := h (223, 200) (List.mem_of_getElem? (i := 96) rfl)
theorem cl_224 {S : wS} (h : w_CL S) : S 224 (-1) = 200 := h (224, 200) (List.mem_of_getElem? (i := 97) rfl)
theorem cl_230 {S : wS} (h : w_CL S) : S 230 (-1) = 200 := h (230, 200) (List.mem_of_getElem? (i := 98) rfl)
theorem cl_231 {S : wS} (h : w_CL S) : S 231 (-1) = 200 := h (231, 200) (List.mem_of_getElem? (i := 99) rfl)
theorem cl_232 {S : wS} (h : w_CL S) : S 232 (-1) = 200 := h (232, 200) (List.mem_of_getElem? (i := 100) rfl)
theorem cl_233 {S : wS} (h : w_CL S) : S 233 (-1) = 200 := h (233, 200) (List.mem_of_getElem? (i := 101) rfl)
theorem cl_234 {S : wS} (h : w_CL S) : S 234 (-1) = 200 := h (234, 200) (List.mem_of_getElem? (i := 102) rfl)
theorem cl_235 {S : wS} (h : w_CL S) : S 235 (-1) = 200 := h (235, 200) (List.mem_of_getElem? (i := 103) rfl)
/-- the tokens of a host's text stand in their rows -/
def cx_T (w : Nat) (T : Int → Int) (n : Int) (c : Nat) (Z : wS) : Prop := Z 14 3 = (c : Int) + 1 ∧ (∀ k : Nat, k < c → tk_ok w T n Z k ∧ (lx_tk T n 1 (tp T n 1 k) = 5 → k + 1 = c)) ∧ (Z 16 (c : Int) = n ∧ Z 15 (c : Int) = 0) ∧ (tp T n 1 c = n ∨ ∃ k : Nat, k + 1 = c ∧ lx_tk T n 1 (tp T n 1 k) = 5) ∧ (c : Int) ≤ n ∧ n ≤ 65536 ∧ rd_L Z
/-- the reader stands at the i-th -/
def cx_P (T : Int → Int) (n : Int) (c i : Nat) (Z : wS) : Prop := Z 14 4 = (i : Int) ∧ i ≤ c ∧ ∀ k : Nat, k < i → lx_tk T n 1 (tp T n 1 k) ≠ 5
/-- the class's kind of a token, the end too -/
def kg (T : Int → Int) (n p : Int) : Int := if n ≤ p then 0 else kh T n p
theorem sk_rg (c : Int) : 10 ≤ sk c ∧ sk c ≤ 35 := by
  unfold sk
  repeat' split
  all_goals omega
theorem kh_rg (T : Int → Int) (n p : Int) : 1 ≤ kh T n p ∧ kh T n p ≤ 35 := by
  have := sk_rg (lx_si T n 1 p)
  unfold kh
  repeat' split
  all_goals omega
theorem kg_rg (T : Int → Int) (n p : Int) : 0 ≤ kg T n p ∧ kg T n p ≤ 35 := by
  have := kh_rg T n p
  unfold kg
  split <;> omega
theorem tk_0 {T : Int → Int} {n h p : Int} (hp : n ≤ p) : lx_tk T n h p = 0 := if_pos hp
theorem tk_n0 {T : Int → Int} {n h p : Int} (hp : p < n) : lx_tk T n h p = 1 ∨ lx_tk T n h p = 2 ∨ lx_tk T n h p = 3 ∨ lx_tk T n h p = 4 ∨ lx_tk T n h p = 5 := by
  unfold lx_tk
  rw [if_neg (by omega)]
  split
  · split
    · exact Or.inl rfl
    · omega
  · split
    · split
      · exact Or.inr (Or.inl rfl)
      · omega
    · split
      · have := lx_tx_tk T n ((n - p).toNat + 1) (p + 1) []
        omega
      · have := lx_sf_tk (T p) (lx_at T n (p + 1)) (lx_at T n (p + 2)) h
        omega
/-- names are the class's kind 5 -/
theorem kg_5 (T : Int → Int) (n p : Int) : kg T n p = 5 ↔ lx_tk T n 1 p = 1 := by
  have hs := sk_rg (lx_si T n 1 p)
  by_cases hp : n ≤ p
  · rw [show kg T n p = 0 from if_pos hp, tk_0 hp]; omega
  · have h := tk_n0 (T := T) (n := n) (h := 1) (p := p) (by omega)
    rw [show kg T n p = kh T n p from if_neg hp]
    unfold kh
    repeat' split
    all_goals omega
theorem kg_1 (T : Int → Int) (n p : Int) : kg T n p = 1 ↔ lx_tk T n 1 p = 5 := by
  have hs := sk_rg (lx_si T n 1 p)
  by_cases hp : n ≤ p
  · rw [show kg T n p = 0 from if_pos hp, tk_0 hp]; omega
  · have h := tk_n0 (T := T) (n := n) (h := 1) (p := p) (by omega)
    rw [show kg T n p = kh T n p from if_neg hp]
    unfold kh
    repeat' split
    all_goals omega
theorem kg_0 (T : Int → Int) (n p : Int) : kg T n p = 0 ↔ n ≤ p := by
  have := kh_rg T n p
  unfold kg
  split <;> omega
theorem cx_at {w c i : Nat} (hT : cx_T w T n c S) (hP : cx_P T n c i S) : S 16 (i : Int) = tp T n 1 i ∧ S 15 (i : Int) = kg T n (tp T n 1 i) ∧ 0 ≤ tp T n 1 i ∧ tp T n 1 i ≤ n := by
  by_cases hic : i < c
  · obtain ⟨a1, a2, a3, a4, -⟩ := (hT.2.1 i hic).1
    exact ⟨a3, by rw [a4]; exact (if_neg (by omega)).symm, a2, by omega⟩
  · have hi : i = c := by have := hP.2.1; omega
    subst hi
    rcases hT.2.2.2.1 with h | ⟨k, k1, k2⟩
    · have := hT.2.2.2.2.1
      exact ⟨hT.2.2.1.1.trans h.symm, hT.2.2.1.2.trans (by rw [h]; exact (if_pos (Int.le_refl _)).symm), by omega, by omega⟩
    · exact absurd k2 (hP.2.2 k (by omega))
theorem cx_lt {w c i : Nat} (hT : cx_T w T n c S) (hP : cx_P T n c i S) (h : kg T n (tp T n 1 i) ≠ 0) : i < c := by
  by_cases hic : i < c
  · exact hic
  · exfalso
    have hi : i = c := by have := hP.2.1; omega
    subst hi
    rcases hT.2.2.2.1 with h' | ⟨k, k1, k2⟩
    · exact h ((kg_0 T n _).2 (by omega))
    · exact absurd k2 (hP.2.2 k (by omega))
/-- the states are the same but for where the reader stands, and the reader of hosts -/
theorem cx_T_ag {w c : Nat} (hw : 18 < w) (hT : cx_T w T n c S) (h1 : Z 14 3 = S 14 3) (h2 : ∀ j : Nat, (j = 15 ∨ j = 16 ∨ j = 17 ∨ (w ≤ j ∧ j ≤ w + 3)) → Z j = S j) : cx_T w T n c Z := by
  obtain ⟨a1, a2, a3, a4, a5, a6, a7⟩ := hT
  have e15 := h2 15 (by omega)
  have e16 := h2 16 (by omega)
  have e17 := h2 17 (by omega)
  have ew := h2 w (by omega)
  have ew1 := h2 (w + 1) (by omega)
  have ew2 := h2 (w + 2) (by omega)
  have ew3 := h2 (w + 3) (by omega)
  refine ⟨h1.trans a1, fun k hk => ⟨?_, (a2 k hk).2⟩, ?_, a4, a5, a6, ?_⟩
  · have := (a2 k hk).1
    unfold tk_ok
    rw [e15, e16, e17, ew, ew1, ew2, ew3]
    exact this
  · rw [e15, e16]; exact a3
  · unfold rd_L
    rw [e15, e16, e17, h1]; exact a7
theorem cx_next {w c i : Nat} (hT : cx_T w T n c S) (hP : cx_P T n c i S) (h0 : kg T n (tp T n 1 i) ≠ 0) (h1 : kg T n (tp T n 1 i) ≠ 1) (hz : Z 14 4 = ((i + 1 : Nat) : Int)) : cx_P T n c (i + 1) Z := by
  have := cx_lt hT hP h0
  refine ⟨hz, by omega, fun k hk => ?_⟩
  by_cases hki : k = i
  · subst hki
    exact fun q => h1 ((kg_1 T n _).2 q)
  · exact hP.2.2 k (by omega)
theorem cx_T_up {w c j : Nat} {i x : Int} (hT : cx_T w T n c S) (h1 : j ≠ 14 ∨ i ≠ 3) (h2 : j < 15 ∨ 17 < j) (h3 : j < w ∨ w + 3 < j) (hw : 18 < w) : cx_T w T n c (w_up S j i x) := cx_T_ag hw hT (w_up_no (by omega)) (fun k hk => w_up_row (by omega))
theorem cx_P_up {c k j : Nat} {i x : Int} (hP : cx_P T n c k S) (h1 : j ≠ 14 ∨ i ≠ 4) : cx_P T n c k (w_up S j i x) := ⟨(w_up_no (by omega)).trans hP.1, hP.2⟩
theorem cx_nt {w c i : Nat} (hT : cx_T w T n c S) (hP : cx_P T n c i S) (h : kg T n (tp T n 1 i) = 5) : lx_tk T n 1 (tp T n 1 i) = 1 ∧ (0 ≤ S 17 (i : Int) ∧ S 17 (i : Int) < S w 7) ∧ wq (S (w + 1)) (S (w + 2)) (S (w + 3)) T (tp T n 1 i) (lx_en T n 1 (tp T n 1 i) - tp T n 1 i) (S 17 (i : Int)) := by
  have h1 := (kg_5 T n _).1 h
  exact ⟨h1, (hT.2.1 i (cx_lt hT hP (by omega))).1.2.2.2.2 h1⟩
theorem nx_c {w : Nat} {c i : Nat} {p : Int} (hT : cx_T w T n c S) (hP : cx_P T n c i S) (hp : tp T n 1 i = p) (hI : gI S) (h0 : kg T n p ≠ 0) : wJ (pe_GA xs) wY0 M d t_XR_next ((pe_at t_XR_next.bl 0).getD (0, [])).2 [(0, (2, 14))] [] S (fun o Z => o = .inl none ∧ w_up S 14 4 ((i + 1 : Nat) : Int) = Z) := by
  have hA := cx_at hT hP
  rw [hp] at hA
  obtain ⟨h16, h15, hp0, hp1⟩ := hA
  have h4 : S 14 4 = (i : Int) := hP.1
  have h3 : S 14 3 = (c : Int) + 1 := hT.1
  have hic : i ≤ c := hP.2.1
  have hn6 : n ≤ 65536 := hT.2.2.2.2.2.1
  have hcn : (c : Int) ≤ n := hT.2.2.2.2.1
  have hR : rd_L S := hT.2.2.2.2.2.2
  have hl15 : S 14 3 ≤ S 15 (-1) := hR.1.2
  have hl16 : S 16 (-1) = S 15 (-1) := hR.2.1
  have hl17 : S 17 (-1) = S 15 (-1) := hR.2.2.1
  have hkr := kg_rg T n p
  have hlt : i < c := cx_lt hT hP (by rw [hp]; exact h0)
  refine wa_aload_n (n := 0) rfl ?_
  refine wb_gfi 14 rfl (wy_pr rfl) wt_14 wf_6_4 (v := (i : Int)) (h4) (fun r1 => ?_)
  refine wa_iconst ?_
  refine wa_iadd ?_
  refine wa_aload_n (n := 0) rfl ?_
  refine wb_gfi 14 rfl (wy_pr rfl) wt_14 wf_6_3 (v := ((c : Int) + 1)) (h3) (fun r2 => ?_)
  refine wa_icmpge (w_rg0 (by omega) (by omega)) (w_rg0 (by omega) (by omega)) ⟨_, rfl⟩ (fun c3 => ?_) (fun c3 => ?_)
  · skip
    refine wa_return rfl ?_
    exact absurd hlt (by omega)
  · skip
    refine wa_aload_n (n := 0) rfl ?_
    refine wa_dup (by decide) ?_
    refine wb_gfi 14 rfl (wy_pr rfl) wt_14 wf_6_4 (v := (i : Int)) (h4) (fun r4 => ?_)
    refine wa_iconst ?_
    refine wa_iadd ?_
    refine wb_pfi 14 rfl (wy_pr rfl) wt_14 wf_6_4 (n := 4) rfl ⟨(by omega), (by omega)⟩ ?_
    refine wa_fall ⟨_, rfl⟩ ?_
    refine wa_return rfl ?_
    exact ⟨rfl, rfl⟩
theorem wh_c {w : Nat} {c i : Nat} {p : Int} (hT : cx_T w T n c S) (hP : cx_P T n c i S) (hp : tp T n 1 i = p) (hI : gI S) : wJ (pe_GA xs) wY0 M (d + 7) t_XT_wordHere ((pe_at t_XT_wordHere.bl 0).getD (0, [])).2 [(0, (2, 61))] [] S (fun o Z => (kg T n p = 5 ∧ o = .inl (some (0, S 17 (i : Int))) ∧ S = Z) ∨ (kg T n p ≠ 5 ∧ ∃ v : Nat, o = .inr v ∧ rz_ag S Z v (1 + 16 * p))) := by
  have hA := cx_at hT hP
  rw [hp] at hA
  obtain ⟨h16, h15, hp0, hp1⟩ := hA
  have h4 : S 14 4 = (i : Int) := hP.1
  have h3 : S 14 3 = (c : Int) + 1 := hT.1
  have hic : i ≤ c := hP.2.1
  have hn6 : n ≤ 65536 := hT.2.2.2.2.2.1
  have hcn : (c : Int) ≤ n := hT.2.2.2.2.1
  have hR : rd_L S := hT.2.2.2.2.2.2
  have hl15 : S 14 3 ≤ S 15 (-1) := hR.1.2
  have hl16 : S 16 (-1) = S 15 (-1) := hR.2.1
  have hl17 : S 17 (-1) = S 15 (-1) := hR.2.2.1
  have hkr := kg_rg T n p
  refine wa_aload_n (n := 0) rfl ?_
  refine wb_gf4 61 rfl (wy_pr rfl) wt_61 wf_4_0 (v := 14) wl_61_0 ?_
  refine wa_cv 14 rfl (wy_pr rfl) wt_14 (M2 := fun _ => False) rfl at_XR_kind ⟨_, rfl⟩ rfl rfl ⟨(Or.inr ⟨wy_pr rfl, fun q => q⟩), trivial⟩ trivial (fun _ _ q => False.elim q) ?_ (fun _ _ _ q => q)
  refine wa_aload_n (n := 0) rfl ?_
  refine wb_gf4 14 rfl (wy_pr rfl) wt_14 wf_6_0 (v := 15) wl_14_0 ?_
  refine wa_aload_n (n := 0) rfl ?_
  refine wb_gfi 14 rfl (wy_pr rfl) wt_14 wf_6_4 (v := (i : Int)) (h4) (fun r1 => ?_)
  refine wb_bald 15 rfl (wy_pr rfl) wt_15 (n := (S 15 (-1))) rfl (by omega) (by omega) (v := (kg T n p)) (h15) (fun r2 => ?_)
  refine wa_ireturn rfl ?_
  show wJ _ _ _ _ _ _ _ _ _ _
  refine wa_iconst ?_
  refine wa_icmpeq (w_rg0 (by omega) (by omega)) (w_rg0 (by omega) (by omega)) ⟨_, rfl⟩ (fun c3 => ?_) (fun c3 => ?_)
  · skip
    refine wa_aload_n (n := 0) rfl ?_
    refine wb_gf4 61 rfl (wy_pr rfl) wt_61 wf_4_0 (v := 14) wl_61_0 ?_
    refine wa_cv 14 rfl (wy_pr rfl) wt_14 (M2 := fun _ => False) rfl at_XR_value ⟨_, rfl⟩ rfl rfl ⟨(Or.inr ⟨wy_pr rfl, fun q => q⟩), trivial⟩ trivial (fun _ _ q => False.elim q) ?_ (fun _ _ _ q => q)
    refine wa_aload_n (n := 0) rfl ?_
    refine wb_gf4 14 rfl (wy_pr rfl) wt_14 wf_6_2 (v := 17) wl_14_2 ?_
    refine wa_aload_n (n := 0) rfl ?_
    refine wb_gfi 14 rfl (wy_pr rfl) wt_14 wf_6_4 (v := (i : Int)) (h4) (fun r4 => ?_)
    refine wb_iald 17 rfl (wy_pr rfl) wt_17 (n := (S 17 (-1))) rfl (by omega) (by omega) (v := (S 17 (i : Int))) rfl (fun r5 => ?_)
    refine wa_ireturn rfl ?_
    show wJ _ _ _ _ _ _ _ _ _ _
    refine wa_ireturn rfl ?_
    exact Or.inl ⟨by omega, rfl, rfl⟩
  · skip
    refine wa_aload_n (n := 0) rfl ?_
    refine wa_iconst ?_
    refine wa_cv 61 rfl (wy_pr rfl) wt_61 (M2 := fun _ => False) rfl at_XT_refuse ⟨_, rfl⟩ rfl rfl ⟨(Or.inr ⟨wy_pr rfl, fun q => q⟩), trivial⟩ trivial (fun _ _ q => False.elim q) (rf_c (S := S) (k := 1) (p := p) (i := (i : Int)) hI h4 h16 ⟨by omega, by omega⟩ ⟨by omega, by omega⟩ ⟨by omega, by omega⟩) (fun oq7 Sq7 hp8 q7 => ?_)
    rcases q7 with ⟨v, rfl, rz6⟩
    have hrz := rz6
    refine ⟨rfl, ?_⟩
    exact Or.inr ⟨by omega, v, rfl, hrz⟩
theorem ta_c {w : Nat} {c i : Nat} {p : Int} (hT : cx_T w T n c S) (hP : cx_P T n c i S) (hp : tp T n 1 i = p) (hI : gI S) {k : Int} (hk : 2 ≤ k ∧ k ≤ 127) : wJ (pe_GA xs) wY0 M (d + 7) t_XT_take ((pe_at t_XT_take.bl 0).getD (0, [])).2 [(0, (2, 61)), (1, (0, k))] [] S (fun o Z => (kg T n p = k ∧ o = .inl none ∧ w_up S 14 4 ((i + 1 : Nat) : Int) = Z) ∨ (kg T n p ≠ k ∧ ∃ v : Nat, o = .inr v ∧ rz_ag S Z v (1 + 16 * p))) := by
  have hA := cx_at hT hP
  rw [hp] at hA
  obtain ⟨h16, h15, hp0, hp1⟩ := hA
  have h4 : S 14 4 = (i : Int) := hP.1
  have h3 : S 14 3 = (c : Int) + 1 := hT.1
  have hic : i ≤ c := hP.2.1
  have hn6 : n ≤ 65536 := hT.2.2.2.2.2.1
  have hcn : (c : Int) ≤ n := hT.2.2.2.2.1
  have hR : rd_L S := hT.2.2.2.2.2.2
  have hl15 : S 14 3 ≤ S 15 (-1) := hR.1.2
  have hl16 : S 16 (-1) = S 15 (-1) := hR.2.1
  have hl17 : S 17 (-1) = S 15 (-1) := hR.2.2.1
  have hkr := kg_rg T n p
  refine wa_aload_n (n := 0) rfl ?_
  refine wb_gf4 61 rfl (wy_pr rfl) wt_61 wf_4_0 (v := 14) wl_61_0 ?_
  refine wa_cv 14 rfl (wy_pr rfl) wt_14 (M2 := fun _ => False) rfl at_XR_kind ⟨_, rfl⟩ rfl rfl ⟨(Or.inr ⟨wy_pr rfl, fun q => q⟩), trivial, trivial⟩ trivial (fun _ _ q => False.elim q) ?_ (fun _ _ _ q => q)
  refine wa_aload_n (n := 0) rfl ?_
  refine wb_gf4 14 rfl (wy_pr rfl) wt_14 wf_6_0 (v := 15) wl_14_0 ?_
  refine wa_aload_n (n := 0) rfl ?_
  refine wb_gfi 14 rfl (wy_pr rfl) wt_14 wf_6_4 (v := (i : Int)) (h4) (fun r1 => ?_)
  refine wb_bald 15 rfl (wy_pr rfl) wt_15 (n := (S 15 (-1))) rfl (by omega) (by omega) (v := (kg T n p)) (h15) (fun r2 => ?_)
  refine wa_ireturn rfl ?_
  show wJ _ _ _ _ _ _ _ _ _ _
  refine wa_iload_n (n := 1) rfl ?_
  refine wa_icmpeq (w_rg0 (by omega) (by omega)) (w_rg0 (by omega) (by omega)) ⟨_, rfl⟩ (fun c3 => ?_) (fun c3 => ?_)
  · skip
    refine wa_aload_n (n := 0) rfl ?_
    refine wb_gf4 61 rfl (wy_pr rfl) wt_61 wf_4_0 (v := 14) wl_61_0 ?_
    refine wa_cv 14 rfl (wy_pr rfl) wt_14 (M2 := fun _ => False) rfl at_XR_next ⟨_, rfl⟩ rfl rfl ⟨(Or.inr ⟨wy_pr rfl, fun q => q⟩), trivial, trivial⟩ trivial (fun _ _ q => False.elim q) (nx_c hT hP hp hI (by omega)) (fun oq4 Sq4 hp5 q4 => ?_)
    rcases q4 with ⟨rfl, rfl⟩
    show wJ _ _ _ _ _ _ _ _ _ _
    refine wa_return rfl ?_
    exact Or.inl ⟨by omega, rfl, rfl⟩
  · skip
    refine wa_aload_n (n := 0) rfl ?_
    refine wa_iconst ?_
    refine wa_cv 61 rfl (wy_pr rfl) wt_61 (M2 := fun _ => False) rfl at_XT_refuse ⟨_, rfl⟩ rfl rfl ⟨(Or.inr ⟨wy_pr rfl, fun q => q⟩), trivial, trivial⟩ trivial (fun _ _ q => False.elim q) (rf_c (S := S) (k := 1) (p := p) (i := (i : Int)) hI h4 h16 ⟨by omega, by omega⟩ ⟨by omega, by omega⟩ ⟨by omega, by omega⟩) (fun oq7 Sq7 hp8 q7 => ?_)
    rcases q7 with ⟨v, rfl, rz6⟩
    have hrz := rz6
    refine ⟨rfl, ?_⟩
    exact Or.inr ⟨by omega, v, rfl, hrz⟩
end W9j
