/-! PART 70: outer texts; the reference's faults, signs of tokens, words. -/
section W70
variable {xs : List (Nat × List Int32)} {M : Nat → Prop} {d : Nat} {S : wS} {Q : wO → wS → Prop}
/-- "var fun if else while return throw try catch new this null true false print make proto turn drop has kind host size push pop sub bool int long text object list class" -/
def tx_0 : List Int32 := [118, 97, 114, 32, 102, 117, 110, 32, 105, 102, 32, 101, 108, 115, 101, 32, 119, 104, 105, 108, 101, 32, 114, 101, 116, 117, 114, 110, 32, 116, 104, 114, 111, 119, 32, 116, 114, 121, 32, 99, 97, 116, 99, 104, 32, 110, 101, 119, 32, 116, 104, 105, 115, 32, 110, 117, 108, 108, 32, 116, 114, 117, 101, 32, 102, 97, 108, 115, 101, 32, 112, 114, 105, 110, 116, 32, 109, 97, 107, 101, 32, 112, 114, 111, 116, 111, 32, 116, 117, 114, 110, 32, 100, 114, 111, 112, 32, 104, 97, 115, 32, 107, 105, 110, 100, 32, 104, 111, 115, 116, 32, 115, 105, 122, 101, 32, 112, 117, 115, 104, 32, 112, 111, 112, 32, 115, 117, 98, 32, 98, 111, 111, 108, 32, 105, 110, 116, 32, 108, 111, 110, 103, 32, 116, 101, 120, 116, 32, 111, 98, 106, 101, 99, 116, 32, 108, 105, 115, 116, 32, 99, 108, 97, 115, 115]
/-- "void int long bool Int Long Bool Text Any class interface static new" -/
def tx_2 : List Int32 := [118, 111, 105, 100, 32, 105, 110, 116, 32, 108, 111, 110, 103, 32, 98, 111, 111, 108, 32, 73, 110, 116, 32, 76, 111, 110, 103, 32, 66, 111, 111, 108, 32, 84, 101, 120, 116, 32, 65, 110, 121, 32, 99, 108, 97, 115, 115, 32, 105, 110, 116, 101, 114, 102, 97, 99, 101, 32, 115, 116, 97, 116, 105, 99, 32, 110, 101, 119]
/-- "class" -/
def tx_17 : List Int32 := [99, 108, 97, 115, 115]
/-- "interface" -/
def tx_19 : List Int32 := [105, 110, 116, 101, 114, 102, 97, 99, 101]
/-- " void int long bool Int Long Bool Text Any class interface static new " -/
def tx_21 : List Int32 := [32, 118, 111, 105, 100, 32, 105, 110, 116, 32, 108, 111, 110, 103, 32, 98, 111, 111, 108, 32, 73, 110, 116, 32, 76, 111, 110, 103, 32, 66, 111, 111, 108, 32, 84, 101, 120, 116, 32, 65, 110, 121, 32, 99, 108, 97, 115, 115, 32, 105, 110, 116, 101, 114, 102, 97, 99, 101, 32, 115, 116, 97, 116, 105, 99, 32, 110, 101, 119, 32]
/-- "static" -/
def tx_23 : List Int32 := [115, 116, 97, 116, 105, 99]
/-- "new" -/
def tx_25 : List Int32 := [110, 101, 119]
/-- " void int long bool Int Long Bool Text Any " -/
def tx_27 : List Int32 := [32, 118, 111, 105, 100, 32, 105, 110, 116, 32, 108, 111, 110, 103, 32, 98, 111, 111, 108, 32, 73, 110, 116, 32, 76, 111, 110, 103, 32, 66, 111, 111, 108, 32, 84, 101, 120, 116, 32, 65, 110, 121, 32]
/-- "else" -/
def tx_29 : List Int32 := [101, 108, 115, 101]
/-- "catch" -/
def tx_31 : List Int32 := [99, 97, 116, 99, 104]
/-- "var" -/
def tx_33 : List Int32 := [118, 97, 114]
/-- "fun" -/
def tx_35 : List Int32 := [102, 117, 110]
/-- "if" -/
def tx_37 : List Int32 := [105, 102]
/-- "while" -/
def tx_39 : List Int32 := [119, 104, 105, 108, 101]
/-- "return" -/
def tx_41 : List Int32 := [114, 101, 116, 117, 114, 110]
/-- "throw" -/
def tx_43 : List Int32 := [116, 104, 114, 111, 119]
/-- "try" -/
def tx_45 : List Int32 := [116, 114, 121]
/-- " var if else while return throw try catch " -/
def tx_47 : List Int32 := [32, 118, 97, 114, 32, 105, 102, 32, 101, 108, 115, 101, 32, 119, 104, 105, 108, 101, 32, 114, 101, 116, 117, 114, 110, 32, 116, 104, 114, 111, 119, 32, 116, 114, 121, 32, 99, 97, 116, 99, 104, 32]
/-- "(){}[],;.:=<>+-*/%!" -/
def tx_49 : List Int32 := [40, 41, 123, 125, 91, 93, 44, 59, 46, 58, 61, 60, 62, 43, 45, 42, 47, 37, 33]
/-- "set" -/
def tx_51 : List Int32 := [115, 101, 116]
/-- "" -/
def tx_53 : List Int32 := []
/-- "size" -/
def tx_57 : List Int32 := [115, 105, 122, 101]
/-- "push" -/
def tx_59 : List Int32 := [112, 117, 115, 104]
/-- "pop" -/
def tx_61 : List Int32 := [112, 111, 112]
/-- "sub" -/
def tx_63 : List Int32 := [115, 117, 98]
/-- "null" -/
def tx_65 : List Int32 := [110, 117, 108, 108]
/-- "bool" -/
def tx_67 : List Int32 := [98, 111, 111, 108]
/-- "int" -/
def tx_69 : List Int32 := [105, 110, 116]
/-- "long" -/
def tx_71 : List Int32 := [108, 111, 110, 103]
/-- "text" -/
def tx_73 : List Int32 := [116, 101, 120, 116]
/-- "object" -/
def tx_75 : List Int32 := [111, 98, 106, 101, 99, 116]
/-- "list" -/
def tx_77 : List Int32 := [108, 105, 115, 116]
/-- "host" -/
def tx_79 : List Int32 := [104, 111, 115, 116]
/-- "get" -/
def tx_81 : List Int32 := [103, 101, 116]
/-- "is" -/
def tx_83 : List Int32 := [105, 115]
/-- " var fun if else while return throw try catch new this null true false print make proto turn drop has kind host " -/
def tx_85 : List Int32 := [32, 118, 97, 114, 32, 102, 117, 110, 32, 105, 102, 32, 101, 108, 115, 101, 32, 119, 104, 105, 108, 101, 32, 114, 101, 116, 117, 114, 110, 32, 116, 104, 114, 111, 119, 32, 116, 114, 121, 32, 99, 97, 116, 99, 104, 32, 110, 101, 119, 32, 116, 104, 105, 115, 32, 110, 117, 108, 108, 32, 116, 114, 117, 101, 32, 102, 97, 108, 115, 101, 32, 112, 114, 105, 110, 116, 32, 109, 97, 107, 101, 32, 112, 114, 111, 116, 111, 32, 116, 117, 114, 110, 32, 100, 114, 111, 112, 32, 104, 97, 115, 32, 107, 105, 110, 100, 32, 104, 111, 115, 116, 32]
/-- "false" -/
def tx_87 : List Int32 := [102, 97, 108, 115, 101]
/-- "true" -/
def tx_89 : List Int32 := [116, 114, 117, 101]
/-- "{}" -/
def tx_91 : List Int32 := [123, 125]
/-- "[]" -/
def tx_93 : List Int32 := [91, 93]
/-- "@" -/
def tx_95 : List Int32 := [64]
/-- "-" -/
def tx_99 : List Int32 := [45]
/-- "this" -/
def tx_103 : List Int32 := [116, 104, 105, 115]
/-- " print make proto turn drop has kind host " -/
def tx_105 : List Int32 := [32, 112, 114, 105, 110, 116, 32, 109, 97, 107, 101, 32, 112, 114, 111, 116, 111, 32, 116, 117, 114, 110, 32, 100, 114, 111, 112, 32, 104, 97, 115, 32, 107, 105, 110, 100, 32, 104, 111, 115, 116, 32]
def wx_t : List (Nat × Nat × List Int32) := [(0, 0, tx_0), (2, 0, tx_2), (17, 0, tx_17), (19, 0, tx_19), (21, 0, tx_21), (23, 0, tx_23), (25, 0, tx_25), (27, 0, tx_27), (29, 0, tx_29), (31, 0, tx_31), (33, 0, tx_33), (35, 0, tx_35), (37, 0, tx_37), (39, 0, tx_39), (41, 0, tx_41), (43, 0, tx_43), (45, 0, tx_45), (47, 0, tx_47), (49, 0, tx_49), (51, 0, tx_51), (53, 0, tx_53), (57, 0, tx_57), (59, 0, tx_59), (61, 0, tx_61), (63, 0, tx_63), (65, 0, tx_65), (67, 0, tx_67), (69, 0, tx_69), (71, 0, tx_71), (73, 0, tx_73), (75, 0, tx_75), (77, 0, tx_77), (79, 0, tx_79), (81, 0, tx_81), (83, 0, tx_83), (85, 0, tx_85), (87, 0, tx_87), (89, 0, tx_89), (91, 0, tx_91), (93, 0, tx_93), (95, 0, tx_95), (99, 0, tx_99), (103, 0, tx_103), (105, 0, tx_105), (109, 0, tx_35), (111, 0, tx_65), (113, 0, tx_87), (115, 0, tx_89), (117, 0, tx_91), (119, 0, tx_93), (121, 0, tx_95), (123, 0, tx_51), (125, 0, tx_53), (127, 0, tx_81), (129, 0, tx_83), (131, 0, tx_51), (133, 0, tx_81), (135, 0, tx_83)]
/-- the outer texts are there -/
def w_X (xs : List (Nat × List Int32)) : Prop := ∀ q ∈ wx_t, pe_at xs q.1 = some q.2
theorem wx_0 (h : w_X xs) : pe_at (pe_GA xs).xs 0 = some (0, tx_0) := h (0, 0, tx_0) (List.mem_of_getElem? (i := 0) rfl)
theorem wx_2 (h : w_X xs) : pe_at (pe_GA xs).xs 2 = some (0, tx_2) := h (2, 0, tx_2) (List.mem_of_getElem? (i := 1) rfl)
theorem wx_17 (h : w_X xs) : pe_at (pe_GA xs).xs 17 = some (0, tx_17) := h (17, 0, tx_17) (List.mem_of_getElem? (i := 2) rfl)
theorem wx_19 (h : w_X xs) : pe_at (pe_GA xs).xs 19 = some (0, tx_19) := h (19, 0, tx_19) (List.mem_of_getElem? (i := 3) rfl)
theorem wx_21 (h : w_X xs) : pe_at (pe_GA xs).xs 21 = some (0, tx_21) := h (21, 0, tx_21) (List.mem_of_getElem? (i := 4) rfl)
theorem wx_23 (h : w_X xs) : pe_at (pe_GA xs).xs 23 = some (0, tx_23) := h (23, 0, tx_23) (List.mem_of_getElem? (i := 5) rfl)
theorem wx_25 (h : w_X xs) : pe_at (pe_GA xs).xs 25 = some (0, tx_25) := h (25, 0, tx_25) (List.mem_of_getElem? (i := 6) rfl)
theorem wx_27 (h : w_X xs) : pe_at (pe_GA xs).xs 27 = some (0, tx_27) := h (27, 0, tx_27) (List.mem_of_getElem? (i := 7) rfl)
theorem wx_29 (h : w_X xs) : pe_at (pe_GA xs).xs 29 = some (0, tx_29) := h (29, 0, tx_29) (List.mem_of_getElem? (i := 8) rfl)
theorem wx_31 (h : w_X xs) : pe_at (pe_GA xs).xs 31 = some (0, tx_31) := h (31, 0, tx_31) (List.mem_of_getElem? (i := 9) rfl)
theorem wx_33 (h : w_X xs) : pe_at (pe_GA xs).xs 33 = some (0, tx_33) := h (33, 0, tx_33) (List.mem_of_getElem? (i := 10) rfl)
theorem wx_35 (h : w_X xs) : pe_at (pe_GA xs).xs 35 = some (0, tx_35) := h (35, 0, tx_35) (List.mem_of_getElem? (i := 11) rfl)
theorem wx_37 (h : w_X xs) : pe_at (pe_GA xs).xs 37 = some (0, tx_37) := h (37, 0, tx_37) (List.mem_of_getElem? (i := 12) rfl)
theorem wx_39 (h : w_X xs) : pe_at (pe_GA xs).xs 39 = some (0, tx_39) := h (39, 0, tx_39) (List.mem_of_getElem? (i := 13) rfl)
theorem wx_41 (h : w_X xs) : pe_at (pe_GA xs).xs 41 = some (0, tx_41) := h (41, 0, tx_41) (List.mem_of_getElem? (i := 14) rfl)
theorem wx_43 (h : w_X xs) : pe_at (pe_GA xs).xs 43 = some (0, tx_43) := h (43, 0, tx_43) (List.mem_of_getElem? (i := 15) rfl)
theorem wx_45 (h : w_X xs) : pe_at (pe_GA xs).xs 45 = some (0, tx_45) := h (45, 0, tx_45) (List.mem_of_getElem? (i := 16) rfl)
theorem wx_47 (h : w_X xs) : pe_at (pe_GA xs).xs 47 = some (0, tx_47) := h (47, 0, tx_47) (List.mem_of_getElem? (i := 17) rfl)
theorem wx_49 (h : w_X xs) : pe_at (pe_GA xs).xs 49 = some (0, tx_49) := h (49, 0, tx_49) (List.mem_of_getElem? (i := 18) rfl)
theorem wx_51 (h : w_X xs) : pe_at (pe_GA xs).xs 51 = some (0, tx_51) := h (51, 0, tx_51) (List.mem_of_getElem? (i := 19) rfl)
theorem wx_53 (h : w_X xs) : pe_at (pe_GA xs).xs 53 = some (0, tx_53) := h (53, 0, tx_53) (List.mem_of_getElem? (i := 20) rfl)
theorem wx_57 (h : w_X xs) : pe_at (pe_GA xs).xs 57 = some (0, tx_57) := h (57, 0, tx_57) (List.mem_of_getElem? (i := 21) rfl)
theorem wx_59 (h : w_X xs) : pe_at (pe_GA xs).xs 59 = some (0, tx_59) := h (59, 0, tx_59) (List.mem_of_getElem? (i := 22) rfl)
theorem wx_61 (h : w_X xs) : pe_at (pe_GA xs).xs 61 = some (0, tx_61) := h (61, 0, tx_61) (List.mem_of_getElem? (i := 23) rfl)
theorem wx_63 (h : w_X xs) : pe_at (pe_GA xs).xs 63 = some (0, tx_63) := h (63, 0, tx_63) (List.mem_of_getElem? (i := 24) rfl)
theorem wx_65 (h : w_X xs) : pe_at (pe_GA xs).xs 65 = some (0, tx_65) := h (65, 0, tx_65) (List.mem_of_getElem? (i := 25) rfl)
theorem wx_67 (h : w_X xs) : pe_at (pe_GA xs).xs 67 = some (0, tx_67) := h (67, 0, tx_67) (List.mem_of_getElem? (i := 26) rfl)
theorem wx_69 (h : w_X xs) : pe_at (pe_GA xs).xs 69 = some (0, tx_69) := h (69, 0, tx_69) (List.mem_of_getElem? (i := 27) rfl)
theorem wx_71 (h : w_X xs) : pe_at (pe_GA xs).xs 71 = some (0, tx_71) := h (71, 0, tx_71) (List.mem_of_getElem? (i := 28) rfl)
theorem wx_73 (h : w_X xs) : pe_at (pe_GA xs).xs 73 = some (0, tx_73) := h (73, 0, tx_73) (List.mem_of_getElem? (i := 29) rfl)
theorem wx_75 (h : w_X xs) : pe_at (pe_GA xs).xs 75 = some (0, tx_75) := h (75, 0, tx_75) (List.mem_of_getElem? (i := 30) rfl)
theorem wx_77 (h : w_X xs) : pe_at (pe_GA xs).xs 77 = some (0, tx_77) := h (77, 0, tx_77) (List.mem_of_getElem? (i := 31) rfl)
theorem wx_79 (h : w_X xs) : pe_at (pe_GA xs).xs 79 = some (0, tx_79) := h (79, 0, tx_79) (List.mem_of_getElem? (i := 32) rfl)
theorem wx_81 (h : w_X xs) : pe_at (pe_GA xs).xs 81 = some (0, tx_81) := h (81, 0, tx_81) (List.mem_of_getElem? (i := 33) rfl)
theorem wx_83 (h : w_X xs) : pe_at (pe_GA xs).xs 83 = some (0, tx_83) := h (83, 0, tx_83) (List.mem_of_getElem? (i := 34) rfl)
theorem wx_85 (h : w_X xs) : pe_at (pe_GA xs).xs 85 = some (0, tx_85) := h (85, 0, tx_85) (List.mem_of_getElem? (i := 35) rfl)
theorem wx_87 (h : w_X xs) : pe_at (pe_GA xs).xs 87 = some (0, tx_87) := h (87, 0, tx_87) (List.mem_of_getElem? (i := 36) rfl)
theorem wx_89 (h : w_X xs) : pe_at (pe_GA xs).xs 89 = some (0, tx_89) := h (89, 0, tx_89) (List.mem_of_getElem? (i := 37) rfl)
theorem wx_91 (h : w_X xs) : pe_at (pe_GA xs).xs 91 = some (0, tx_91) := h (91, 0, tx_91) (List.mem_of_getElem? (i := 38) rfl)
theorem wx_93 (h : w_X xs) : pe_at (pe_GA xs).xs 93 = some (0, tx_93) := h (93, 0, tx_93) (List.mem_of_getElem? (i := 39) rfl)
theorem wx_95 (h : w_X xs) : pe_at (pe_GA xs).xs 95 = some (0, tx_95) := h (95, 0, tx_95) (List.mem_of_getElem? (i := 40) rfl)
theorem wx_99 (h : w_X xs) : pe_at (pe_GA xs).xs 99 = some (0, tx_99) := h (99, 0, tx_99) (List.mem_of_getElem? (i := 41) rfl)
theorem wx_103 (h : w_X xs) : pe_at (pe_GA xs).xs 103 = some (0, tx_103) := h (103, 0, tx_103) (List.mem_of_getElem? (i := 42) rfl)
theorem wx_105 (h : w_X xs) : pe_at (pe_GA xs).xs 105 = some (0, tx_105) := h (105, 0, tx_105) (List.mem_of_getElem? (i := 43) rfl)
theorem wx_109 (h : w_X xs) : pe_at (pe_GA xs).xs 109 = some (0, tx_35) := h (109, 0, tx_35) (List.mem_of_getElem? (i := 44) rfl)
theorem wx_111 (h : w_X xs) : pe_at (pe_GA xs).xs 111 = some (0, tx_65) := h (111, 0, tx_65) (List.mem_of_getElem? (i := 45) rfl)
theorem wx_113 (h : w_X xs) : pe_at (pe_GA xs).xs 113 = some (0, tx_87) := h (113, 0, tx_87) (List.mem_of_getElem? (i := 46) rfl)
theorem wx_115 (h : w_X xs) : pe_at (pe_GA xs).xs 115 = some (0, tx_89) := h (115, 0, tx_89) (List.mem_of_getElem? (i := 47) rfl)
theorem wx_117 (h : w_X xs) : pe_at (pe_GA xs).xs 117 = some (0, tx_91) := h (117, 0, tx_91) (List.mem_of_getElem? (i := 48) rfl)
theorem wx_119 (h : w_X xs) : pe_at (pe_GA xs).xs 119 = some (0, tx_93) := h (119, 0, tx_93) (List.mem_of_getElem? (i := 49) rfl)
theorem wx_121 (h : w_X xs) : pe_at (pe_GA xs).xs 121 = some (0, tx_95) := h (121, 0, tx_95) (List.mem_of_getElem? (i := 50) rfl)
theorem wx_123 (h : w_X xs) : pe_at (pe_GA xs).xs 123 = some (0, tx_51) := h (123, 0, tx_51) (List.mem_of_getElem? (i := 51) rfl)
theorem wx_125 (h : w_X xs) : pe_at (pe_GA xs).xs 125 = some (0, tx_53) := h (125, 0, tx_53) (List.mem_of_getElem? (i := 52) rfl)
theorem wx_127 (h : w_X xs) : pe_at (pe_GA xs).xs 127 = some (0, tx_81) := h (127, 0, tx_81) (List.mem_of_getElem? (i := 53) rfl)
theorem wx_129 (h : w_X xs) : pe_at (pe_GA xs).xs 129 = some (0, tx_83) := h (129, 0, tx_83) (List.mem_of_getElem? (i := 54) rfl)
theorem wx_131 (h : w_X xs) : pe_at (pe_GA xs).xs 131 = some (0, tx_51) := h (131, 0, tx_51) (List.mem_of_getElem? (i := 55) rfl)
theorem wx_133 (h : w_X xs) : pe_at (pe_GA xs).xs 133 = some (0, tx_81) := h (133, 0, tx_81) (List.mem_of_getElem? (i := 56) rfl)
theorem wx_135 (h : w_X xs) : pe_at (pe_GA xs).xs 135 = some (0, tx_83) := h (135, 0, tx_83) (List.mem_of_getElem? (i := 57) rfl)
/-- the halt is thrown: its number and place -/
def w_hl (S : wS) (n p : Int) : wS := w_up (w_up S 238 5 n) 238 6 p
theorem must_ok {g n : Int} (hg : g = 0 ∨ g = 1) (hn : -2147483648 ≤ n ∧ n ≤ 2147483647) : wJ (pe_GA xs) wY0 M (d + 1) t_M_must ((pe_at t_M_must.bl 0).getD (0, [])).2 [(0, (2, 237)), (1, (0, g)), (2, (0, n))] [] S (fun o S2 => (g = 1 ∧ S = S2 ∧ o = .inl none) ∨ (g = 0 ∧ w_hl S n (S 237 7) = S2 ∧ o = .inr 238)) := by
  refine wa_iload_n (n := 1) rfl ?_
  refine wa_ifne (w_rg0 (by omega) (by omega)) ⟨_, rfl⟩ (fun c1 => ?_) (fun c1 => ?_)
  · skip
    refine wa_return rfl ?_
    exact Or.inl ⟨by omega, rfl, rfl⟩
  · skip
    refine wa_aload_n (n := 0) rfl ?_
    refine wb_gf4 237 rfl (wy_pr rfl) wt_237 wf_15_1 (v := 238) wl_237_1 ?_
    refine wa_iload_n (n := 2) rfl ?_
    refine wa_aload_n (n := 0) rfl ?_
    refine wb_gfi 237 rfl (wy_pr rfl) wt_237 wf_15_7 (v := (S 237 7)) rfl (fun r2 => ?_)
    refine wa_cv 238 rfl (wy_pr rfl) wt_238 (M2 := fun _ => False) rfl at_MH_of ⟨_, rfl⟩ rfl rfl ⟨(Or.inr ⟨wy_pr rfl, fun q => q⟩), trivial, trivial, trivial⟩ trivial (fun _ _ q => False.elim q) ?_ (fun _ _ _ q => q)
    refine wa_aload_n (n := 0) rfl ?_
    refine wa_iload_n (n := 1) rfl ?_
    refine wb_pfi 238 rfl (wy_pr rfl) wt_238 wf_11_5 (n := 5) rfl ⟨(by omega), (by omega)⟩ ?_
    refine wa_aload_n (n := 0) rfl ?_
    refine wa_iload_n (n := 2) rfl ?_
    refine wb_pfi 238 rfl (wy_pr rfl) wt_238 wf_11_6 (n := 6) rfl ⟨(by omega), (by omega)⟩ ?_
    refine wa_aload_n (n := 0) rfl ?_
    refine wa_oreturn rfl ?_
    show wJ _ _ _ _ _ _ _ _ _ _
    refine wa_th (j := 238) ?_
    exact Or.inr ⟨by omega, rfl, rfl⟩
theorem fault_ok {n : Int} (hn : -2147483648 ≤ n ∧ n ≤ 2147483647) : wJ (pe_GA xs) wY0 M (d + 1) t_M_fault ((pe_at t_M_fault.bl 0).getD (0, [])).2 [(0, (2, 237)), (1, (0, n))] [] S (fun o S2 => w_hl S n (S 237 7) = S2 ∧ o = .inr 238) := by
  refine wa_aload_n (n := 0) rfl ?_
  refine wb_gf4 237 rfl (wy_pr rfl) wt_237 wf_15_1 (v := 238) wl_237_1 ?_
  refine wa_iload_n (n := 1) rfl ?_
  refine wa_aload_n (n := 0) rfl ?_
  refine wb_gfi 237 rfl (wy_pr rfl) wt_237 wf_15_7 (v := (S 237 7)) rfl (fun r1 => ?_)
  refine wa_cv 238 rfl (wy_pr rfl) wt_238 (M2 := fun _ => False) rfl at_MH_of ⟨_, rfl⟩ rfl rfl ⟨(Or.inr ⟨wy_pr rfl, fun q => q⟩), trivial, trivial⟩ trivial (fun _ _ q => False.elim q) ?_ (fun _ _ _ q => q)
  refine wa_aload_n (n := 0) rfl ?_
  refine wa_iload_n (n := 1) rfl ?_
  refine wb_pfi 238 rfl (wy_pr rfl) wt_238 wf_11_5 (n := 5) rfl ⟨(by omega), (by omega)⟩ ?_
  refine wa_aload_n (n := 0) rfl ?_
  refine wa_iload_n (n := 2) rfl ?_
  refine wb_pfi 238 rfl (wy_pr rfl) wt_238 wf_11_6 (n := 6) rfl ⟨(by omega), (by omega)⟩ ?_
  refine wa_aload_n (n := 0) rfl ?_
  refine wa_oreturn rfl ?_
  show wJ _ _ _ _ _ _ _ _ _ _
  refine wa_th (j := 238) ?_
  exact ⟨rfl, rfl⟩
def lx_is (S : wS) (c : Int) : Bool := decide (S 237 6 = 4 ∧ S 237 9 = c)
theorem isSign_ok {c : Int} (hc : -2147483648 ≤ c ∧ c ≤ 2147483647) : wJ (pe_GA xs) wY0 M d t_M_isSign ((pe_at t_M_isSign.bl 0).getD (0, [])).2 [(0, (2, 237)), (1, (0, c))] [] S (fun o S2 => S = S2 ∧ ((o = .inl (some (0, 1)) ∧ lx_is S c = true) ∨ (o = .inl (some (0, 0)) ∧ lx_is S c = false))) := by
  refine wa_aload_n (n := 0) rfl ?_
  refine wb_gfi 237 rfl (wy_pr rfl) wt_237 wf_15_6 (v := (S 237 6)) rfl (fun r1 => ?_)
  refine wa_iconst ?_
  refine wa_icmpne (w_rg0 (by omega) (by omega)) (w_rg0 (by omega) (by omega)) ⟨_, rfl⟩ (fun c2 => ?_) (fun c2 => ?_)
  · skip
    refine wa_iconst ?_
    refine wa_fall ⟨_, rfl⟩ ?_
    refine wa_zreturn rfl (Or.inl rfl) ?_
    exact ⟨rfl, Or.inr ⟨rfl, decide_eq_false (by omega)⟩⟩
  · skip
    refine wa_aload_n (n := 0) rfl ?_
    refine wb_gfi 237 rfl (wy_pr rfl) wt_237 wf_15_9 (v := (S 237 9)) rfl (fun r3 => ?_)
    refine wa_iload_n (n := 1) rfl ?_
    refine wa_icmpne (w_rg0 (by omega) (by omega)) (w_rg0 (by omega) (by omega)) ⟨_, rfl⟩ (fun c4 => ?_) (fun c4 => ?_)
    · skip
      refine wa_iconst ?_
      refine wa_fall ⟨_, rfl⟩ ?_
      refine wa_zreturn rfl (Or.inl rfl) ?_
      exact ⟨rfl, Or.inr ⟨rfl, decide_eq_false (by omega)⟩⟩
    · skip
      refine wa_iconst ?_
      refine wa_goto ⟨_, rfl⟩ ?_
      refine wa_zreturn rfl (Or.inr rfl) ?_
      exact ⟨rfl, Or.inl ⟨rfl, decide_eq_true (by omega)⟩⟩
def lx_w (S : wS) (tx : List Int32) : Bool := decide (S 237 6 = 1 ∧ S 237 8 - S 237 7 = (tx.length : Int) ∧ ∀ i : Nat, i < tx.length → S 239 (S 237 7 + (i : Int)) = w_tx tx i)
theorem iw_loop {j : Nat} {tx : List Int32} (hM : w_ML S) (ht : pe_at (pe_GA xs).xs j = some (0, tx)) (hl : tx.length ≤ 200) (hp : 0 ≤ S 237 7 ∧ S 237 7 ≤ 65540 ∧ 0 ≤ S 237 8 ∧ S 237 8 ≤ 65540) : ∀ (f i : Nat) (b : Int), tx.length - i < f → i ≤ tx.length → ((b = 1 ∧ (S 237 6 = 1 ∧ S 237 8 - S 237 7 = (tx.length : Int)) ∧ ∀ q : Nat, q < i → S 239 (S 237 7 + (q : Int)) = w_tx tx q) ∨ (b = 0 ∧ lx_w S tx = false)) → wJ (pe_GA xs) wY0 M (d + 4) t_M_isWord ((pe_at t_M_isWord.bl 3).getD (0, [])).2 [(0, (2, 237)), (1, (2, -10 - (j : Int))), (2, (0, b)), (3, (0, (i : Int)))] [] S (fun o S2 => S = S2 ∧ ((o = .inl (some (0, 1)) ∧ lx_w S tx = true) ∨ (o = .inl (some (0, 0)) ∧ lx_w S tx = false))) := by
  intro f
  induction f with
  | zero => intros; omega
  | succ f ih =>
    intro i b hf hi hb
    have hb01 : b = 0 ∨ b = 1 := by rcases hb with q | q <;> omega
    have hwr := w_tx_rg tx (i : Int)
    have hwr1 : -2147483648 ≤ w_tx tx (i : Int) := hwr.1
    have hwr2 : w_tx tx (i : Int) ≤ 2147483647 := hwr.2
    refine wa_iload_n (n := 3) rfl ?_
    refine wa_aload_n (n := 1) rfl ?_
    refine wa_sl j rfl ht rfl rfl ?_
    refine wa_icmpge (w_rg0 (by omega) (by omega)) (w_rg0 (by omega) (by omega)) ⟨_, rfl⟩ (fun c1 => ?_) (fun c1 => ?_)
    · skip
      refine wa_iload_n (n := 2) rfl ?_
      refine wa_zreturn rfl (by omega) ?_
      rcases hb with ⟨q1, q2, q3⟩ | ⟨q1, q2⟩
      · first | (exact absurd q1 (by omega)) | (subst q1; exact ⟨rfl, Or.inl ⟨rfl, decide_eq_true ⟨q2.1, q2.2, fun q hq => q3 q (by omega)⟩⟩⟩)
      · subst q1; exact ⟨rfl, Or.inr ⟨rfl, q2⟩⟩
    · skip
      refine wa_iload_n (n := 2) rfl ?_
      refine wa_ifeq (w_rg0 (by omega) (by omega)) ⟨_, rfl⟩ (fun c2 => ?_) (fun c2 => ?_)
      · skip
        refine wa_iload_n (n := 2) rfl ?_
        refine wa_zreturn rfl (by omega) ?_
        rcases hb with ⟨q1, q2, q3⟩ | ⟨q1, q2⟩
        · first | (exact absurd q1 (by omega)) | (subst q1; exact ⟨rfl, Or.inl ⟨rfl, decide_eq_true ⟨q2.1, q2.2, fun q hq => q3 q (by omega)⟩⟩⟩)
        · subst q1; exact ⟨rfl, Or.inr ⟨rfl, q2⟩⟩
      · skip
        have hq2 : S 237 6 = 1 ∧ S 237 8 - S 237 7 = (tx.length : Int) := by
          rcases hb with q | q
          · exact q.2.1
          · exact absurd q.1 (by omega)
        refine wa_aload_n (n := 0) rfl ?_
        refine wb_gf4 237 rfl (wy_pr rfl) wt_237 wf_15_2 (v := 239) wl_237_2 ?_
        refine wa_aload_n (n := 0) rfl ?_
        refine wb_gfi 237 rfl (wy_pr rfl) wt_237 wf_15_7 (v := (S 237 7)) rfl (fun r3 => ?_)
        refine wa_iload_n (n := 3) rfl ?_
        refine wa_iadd ?_
        refine wb_bald 239 rfl (wy_pr rfl) wt_239 (n := 65552) ((ml_239 hM)) (by omega) (by omega) (v := (S 239 ((S 237 7) + (i : Int)))) rfl (fun r4 => ?_)
        refine wa_aload_n (n := 1) rfl ?_
        refine wa_iload_n (n := 3) rfl ?_
        refine wa_sc j rfl ht (by omega) rfl rfl (by omega) (by omega) ?_
        refine wa_icmpne (w_rg0 (by omega) (by omega)) (w_rg0 (by omega) (by omega)) ⟨_, rfl⟩ (fun c5 => ?_) (fun c5 => ?_)
        · skip
          refine wa_iconst ?_
          refine wa_fall ⟨_, rfl⟩ ?_
          refine wa_istore_n (n := 2) rfl ?_
          refine wa_iinc rfl rfl ?_
          refine wa_goto ⟨_, rfl⟩ ?_
          rcases hb with ⟨q1, q2, q3⟩ | ⟨q1, q2⟩
          · refine wJ_S (ih (i + 1) 0 (by omega) (by omega) (Or.inr ⟨rfl, decide_eq_false (fun h => ?_)⟩)) ⟨rfl, rfl, rfl, rfl, trivial⟩
            have := h.2.2 i (by omega); omega
          · omega
        · skip
          refine wa_iconst ?_
          refine wa_goto ⟨_, rfl⟩ ?_
          refine wa_istore_n (n := 2) rfl ?_
          refine wa_iinc rfl rfl ?_
          refine wa_goto ⟨_, rfl⟩ ?_
          rcases hb with ⟨q1, q2, q3⟩ | ⟨q1, q2⟩
          · refine wJ_S (ih (i + 1) 1 (by omega) (by omega) (Or.inl ⟨rfl, q2, fun q hq => ?_⟩)) ⟨rfl, rfl, rfl, rfl, trivial⟩
            by_cases hqi : q = i
            · subst hqi; omega
            · exact q3 q (by omega)
          · omega
theorem isWord_ok {j : Nat} {tx : List Int32} (hM : w_ML S) (ht : pe_at (pe_GA xs).xs j = some (0, tx)) (hl : tx.length ≤ 200) (hp : 0 ≤ S 237 7 ∧ S 237 7 ≤ 65540 ∧ 0 ≤ S 237 8 ∧ S 237 8 ≤ 65540) : wJ (pe_GA xs) wY0 M (d + 4) t_M_isWord ((pe_at t_M_isWord.bl 0).getD (0, [])).2 [(0, (2, 237)), (1, (2, -10 - (j : Int)))] [] S (fun o S2 => S = S2 ∧ ((o = .inl (some (0, 1)) ∧ lx_w S tx = true) ∨ (o = .inl (some (0, 0)) ∧ lx_w S tx = false))) := by
  have hp2 := hp.1
  refine wa_aload_n (n := 0) rfl ?_
  refine wb_gfi 237 rfl (wy_pr rfl) wt_237 wf_15_6 (v := (S 237 6)) rfl (fun r1 => ?_)
  refine wa_iconst ?_
  refine wa_icmpne (w_rg0 (by omega) (by omega)) (w_rg0 (by omega) (by omega)) ⟨_, rfl⟩ (fun c2 => ?_) (fun c2 => ?_)
  · skip
    refine wa_iconst ?_
    refine wa_fall ⟨_, rfl⟩ ?_
    refine wa_istore_n (n := 2) rfl ?_
    refine wa_iconst ?_
    refine wa_istore_n (n := 3) rfl ?_
    refine wa_fall ⟨_, rfl⟩ ?_
    exact wJ_S (iw_loop hM ht hl hp (tx.length + 1) 0 0 (by omega) (by omega) (Or.inr ⟨rfl, decide_eq_false (fun h => by omega)⟩)) ⟨rfl, rfl, rfl, rfl, trivial⟩
  · skip
    refine wa_aload_n (n := 0) rfl ?_
    refine wb_gfi 237 rfl (wy_pr rfl) wt_237 wf_15_8 (v := (S 237 8)) rfl (fun r3 => ?_)
    refine wa_aload_n (n := 0) rfl ?_
    refine wb_gfi 237 rfl (wy_pr rfl) wt_237 wf_15_7 (v := (S 237 7)) rfl (fun r4 => ?_)
    refine wa_isub ?_
    refine wa_aload_n (n := 1) rfl ?_
    refine wa_sl j rfl ht rfl rfl ?_
    refine wa_icmpne (w_rg0 (by omega) (by omega)) (w_rg0 (by omega) (by omega)) ⟨_, rfl⟩ (fun c5 => ?_) (fun c5 => ?_)
    · skip
      refine wa_iconst ?_
      refine wa_fall ⟨_, rfl⟩ ?_
      refine wa_istore_n (n := 2) rfl ?_
      refine wa_iconst ?_
      refine wa_istore_n (n := 3) rfl ?_
      refine wa_fall ⟨_, rfl⟩ ?_
      exact wJ_S (iw_loop hM ht hl hp (tx.length + 1) 0 0 (by omega) (by omega) (Or.inr ⟨rfl, decide_eq_false (fun h => by omega)⟩)) ⟨rfl, rfl, rfl, rfl, trivial⟩
    · skip
      refine wa_iconst ?_
      refine wa_goto ⟨_, rfl⟩ ?_
      refine wa_istore_n (n := 2) rfl ?_
      refine wa_iconst ?_
      refine wa_istore_n (n := 3) rfl ?_
      refine wa_fall ⟨_, rfl⟩ ?_
      exact wJ_S (iw_loop hM ht hl hp (tx.length + 1) 0 1 (by omega) (by omega) (Or.inl ⟨rfl, ⟨by omega, by omega⟩, fun q hq => absurd hq (Nat.not_lt_zero q)⟩)) ⟨rfl, rfl, rfl, rfl, trivial⟩
end W70
