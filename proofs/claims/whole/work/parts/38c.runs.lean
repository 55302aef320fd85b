/-! PART 38c: runs of the law over scripts of one call. -/
set_option maxRecDepth 100000 in
theorem rn_19_0 : ([[664, 1, 98, 99, 100], [664, 17, 98, 99, 100], [664, 137, 2, 99, 100], [664, 137, 138, 99, 100], [664, 137, 146, 99, 100], [664, 137, 154, 99, 100], [664, 137, 34, 99, 100]] : List (List Int32)).all pe_runL = true := by decide +kernel
set_option maxRecDepth 100000 in
theorem rn_20_0 : ([[672, 1, 98, 99, 100], [672, 137, 98, 99, 100], [672, 17, 98, 99, 100]] : List (List Int32)).all pe_runL = true := by decide +kernel
set_option maxRecDepth 100000 in
theorem rn_21_0 : ([[680, 1, 98, 99, 100], [680, 137, 98, 99, 100], [680, 17, 98, 99, 100]] : List (List Int32)).all pe_runL = true := by decide +kernel
set_option maxRecDepth 100000 in
theorem rn_22_0 : ([[688, 1, 98, 99, 100], [688, 137, 98, 99, 100], [688, 145, 98, 99, 100], [688, 153, 98, 99, 100], [688, 161, 98, 99, 100], [688, 169, 98, 99, 100], [688, 177, 98, 99, 100], [688, 185, 98, 99, 100]] : List (List Int32)).all pe_runL = true := by decide +kernel
set_option maxRecDepth 100000 in
theorem rn_22_1 : ([[688, 193, 98, 99, 100], [688, 201, 98, 99, 100], [688, 209, 98, 99, 100], [688, 217, 98, 99, 100], [688, 225, 98, 99, 100], [688, 233, 98, 99, 100], [688, 241, 98, 99, 100], [688, 249, 98, 99, 100]] : List (List Int32)).all pe_runL = true := by decide +kernel
set_option maxRecDepth 100000 in
theorem rn_22_2 : ([[688, 257, 98, 99, 100], [688, 265, 98, 99, 100], [688, 273, 98, 99, 100], [688, 81, 98, 99, 100], [688, 297, 98, 99, 100], [688, 305, 98, 99, 100], [688, 313, 98, 99, 100], [688, 321, 98, 99, 100]] : List (List Int32)).all pe_runL = true := by decide +kernel
set_option maxRecDepth 100000 in
theorem rn_22_3 : ([[688, 65, 98, 99, 100]] : List (List Int32)).all pe_runL = true := by decide +kernel
set_option maxRecDepth 100000 in
theorem rn_23_0 : ([[696, 97, 98, 99, 100]] : List (List Int32)).all pe_runL = true := by decide +kernel
set_option maxRecDepth 100000 in
theorem rn_24_0 : ([[704, 97, 98, 99, 100]] : List (List Int32)).all pe_runL = true := by decide +kernel
set_option maxRecDepth 100000 in
theorem rn_25_0 : ([[712, 97, 98, 99, 100]] : List (List Int32)).all pe_runL = true := by decide +kernel
set_option maxRecDepth 100000 in
theorem rn_26_0 : ([[720, 97, 98, 99, 100]] : List (List Int32)).all pe_runL = true := by decide +kernel
set_option maxRecDepth 100000 in
theorem rn_27_0 : ([[728, 97, 98, 99, 100]] : List (List Int32)).all pe_runL = true := by decide +kernel
