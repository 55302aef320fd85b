/-! PART 38d: runs of the law over scripts of one call. -/
set_option maxRecDepth 100000 in
theorem rn_22_1 : ([[688, 193, 98, 99, 100], [688, 201, 98, 99, 100], [688, 209, 98, 99, 100], [688, 217, 98, 99, 100], [688, 225, 98, 99, 100], [688, 233, 98, 99, 100], [688, 241, 98, 99, 100], [688, 249, 98, 99, 100]] : List (List Int32)).all pe_runL = true := by decide +kernel
set_option maxRecDepth 100000 in
theorem rn_22_2 : ([[688, 257, 98, 99, 100], [688, 265, 98, 99, 100], [688, 273, 98, 99, 100], [688, 81, 98, 99, 100], [688, 297, 98, 99, 100], [688, 305, 98, 99, 100], [688, 313, 98, 99, 100], [688, 321, 98, 99, 100]] : List (List Int32)).all pe_runL = true := by decide +kernel
set_option maxRecDepth 100000 in
theorem rn_22_3 : ([[688, 65, 98, 99, 100]] : List (List Int32)).all pe_runL = true := by decide +kernel
set_option maxRecDepth 100000 in
theorem rn_23_0 : ([[696, 97, 98, 99, 100]] : List (List Int32)).all pe_runL = true := by decide +kernel
set_option maxRecDepth 100000 in
theorem rn_24_0 : ([[704, 97, 98, 99, 100]] : List (List Int32)).all pe_runL = true := by decide +kernel
set_option maxRecDepth 100000 in
theorem rn_25_0 : ([[712, 97, 98, 99, 100]] : List (List Int32)).all pe_runL = true := by decide +kernel
set_option maxRecDepth 100000 in
theorem rn_26_0 : ([[720, 97, 98, 99, 100]] : List (List Int32)).all pe_runL = true := by decide +kernel
set_option maxRecDepth 100000 in
theorem rn_27_0 : ([[728, 97, 98, 99, 100]] : List (List Int32)).all pe_runL = true := by decide +kernel
set_option maxRecDepth 100000 in
theorem rn_28_0 : ([[736, 97, 98, 99, 100]] : List (List Int32)).all pe_runL = true := by decide +kernel
set_option maxRecDepth 100000 in
theorem rn_29_0 : ([[744, 97, 98, 99, 100]] : List (List Int32)).all pe_runL = true := by decide +kernel
set_option maxRecDepth 100000 in
theorem rn_30_0 : ([[752, 97, 98, 99, 100]] : List (List Int32)).all pe_runL = true := by decide +kernel
set_option maxRecDepth 100000 in
theorem rn_31_0 : ([[760, 97, 98, 99, 100]] : List (List Int32)).all pe_runL = true := by decide +kernel
