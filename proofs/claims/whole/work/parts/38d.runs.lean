/-! PART 38d: runs of the law over scripts of one call. -/
set_option maxRecDepth 100000 in
theorem rn_28_0 : ([[736, 97, 98, 99, 100]] : List (List Int32)).all pe_runL = true := by decide +kernel
set_option maxRecDepth 100000 in
theorem rn_29_0 : ([[744, 97, 98, 99, 100]] : List (List Int32)).all pe_runL = true := by decide +kernel
set_option maxRecDepth 100000 in
theorem rn_30_0 : ([[752, 97, 98, 99, 100]] : List (List Int32)).all pe_runL = true := by decide +kernel
set_option maxRecDepth 100000 in
theorem rn_31_0 : ([[760, 97, 98, 99, 100]] : List (List Int32)).all pe_runL = true := by decide +kernel
