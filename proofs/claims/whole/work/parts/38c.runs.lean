/-! PART 38c: runs of the law over scripts of one call. -/
set_option maxRecDepth 100000 in
theorem rn_13_0 : ([[616, 1, 98, 99, 100], [616, 25, 98, 99, 100], [616, 137, 2, 99, 100], [616, 137, 138, 99, 100], [616, 137, 146, 99, 100], [616, 137, 154, 99, 100], [616, 137, 162, 99, 100], [616, 137, 170, 99, 100]] : List (List Int32)).all pe_runL = true := by decide +kernel
set_option maxRecDepth 100000 in
theorem rn_13_1 : ([[616, 137, 42, 99, 100], [616, 145, 2, 99, 100], [616, 145, 138, 99, 100], [616, 145, 146, 99, 100], [616, 145, 154, 99, 100], [616, 145, 162, 99, 100], [616, 145, 170, 99, 100], [616, 145, 42, 99, 100]] : List (List Int32)).all pe_runL = true := by decide +kernel
set_option maxRecDepth 100000 in
theorem rn_14_0 : ([[624, 1, 98, 99, 100], [624, 25, 98, 99, 100], [624, 137, 2, 99, 100], [624, 137, 138, 99, 100], [624, 137, 146, 99, 100], [624, 137, 26, 99, 100], [624, 145, 2, 99, 100], [624, 145, 138, 99, 100]] : List (List Int32)).all pe_runL = true := by decide +kernel
set_option maxRecDepth 100000 in
theorem rn_14_1 : ([[624, 145, 146, 99, 100], [624, 145, 26, 99, 100]] : List (List Int32)).all pe_runL = true := by decide +kernel
set_option maxRecDepth 100000 in
theorem rn_15_0 : ([[632, 1, 98, 99, 100], [632, 137, 98, 99, 100], [632, 145, 98, 99, 100], [632, 25, 98, 99, 100]] : List (List Int32)).all pe_runL = true := by decide +kernel
set_option maxRecDepth 100000 in
theorem rn_16_0 : ([[640, 1, 98, 99, 100], [640, 137, 98, 99, 100], [640, 145, 98, 99, 100], [640, 25, 98, 99, 100]] : List (List Int32)).all pe_runL = true := by decide +kernel
set_option maxRecDepth 100000 in
theorem rn_17_0 : ([[648, 1, 98, 99, 100], [648, 137, 98, 99, 100], [648, 17, 98, 99, 100]] : List (List Int32)).all pe_runL = true := by decide +kernel
set_option maxRecDepth 100000 in
theorem rn_18_0 : ([[656, 1, 98, 99, 100], [656, 137, 98, 99, 100], [656, 17, 98, 99, 100]] : List (List Int32)).all pe_runL = true := by decide +kernel
set_option maxRecDepth 100000 in
theorem rn_19_0 : ([[664, 1, 98, 99, 100], [664, 17, 98, 99, 100], [664, 137, 2, 99, 100], [664, 137, 138, 99, 100], [664, 137, 146, 99, 100], [664, 137, 154, 99, 100], [664, 137, 34, 99, 100]] : List (List Int32)).all pe_runL = true := by decide +kernel
set_option maxRecDepth 100000 in
theorem rn_20_0 : ([[672, 1, 98, 99, 100], [672, 137, 98, 99, 100], [672, 17, 98, 99, 100]] : List (List Int32)).all pe_runL = true := by decide +kernel
set_option maxRecDepth 100000 in
theorem rn_21_0 : ([[680, 1, 98, 99, 100], [680, 137, 98, 99, 100], [680, 17, 98, 99, 100]] : List (List Int32)).all pe_runL = true := by decide +kernel
set_option maxRecDepth 100000 in
theorem rn_22_0 : ([[688, 1, 98, 99, 100], [688, 137, 98, 99, 100], [688, 145, 98, 99, 100], [688, 153, 98, 99, 100], [688, 161, 98, 99, 100], [688, 169, 98, 99, 100], [688, 177, 98, 99, 100], [688, 185, 98, 99, 100]] : List (List Int32)).all pe_runL = true := by decide +kernel
