/-! PART 38b: runs of the law over scripts of one call. -/
set_option maxRecDepth 100000 in
theorem rn_4_10 : ([[544, 201, 194, 99, 100], [544, 201, 202, 99, 100], [544, 201, 58, 99, 100]] : List (List Int32)).all pe_runL = true := by decide +kernel
set_option maxRecDepth 100000 in
theorem rn_6_0 : ([[560, 1, 98, 99, 100], [560, 137, 98, 99, 100], [560, 17, 98, 99, 100]] : List (List Int32)).all pe_runL = true := by decide +kernel
set_option maxRecDepth 100000 in
theorem rn_7_0 : ([[568, 1, 98, 99, 100], [568, 137, 98, 99, 100], [568, 17, 98, 99, 100]] : List (List Int32)).all pe_runL = true := by decide +kernel
set_option maxRecDepth 100000 in
theorem rn_8_0 : ([[576, 1, 98, 99, 100], [576, 137, 98, 99, 100], [576, 17, 98, 99, 100]] : List (List Int32)).all pe_runL = true := by decide +kernel
set_option maxRecDepth 100000 in
theorem rn_9_0 : ([[584, 1, 98, 99, 100], [584, 137, 98, 99, 100], [584, 17, 98, 99, 100]] : List (List Int32)).all pe_runL = true := by decide +kernel
set_option maxRecDepth 100000 in
theorem rn_10_0 : ([[592, 1, 98, 99, 100], [592, 137, 98, 99, 100], [592, 17, 98, 99, 100]] : List (List Int32)).all pe_runL = true := by decide +kernel
set_option maxRecDepth 100000 in
theorem rn_11_0 : ([[600, 1, 2, 99, 100], [600, 1, 138, 99, 100], [600, 1, 18, 99, 100], [600, 137, 2, 99, 100], [600, 137, 138, 99, 100], [600, 137, 18, 99, 100], [600, 145, 2, 99, 100], [600, 145, 138, 99, 100]] : List (List Int32)).all pe_runL = true := by decide +kernel
set_option maxRecDepth 100000 in
theorem rn_11_1 : ([[600, 145, 18, 99, 100], [600, 25, 2, 99, 100], [600, 25, 138, 99, 100], [600, 25, 18, 99, 100]] : List (List Int32)).all pe_runL = true := by decide +kernel
set_option maxRecDepth 100000 in
theorem rn_13_0 : ([[616, 1, 98, 99, 100], [616, 25, 98, 99, 100], [616, 137, 2, 99, 100], [616, 137, 138, 99, 100], [616, 137, 146, 99, 100], [616, 137, 154, 99, 100], [616, 137, 162, 99, 100], [616, 137, 170, 99, 100]] : List (List Int32)).all pe_runL = true := by decide +kernel
set_option maxRecDepth 100000 in
theorem rn_13_1 : ([[616, 137, 42, 99, 100], [616, 145, 2, 99, 100], [616, 145, 138, 99, 100], [616, 145, 146, 99, 100], [616, 145, 154, 99, 100], [616, 145, 162, 99, 100], [616, 145, 170, 99, 100], [616, 145, 42, 99, 100]] : List (List Int32)).all pe_runL = true := by decide +kernel
set_option maxRecDepth 100000 in
theorem rn_15_0 : ([[632, 1, 98, 99, 100], [632, 137, 98, 99, 100], [632, 145, 98, 99, 100], [632, 25, 98, 99, 100]] : List (List Int32)).all pe_runL = true := by decide +kernel
set_option maxRecDepth 100000 in
theorem rn_17_0 : ([[648, 1, 98, 99, 100], [648, 137, 98, 99, 100], [648, 17, 98, 99, 100]] : List (List Int32)).all pe_runL = true := by decide +kernel
