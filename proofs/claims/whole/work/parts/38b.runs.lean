/-! PART 38b: runs of the law over scripts of one call. -/
set_option maxRecDepth 100000 in
theorem rn_4_9 : ([[544, 193, 58, 99, 100], [544, 201, 90, 99, 100], [544, 201, 146, 99, 100], [544, 201, 154, 99, 100], [544, 201, 162, 99, 100], [544, 201, 170, 99, 100], [544, 201, 178, 99, 100], [544, 201, 186, 99, 100]] : List (List Int32)).all pe_runL = true := by decide +kernel
set_option maxRecDepth 100000 in
theorem rn_4_10 : ([[544, 201, 194, 99, 100], [544, 201, 202, 99, 100], [544, 201, 58, 99, 100]] : List (List Int32)).all pe_runL = true := by decide +kernel
set_option maxRecDepth 100000 in
theorem rn_5_0 : ([[552, 97, 98, 99, 100]] : List (List Int32)).all pe_runL = true := by decide +kernel
set_option maxRecDepth 100000 in
theorem rn_6_0 : ([[560, 1, 98, 99, 100], [560, 137, 98, 99, 100], [560, 17, 98, 99, 100]] : List (List Int32)).all pe_runL = true := by decide +kernel
set_option maxRecDepth 100000 in
theorem rn_7_0 : ([[568, 1, 98, 99, 100], [568, 137, 98, 99, 100], [568, 17, 98, 99, 100]] : List (List Int32)).all pe_runL = true := by decide +kernel
set_option maxRecDepth 100000 in
theorem rn_8_0 : ([[576, 1, 98, 99, 100], [576, 137, 98, 99, 100], [576, 17, 98, 99, 100]] : List (List Int32)).all pe_runL = true := by decide +kernel
set_option maxRecDepth 100000 in
theorem rn_9_0 : ([[584, 1, 98, 99, 100], [584, 137, 98, 99, 100], [584, 17, 98, 99, 100]] : List (List Int32)).all pe_runL = true := by decide +kernel
set_option maxRecDepth 100000 in
theorem rn_10_0 : ([[592, 1, 98, 99, 100], [592, 137, 98, 99, 100], [592, 17, 98, 99, 100]] : List (List Int32)).all pe_runL = true := by decide +kernel
set_option maxRecDepth 100000 in
theorem rn_11_0 : ([[600, 1, 2, 99, 100], [600, 1, 138, 99, 100], [600, 1, 18, 99, 100], [600, 137, 2, 99, 100], [600, 137, 138, 99, 100], [600, 137, 18, 99, 100], [600, 145, 2, 99, 100], [600, 145, 138, 99, 100]] : List (List Int32)).all pe_runL = true := by decide +kernel
set_option maxRecDepth 100000 in
theorem rn_11_1 : ([[600, 145, 18, 99, 100], [600, 25, 2, 99, 100], [600, 25, 138, 99, 100], [600, 25, 18, 99, 100]] : List (List Int32)).all pe_runL = true := by decide +kernel
set_option maxRecDepth 100000 in
theorem rn_12_0 : ([[608, 1, 98, 99, 100], [608, 25, 98, 99, 100], [608, 137, 90, 99, 100], [608, 137, 146, 99, 100], [608, 137, 130, 99, 100], [608, 137, 338, 99, 100], [608, 137, 74, 99, 100], [608, 145, 90, 99, 100]] : List (List Int32)).all pe_runL = true := by decide +kernel
set_option maxRecDepth 100000 in
theorem rn_12_1 : ([[608, 145, 146, 99, 100], [608, 145, 130, 99, 100], [608, 145, 338, 99, 100], [608, 145, 74, 99, 100]] : List (List Int32)).all pe_runL = true := by decide +kernel
