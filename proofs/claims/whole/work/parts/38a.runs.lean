/-! PART 38a: runs of the law over scripts of one call. -/
set_option maxRecDepth 100000 in
theorem rn_1_0 : ([[520, 97, 98, 99, 100]] : List (List Int32)).all pe_runL = true := by decide +kernel
set_option maxRecDepth 100000 in
theorem rn_2_0 : ([[528, 1, 98, 99, 100], [528, 137, 98, 99, 100], [528, 17, 98, 99, 100]] : List (List Int32)).all pe_runL = true := by decide +kernel
set_option maxRecDepth 100000 in
theorem rn_3_0 : ([[536, 1, 98, 99, 100], [536, 137, 98, 99, 100], [536, 17, 98, 99, 100]] : List (List Int32)).all pe_runL = true := by decide +kernel
set_option maxRecDepth 100000 in
theorem rn_4_0 : ([[544, 89, 98, 99, 100], [544, 57, 90, 99, 100], [544, 57, 18, 99, 100], [544, 145, 90, 99, 100], [544, 145, 146, 99, 100], [544, 145, 154, 99, 100], [544, 145, 162, 99, 100], [544, 145, 170, 99, 100]] : List (List Int32)).all pe_runL = true := by decide +kernel
set_option maxRecDepth 100000 in
theorem rn_4_1 : ([[544, 145, 178, 99, 100], [544, 145, 186, 99, 100], [544, 145, 194, 99, 100], [544, 145, 202, 99, 100], [544, 145, 58, 99, 100], [544, 153, 90, 99, 100], [544, 153, 146, 99, 100], [544, 153, 154, 99, 100]] : List (List Int32)).all pe_runL = true := by decide +kernel
set_option maxRecDepth 100000 in
theorem rn_4_2 : ([[544, 153, 162, 99, 100], [544, 153, 170, 99, 100], [544, 153, 178, 99, 100], [544, 153, 186, 99, 100], [544, 153, 194, 99, 100], [544, 153, 202, 99, 100], [544, 153, 58, 99, 100], [544, 161, 90, 99, 100]] : List (List Int32)).all pe_runL = true := by decide +kernel
set_option maxRecDepth 100000 in
theorem rn_4_3 : ([[544, 161, 146, 99, 100], [544, 161, 154, 99, 100], [544, 161, 162, 99, 100], [544, 161, 170, 99, 100], [544, 161, 178, 99, 100], [544, 161, 186, 99, 100], [544, 161, 194, 99, 100], [544, 161, 202, 99, 100]] : List (List Int32)).all pe_runL = true := by decide +kernel
set_option maxRecDepth 100000 in
theorem rn_4_4 : ([[544, 161, 58, 99, 100], [544, 169, 90, 99, 100], [544, 169, 146, 99, 100], [544, 169, 154, 99, 100], [544, 169, 162, 99, 100], [544, 169, 170, 99, 100], [544, 169, 178, 99, 100], [544, 169, 186, 99, 100]] : List (List Int32)).all pe_runL = true := by decide +kernel
set_option maxRecDepth 100000 in
theorem rn_4_5 : ([[544, 169, 194, 99, 100], [544, 169, 202, 99, 100], [544, 169, 58, 99, 100], [544, 177, 90, 99, 100], [544, 177, 146, 99, 100], [544, 177, 154, 99, 100], [544, 177, 162, 99, 100], [544, 177, 170, 99, 100]] : List (List Int32)).all pe_runL = true := by decide +kernel
set_option maxRecDepth 100000 in
theorem rn_4_6 : ([[544, 177, 178, 99, 100], [544, 177, 186, 99, 100], [544, 177, 194, 99, 100], [544, 177, 202, 99, 100], [544, 177, 58, 99, 100], [544, 185, 90, 99, 100], [544, 185, 146, 99, 100], [544, 185, 154, 99, 100]] : List (List Int32)).all pe_runL = true := by decide +kernel
set_option maxRecDepth 100000 in
theorem rn_4_7 : ([[544, 185, 162, 99, 100], [544, 185, 170, 99, 100], [544, 185, 178, 99, 100], [544, 185, 186, 99, 100], [544, 185, 194, 99, 100], [544, 185, 202, 99, 100], [544, 185, 58, 99, 100], [544, 193, 90, 99, 100]] : List (List Int32)).all pe_runL = true := by decide +kernel
set_option maxRecDepth 100000 in
theorem rn_4_8 : ([[544, 193, 146, 99, 100], [544, 193, 154, 99, 100], [544, 193, 162, 99, 100], [544, 193, 170, 99, 100], [544, 193, 178, 99, 100], [544, 193, 186, 99, 100], [544, 193, 194, 99, 100], [544, 193, 202, 99, 100]] : List (List Int32)).all pe_runL = true := by decide +kernel
