/-! PART 38z: runs of the law over scripts that are too short for a call. -/
set_option maxRecDepth 100000 in
theorem rn_s : ([[], [96], [96, 97], [96, 97, 98], [96, 97, 98, 99]] : List (List Int32)).all pe_runL = true := by decide +kernel
