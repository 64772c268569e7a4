set_option maxRecDepth 100000 in
theorem an_lcG1 : ([21, 24, 29, 30, 31] : List Nat).all an_lc = true := by decide +kernel
