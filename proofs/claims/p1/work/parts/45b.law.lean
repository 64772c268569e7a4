set_option maxRecDepth 100000 in
theorem an_lcG0 : ([0, 2, 6, 7, 8] : List Nat).all an_lc = true := by decide +kernel
