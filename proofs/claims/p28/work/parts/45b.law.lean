set_option maxRecDepth 100000 in
theorem an_lcG0 : ([0, 7, 8, 9, 10, 11, 12, 13, 14, 15, 16] : List Nat).all an_lc = true := by decide +kernel
