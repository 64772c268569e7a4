set_option maxRecDepth 100000 in
theorem an_lcG0 : ([0, 1, 2, 4, 5, 6, 7, 8, 9, 10, 11, 12, 13] : List Nat).all an_lc = true := by decide +kernel
