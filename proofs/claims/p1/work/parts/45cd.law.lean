set_option maxRecDepth 100000 in
theorem an_lcG15 : ([9, 36, 14] : List Nat).all an_lc = true := by decide +kernel
