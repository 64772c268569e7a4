set_option maxRecDepth 100000 in
theorem an_lcG6 : ([17] : List Nat).all an_lc = true := by decide +kernel
