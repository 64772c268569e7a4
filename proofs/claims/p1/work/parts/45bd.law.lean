set_option maxRecDepth 100000 in
theorem an_lcG4 : ([20] : List Nat).all an_lc = true := by decide +kernel
