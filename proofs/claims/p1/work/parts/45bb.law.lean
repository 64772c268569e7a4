set_option maxRecDepth 100000 in
theorem an_lcG2 : ([32, 33, 34, 38, 39] : List Nat).all an_lc = true := by decide +kernel
