set_option maxRecDepth 100000 in
theorem an_lcG9 : ([12] : List Nat).all an_lc = true := by decide +kernel
