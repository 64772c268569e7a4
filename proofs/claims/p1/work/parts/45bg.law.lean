set_option maxRecDepth 100000 in
theorem an_lcG7 : ([19] : List Nat).all an_lc = true := by decide +kernel
