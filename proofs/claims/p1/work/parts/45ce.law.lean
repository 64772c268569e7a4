set_option maxRecDepth 100000 in
theorem an_lcG16 : ([16, 15, 35] : List Nat).all an_lc = true := by decide +kernel
