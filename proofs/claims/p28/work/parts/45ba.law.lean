set_option maxRecDepth 100000 in
theorem an_lcG1 : ([17, 18, 19, 20, 21, 22, 23, 24, 25, 26, 28] : List Nat).all an_lc = true := by decide +kernel
