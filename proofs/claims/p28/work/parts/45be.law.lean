set_option maxRecDepth 100000 in
theorem an_lcG5 : ([4] : List Nat).all an_lc = true := by decide +kernel
