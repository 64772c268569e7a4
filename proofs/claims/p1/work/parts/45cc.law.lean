set_option maxRecDepth 100000 in
theorem an_lcG14 : ([4, 27] : List Nat).all an_lc = true := by decide +kernel
