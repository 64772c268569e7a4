set_option maxRecDepth 100000 in
theorem an_lcG13 : ([13] : List Nat).all an_lc = true := by decide +kernel
