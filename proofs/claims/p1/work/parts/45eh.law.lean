set_option maxRecDepth 100000 in
theorem an_lcT25_3_4 : an_lct 25 [(5, 3, 3), (1, 3, 4)] = true := by decide +kernel
