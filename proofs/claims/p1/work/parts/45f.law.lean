set_option maxRecDepth 100000 in
theorem an_lcT25_4_3 : an_lct 25 [(5, 3, 4), (1, 3, 3)] = true := by decide +kernel
