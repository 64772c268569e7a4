set_option maxRecDepth 100000 in
theorem an_lcT25_2_3 : an_lct 25 [(5, 3, 2), (1, 3, 3)] = true := by decide +kernel
