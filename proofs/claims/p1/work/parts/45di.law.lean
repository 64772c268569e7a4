set_option maxRecDepth 100000 in
theorem an_lcT25_1_2 : an_lct 25 [(5, 3, 1), (1, 3, 2)] = true := by decide +kernel
