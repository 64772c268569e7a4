set_option maxRecDepth 100000 in
theorem an_lcT25_0 : an_lct 25 [(5, 3, 0)] = true := by decide +kernel
set_option maxRecDepth 100000 in
theorem an_lcT25_1_0 : an_lct 25 [(5, 3, 1), (1, 3, 0)] = true := by decide +kernel
set_option maxRecDepth 100000 in
theorem an_lcT25_2_0 : an_lct 25 [(5, 3, 2), (1, 3, 0)] = true := by decide +kernel
set_option maxRecDepth 100000 in
theorem an_lcT25_3_0 : an_lct 25 [(5, 3, 3), (1, 3, 0)] = true := by decide +kernel
set_option maxRecDepth 100000 in
theorem an_lcT25_4_0 : an_lct 25 [(5, 3, 4), (1, 3, 0)] = true := by decide +kernel
