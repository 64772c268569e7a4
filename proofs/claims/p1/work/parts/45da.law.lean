set_option maxRecDepth 100000 in
theorem an_lcS23_0 : an_lcs 1 4 23 0 = true := by decide +kernel
set_option maxRecDepth 100000 in
theorem an_lcS23_1 : an_lcs 1 4 23 1 = true := by decide +kernel
set_option maxRecDepth 100000 in
theorem an_lcS23_2 : an_lcs 1 4 23 2 = true := by decide +kernel
set_option maxRecDepth 100000 in
theorem an_lcS23_3 : an_lcs 1 4 23 3 = true := by decide +kernel
