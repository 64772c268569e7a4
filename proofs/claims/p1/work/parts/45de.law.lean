set_option maxRecDepth 100000 in
theorem an_lcS22_0 : an_lcs 1 4 22 0 = true := by decide +kernel
set_option maxRecDepth 100000 in
theorem an_lcS22_1 : an_lcs 1 4 22 1 = true := by decide +kernel
set_option maxRecDepth 100000 in
theorem an_lcS22_2 : an_lcs 1 4 22 2 = true := by decide +kernel
set_option maxRecDepth 100000 in
theorem an_lcS22_3 : an_lcs 1 4 22 3 = true := by decide +kernel
