set_option maxRecDepth 100000 in
theorem an_lcS22_4 : an_lcs 1 4 22 4 = true := by decide +kernel
set_option maxRecDepth 100000 in
theorem an_lcS22_5 : an_lcs 1 4 22 5 = true := by decide +kernel
