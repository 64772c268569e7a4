set_option maxRecDepth 100000 in
theorem an_lcS25_11 : an_lcs 4 16 25 11 = true := by decide +kernel
set_option maxRecDepth 100000 in
theorem an_lcS25_12 : an_lcs 4 16 25 12 = true := by decide +kernel
