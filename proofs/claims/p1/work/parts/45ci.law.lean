set_option maxRecDepth 100000 in
theorem an_lcS25_7 : an_lcs 4 16 25 7 = true := by decide +kernel
set_option maxRecDepth 100000 in
theorem an_lcS25_8 : an_lcs 4 16 25 8 = true := by decide +kernel
