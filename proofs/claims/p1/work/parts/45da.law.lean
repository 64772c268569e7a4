set_option maxRecDepth 100000 in
theorem an_lcS25_13 : an_lcs 4 16 25 13 = true := by decide +kernel
set_option maxRecDepth 100000 in
theorem an_lcS25_14 : an_lcs 4 16 25 14 = true := by decide +kernel
