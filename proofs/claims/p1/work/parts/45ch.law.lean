set_option maxRecDepth 100000 in
theorem an_lcS25_5 : an_lcs 4 16 25 5 = true := by decide +kernel
set_option maxRecDepth 100000 in
theorem an_lcS25_6 : an_lcs 4 16 25 6 = true := by decide +kernel
