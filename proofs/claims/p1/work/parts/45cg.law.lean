set_option maxRecDepth 100000 in
theorem an_lcS25_3 : an_lcs 4 16 25 3 = true := by decide +kernel
set_option maxRecDepth 100000 in
theorem an_lcS25_4 : an_lcs 4 16 25 4 = true := by decide +kernel
