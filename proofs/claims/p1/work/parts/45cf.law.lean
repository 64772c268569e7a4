set_option maxRecDepth 100000 in
theorem an_lcS25_0 : an_lcs 4 16 25 0 = true := by decide +kernel
set_option maxRecDepth 100000 in
theorem an_lcS25_1 : an_lcs 4 16 25 1 = true := by decide +kernel
set_option maxRecDepth 100000 in
theorem an_lcS25_2 : an_lcs 4 16 25 2 = true := by decide +kernel
