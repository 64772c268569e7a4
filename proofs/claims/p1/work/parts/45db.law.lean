set_option maxRecDepth 100000 in
theorem an_lcS25_15 : an_lcs 4 16 25 15 = true := by decide +kernel
set_option maxRecDepth 100000 in
theorem an_lcS25_16 : an_lcs 4 16 25 16 = true := by decide +kernel
set_option maxRecDepth 100000 in
theorem an_lcS25_17 : an_lcs 4 16 25 17 = true := by decide +kernel
