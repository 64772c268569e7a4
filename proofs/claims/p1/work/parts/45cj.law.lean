set_option maxRecDepth 100000 in
theorem an_lcS25_9 : an_lcs 4 16 25 9 = true := by decide +kernel
set_option maxRecDepth 100000 in
theorem an_lcS25_10 : an_lcs 4 16 25 10 = true := by decide +kernel
