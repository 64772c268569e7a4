set_option maxRecDepth 100000 in
theorem an_lcS26_4 : an_lcs 1 4 26 4 = true := by decide +kernel
set_option maxRecDepth 100000 in
theorem an_lcS26_5 : an_lcs 1 4 26 5 = true := by decide +kernel
