set_option maxRecDepth 100000 in
theorem an_lcS11_4 : an_lcs 1 4 11 4 = true := by decide +kernel
set_option maxRecDepth 100000 in
theorem an_lcS11_5 : an_lcs 1 4 11 5 = true := by decide +kernel
