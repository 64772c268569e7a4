set_option maxRecDepth 100000 in
theorem an_lcS11_0 : an_lcs 1 4 11 0 = true := by decide +kernel
set_option maxRecDepth 100000 in
theorem an_lcS11_1 : an_lcs 1 4 11 1 = true := by decide +kernel
set_option maxRecDepth 100000 in
theorem an_lcS11_2 : an_lcs 1 4 11 2 = true := by decide +kernel
set_option maxRecDepth 100000 in
theorem an_lcS11_3 : an_lcs 1 4 11 3 = true := by decide +kernel
