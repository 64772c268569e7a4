set_option maxRecDepth 100000 in
theorem an_lcS26_0 : an_lcs 1 4 26 0 = true := by decide +kernel
set_option maxRecDepth 100000 in
theorem an_lcS26_1 : an_lcs 1 4 26 1 = true := by decide +kernel
set_option maxRecDepth 100000 in
theorem an_lcS26_2 : an_lcs 1 4 26 2 = true := by decide +kernel
set_option maxRecDepth 100000 in
theorem an_lcS26_3 : an_lcs 1 4 26 3 = true := by decide +kernel
