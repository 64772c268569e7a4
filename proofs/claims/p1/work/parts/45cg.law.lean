set_option maxRecDepth 100000 in
theorem an_lcS28_5 : an_lcs 2 16 28 5 = true := by decide +kernel
set_option maxRecDepth 100000 in
theorem an_lcS28_6 : an_lcs 2 16 28 6 = true := by decide +kernel
set_option maxRecDepth 100000 in
theorem an_lcS28_7 : an_lcs 2 16 28 7 = true := by decide +kernel
set_option maxRecDepth 100000 in
theorem an_lcS28_8 : an_lcs 2 16 28 8 = true := by decide +kernel
