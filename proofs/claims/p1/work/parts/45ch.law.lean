set_option maxRecDepth 100000 in
theorem an_lcS28_9 : an_lcs 2 16 28 9 = true := by decide +kernel
set_option maxRecDepth 100000 in
theorem an_lcS28_10 : an_lcs 2 16 28 10 = true := by decide +kernel
set_option maxRecDepth 100000 in
theorem an_lcS28_11 : an_lcs 2 16 28 11 = true := by decide +kernel
set_option maxRecDepth 100000 in
theorem an_lcS28_12 : an_lcs 2 16 28 12 = true := by decide +kernel
