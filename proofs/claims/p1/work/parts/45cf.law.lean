set_option maxRecDepth 100000 in
theorem an_lcS28_0 : an_lcs 2 16 28 0 = true := by decide +kernel
set_option maxRecDepth 100000 in
theorem an_lcS28_1 : an_lcs 2 16 28 1 = true := by decide +kernel
set_option maxRecDepth 100000 in
theorem an_lcS28_2 : an_lcs 2 16 28 2 = true := by decide +kernel
set_option maxRecDepth 100000 in
theorem an_lcS28_3 : an_lcs 2 16 28 3 = true := by decide +kernel
set_option maxRecDepth 100000 in
theorem an_lcS28_4 : an_lcs 2 16 28 4 = true := by decide +kernel
