set_option maxRecDepth 100000 in
theorem an_lcS28_13 : an_lcs 2 16 28 13 = true := by decide +kernel
set_option maxRecDepth 100000 in
theorem an_lcS28_14 : an_lcs 2 16 28 14 = true := by decide +kernel
set_option maxRecDepth 100000 in
theorem an_lcS28_15 : an_lcs 2 16 28 15 = true := by decide +kernel
set_option maxRecDepth 100000 in
theorem an_lcS28_16 : an_lcs 2 16 28 16 = true := by decide +kernel
set_option maxRecDepth 100000 in
theorem an_lcS28_17 : an_lcs 2 16 28 17 = true := by decide +kernel
