set_option maxRecDepth 100000 in
theorem an_lcS23_4 : an_lcs 1 4 23 4 = true := by decide +kernel
set_option maxRecDepth 100000 in
theorem an_lcS23_5 : an_lcs 1 4 23 5 = true := by decide +kernel
