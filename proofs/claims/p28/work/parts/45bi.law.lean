set_option maxRecDepth 100000 in
theorem an_lcS3_0 : an_lcs 3 0 = true := by decide +kernel
set_option maxRecDepth 100000 in
theorem an_lcS3_5 : an_lcs 3 5 = true := by decide +kernel
