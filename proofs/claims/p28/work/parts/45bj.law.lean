set_option maxRecDepth 100000 in
theorem an_lcS3_1 : an_lcs 3 1 = true := by decide +kernel
