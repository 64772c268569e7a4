set_option maxRecDepth 100000 in
theorem an_lcS3_2 : an_lcs 3 2 = true := by decide +kernel
