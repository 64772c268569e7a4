set_option maxRecDepth 100000 in
theorem an_lcS3_4 : an_lcs 3 4 = true := by decide +kernel
