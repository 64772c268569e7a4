set_option maxRecDepth 100000 in
theorem an_lcS3_3 : an_lcs 3 3 = true := by decide +kernel
