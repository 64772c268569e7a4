set_option maxRecDepth 100000 in
theorem an_k282 : an_chk2 3000 282 = true := by decide +kernel
