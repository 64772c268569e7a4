set_option maxRecDepth 100000 in
theorem an_k286 : an_chk2 3000 286 = true := by decide +kernel
