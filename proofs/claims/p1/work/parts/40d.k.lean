set_option maxRecDepth 100000 in
theorem an_k283 : an_chk2 3000 283 = true := by decide +kernel
