set_option maxRecDepth 100000 in
theorem an_t1 : an_chk 3000 143 = true := by decide +kernel
