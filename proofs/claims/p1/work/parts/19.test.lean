theorem an_test0 : an_CT.length = 330 := by decide +kernel
