theorem an_test4 : an_chk 3000 84 = true := by decide +kernel
theorem an_test5 : an_chk 3000 300 = true := by decide +kernel
theorem an_test6 : an_chk 3000 304 = true := by decide +kernel
theorem an_test7 : an_chk 3000 236 = true := by decide +kernel
theorem an_test8 : an_chk 3000 194 = true := by decide +kernel
theorem an_test9 : an_chk 3000 30 = true := by decide +kernel
theorem an_test10 : an_chk 3000 131 = true := by decide +kernel
