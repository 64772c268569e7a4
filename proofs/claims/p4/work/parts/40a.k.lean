set_option maxRecDepth 100000 in
theorem an_k18 : an_chk2 3000 18 = true := by decide +kernel
set_option maxRecDepth 100000 in
theorem an_k28 : an_chk2 3000 28 = true := by decide +kernel
set_option maxRecDepth 100000 in
theorem an_k48 : an_chk2 3000 48 = true := by decide +kernel
set_option maxRecDepth 100000 in
theorem an_k63 : an_chk2 3000 63 = true := by decide +kernel
set_option maxRecDepth 100000 in
theorem an_k68 : an_chk2 3000 68 = true := by decide +kernel
set_option maxRecDepth 100000 in
theorem an_k84 : an_chk2 3000 84 = true := by decide +kernel
set_option maxRecDepth 100000 in
theorem an_k105 : an_chk2 3000 105 = true := by decide +kernel
set_option maxRecDepth 100000 in
theorem an_k113 : an_chk2 3000 113 = true := by decide +kernel
set_option maxRecDepth 100000 in
theorem an_k116 : an_chk2 3000 116 = true := by decide +kernel
set_option maxRecDepth 100000 in
theorem an_k123 : an_chk2 3000 123 = true := by decide +kernel
set_option maxRecDepth 100000 in
theorem an_k127 : an_chk2 3000 127 = true := by decide +kernel
set_option maxRecDepth 100000 in
theorem an_k131 : an_chk2 3000 131 = true := by decide +kernel
set_option maxRecDepth 100000 in
theorem an_k134 : an_chk2 3000 134 = true := by decide +kernel
set_option maxRecDepth 100000 in
theorem an_k136 : an_chk2 3000 136 = true := by decide +kernel
set_option maxRecDepth 100000 in
theorem an_k138 : an_chk2 3000 138 = true := by decide +kernel
set_option maxRecDepth 100000 in
theorem an_k145 : an_chk2 3000 145 = true := by decide +kernel
set_option maxRecDepth 100000 in
theorem an_k160 : an_chk2 3000 160 = true := by decide +kernel
set_option maxRecDepth 100000 in
theorem an_k164 : an_chk2 3000 164 = true := by decide +kernel
set_option maxRecDepth 100000 in
theorem an_k185 : an_chk2 3000 185 = true := by decide +kernel
set_option maxRecDepth 100000 in
theorem an_k206 : an_chk2 3000 206 = true := by decide +kernel
set_option maxRecDepth 100000 in
theorem an_k220 : an_chk2 3000 220 = true := by decide +kernel
set_option maxRecDepth 100000 in
theorem an_k239 : an_chk2 3000 239 = true := by decide +kernel
set_option maxRecDepth 100000 in
theorem an_k251 : an_chk2 3000 251 = true := by decide +kernel
set_option maxRecDepth 100000 in
theorem an_k254 : an_chk2 3000 254 = true := by decide +kernel
set_option maxRecDepth 100000 in
theorem an_k258 : an_chk2 3000 258 = true := by decide +kernel
set_option maxRecDepth 100000 in
theorem an_k269 : an_chk2 3000 269 = true := by decide +kernel
set_option maxRecDepth 100000 in
theorem an_k272 : an_chk2 3000 272 = true := by decide +kernel
set_option maxRecDepth 100000 in
theorem an_k290 : an_chk2 3000 290 = true := by decide +kernel
set_option maxRecDepth 100000 in
theorem an_k307 : an_chk2 3000 307 = true := by decide +kernel
set_option maxRecDepth 100000 in
theorem an_k325 : an_chk2 3000 325 = true := by decide +kernel
set_option maxRecDepth 100000 in
theorem an_k326 : an_chk2 3000 326 = true := by decide +kernel
set_option maxRecDepth 100000 in
theorem an_k327 : an_chk2 3000 327 = true := by decide +kernel
set_option maxRecDepth 100000 in
theorem an_k328 : an_chk2 3000 328 = true := by decide +kernel
