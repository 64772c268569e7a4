set_option maxRecDepth 100000 in
theorem an_k27 : an_chk2 3000 27 = true := by decide +kernel
set_option maxRecDepth 100000 in
theorem an_k76 : an_chk2 3000 76 = true := by decide +kernel
set_option maxRecDepth 100000 in
theorem an_k83 : an_chk2 3000 83 = true := by decide +kernel
set_option maxRecDepth 100000 in
theorem an_k90 : an_chk2 3000 90 = true := by decide +kernel
set_option maxRecDepth 100000 in
theorem an_k109 : an_chk2 3000 109 = true := by decide +kernel
set_option maxRecDepth 100000 in
theorem an_k116 : an_chk2 3000 116 = true := by decide +kernel
set_option maxRecDepth 100000 in
theorem an_k121 : an_chk2 3000 121 = true := by decide +kernel
set_option maxRecDepth 100000 in
theorem an_k122 : an_chk2 3000 122 = true := by decide +kernel
set_option maxRecDepth 100000 in
theorem an_k132 : an_chk2 3000 132 = true := by decide +kernel
set_option maxRecDepth 100000 in
theorem an_k141 : an_chk2 3000 141 = true := by decide +kernel
set_option maxRecDepth 100000 in
theorem an_k143 : an_chk2 3000 143 = true := by decide +kernel
set_option maxRecDepth 100000 in
theorem an_k144 : an_chk2 3000 144 = true := by decide +kernel
set_option maxRecDepth 100000 in
theorem an_k164 : an_chk2 3000 164 = true := by decide +kernel
set_option maxRecDepth 100000 in
theorem an_k174 : an_chk2 3000 174 = true := by decide +kernel
set_option maxRecDepth 100000 in
theorem an_k196 : an_chk2 3000 196 = true := by decide +kernel
set_option maxRecDepth 100000 in
theorem an_k217 : an_chk2 3000 217 = true := by decide +kernel
set_option maxRecDepth 100000 in
theorem an_k219 : an_chk2 3000 219 = true := by decide +kernel
set_option maxRecDepth 100000 in
theorem an_k220 : an_chk2 3000 220 = true := by decide +kernel
set_option maxRecDepth 100000 in
theorem an_k230 : an_chk2 3000 230 = true := by decide +kernel
set_option maxRecDepth 100000 in
theorem an_k233 : an_chk2 3000 233 = true := by decide +kernel
set_option maxRecDepth 100000 in
theorem an_k234 : an_chk2 3000 234 = true := by decide +kernel
set_option maxRecDepth 100000 in
theorem an_k238 : an_chk2 3000 238 = true := by decide +kernel
set_option maxRecDepth 100000 in
theorem an_k244 : an_chk2 3000 244 = true := by decide +kernel
set_option maxRecDepth 100000 in
theorem an_k247 : an_chk2 3000 247 = true := by decide +kernel
set_option maxRecDepth 100000 in
theorem an_k251 : an_chk2 3000 251 = true := by decide +kernel
set_option maxRecDepth 100000 in
theorem an_k259 : an_chk2 3000 259 = true := by decide +kernel
set_option maxRecDepth 100000 in
theorem an_k260 : an_chk2 3000 260 = true := by decide +kernel
set_option maxRecDepth 100000 in
theorem an_k265 : an_chk2 3000 265 = true := by decide +kernel
set_option maxRecDepth 100000 in
theorem an_k285 : an_chk2 3000 285 = true := by decide +kernel
set_option maxRecDepth 100000 in
theorem an_k286 : an_chk2 3000 286 = true := by decide +kernel
set_option maxRecDepth 100000 in
theorem an_k309 : an_chk2 3000 309 = true := by decide +kernel
set_option maxRecDepth 100000 in
theorem an_k318 : an_chk2 3000 318 = true := by decide +kernel
set_option maxRecDepth 100000 in
theorem an_k326 : an_chk2 3000 326 = true := by decide +kernel
set_option maxRecDepth 100000 in
theorem an_k328 : an_chk2 3000 328 = true := by decide +kernel
