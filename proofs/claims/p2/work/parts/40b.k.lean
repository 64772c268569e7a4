set_option maxRecDepth 100000 in
theorem an_k49 : an_chk2 3000 49 = true := by decide +kernel
set_option maxRecDepth 100000 in
theorem an_k51 : an_chk2 3000 51 = true := by decide +kernel
set_option maxRecDepth 100000 in
theorem an_k61 : an_chk2 3000 61 = true := by decide +kernel
set_option maxRecDepth 100000 in
theorem an_k66 : an_chk2 3000 66 = true := by decide +kernel
set_option maxRecDepth 100000 in
theorem an_k70 : an_chk2 3000 70 = true := by decide +kernel
set_option maxRecDepth 100000 in
theorem an_k76 : an_chk2 3000 76 = true := by decide +kernel
set_option maxRecDepth 100000 in
theorem an_k84 : an_chk2 3000 84 = true := by decide +kernel
set_option maxRecDepth 100000 in
theorem an_k86 : an_chk2 3000 86 = true := by decide +kernel
set_option maxRecDepth 100000 in
theorem an_k98 : an_chk2 3000 98 = true := by decide +kernel
set_option maxRecDepth 100000 in
theorem an_k103 : an_chk2 3000 103 = true := by decide +kernel
set_option maxRecDepth 100000 in
theorem an_k112 : an_chk2 3000 112 = true := by decide +kernel
set_option maxRecDepth 100000 in
theorem an_k129 : an_chk2 3000 129 = true := by decide +kernel
set_option maxRecDepth 100000 in
theorem an_k135 : an_chk2 3000 135 = true := by decide +kernel
set_option maxRecDepth 100000 in
theorem an_k138 : an_chk2 3000 138 = true := by decide +kernel
set_option maxRecDepth 100000 in
theorem an_k144 : an_chk2 3000 144 = true := by decide +kernel
set_option maxRecDepth 100000 in
theorem an_k148 : an_chk2 3000 148 = true := by decide +kernel
set_option maxRecDepth 100000 in
theorem an_k162 : an_chk2 3000 162 = true := by decide +kernel
set_option maxRecDepth 100000 in
theorem an_k182 : an_chk2 3000 182 = true := by decide +kernel
set_option maxRecDepth 100000 in
theorem an_k186 : an_chk2 3000 186 = true := by decide +kernel
set_option maxRecDepth 100000 in
theorem an_k194 : an_chk2 3000 194 = true := by decide +kernel
set_option maxRecDepth 100000 in
theorem an_k210 : an_chk2 3000 210 = true := by decide +kernel
set_option maxRecDepth 100000 in
theorem an_k214 : an_chk2 3000 214 = true := by decide +kernel
set_option maxRecDepth 100000 in
theorem an_k227 : an_chk2 3000 227 = true := by decide +kernel
set_option maxRecDepth 100000 in
theorem an_k230 : an_chk2 3000 230 = true := by decide +kernel
set_option maxRecDepth 100000 in
theorem an_k244 : an_chk2 3000 244 = true := by decide +kernel
set_option maxRecDepth 100000 in
theorem an_k262 : an_chk2 3000 262 = true := by decide +kernel
set_option maxRecDepth 100000 in
theorem an_k273 : an_chk2 3000 273 = true := by decide +kernel
set_option maxRecDepth 100000 in
theorem an_k298 : an_chk2 3000 298 = true := by decide +kernel
set_option maxRecDepth 100000 in
theorem an_k301 : an_chk2 3000 301 = true := by decide +kernel
set_option maxRecDepth 100000 in
theorem an_k310 : an_chk2 3000 310 = true := by decide +kernel
set_option maxRecDepth 100000 in
theorem an_k312 : an_chk2 3000 312 = true := by decide +kernel
set_option maxRecDepth 100000 in
theorem an_k318 : an_chk2 3000 318 = true := by decide +kernel
set_option maxRecDepth 100000 in
theorem an_k326 : an_chk2 3000 326 = true := by decide +kernel
