set_option maxRecDepth 100000 in
theorem an_k35 : an_chk2 3000 35 = true := by decide +kernel
set_option maxRecDepth 100000 in
theorem an_k42 : an_chk2 3000 42 = true := by decide +kernel
set_option maxRecDepth 100000 in
theorem an_k50 : an_chk2 3000 50 = true := by decide +kernel
set_option maxRecDepth 100000 in
theorem an_k57 : an_chk2 3000 57 = true := by decide +kernel
set_option maxRecDepth 100000 in
theorem an_k62 : an_chk2 3000 62 = true := by decide +kernel
set_option maxRecDepth 100000 in
theorem an_k63 : an_chk2 3000 63 = true := by decide +kernel
set_option maxRecDepth 100000 in
theorem an_k67 : an_chk2 3000 67 = true := by decide +kernel
set_option maxRecDepth 100000 in
theorem an_k97 : an_chk2 3000 97 = true := by decide +kernel
set_option maxRecDepth 100000 in
theorem an_k98 : an_chk2 3000 98 = true := by decide +kernel
set_option maxRecDepth 100000 in
theorem an_k104 : an_chk2 3000 104 = true := by decide +kernel
set_option maxRecDepth 100000 in
theorem an_k112 : an_chk2 3000 112 = true := by decide +kernel
set_option maxRecDepth 100000 in
theorem an_k115 : an_chk2 3000 115 = true := by decide +kernel
set_option maxRecDepth 100000 in
theorem an_k126 : an_chk2 3000 126 = true := by decide +kernel
set_option maxRecDepth 100000 in
theorem an_k133 : an_chk2 3000 133 = true := by decide +kernel
set_option maxRecDepth 100000 in
theorem an_k135 : an_chk2 3000 135 = true := by decide +kernel
set_option maxRecDepth 100000 in
theorem an_k138 : an_chk2 3000 138 = true := by decide +kernel
set_option maxRecDepth 100000 in
theorem an_k152 : an_chk2 3000 152 = true := by decide +kernel
set_option maxRecDepth 100000 in
theorem an_k156 : an_chk2 3000 156 = true := by decide +kernel
set_option maxRecDepth 100000 in
theorem an_k159 : an_chk2 3000 159 = true := by decide +kernel
set_option maxRecDepth 100000 in
theorem an_k160 : an_chk2 3000 160 = true := by decide +kernel
set_option maxRecDepth 100000 in
theorem an_k163 : an_chk2 3000 163 = true := by decide +kernel
set_option maxRecDepth 100000 in
theorem an_k178 : an_chk2 3000 178 = true := by decide +kernel
set_option maxRecDepth 100000 in
theorem an_k180 : an_chk2 3000 180 = true := by decide +kernel
set_option maxRecDepth 100000 in
theorem an_k183 : an_chk2 3000 183 = true := by decide +kernel
set_option maxRecDepth 100000 in
theorem an_k194 : an_chk2 3000 194 = true := by decide +kernel
set_option maxRecDepth 100000 in
theorem an_k210 : an_chk2 3000 210 = true := by decide +kernel
set_option maxRecDepth 100000 in
theorem an_k221 : an_chk2 3000 221 = true := by decide +kernel
set_option maxRecDepth 100000 in
theorem an_k224 : an_chk2 3000 224 = true := by decide +kernel
set_option maxRecDepth 100000 in
theorem an_k229 : an_chk2 3000 229 = true := by decide +kernel
set_option maxRecDepth 100000 in
theorem an_k239 : an_chk2 3000 239 = true := by decide +kernel
set_option maxRecDepth 100000 in
theorem an_k269 : an_chk2 3000 269 = true := by decide +kernel
set_option maxRecDepth 100000 in
theorem an_k281 : an_chk2 3000 281 = true := by decide +kernel
set_option maxRecDepth 100000 in
theorem an_k288 : an_chk2 3000 288 = true := by decide +kernel
set_option maxRecDepth 100000 in
theorem an_k325 : an_chk2 3000 325 = true := by decide +kernel
