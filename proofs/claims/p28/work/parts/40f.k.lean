set_option maxRecDepth 100000 in
theorem an_k29 : an_chk2 3000 29 = true := by decide +kernel
set_option maxRecDepth 100000 in
theorem an_k61 : an_chk2 3000 61 = true := by decide +kernel
set_option maxRecDepth 100000 in
theorem an_k84 : an_chk2 3000 84 = true := by decide +kernel
set_option maxRecDepth 100000 in
theorem an_k90 : an_chk2 3000 90 = true := by decide +kernel
set_option maxRecDepth 100000 in
theorem an_k91 : an_chk2 3000 91 = true := by decide +kernel
set_option maxRecDepth 100000 in
theorem an_k106 : an_chk2 3000 106 = true := by decide +kernel
set_option maxRecDepth 100000 in
theorem an_k107 : an_chk2 3000 107 = true := by decide +kernel
set_option maxRecDepth 100000 in
theorem an_k112 : an_chk2 3000 112 = true := by decide +kernel
set_option maxRecDepth 100000 in
theorem an_k116 : an_chk2 3000 116 = true := by decide +kernel
set_option maxRecDepth 100000 in
theorem an_k122 : an_chk2 3000 122 = true := by decide +kernel
set_option maxRecDepth 100000 in
theorem an_k129 : an_chk2 3000 129 = true := by decide +kernel
set_option maxRecDepth 100000 in
theorem an_k131 : an_chk2 3000 131 = true := by decide +kernel
set_option maxRecDepth 100000 in
theorem an_k138 : an_chk2 3000 138 = true := by decide +kernel
set_option maxRecDepth 100000 in
theorem an_k141 : an_chk2 3000 141 = true := by decide +kernel
set_option maxRecDepth 100000 in
theorem an_k154 : an_chk2 3000 154 = true := by decide +kernel
set_option maxRecDepth 100000 in
theorem an_k174 : an_chk2 3000 174 = true := by decide +kernel
set_option maxRecDepth 100000 in
theorem an_k178 : an_chk2 3000 178 = true := by decide +kernel
set_option maxRecDepth 100000 in
theorem an_k185 : an_chk2 3000 185 = true := by decide +kernel
set_option maxRecDepth 100000 in
theorem an_k198 : an_chk2 3000 198 = true := by decide +kernel
set_option maxRecDepth 100000 in
theorem an_k214 : an_chk2 3000 214 = true := by decide +kernel
set_option maxRecDepth 100000 in
theorem an_k220 : an_chk2 3000 220 = true := by decide +kernel
set_option maxRecDepth 100000 in
theorem an_k239 : an_chk2 3000 239 = true := by decide +kernel
set_option maxRecDepth 100000 in
theorem an_k242 : an_chk2 3000 242 = true := by decide +kernel
set_option maxRecDepth 100000 in
theorem an_k251 : an_chk2 3000 251 = true := by decide +kernel
set_option maxRecDepth 100000 in
theorem an_k259 : an_chk2 3000 259 = true := by decide +kernel
set_option maxRecDepth 100000 in
theorem an_k272 : an_chk2 3000 272 = true := by decide +kernel
set_option maxRecDepth 100000 in
theorem an_k277 : an_chk2 3000 277 = true := by decide +kernel
set_option maxRecDepth 100000 in
theorem an_k282 : an_chk2 3000 282 = true := by decide +kernel
set_option maxRecDepth 100000 in
theorem an_k288 : an_chk2 3000 288 = true := by decide +kernel
set_option maxRecDepth 100000 in
theorem an_k290 : an_chk2 3000 290 = true := by decide +kernel
set_option maxRecDepth 100000 in
theorem an_k302 : an_chk2 3000 302 = true := by decide +kernel
set_option maxRecDepth 100000 in
theorem an_k304 : an_chk2 3000 304 = true := by decide +kernel
set_option maxRecDepth 100000 in
theorem an_k327 : an_chk2 3000 327 = true := by decide +kernel
