set_option maxRecDepth 100000 in
theorem an_k53 : an_chk2 3000 53 = true := by decide +kernel
set_option maxRecDepth 100000 in
theorem an_k68 : an_chk2 3000 68 = true := by decide +kernel
set_option maxRecDepth 100000 in
theorem an_k69 : an_chk2 3000 69 = true := by decide +kernel
set_option maxRecDepth 100000 in
theorem an_k73 : an_chk2 3000 73 = true := by decide +kernel
set_option maxRecDepth 100000 in
theorem an_k100 : an_chk2 3000 100 = true := by decide +kernel
set_option maxRecDepth 100000 in
theorem an_k101 : an_chk2 3000 101 = true := by decide +kernel
set_option maxRecDepth 100000 in
theorem an_k102 : an_chk2 3000 102 = true := by decide +kernel
set_option maxRecDepth 100000 in
theorem an_k107 : an_chk2 3000 107 = true := by decide +kernel
set_option maxRecDepth 100000 in
theorem an_k121 : an_chk2 3000 121 = true := by decide +kernel
set_option maxRecDepth 100000 in
theorem an_k127 : an_chk2 3000 127 = true := by decide +kernel
set_option maxRecDepth 100000 in
theorem an_k133 : an_chk2 3000 133 = true := by decide +kernel
set_option maxRecDepth 100000 in
theorem an_k137 : an_chk2 3000 137 = true := by decide +kernel
set_option maxRecDepth 100000 in
theorem an_k155 : an_chk2 3000 155 = true := by decide +kernel
set_option maxRecDepth 100000 in
theorem an_k157 : an_chk2 3000 157 = true := by decide +kernel
set_option maxRecDepth 100000 in
theorem an_k181 : an_chk2 3000 181 = true := by decide +kernel
set_option maxRecDepth 100000 in
theorem an_k184 : an_chk2 3000 184 = true := by decide +kernel
set_option maxRecDepth 100000 in
theorem an_k197 : an_chk2 3000 197 = true := by decide +kernel
set_option maxRecDepth 100000 in
theorem an_k211 : an_chk2 3000 211 = true := by decide +kernel
set_option maxRecDepth 100000 in
theorem an_k218 : an_chk2 3000 218 = true := by decide +kernel
set_option maxRecDepth 100000 in
theorem an_k239 : an_chk2 3000 239 = true := by decide +kernel
set_option maxRecDepth 100000 in
theorem an_k257 : an_chk2 3000 257 = true := by decide +kernel
set_option maxRecDepth 100000 in
theorem an_k260 : an_chk2 3000 260 = true := by decide +kernel
set_option maxRecDepth 100000 in
theorem an_k269 : an_chk2 3000 269 = true := by decide +kernel
set_option maxRecDepth 100000 in
theorem an_k277 : an_chk2 3000 277 = true := by decide +kernel
set_option maxRecDepth 100000 in
theorem an_k280 : an_chk2 3000 280 = true := by decide +kernel
set_option maxRecDepth 100000 in
theorem an_k288 : an_chk2 3000 288 = true := by decide +kernel
set_option maxRecDepth 100000 in
theorem an_k291 : an_chk2 3000 291 = true := by decide +kernel
set_option maxRecDepth 100000 in
theorem an_k297 : an_chk2 3000 297 = true := by decide +kernel
set_option maxRecDepth 100000 in
theorem an_k302 : an_chk2 3000 302 = true := by decide +kernel
set_option maxRecDepth 100000 in
theorem an_k305 : an_chk2 3000 305 = true := by decide +kernel
set_option maxRecDepth 100000 in
theorem an_k308 : an_chk2 3000 308 = true := by decide +kernel
set_option maxRecDepth 100000 in
theorem an_k315 : an_chk2 3000 315 = true := by decide +kernel
set_option maxRecDepth 100000 in
theorem an_k320 : an_chk2 3000 320 = true := by decide +kernel
set_option maxRecDepth 100000 in
theorem an_k323 : an_chk2 3000 323 = true := by decide +kernel
