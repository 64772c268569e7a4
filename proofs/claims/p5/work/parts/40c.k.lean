set_option maxRecDepth 100000 in
theorem an_k36 : an_chk2 3000 36 = true := by decide +kernel
set_option maxRecDepth 100000 in
theorem an_k76 : an_chk2 3000 76 = true := by decide +kernel
set_option maxRecDepth 100000 in
theorem an_k85 : an_chk2 3000 85 = true := by decide +kernel
set_option maxRecDepth 100000 in
theorem an_k91 : an_chk2 3000 91 = true := by decide +kernel
set_option maxRecDepth 100000 in
theorem an_k93 : an_chk2 3000 93 = true := by decide +kernel
set_option maxRecDepth 100000 in
theorem an_k95 : an_chk2 3000 95 = true := by decide +kernel
set_option maxRecDepth 100000 in
theorem an_k100 : an_chk2 3000 100 = true := by decide +kernel
set_option maxRecDepth 100000 in
theorem an_k101 : an_chk2 3000 101 = true := by decide +kernel
set_option maxRecDepth 100000 in
theorem an_k102 : an_chk2 3000 102 = true := by decide +kernel
set_option maxRecDepth 100000 in
theorem an_k122 : an_chk2 3000 122 = true := by decide +kernel
set_option maxRecDepth 100000 in
theorem an_k126 : an_chk2 3000 126 = true := by decide +kernel
set_option maxRecDepth 100000 in
theorem an_k139 : an_chk2 3000 139 = true := by decide +kernel
set_option maxRecDepth 100000 in
theorem an_k147 : an_chk2 3000 147 = true := by decide +kernel
set_option maxRecDepth 100000 in
theorem an_k160 : an_chk2 3000 160 = true := by decide +kernel
set_option maxRecDepth 100000 in
theorem an_k164 : an_chk2 3000 164 = true := by decide +kernel
set_option maxRecDepth 100000 in
theorem an_k175 : an_chk2 3000 175 = true := by decide +kernel
set_option maxRecDepth 100000 in
theorem an_k197 : an_chk2 3000 197 = true := by decide +kernel
set_option maxRecDepth 100000 in
theorem an_k198 : an_chk2 3000 198 = true := by decide +kernel
set_option maxRecDepth 100000 in
theorem an_k199 : an_chk2 3000 199 = true := by decide +kernel
set_option maxRecDepth 100000 in
theorem an_k215 : an_chk2 3000 215 = true := by decide +kernel
set_option maxRecDepth 100000 in
theorem an_k218 : an_chk2 3000 218 = true := by decide +kernel
set_option maxRecDepth 100000 in
theorem an_k231 : an_chk2 3000 231 = true := by decide +kernel
set_option maxRecDepth 100000 in
theorem an_k260 : an_chk2 3000 260 = true := by decide +kernel
set_option maxRecDepth 100000 in
theorem an_k261 : an_chk2 3000 261 = true := by decide +kernel
set_option maxRecDepth 100000 in
theorem an_k272 : an_chk2 3000 272 = true := by decide +kernel
set_option maxRecDepth 100000 in
theorem an_k282 : an_chk2 3000 282 = true := by decide +kernel
set_option maxRecDepth 100000 in
theorem an_k286 : an_chk2 3000 286 = true := by decide +kernel
set_option maxRecDepth 100000 in
theorem an_k288 : an_chk2 3000 288 = true := by decide +kernel
set_option maxRecDepth 100000 in
theorem an_k291 : an_chk2 3000 291 = true := by decide +kernel
set_option maxRecDepth 100000 in
theorem an_k300 : an_chk2 3000 300 = true := by decide +kernel
set_option maxRecDepth 100000 in
theorem an_k302 : an_chk2 3000 302 = true := by decide +kernel
set_option maxRecDepth 100000 in
theorem an_k310 : an_chk2 3000 310 = true := by decide +kernel
set_option maxRecDepth 100000 in
theorem an_k317 : an_chk2 3000 317 = true := by decide +kernel
set_option maxRecDepth 100000 in
theorem an_k320 : an_chk2 3000 320 = true := by decide +kernel
