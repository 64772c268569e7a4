set_option maxRecDepth 100000 in
theorem an_k30 : an_chk2 3000 30 = true := by decide +kernel
set_option maxRecDepth 100000 in
theorem an_k36 : an_chk2 3000 36 = true := by decide +kernel
set_option maxRecDepth 100000 in
theorem an_k42 : an_chk2 3000 42 = true := by decide +kernel
set_option maxRecDepth 100000 in
theorem an_k98 : an_chk2 3000 98 = true := by decide +kernel
set_option maxRecDepth 100000 in
theorem an_k99 : an_chk2 3000 99 = true := by decide +kernel
set_option maxRecDepth 100000 in
theorem an_k110 : an_chk2 3000 110 = true := by decide +kernel
set_option maxRecDepth 100000 in
theorem an_k126 : an_chk2 3000 126 = true := by decide +kernel
set_option maxRecDepth 100000 in
theorem an_k135 : an_chk2 3000 135 = true := by decide +kernel
set_option maxRecDepth 100000 in
theorem an_k139 : an_chk2 3000 139 = true := by decide +kernel
set_option maxRecDepth 100000 in
theorem an_k147 : an_chk2 3000 147 = true := by decide +kernel
set_option maxRecDepth 100000 in
theorem an_k148 : an_chk2 3000 148 = true := by decide +kernel
set_option maxRecDepth 100000 in
theorem an_k149 : an_chk2 3000 149 = true := by decide +kernel
set_option maxRecDepth 100000 in
theorem an_k160 : an_chk2 3000 160 = true := by decide +kernel
set_option maxRecDepth 100000 in
theorem an_k162 : an_chk2 3000 162 = true := by decide +kernel
set_option maxRecDepth 100000 in
theorem an_k163 : an_chk2 3000 163 = true := by decide +kernel
set_option maxRecDepth 100000 in
theorem an_k173 : an_chk2 3000 173 = true := by decide +kernel
set_option maxRecDepth 100000 in
theorem an_k192 : an_chk2 3000 192 = true := by decide +kernel
set_option maxRecDepth 100000 in
theorem an_k194 : an_chk2 3000 194 = true := by decide +kernel
set_option maxRecDepth 100000 in
theorem an_k198 : an_chk2 3000 198 = true := by decide +kernel
set_option maxRecDepth 100000 in
theorem an_k199 : an_chk2 3000 199 = true := by decide +kernel
set_option maxRecDepth 100000 in
theorem an_k222 : an_chk2 3000 222 = true := by decide +kernel
set_option maxRecDepth 100000 in
theorem an_k228 : an_chk2 3000 228 = true := by decide +kernel
set_option maxRecDepth 100000 in
theorem an_k233 : an_chk2 3000 233 = true := by decide +kernel
set_option maxRecDepth 100000 in
theorem an_k249 : an_chk2 3000 249 = true := by decide +kernel
set_option maxRecDepth 100000 in
theorem an_k250 : an_chk2 3000 250 = true := by decide +kernel
set_option maxRecDepth 100000 in
theorem an_k253 : an_chk2 3000 253 = true := by decide +kernel
set_option maxRecDepth 100000 in
theorem an_k259 : an_chk2 3000 259 = true := by decide +kernel
set_option maxRecDepth 100000 in
theorem an_k273 : an_chk2 3000 273 = true := by decide +kernel
set_option maxRecDepth 100000 in
theorem an_k276 : an_chk2 3000 276 = true := by decide +kernel
set_option maxRecDepth 100000 in
theorem an_k282 : an_chk2 3000 282 = true := by decide +kernel
set_option maxRecDepth 100000 in
theorem an_k300 : an_chk2 3000 300 = true := by decide +kernel
set_option maxRecDepth 100000 in
theorem an_k310 : an_chk2 3000 310 = true := by decide +kernel
set_option maxRecDepth 100000 in
theorem an_k315 : an_chk2 3000 315 = true := by decide +kernel
set_option maxRecDepth 100000 in
theorem an_k322 : an_chk2 3000 322 = true := by decide +kernel
