set_option maxRecDepth 100000 in
theorem an_k28 : an_chk2 3000 28 = true := by decide +kernel
set_option maxRecDepth 100000 in
theorem an_k29 : an_chk2 3000 29 = true := by decide +kernel
set_option maxRecDepth 100000 in
theorem an_k58 : an_chk2 3000 58 = true := by decide +kernel
set_option maxRecDepth 100000 in
theorem an_k65 : an_chk2 3000 65 = true := by decide +kernel
set_option maxRecDepth 100000 in
theorem an_k78 : an_chk2 3000 78 = true := by decide +kernel
set_option maxRecDepth 100000 in
theorem an_k105 : an_chk2 3000 105 = true := by decide +kernel
set_option maxRecDepth 100000 in
theorem an_k130 : an_chk2 3000 130 = true := by decide +kernel
set_option maxRecDepth 100000 in
theorem an_k139 : an_chk2 3000 139 = true := by decide +kernel
set_option maxRecDepth 100000 in
theorem an_k150 : an_chk2 3000 150 = true := by decide +kernel
set_option maxRecDepth 100000 in
theorem an_k153 : an_chk2 3000 153 = true := by decide +kernel
set_option maxRecDepth 100000 in
theorem an_k163 : an_chk2 3000 163 = true := by decide +kernel
set_option maxRecDepth 100000 in
theorem an_k164 : an_chk2 3000 164 = true := by decide +kernel
set_option maxRecDepth 100000 in
theorem an_k173 : an_chk2 3000 173 = true := by decide +kernel
set_option maxRecDepth 100000 in
theorem an_k185 : an_chk2 3000 185 = true := by decide +kernel
set_option maxRecDepth 100000 in
theorem an_k220 : an_chk2 3000 220 = true := by decide +kernel
set_option maxRecDepth 100000 in
theorem an_k221 : an_chk2 3000 221 = true := by decide +kernel
set_option maxRecDepth 100000 in
theorem an_k223 : an_chk2 3000 223 = true := by decide +kernel
set_option maxRecDepth 100000 in
theorem an_k228 : an_chk2 3000 228 = true := by decide +kernel
set_option maxRecDepth 100000 in
theorem an_k231 : an_chk2 3000 231 = true := by decide +kernel
set_option maxRecDepth 100000 in
theorem an_k233 : an_chk2 3000 233 = true := by decide +kernel
set_option maxRecDepth 100000 in
theorem an_k234 : an_chk2 3000 234 = true := by decide +kernel
set_option maxRecDepth 100000 in
theorem an_k247 : an_chk2 3000 247 = true := by decide +kernel
set_option maxRecDepth 100000 in
theorem an_k250 : an_chk2 3000 250 = true := by decide +kernel
set_option maxRecDepth 100000 in
theorem an_k251 : an_chk2 3000 251 = true := by decide +kernel
set_option maxRecDepth 100000 in
theorem an_k254 : an_chk2 3000 254 = true := by decide +kernel
set_option maxRecDepth 100000 in
theorem an_k258 : an_chk2 3000 258 = true := by decide +kernel
set_option maxRecDepth 100000 in
theorem an_k261 : an_chk2 3000 261 = true := by decide +kernel
set_option maxRecDepth 100000 in
theorem an_k265 : an_chk2 3000 265 = true := by decide +kernel
set_option maxRecDepth 100000 in
theorem an_k272 : an_chk2 3000 272 = true := by decide +kernel
set_option maxRecDepth 100000 in
theorem an_k282 : an_chk2 3000 282 = true := by decide +kernel
set_option maxRecDepth 100000 in
theorem an_k304 : an_chk2 3000 304 = true := by decide +kernel
set_option maxRecDepth 100000 in
theorem an_k307 : an_chk2 3000 307 = true := by decide +kernel
set_option maxRecDepth 100000 in
theorem an_k325 : an_chk2 3000 325 = true := by decide +kernel
set_option maxRecDepth 100000 in
theorem an_k328 : an_chk2 3000 328 = true := by decide +kernel
