set_option maxRecDepth 100000 in
theorem an_k48 : an_chk2 3000 48 = true := by decide +kernel
set_option maxRecDepth 100000 in
theorem an_k74 : an_chk2 3000 74 = true := by decide +kernel
set_option maxRecDepth 100000 in
theorem an_k77 : an_chk2 3000 77 = true := by decide +kernel
set_option maxRecDepth 100000 in
theorem an_k85 : an_chk2 3000 85 = true := by decide +kernel
set_option maxRecDepth 100000 in
theorem an_k86 : an_chk2 3000 86 = true := by decide +kernel
set_option maxRecDepth 100000 in
theorem an_k108 : an_chk2 3000 108 = true := by decide +kernel
set_option maxRecDepth 100000 in
theorem an_k115 : an_chk2 3000 115 = true := by decide +kernel
set_option maxRecDepth 100000 in
theorem an_k117 : an_chk2 3000 117 = true := by decide +kernel
set_option maxRecDepth 100000 in
theorem an_k135 : an_chk2 3000 135 = true := by decide +kernel
set_option maxRecDepth 100000 in
theorem an_k160 : an_chk2 3000 160 = true := by decide +kernel
set_option maxRecDepth 100000 in
theorem an_k177 : an_chk2 3000 177 = true := by decide +kernel
set_option maxRecDepth 100000 in
theorem an_k185 : an_chk2 3000 185 = true := by decide +kernel
set_option maxRecDepth 100000 in
theorem an_k194 : an_chk2 3000 194 = true := by decide +kernel
set_option maxRecDepth 100000 in
theorem an_k195 : an_chk2 3000 195 = true := by decide +kernel
set_option maxRecDepth 100000 in
theorem an_k210 : an_chk2 3000 210 = true := by decide +kernel
set_option maxRecDepth 100000 in
theorem an_k214 : an_chk2 3000 214 = true := by decide +kernel
set_option maxRecDepth 100000 in
theorem an_k220 : an_chk2 3000 220 = true := by decide +kernel
set_option maxRecDepth 100000 in
theorem an_k221 : an_chk2 3000 221 = true := by decide +kernel
set_option maxRecDepth 100000 in
theorem an_k229 : an_chk2 3000 229 = true := by decide +kernel
set_option maxRecDepth 100000 in
theorem an_k233 : an_chk2 3000 233 = true := by decide +kernel
set_option maxRecDepth 100000 in
theorem an_k247 : an_chk2 3000 247 = true := by decide +kernel
set_option maxRecDepth 100000 in
theorem an_k248 : an_chk2 3000 248 = true := by decide +kernel
set_option maxRecDepth 100000 in
theorem an_k250 : an_chk2 3000 250 = true := by decide +kernel
set_option maxRecDepth 100000 in
theorem an_k253 : an_chk2 3000 253 = true := by decide +kernel
set_option maxRecDepth 100000 in
theorem an_k265 : an_chk2 3000 265 = true := by decide +kernel
set_option maxRecDepth 100000 in
theorem an_k283 : an_chk2 3000 283 = true := by decide +kernel
set_option maxRecDepth 100000 in
theorem an_k288 : an_chk2 3000 288 = true := by decide +kernel
set_option maxRecDepth 100000 in
theorem an_k301 : an_chk2 3000 301 = true := by decide +kernel
set_option maxRecDepth 100000 in
theorem an_k311 : an_chk2 3000 311 = true := by decide +kernel
set_option maxRecDepth 100000 in
theorem an_k312 : an_chk2 3000 312 = true := by decide +kernel
set_option maxRecDepth 100000 in
theorem an_k315 : an_chk2 3000 315 = true := by decide +kernel
set_option maxRecDepth 100000 in
theorem an_k323 : an_chk2 3000 323 = true := by decide +kernel
set_option maxRecDepth 100000 in
theorem an_k324 : an_chk2 3000 324 = true := by decide +kernel
