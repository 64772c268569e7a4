set_option maxRecDepth 100000 in
theorem an_k27 : an_chk2 3000 27 = true := by decide +kernel
set_option maxRecDepth 100000 in
theorem an_k42 : an_chk2 3000 42 = true := by decide +kernel
set_option maxRecDepth 100000 in
theorem an_k48 : an_chk2 3000 48 = true := by decide +kernel
set_option maxRecDepth 100000 in
theorem an_k50 : an_chk2 3000 50 = true := by decide +kernel
set_option maxRecDepth 100000 in
theorem an_k84 : an_chk2 3000 84 = true := by decide +kernel
set_option maxRecDepth 100000 in
theorem an_k86 : an_chk2 3000 86 = true := by decide +kernel
set_option maxRecDepth 100000 in
theorem an_k110 : an_chk2 3000 110 = true := by decide +kernel
set_option maxRecDepth 100000 in
theorem an_k117 : an_chk2 3000 117 = true := by decide +kernel
set_option maxRecDepth 100000 in
theorem an_k122 : an_chk2 3000 122 = true := by decide +kernel
set_option maxRecDepth 100000 in
theorem an_k138 : an_chk2 3000 138 = true := by decide +kernel
set_option maxRecDepth 100000 in
theorem an_k144 : an_chk2 3000 144 = true := by decide +kernel
set_option maxRecDepth 100000 in
theorem an_k160 : an_chk2 3000 160 = true := by decide +kernel
set_option maxRecDepth 100000 in
theorem an_k191 : an_chk2 3000 191 = true := by decide +kernel
set_option maxRecDepth 100000 in
theorem an_k192 : an_chk2 3000 192 = true := by decide +kernel
set_option maxRecDepth 100000 in
theorem an_k221 : an_chk2 3000 221 = true := by decide +kernel
set_option maxRecDepth 100000 in
theorem an_k222 : an_chk2 3000 222 = true := by decide +kernel
set_option maxRecDepth 100000 in
theorem an_k231 : an_chk2 3000 231 = true := by decide +kernel
set_option maxRecDepth 100000 in
theorem an_k236 : an_chk2 3000 236 = true := by decide +kernel
set_option maxRecDepth 100000 in
theorem an_k239 : an_chk2 3000 239 = true := by decide +kernel
set_option maxRecDepth 100000 in
theorem an_k242 : an_chk2 3000 242 = true := by decide +kernel
set_option maxRecDepth 100000 in
theorem an_k248 : an_chk2 3000 248 = true := by decide +kernel
set_option maxRecDepth 100000 in
theorem an_k252 : an_chk2 3000 252 = true := by decide +kernel
set_option maxRecDepth 100000 in
theorem an_k253 : an_chk2 3000 253 = true := by decide +kernel
set_option maxRecDepth 100000 in
theorem an_k254 : an_chk2 3000 254 = true := by decide +kernel
set_option maxRecDepth 100000 in
theorem an_k257 : an_chk2 3000 257 = true := by decide +kernel
set_option maxRecDepth 100000 in
theorem an_k266 : an_chk2 3000 266 = true := by decide +kernel
set_option maxRecDepth 100000 in
theorem an_k272 : an_chk2 3000 272 = true := by decide +kernel
set_option maxRecDepth 100000 in
theorem an_k276 : an_chk2 3000 276 = true := by decide +kernel
set_option maxRecDepth 100000 in
theorem an_k282 : an_chk2 3000 282 = true := by decide +kernel
set_option maxRecDepth 100000 in
theorem an_k287 : an_chk2 3000 287 = true := by decide +kernel
set_option maxRecDepth 100000 in
theorem an_k292 : an_chk2 3000 292 = true := by decide +kernel
set_option maxRecDepth 100000 in
theorem an_k319 : an_chk2 3000 319 = true := by decide +kernel
set_option maxRecDepth 100000 in
theorem an_k326 : an_chk2 3000 326 = true := by decide +kernel
set_option maxRecDepth 100000 in
theorem an_k327 : an_chk2 3000 327 = true := by decide +kernel
