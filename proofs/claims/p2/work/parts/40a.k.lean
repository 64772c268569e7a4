set_option maxRecDepth 100000 in
theorem an_k27 : an_chk2 3000 27 = true := by decide +kernel
set_option maxRecDepth 100000 in
theorem an_k62 : an_chk2 3000 62 = true := by decide +kernel
set_option maxRecDepth 100000 in
theorem an_k95 : an_chk2 3000 95 = true := by decide +kernel
set_option maxRecDepth 100000 in
theorem an_k115 : an_chk2 3000 115 = true := by decide +kernel
set_option maxRecDepth 100000 in
theorem an_k116 : an_chk2 3000 116 = true := by decide +kernel
set_option maxRecDepth 100000 in
theorem an_k126 : an_chk2 3000 126 = true := by decide +kernel
set_option maxRecDepth 100000 in
theorem an_k131 : an_chk2 3000 131 = true := by decide +kernel
set_option maxRecDepth 100000 in
theorem an_k145 : an_chk2 3000 145 = true := by decide +kernel
set_option maxRecDepth 100000 in
theorem an_k146 : an_chk2 3000 146 = true := by decide +kernel
set_option maxRecDepth 100000 in
theorem an_k149 : an_chk2 3000 149 = true := by decide +kernel
set_option maxRecDepth 100000 in
theorem an_k159 : an_chk2 3000 159 = true := by decide +kernel
set_option maxRecDepth 100000 in
theorem an_k195 : an_chk2 3000 195 = true := by decide +kernel
set_option maxRecDepth 100000 in
theorem an_k199 : an_chk2 3000 199 = true := by decide +kernel
set_option maxRecDepth 100000 in
theorem an_k206 : an_chk2 3000 206 = true := by decide +kernel
set_option maxRecDepth 100000 in
theorem an_k229 : an_chk2 3000 229 = true := by decide +kernel
set_option maxRecDepth 100000 in
theorem an_k235 : an_chk2 3000 235 = true := by decide +kernel
set_option maxRecDepth 100000 in
theorem an_k236 : an_chk2 3000 236 = true := by decide +kernel
set_option maxRecDepth 100000 in
theorem an_k245 : an_chk2 3000 245 = true := by decide +kernel
set_option maxRecDepth 100000 in
theorem an_k248 : an_chk2 3000 248 = true := by decide +kernel
set_option maxRecDepth 100000 in
theorem an_k249 : an_chk2 3000 249 = true := by decide +kernel
set_option maxRecDepth 100000 in
theorem an_k253 : an_chk2 3000 253 = true := by decide +kernel
set_option maxRecDepth 100000 in
theorem an_k271 : an_chk2 3000 271 = true := by decide +kernel
set_option maxRecDepth 100000 in
theorem an_k275 : an_chk2 3000 275 = true := by decide +kernel
set_option maxRecDepth 100000 in
theorem an_k278 : an_chk2 3000 278 = true := by decide +kernel
set_option maxRecDepth 100000 in
theorem an_k279 : an_chk2 3000 279 = true := by decide +kernel
set_option maxRecDepth 100000 in
theorem an_k287 : an_chk2 3000 287 = true := by decide +kernel
set_option maxRecDepth 100000 in
theorem an_k289 : an_chk2 3000 289 = true := by decide +kernel
set_option maxRecDepth 100000 in
theorem an_k292 : an_chk2 3000 292 = true := by decide +kernel
set_option maxRecDepth 100000 in
theorem an_k293 : an_chk2 3000 293 = true := by decide +kernel
set_option maxRecDepth 100000 in
theorem an_k296 : an_chk2 3000 296 = true := by decide +kernel
set_option maxRecDepth 100000 in
theorem an_k311 : an_chk2 3000 311 = true := by decide +kernel
set_option maxRecDepth 100000 in
theorem an_k314 : an_chk2 3000 314 = true := by decide +kernel
set_option maxRecDepth 100000 in
theorem an_k319 : an_chk2 3000 319 = true := by decide +kernel
set_option maxRecDepth 100000 in
theorem an_k327 : an_chk2 3000 327 = true := by decide +kernel
