set_option maxRecDepth 100000 in
theorem an_k35 : an_chk2 3000 35 = true := by decide +kernel
set_option maxRecDepth 100000 in
theorem an_k62 : an_chk2 3000 62 = true := by decide +kernel
set_option maxRecDepth 100000 in
theorem an_k69 : an_chk2 3000 69 = true := by decide +kernel
set_option maxRecDepth 100000 in
theorem an_k70 : an_chk2 3000 70 = true := by decide +kernel
set_option maxRecDepth 100000 in
theorem an_k72 : an_chk2 3000 72 = true := by decide +kernel
set_option maxRecDepth 100000 in
theorem an_k80 : an_chk2 3000 80 = true := by decide +kernel
set_option maxRecDepth 100000 in
theorem an_k103 : an_chk2 3000 103 = true := by decide +kernel
set_option maxRecDepth 100000 in
theorem an_k112 : an_chk2 3000 112 = true := by decide +kernel
set_option maxRecDepth 100000 in
theorem an_k114 : an_chk2 3000 114 = true := by decide +kernel
set_option maxRecDepth 100000 in
theorem an_k122 : an_chk2 3000 122 = true := by decide +kernel
set_option maxRecDepth 100000 in
theorem an_k129 : an_chk2 3000 129 = true := by decide +kernel
set_option maxRecDepth 100000 in
theorem an_k132 : an_chk2 3000 132 = true := by decide +kernel
set_option maxRecDepth 100000 in
theorem an_k143 : an_chk2 3000 143 = true := by decide +kernel
set_option maxRecDepth 100000 in
theorem an_k176 : an_chk2 3000 176 = true := by decide +kernel
set_option maxRecDepth 100000 in
theorem an_k182 : an_chk2 3000 182 = true := by decide +kernel
set_option maxRecDepth 100000 in
theorem an_k184 : an_chk2 3000 184 = true := by decide +kernel
set_option maxRecDepth 100000 in
theorem an_k186 : an_chk2 3000 186 = true := by decide +kernel
set_option maxRecDepth 100000 in
theorem an_k207 : an_chk2 3000 207 = true := by decide +kernel
set_option maxRecDepth 100000 in
theorem an_k210 : an_chk2 3000 210 = true := by decide +kernel
set_option maxRecDepth 100000 in
theorem an_k214 : an_chk2 3000 214 = true := by decide +kernel
set_option maxRecDepth 100000 in
theorem an_k215 : an_chk2 3000 215 = true := by decide +kernel
set_option maxRecDepth 100000 in
theorem an_k243 : an_chk2 3000 243 = true := by decide +kernel
set_option maxRecDepth 100000 in
theorem an_k275 : an_chk2 3000 275 = true := by decide +kernel
set_option maxRecDepth 100000 in
theorem an_k277 : an_chk2 3000 277 = true := by decide +kernel
set_option maxRecDepth 100000 in
theorem an_k283 : an_chk2 3000 283 = true := by decide +kernel
set_option maxRecDepth 100000 in
theorem an_k284 : an_chk2 3000 284 = true := by decide +kernel
set_option maxRecDepth 100000 in
theorem an_k297 : an_chk2 3000 297 = true := by decide +kernel
set_option maxRecDepth 100000 in
theorem an_k298 : an_chk2 3000 298 = true := by decide +kernel
set_option maxRecDepth 100000 in
theorem an_k301 : an_chk2 3000 301 = true := by decide +kernel
set_option maxRecDepth 100000 in
theorem an_k305 : an_chk2 3000 305 = true := by decide +kernel
set_option maxRecDepth 100000 in
theorem an_k312 : an_chk2 3000 312 = true := by decide +kernel
set_option maxRecDepth 100000 in
theorem an_k314 : an_chk2 3000 314 = true := by decide +kernel
set_option maxRecDepth 100000 in
theorem an_k318 : an_chk2 3000 318 = true := by decide +kernel
set_option maxRecDepth 100000 in
theorem an_k324 : an_chk2 3000 324 = true := by decide +kernel
