set_option maxRecDepth 100000 in
theorem an_k62 : an_chk2 3000 62 = true := by decide +kernel
set_option maxRecDepth 100000 in
theorem an_k67 : an_chk2 3000 67 = true := by decide +kernel
set_option maxRecDepth 100000 in
theorem an_k72 : an_chk2 3000 72 = true := by decide +kernel
set_option maxRecDepth 100000 in
theorem an_k73 : an_chk2 3000 73 = true := by decide +kernel
set_option maxRecDepth 100000 in
theorem an_k109 : an_chk2 3000 109 = true := by decide +kernel
set_option maxRecDepth 100000 in
theorem an_k111 : an_chk2 3000 111 = true := by decide +kernel
set_option maxRecDepth 100000 in
theorem an_k121 : an_chk2 3000 121 = true := by decide +kernel
set_option maxRecDepth 100000 in
theorem an_k130 : an_chk2 3000 130 = true := by decide +kernel
set_option maxRecDepth 100000 in
theorem an_k143 : an_chk2 3000 143 = true := by decide +kernel
set_option maxRecDepth 100000 in
theorem an_k161 : an_chk2 3000 161 = true := by decide +kernel
set_option maxRecDepth 100000 in
theorem an_k164 : an_chk2 3000 164 = true := by decide +kernel
set_option maxRecDepth 100000 in
theorem an_k173 : an_chk2 3000 173 = true := by decide +kernel
set_option maxRecDepth 100000 in
theorem an_k183 : an_chk2 3000 183 = true := by decide +kernel
set_option maxRecDepth 100000 in
theorem an_k205 : an_chk2 3000 205 = true := by decide +kernel
set_option maxRecDepth 100000 in
theorem an_k234 : an_chk2 3000 234 = true := by decide +kernel
set_option maxRecDepth 100000 in
theorem an_k235 : an_chk2 3000 235 = true := by decide +kernel
set_option maxRecDepth 100000 in
theorem an_k238 : an_chk2 3000 238 = true := by decide +kernel
set_option maxRecDepth 100000 in
theorem an_k246 : an_chk2 3000 246 = true := by decide +kernel
set_option maxRecDepth 100000 in
theorem an_k248 : an_chk2 3000 248 = true := by decide +kernel
set_option maxRecDepth 100000 in
theorem an_k257 : an_chk2 3000 257 = true := by decide +kernel
set_option maxRecDepth 100000 in
theorem an_k279 : an_chk2 3000 279 = true := by decide +kernel
set_option maxRecDepth 100000 in
theorem an_k287 : an_chk2 3000 287 = true := by decide +kernel
set_option maxRecDepth 100000 in
theorem an_k289 : an_chk2 3000 289 = true := by decide +kernel
set_option maxRecDepth 100000 in
theorem an_k292 : an_chk2 3000 292 = true := by decide +kernel
set_option maxRecDepth 100000 in
theorem an_k296 : an_chk2 3000 296 = true := by decide +kernel
set_option maxRecDepth 100000 in
theorem an_k308 : an_chk2 3000 308 = true := by decide +kernel
set_option maxRecDepth 100000 in
theorem an_k311 : an_chk2 3000 311 = true := by decide +kernel
set_option maxRecDepth 100000 in
theorem an_k317 : an_chk2 3000 317 = true := by decide +kernel
set_option maxRecDepth 100000 in
theorem an_k320 : an_chk2 3000 320 = true := by decide +kernel
set_option maxRecDepth 100000 in
theorem an_k322 : an_chk2 3000 322 = true := by decide +kernel
set_option maxRecDepth 100000 in
theorem an_k323 : an_chk2 3000 323 = true := by decide +kernel
