set_option maxRecDepth 100000 in
theorem an_k18 : an_chk2 3000 18 = true := by decide +kernel
set_option maxRecDepth 100000 in
theorem an_k29 : an_chk2 3000 29 = true := by decide +kernel
set_option maxRecDepth 100000 in
theorem an_k50 : an_chk2 3000 50 = true := by decide +kernel
set_option maxRecDepth 100000 in
theorem an_k57 : an_chk2 3000 57 = true := by decide +kernel
set_option maxRecDepth 100000 in
theorem an_k67 : an_chk2 3000 67 = true := by decide +kernel
set_option maxRecDepth 100000 in
theorem an_k99 : an_chk2 3000 99 = true := by decide +kernel
set_option maxRecDepth 100000 in
theorem an_k104 : an_chk2 3000 104 = true := by decide +kernel
set_option maxRecDepth 100000 in
theorem an_k107 : an_chk2 3000 107 = true := by decide +kernel
set_option maxRecDepth 100000 in
theorem an_k108 : an_chk2 3000 108 = true := by decide +kernel
set_option maxRecDepth 100000 in
theorem an_k138 : an_chk2 3000 138 = true := by decide +kernel
set_option maxRecDepth 100000 in
theorem an_k149 : an_chk2 3000 149 = true := by decide +kernel
set_option maxRecDepth 100000 in
theorem an_k159 : an_chk2 3000 159 = true := by decide +kernel
set_option maxRecDepth 100000 in
theorem an_k162 : an_chk2 3000 162 = true := by decide +kernel
set_option maxRecDepth 100000 in
theorem an_k165 : an_chk2 3000 165 = true := by decide +kernel
set_option maxRecDepth 100000 in
theorem an_k174 : an_chk2 3000 174 = true := by decide +kernel
set_option maxRecDepth 100000 in
theorem an_k191 : an_chk2 3000 191 = true := by decide +kernel
set_option maxRecDepth 100000 in
theorem an_k223 : an_chk2 3000 223 = true := by decide +kernel
set_option maxRecDepth 100000 in
theorem an_k234 : an_chk2 3000 234 = true := by decide +kernel
set_option maxRecDepth 100000 in
theorem an_k236 : an_chk2 3000 236 = true := by decide +kernel
set_option maxRecDepth 100000 in
theorem an_k239 : an_chk2 3000 239 = true := by decide +kernel
set_option maxRecDepth 100000 in
theorem an_k242 : an_chk2 3000 242 = true := by decide +kernel
set_option maxRecDepth 100000 in
theorem an_k250 : an_chk2 3000 250 = true := by decide +kernel
set_option maxRecDepth 100000 in
theorem an_k257 : an_chk2 3000 257 = true := by decide +kernel
set_option maxRecDepth 100000 in
theorem an_k267 : an_chk2 3000 267 = true := by decide +kernel
set_option maxRecDepth 100000 in
theorem an_k273 : an_chk2 3000 273 = true := by decide +kernel
set_option maxRecDepth 100000 in
theorem an_k274 : an_chk2 3000 274 = true := by decide +kernel
set_option maxRecDepth 100000 in
theorem an_k277 : an_chk2 3000 277 = true := by decide +kernel
set_option maxRecDepth 100000 in
theorem an_k283 : an_chk2 3000 283 = true := by decide +kernel
set_option maxRecDepth 100000 in
theorem an_k284 : an_chk2 3000 284 = true := by decide +kernel
set_option maxRecDepth 100000 in
theorem an_k287 : an_chk2 3000 287 = true := by decide +kernel
set_option maxRecDepth 100000 in
theorem an_k292 : an_chk2 3000 292 = true := by decide +kernel
set_option maxRecDepth 100000 in
theorem an_k322 : an_chk2 3000 322 = true := by decide +kernel
set_option maxRecDepth 100000 in
theorem an_k327 : an_chk2 3000 327 = true := by decide +kernel
set_option maxRecDepth 100000 in
theorem an_k328 : an_chk2 3000 328 = true := by decide +kernel
