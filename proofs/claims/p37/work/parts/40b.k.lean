set_option maxRecDepth 100000 in
theorem an_k29 : an_chk2 3000 29 = true := by decide +kernel
set_option maxRecDepth 100000 in
theorem an_k52 : an_chk2 3000 52 = true := by decide +kernel
set_option maxRecDepth 100000 in
theorem an_k68 : an_chk2 3000 68 = true := by decide +kernel
set_option maxRecDepth 100000 in
theorem an_k79 : an_chk2 3000 79 = true := by decide +kernel
set_option maxRecDepth 100000 in
theorem an_k92 : an_chk2 3000 92 = true := by decide +kernel
set_option maxRecDepth 100000 in
theorem an_k94 : an_chk2 3000 94 = true := by decide +kernel
set_option maxRecDepth 100000 in
theorem an_k101 : an_chk2 3000 101 = true := by decide +kernel
set_option maxRecDepth 100000 in
theorem an_k113 : an_chk2 3000 113 = true := by decide +kernel
set_option maxRecDepth 100000 in
theorem an_k128 : an_chk2 3000 128 = true := by decide +kernel
set_option maxRecDepth 100000 in
theorem an_k131 : an_chk2 3000 131 = true := by decide +kernel
set_option maxRecDepth 100000 in
theorem an_k142 : an_chk2 3000 142 = true := by decide +kernel
set_option maxRecDepth 100000 in
theorem an_k175 : an_chk2 3000 175 = true := by decide +kernel
set_option maxRecDepth 100000 in
theorem an_k197 : an_chk2 3000 197 = true := by decide +kernel
set_option maxRecDepth 100000 in
theorem an_k206 : an_chk2 3000 206 = true := by decide +kernel
set_option maxRecDepth 100000 in
theorem an_k209 : an_chk2 3000 209 = true := by decide +kernel
set_option maxRecDepth 100000 in
theorem an_k213 : an_chk2 3000 213 = true := by decide +kernel
set_option maxRecDepth 100000 in
theorem an_k214 : an_chk2 3000 214 = true := by decide +kernel
set_option maxRecDepth 100000 in
theorem an_k242 : an_chk2 3000 242 = true := by decide +kernel
set_option maxRecDepth 100000 in
theorem an_k263 : an_chk2 3000 263 = true := by decide +kernel
set_option maxRecDepth 100000 in
theorem an_k273 : an_chk2 3000 273 = true := by decide +kernel
set_option maxRecDepth 100000 in
theorem an_k274 : an_chk2 3000 274 = true := by decide +kernel
set_option maxRecDepth 100000 in
theorem an_k276 : an_chk2 3000 276 = true := by decide +kernel
set_option maxRecDepth 100000 in
theorem an_k282 : an_chk2 3000 282 = true := by decide +kernel
set_option maxRecDepth 100000 in
theorem an_k283 : an_chk2 3000 283 = true := by decide +kernel
set_option maxRecDepth 100000 in
theorem an_k292 : an_chk2 3000 292 = true := by decide +kernel
set_option maxRecDepth 100000 in
theorem an_k296 : an_chk2 3000 296 = true := by decide +kernel
set_option maxRecDepth 100000 in
theorem an_k297 : an_chk2 3000 297 = true := by decide +kernel
set_option maxRecDepth 100000 in
theorem an_k299 : an_chk2 3000 299 = true := by decide +kernel
set_option maxRecDepth 100000 in
theorem an_k311 : an_chk2 3000 311 = true := by decide +kernel
set_option maxRecDepth 100000 in
theorem an_k313 : an_chk2 3000 313 = true := by decide +kernel
set_option maxRecDepth 100000 in
theorem an_k316 : an_chk2 3000 316 = true := by decide +kernel
set_option maxRecDepth 100000 in
theorem an_k317 : an_chk2 3000 317 = true := by decide +kernel
set_option maxRecDepth 100000 in
theorem an_k324 : an_chk2 3000 324 = true := by decide +kernel
