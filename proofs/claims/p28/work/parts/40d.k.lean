set_option maxRecDepth 100000 in
theorem an_k28 : an_chk2 3000 28 = true := by decide +kernel
set_option maxRecDepth 100000 in
theorem an_k35 : an_chk2 3000 35 = true := by decide +kernel
set_option maxRecDepth 100000 in
theorem an_k77 : an_chk2 3000 77 = true := by decide +kernel
set_option maxRecDepth 100000 in
theorem an_k79 : an_chk2 3000 79 = true := by decide +kernel
set_option maxRecDepth 100000 in
theorem an_k97 : an_chk2 3000 97 = true := by decide +kernel
set_option maxRecDepth 100000 in
theorem an_k101 : an_chk2 3000 101 = true := by decide +kernel
set_option maxRecDepth 100000 in
theorem an_k120 : an_chk2 3000 120 = true := by decide +kernel
set_option maxRecDepth 100000 in
theorem an_k132 : an_chk2 3000 132 = true := by decide +kernel
set_option maxRecDepth 100000 in
theorem an_k144 : an_chk2 3000 144 = true := by decide +kernel
set_option maxRecDepth 100000 in
theorem an_k147 : an_chk2 3000 147 = true := by decide +kernel
set_option maxRecDepth 100000 in
theorem an_k152 : an_chk2 3000 152 = true := by decide +kernel
set_option maxRecDepth 100000 in
theorem an_k162 : an_chk2 3000 162 = true := by decide +kernel
set_option maxRecDepth 100000 in
theorem an_k172 : an_chk2 3000 172 = true := by decide +kernel
set_option maxRecDepth 100000 in
theorem an_k181 : an_chk2 3000 181 = true := by decide +kernel
set_option maxRecDepth 100000 in
theorem an_k197 : an_chk2 3000 197 = true := by decide +kernel
set_option maxRecDepth 100000 in
theorem an_k206 : an_chk2 3000 206 = true := by decide +kernel
set_option maxRecDepth 100000 in
theorem an_k221 : an_chk2 3000 221 = true := by decide +kernel
set_option maxRecDepth 100000 in
theorem an_k222 : an_chk2 3000 222 = true := by decide +kernel
set_option maxRecDepth 100000 in
theorem an_k228 : an_chk2 3000 228 = true := by decide +kernel
set_option maxRecDepth 100000 in
theorem an_k233 : an_chk2 3000 233 = true := by decide +kernel
set_option maxRecDepth 100000 in
theorem an_k247 : an_chk2 3000 247 = true := by decide +kernel
set_option maxRecDepth 100000 in
theorem an_k249 : an_chk2 3000 249 = true := by decide +kernel
set_option maxRecDepth 100000 in
theorem an_k252 : an_chk2 3000 252 = true := by decide +kernel
set_option maxRecDepth 100000 in
theorem an_k258 : an_chk2 3000 258 = true := by decide +kernel
set_option maxRecDepth 100000 in
theorem an_k260 : an_chk2 3000 260 = true := by decide +kernel
set_option maxRecDepth 100000 in
theorem an_k278 : an_chk2 3000 278 = true := by decide +kernel
set_option maxRecDepth 100000 in
theorem an_k284 : an_chk2 3000 284 = true := by decide +kernel
set_option maxRecDepth 100000 in
theorem an_k291 : an_chk2 3000 291 = true := by decide +kernel
set_option maxRecDepth 100000 in
theorem an_k298 : an_chk2 3000 298 = true := by decide +kernel
set_option maxRecDepth 100000 in
theorem an_k305 : an_chk2 3000 305 = true := by decide +kernel
set_option maxRecDepth 100000 in
theorem an_k307 : an_chk2 3000 307 = true := by decide +kernel
set_option maxRecDepth 100000 in
theorem an_k328 : an_chk2 3000 328 = true := by decide +kernel
