set_option maxRecDepth 100000 in
theorem an_k48 : an_chk2 3000 48 = true := by decide +kernel
set_option maxRecDepth 100000 in
theorem an_k62 : an_chk2 3000 62 = true := by decide +kernel
set_option maxRecDepth 100000 in
theorem an_k73 : an_chk2 3000 73 = true := by decide +kernel
set_option maxRecDepth 100000 in
theorem an_k74 : an_chk2 3000 74 = true := by decide +kernel
set_option maxRecDepth 100000 in
theorem an_k78 : an_chk2 3000 78 = true := by decide +kernel
set_option maxRecDepth 100000 in
theorem an_k80 : an_chk2 3000 80 = true := by decide +kernel
set_option maxRecDepth 100000 in
theorem an_k98 : an_chk2 3000 98 = true := by decide +kernel
set_option maxRecDepth 100000 in
theorem an_k117 : an_chk2 3000 117 = true := by decide +kernel
set_option maxRecDepth 100000 in
theorem an_k118 : an_chk2 3000 118 = true := by decide +kernel
set_option maxRecDepth 100000 in
theorem an_k123 : an_chk2 3000 123 = true := by decide +kernel
set_option maxRecDepth 100000 in
theorem an_k131 : an_chk2 3000 131 = true := by decide +kernel
set_option maxRecDepth 100000 in
theorem an_k136 : an_chk2 3000 136 = true := by decide +kernel
set_option maxRecDepth 100000 in
theorem an_k145 : an_chk2 3000 145 = true := by decide +kernel
set_option maxRecDepth 100000 in
theorem an_k148 : an_chk2 3000 148 = true := by decide +kernel
set_option maxRecDepth 100000 in
theorem an_k185 : an_chk2 3000 185 = true := by decide +kernel
set_option maxRecDepth 100000 in
theorem an_k195 : an_chk2 3000 195 = true := by decide +kernel
set_option maxRecDepth 100000 in
theorem an_k206 : an_chk2 3000 206 = true := by decide +kernel
set_option maxRecDepth 100000 in
theorem an_k207 : an_chk2 3000 207 = true := by decide +kernel
set_option maxRecDepth 100000 in
theorem an_k235 : an_chk2 3000 235 = true := by decide +kernel
set_option maxRecDepth 100000 in
theorem an_k245 : an_chk2 3000 245 = true := by decide +kernel
set_option maxRecDepth 100000 in
theorem an_k247 : an_chk2 3000 247 = true := by decide +kernel
set_option maxRecDepth 100000 in
theorem an_k249 : an_chk2 3000 249 = true := by decide +kernel
set_option maxRecDepth 100000 in
theorem an_k270 : an_chk2 3000 270 = true := by decide +kernel
set_option maxRecDepth 100000 in
theorem an_k271 : an_chk2 3000 271 = true := by decide +kernel
set_option maxRecDepth 100000 in
theorem an_k278 : an_chk2 3000 278 = true := by decide +kernel
set_option maxRecDepth 100000 in
theorem an_k279 : an_chk2 3000 279 = true := by decide +kernel
set_option maxRecDepth 100000 in
theorem an_k289 : an_chk2 3000 289 = true := by decide +kernel
set_option maxRecDepth 100000 in
theorem an_k290 : an_chk2 3000 290 = true := by decide +kernel
set_option maxRecDepth 100000 in
theorem an_k293 : an_chk2 3000 293 = true := by decide +kernel
set_option maxRecDepth 100000 in
theorem an_k296 : an_chk2 3000 296 = true := by decide +kernel
set_option maxRecDepth 100000 in
theorem an_k307 : an_chk2 3000 307 = true := by decide +kernel
set_option maxRecDepth 100000 in
theorem an_k308 : an_chk2 3000 308 = true := by decide +kernel
set_option maxRecDepth 100000 in
theorem an_k311 : an_chk2 3000 311 = true := by decide +kernel
