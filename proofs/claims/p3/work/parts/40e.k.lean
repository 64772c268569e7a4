set_option maxRecDepth 100000 in
theorem an_k49 : an_chk2 3000 49 = true := by decide +kernel
set_option maxRecDepth 100000 in
theorem an_k65 : an_chk2 3000 65 = true := by decide +kernel
set_option maxRecDepth 100000 in
theorem an_k70 : an_chk2 3000 70 = true := by decide +kernel
set_option maxRecDepth 100000 in
theorem an_k72 : an_chk2 3000 72 = true := by decide +kernel
set_option maxRecDepth 100000 in
theorem an_k80 : an_chk2 3000 80 = true := by decide +kernel
set_option maxRecDepth 100000 in
theorem an_k84 : an_chk2 3000 84 = true := by decide +kernel
set_option maxRecDepth 100000 in
theorem an_k92 : an_chk2 3000 92 = true := by decide +kernel
set_option maxRecDepth 100000 in
theorem an_k95 : an_chk2 3000 95 = true := by decide +kernel
set_option maxRecDepth 100000 in
theorem an_k114 : an_chk2 3000 114 = true := by decide +kernel
set_option maxRecDepth 100000 in
theorem an_k118 : an_chk2 3000 118 = true := by decide +kernel
set_option maxRecDepth 100000 in
theorem an_k126 : an_chk2 3000 126 = true := by decide +kernel
set_option maxRecDepth 100000 in
theorem an_k127 : an_chk2 3000 127 = true := by decide +kernel
set_option maxRecDepth 100000 in
theorem an_k143 : an_chk2 3000 143 = true := by decide +kernel
set_option maxRecDepth 100000 in
theorem an_k155 : an_chk2 3000 155 = true := by decide +kernel
set_option maxRecDepth 100000 in
theorem an_k161 : an_chk2 3000 161 = true := by decide +kernel
set_option maxRecDepth 100000 in
theorem an_k180 : an_chk2 3000 180 = true := by decide +kernel
set_option maxRecDepth 100000 in
theorem an_k186 : an_chk2 3000 186 = true := by decide +kernel
set_option maxRecDepth 100000 in
theorem an_k191 : an_chk2 3000 191 = true := by decide +kernel
set_option maxRecDepth 100000 in
theorem an_k222 : an_chk2 3000 222 = true := by decide +kernel
set_option maxRecDepth 100000 in
theorem an_k225 : an_chk2 3000 225 = true := by decide +kernel
set_option maxRecDepth 100000 in
theorem an_k242 : an_chk2 3000 242 = true := by decide +kernel
set_option maxRecDepth 100000 in
theorem an_k244 : an_chk2 3000 244 = true := by decide +kernel
set_option maxRecDepth 100000 in
theorem an_k249 : an_chk2 3000 249 = true := by decide +kernel
set_option maxRecDepth 100000 in
theorem an_k252 : an_chk2 3000 252 = true := by decide +kernel
set_option maxRecDepth 100000 in
theorem an_k254 : an_chk2 3000 254 = true := by decide +kernel
set_option maxRecDepth 100000 in
theorem an_k258 : an_chk2 3000 258 = true := by decide +kernel
set_option maxRecDepth 100000 in
theorem an_k271 : an_chk2 3000 271 = true := by decide +kernel
set_option maxRecDepth 100000 in
theorem an_k282 : an_chk2 3000 282 = true := by decide +kernel
set_option maxRecDepth 100000 in
theorem an_k287 : an_chk2 3000 287 = true := by decide +kernel
set_option maxRecDepth 100000 in
theorem an_k291 : an_chk2 3000 291 = true := by decide +kernel
set_option maxRecDepth 100000 in
theorem an_k300 : an_chk2 3000 300 = true := by decide +kernel
set_option maxRecDepth 100000 in
theorem an_k318 : an_chk2 3000 318 = true := by decide +kernel
set_option maxRecDepth 100000 in
theorem an_k322 : an_chk2 3000 322 = true := by decide +kernel
