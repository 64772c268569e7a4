set_option maxRecDepth 100000 in
theorem an_k28 : an_chk2 3000 28 = true := by decide +kernel
set_option maxRecDepth 100000 in
theorem an_k30 : an_chk2 3000 30 = true := by decide +kernel
set_option maxRecDepth 100000 in
theorem an_k36 : an_chk2 3000 36 = true := by decide +kernel
set_option maxRecDepth 100000 in
theorem an_k60 : an_chk2 3000 60 = true := by decide +kernel
set_option maxRecDepth 100000 in
theorem an_k61 : an_chk2 3000 61 = true := by decide +kernel
set_option maxRecDepth 100000 in
theorem an_k64 : an_chk2 3000 64 = true := by decide +kernel
set_option maxRecDepth 100000 in
theorem an_k65 : an_chk2 3000 65 = true := by decide +kernel
set_option maxRecDepth 100000 in
theorem an_k75 : an_chk2 3000 75 = true := by decide +kernel
set_option maxRecDepth 100000 in
theorem an_k91 : an_chk2 3000 91 = true := by decide +kernel
set_option maxRecDepth 100000 in
theorem an_k100 : an_chk2 3000 100 = true := by decide +kernel
set_option maxRecDepth 100000 in
theorem an_k120 : an_chk2 3000 120 = true := by decide +kernel
set_option maxRecDepth 100000 in
theorem an_k134 : an_chk2 3000 134 = true := by decide +kernel
set_option maxRecDepth 100000 in
theorem an_k145 : an_chk2 3000 145 = true := by decide +kernel
set_option maxRecDepth 100000 in
theorem an_k148 : an_chk2 3000 148 = true := by decide +kernel
set_option maxRecDepth 100000 in
theorem an_k154 : an_chk2 3000 154 = true := by decide +kernel
set_option maxRecDepth 100000 in
theorem an_k158 : an_chk2 3000 158 = true := by decide +kernel
set_option maxRecDepth 100000 in
theorem an_k162 : an_chk2 3000 162 = true := by decide +kernel
set_option maxRecDepth 100000 in
theorem an_k172 : an_chk2 3000 172 = true := by decide +kernel
set_option maxRecDepth 100000 in
theorem an_k173 : an_chk2 3000 173 = true := by decide +kernel
set_option maxRecDepth 100000 in
theorem an_k176 : an_chk2 3000 176 = true := by decide +kernel
set_option maxRecDepth 100000 in
theorem an_k191 : an_chk2 3000 191 = true := by decide +kernel
set_option maxRecDepth 100000 in
theorem an_k193 : an_chk2 3000 193 = true := by decide +kernel
set_option maxRecDepth 100000 in
theorem an_k228 : an_chk2 3000 228 = true := by decide +kernel
set_option maxRecDepth 100000 in
theorem an_k232 : an_chk2 3000 232 = true := by decide +kernel
set_option maxRecDepth 100000 in
theorem an_k266 : an_chk2 3000 266 = true := by decide +kernel
set_option maxRecDepth 100000 in
theorem an_k270 : an_chk2 3000 270 = true := by decide +kernel
set_option maxRecDepth 100000 in
theorem an_k271 : an_chk2 3000 271 = true := by decide +kernel
set_option maxRecDepth 100000 in
theorem an_k275 : an_chk2 3000 275 = true := by decide +kernel
set_option maxRecDepth 100000 in
theorem an_k278 : an_chk2 3000 278 = true := by decide +kernel
set_option maxRecDepth 100000 in
theorem an_k279 : an_chk2 3000 279 = true := by decide +kernel
set_option maxRecDepth 100000 in
theorem an_k287 : an_chk2 3000 287 = true := by decide +kernel
set_option maxRecDepth 100000 in
theorem an_k290 : an_chk2 3000 290 = true := by decide +kernel
set_option maxRecDepth 100000 in
theorem an_k304 : an_chk2 3000 304 = true := by decide +kernel
set_option maxRecDepth 100000 in
theorem an_k307 : an_chk2 3000 307 = true := by decide +kernel
set_option maxRecDepth 100000 in
theorem an_k310 : an_chk2 3000 310 = true := by decide +kernel
