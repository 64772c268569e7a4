set_option maxRecDepth 100000 in
theorem an_k18 : an_chk2 3000 18 = true := by decide +kernel
set_option maxRecDepth 100000 in
theorem an_k27 : an_chk2 3000 27 = true := by decide +kernel
set_option maxRecDepth 100000 in
theorem an_k48 : an_chk2 3000 48 = true := by decide +kernel
set_option maxRecDepth 100000 in
theorem an_k63 : an_chk2 3000 63 = true := by decide +kernel
set_option maxRecDepth 100000 in
theorem an_k64 : an_chk2 3000 64 = true := by decide +kernel
set_option maxRecDepth 100000 in
theorem an_k85 : an_chk2 3000 85 = true := by decide +kernel
set_option maxRecDepth 100000 in
theorem an_k98 : an_chk2 3000 98 = true := by decide +kernel
set_option maxRecDepth 100000 in
theorem an_k102 : an_chk2 3000 102 = true := by decide +kernel
set_option maxRecDepth 100000 in
theorem an_k115 : an_chk2 3000 115 = true := by decide +kernel
set_option maxRecDepth 100000 in
theorem an_k126 : an_chk2 3000 126 = true := by decide +kernel
set_option maxRecDepth 100000 in
theorem an_k128 : an_chk2 3000 128 = true := by decide +kernel
set_option maxRecDepth 100000 in
theorem an_k136 : an_chk2 3000 136 = true := by decide +kernel
set_option maxRecDepth 100000 in
theorem an_k145 : an_chk2 3000 145 = true := by decide +kernel
set_option maxRecDepth 100000 in
theorem an_k149 : an_chk2 3000 149 = true := by decide +kernel
set_option maxRecDepth 100000 in
theorem an_k157 : an_chk2 3000 157 = true := by decide +kernel
set_option maxRecDepth 100000 in
theorem an_k159 : an_chk2 3000 159 = true := by decide +kernel
set_option maxRecDepth 100000 in
theorem an_k163 : an_chk2 3000 163 = true := by decide +kernel
set_option maxRecDepth 100000 in
theorem an_k175 : an_chk2 3000 175 = true := by decide +kernel
set_option maxRecDepth 100000 in
theorem an_k176 : an_chk2 3000 176 = true := by decide +kernel
set_option maxRecDepth 100000 in
theorem an_k184 : an_chk2 3000 184 = true := by decide +kernel
set_option maxRecDepth 100000 in
theorem an_k194 : an_chk2 3000 194 = true := by decide +kernel
set_option maxRecDepth 100000 in
theorem an_k196 : an_chk2 3000 196 = true := by decide +kernel
set_option maxRecDepth 100000 in
theorem an_k217 : an_chk2 3000 217 = true := by decide +kernel
set_option maxRecDepth 100000 in
theorem an_k219 : an_chk2 3000 219 = true := by decide +kernel
set_option maxRecDepth 100000 in
theorem an_k244 : an_chk2 3000 244 = true := by decide +kernel
set_option maxRecDepth 100000 in
theorem an_k253 : an_chk2 3000 253 = true := by decide +kernel
set_option maxRecDepth 100000 in
theorem an_k256 : an_chk2 3000 256 = true := by decide +kernel
set_option maxRecDepth 100000 in
theorem an_k264 : an_chk2 3000 264 = true := by decide +kernel
set_option maxRecDepth 100000 in
theorem an_k273 : an_chk2 3000 273 = true := by decide +kernel
set_option maxRecDepth 100000 in
theorem an_k297 : an_chk2 3000 297 = true := by decide +kernel
set_option maxRecDepth 100000 in
theorem an_k312 : an_chk2 3000 312 = true := by decide +kernel
set_option maxRecDepth 100000 in
theorem an_k315 : an_chk2 3000 315 = true := by decide +kernel
