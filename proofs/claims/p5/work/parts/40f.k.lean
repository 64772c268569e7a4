set_option maxRecDepth 100000 in
theorem an_k27 : an_chk2 3000 27 = true := by decide +kernel
set_option maxRecDepth 100000 in
theorem an_k52 : an_chk2 3000 52 = true := by decide +kernel
set_option maxRecDepth 100000 in
theorem an_k110 : an_chk2 3000 110 = true := by decide +kernel
set_option maxRecDepth 100000 in
theorem an_k115 : an_chk2 3000 115 = true := by decide +kernel
set_option maxRecDepth 100000 in
theorem an_k130 : an_chk2 3000 130 = true := by decide +kernel
set_option maxRecDepth 100000 in
theorem an_k137 : an_chk2 3000 137 = true := by decide +kernel
set_option maxRecDepth 100000 in
theorem an_k142 : an_chk2 3000 142 = true := by decide +kernel
set_option maxRecDepth 100000 in
theorem an_k150 : an_chk2 3000 150 = true := by decide +kernel
set_option maxRecDepth 100000 in
theorem an_k153 : an_chk2 3000 153 = true := by decide +kernel
set_option maxRecDepth 100000 in
theorem an_k155 : an_chk2 3000 155 = true := by decide +kernel
set_option maxRecDepth 100000 in
theorem an_k157 : an_chk2 3000 157 = true := by decide +kernel
set_option maxRecDepth 100000 in
theorem an_k161 : an_chk2 3000 161 = true := by decide +kernel
set_option maxRecDepth 100000 in
theorem an_k176 : an_chk2 3000 176 = true := by decide +kernel
set_option maxRecDepth 100000 in
theorem an_k179 : an_chk2 3000 179 = true := by decide +kernel
set_option maxRecDepth 100000 in
theorem an_k180 : an_chk2 3000 180 = true := by decide +kernel
set_option maxRecDepth 100000 in
theorem an_k192 : an_chk2 3000 192 = true := by decide +kernel
set_option maxRecDepth 100000 in
theorem an_k211 : an_chk2 3000 211 = true := by decide +kernel
set_option maxRecDepth 100000 in
theorem an_k221 : an_chk2 3000 221 = true := by decide +kernel
set_option maxRecDepth 100000 in
theorem an_k222 : an_chk2 3000 222 = true := by decide +kernel
set_option maxRecDepth 100000 in
theorem an_k225 : an_chk2 3000 225 = true := by decide +kernel
set_option maxRecDepth 100000 in
theorem an_k226 : an_chk2 3000 226 = true := by decide +kernel
set_option maxRecDepth 100000 in
theorem an_k227 : an_chk2 3000 227 = true := by decide +kernel
set_option maxRecDepth 100000 in
theorem an_k228 : an_chk2 3000 228 = true := by decide +kernel
set_option maxRecDepth 100000 in
theorem an_k240 : an_chk2 3000 240 = true := by decide +kernel
set_option maxRecDepth 100000 in
theorem an_k252 : an_chk2 3000 252 = true := by decide +kernel
set_option maxRecDepth 100000 in
theorem an_k253 : an_chk2 3000 253 = true := by decide +kernel
set_option maxRecDepth 100000 in
theorem an_k266 : an_chk2 3000 266 = true := by decide +kernel
set_option maxRecDepth 100000 in
theorem an_k269 : an_chk2 3000 269 = true := by decide +kernel
set_option maxRecDepth 100000 in
theorem an_k276 : an_chk2 3000 276 = true := by decide +kernel
set_option maxRecDepth 100000 in
theorem an_k280 : an_chk2 3000 280 = true := by decide +kernel
set_option maxRecDepth 100000 in
theorem an_k304 : an_chk2 3000 304 = true := by decide +kernel
set_option maxRecDepth 100000 in
theorem an_k312 : an_chk2 3000 312 = true := by decide +kernel
set_option maxRecDepth 100000 in
theorem an_k315 : an_chk2 3000 315 = true := by decide +kernel
set_option maxRecDepth 100000 in
theorem an_k319 : an_chk2 3000 319 = true := by decide +kernel
