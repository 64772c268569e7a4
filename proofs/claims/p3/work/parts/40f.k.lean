set_option maxRecDepth 100000 in
theorem an_k28 : an_chk2 3000 28 = true := by decide +kernel
set_option maxRecDepth 100000 in
theorem an_k29 : an_chk2 3000 29 = true := by decide +kernel
set_option maxRecDepth 100000 in
theorem an_k53 : an_chk2 3000 53 = true := by decide +kernel
set_option maxRecDepth 100000 in
theorem an_k66 : an_chk2 3000 66 = true := by decide +kernel
set_option maxRecDepth 100000 in
theorem an_k68 : an_chk2 3000 68 = true := by decide +kernel
set_option maxRecDepth 100000 in
theorem an_k78 : an_chk2 3000 78 = true := by decide +kernel
set_option maxRecDepth 100000 in
theorem an_k91 : an_chk2 3000 91 = true := by decide +kernel
set_option maxRecDepth 100000 in
theorem an_k99 : an_chk2 3000 99 = true := by decide +kernel
set_option maxRecDepth 100000 in
theorem an_k105 : an_chk2 3000 105 = true := by decide +kernel
set_option maxRecDepth 100000 in
theorem an_k107 : an_chk2 3000 107 = true := by decide +kernel
set_option maxRecDepth 100000 in
theorem an_k109 : an_chk2 3000 109 = true := by decide +kernel
set_option maxRecDepth 100000 in
theorem an_k132 : an_chk2 3000 132 = true := by decide +kernel
set_option maxRecDepth 100000 in
theorem an_k134 : an_chk2 3000 134 = true := by decide +kernel
set_option maxRecDepth 100000 in
theorem an_k138 : an_chk2 3000 138 = true := by decide +kernel
set_option maxRecDepth 100000 in
theorem an_k144 : an_chk2 3000 144 = true := by decide +kernel
set_option maxRecDepth 100000 in
theorem an_k147 : an_chk2 3000 147 = true := by decide +kernel
set_option maxRecDepth 100000 in
theorem an_k150 : an_chk2 3000 150 = true := by decide +kernel
set_option maxRecDepth 100000 in
theorem an_k158 : an_chk2 3000 158 = true := by decide +kernel
set_option maxRecDepth 100000 in
theorem an_k164 : an_chk2 3000 164 = true := by decide +kernel
set_option maxRecDepth 100000 in
theorem an_k175 : an_chk2 3000 175 = true := by decide +kernel
set_option maxRecDepth 100000 in
theorem an_k179 : an_chk2 3000 179 = true := by decide +kernel
set_option maxRecDepth 100000 in
theorem an_k211 : an_chk2 3000 211 = true := by decide +kernel
set_option maxRecDepth 100000 in
theorem an_k215 : an_chk2 3000 215 = true := by decide +kernel
set_option maxRecDepth 100000 in
theorem an_k227 : an_chk2 3000 227 = true := by decide +kernel
set_option maxRecDepth 100000 in
theorem an_k240 : an_chk2 3000 240 = true := by decide +kernel
set_option maxRecDepth 100000 in
theorem an_k245 : an_chk2 3000 245 = true := by decide +kernel
set_option maxRecDepth 100000 in
theorem an_k251 : an_chk2 3000 251 = true := by decide +kernel
set_option maxRecDepth 100000 in
theorem an_k264 : an_chk2 3000 264 = true := by decide +kernel
set_option maxRecDepth 100000 in
theorem an_k272 : an_chk2 3000 272 = true := by decide +kernel
set_option maxRecDepth 100000 in
theorem an_k290 : an_chk2 3000 290 = true := by decide +kernel
set_option maxRecDepth 100000 in
theorem an_k298 : an_chk2 3000 298 = true := by decide +kernel
set_option maxRecDepth 100000 in
theorem an_k305 : an_chk2 3000 305 = true := by decide +kernel
set_option maxRecDepth 100000 in
theorem an_k317 : an_chk2 3000 317 = true := by decide +kernel
set_option maxRecDepth 100000 in
theorem an_k328 : an_chk2 3000 328 = true := by decide +kernel
