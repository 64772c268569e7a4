set_option maxRecDepth 100000 in
theorem an_k18 : an_chk2 3000 18 = true := by decide +kernel
set_option maxRecDepth 100000 in
theorem an_k35 : an_chk2 3000 35 = true := by decide +kernel
set_option maxRecDepth 100000 in
theorem an_k63 : an_chk2 3000 63 = true := by decide +kernel
set_option maxRecDepth 100000 in
theorem an_k91 : an_chk2 3000 91 = true := by decide +kernel
set_option maxRecDepth 100000 in
theorem an_k93 : an_chk2 3000 93 = true := by decide +kernel
set_option maxRecDepth 100000 in
theorem an_k110 : an_chk2 3000 110 = true := by decide +kernel
set_option maxRecDepth 100000 in
theorem an_k114 : an_chk2 3000 114 = true := by decide +kernel
set_option maxRecDepth 100000 in
theorem an_k117 : an_chk2 3000 117 = true := by decide +kernel
set_option maxRecDepth 100000 in
theorem an_k118 : an_chk2 3000 118 = true := by decide +kernel
set_option maxRecDepth 100000 in
theorem an_k122 : an_chk2 3000 122 = true := by decide +kernel
set_option maxRecDepth 100000 in
theorem an_k132 : an_chk2 3000 132 = true := by decide +kernel
set_option maxRecDepth 100000 in
theorem an_k134 : an_chk2 3000 134 = true := by decide +kernel
set_option maxRecDepth 100000 in
theorem an_k142 : an_chk2 3000 142 = true := by decide +kernel
set_option maxRecDepth 100000 in
theorem an_k147 : an_chk2 3000 147 = true := by decide +kernel
set_option maxRecDepth 100000 in
theorem an_k158 : an_chk2 3000 158 = true := by decide +kernel
set_option maxRecDepth 100000 in
theorem an_k160 : an_chk2 3000 160 = true := by decide +kernel
set_option maxRecDepth 100000 in
theorem an_k165 : an_chk2 3000 165 = true := by decide +kernel
set_option maxRecDepth 100000 in
theorem an_k174 : an_chk2 3000 174 = true := by decide +kernel
set_option maxRecDepth 100000 in
theorem an_k175 : an_chk2 3000 175 = true := by decide +kernel
set_option maxRecDepth 100000 in
theorem an_k177 : an_chk2 3000 177 = true := by decide +kernel
set_option maxRecDepth 100000 in
theorem an_k179 : an_chk2 3000 179 = true := by decide +kernel
set_option maxRecDepth 100000 in
theorem an_k192 : an_chk2 3000 192 = true := by decide +kernel
set_option maxRecDepth 100000 in
theorem an_k222 : an_chk2 3000 222 = true := by decide +kernel
set_option maxRecDepth 100000 in
theorem an_k240 : an_chk2 3000 240 = true := by decide +kernel
set_option maxRecDepth 100000 in
theorem an_k252 : an_chk2 3000 252 = true := by decide +kernel
set_option maxRecDepth 100000 in
theorem an_k264 : an_chk2 3000 264 = true := by decide +kernel
set_option maxRecDepth 100000 in
theorem an_k266 : an_chk2 3000 266 = true := by decide +kernel
set_option maxRecDepth 100000 in
theorem an_k276 : an_chk2 3000 276 = true := by decide +kernel
set_option maxRecDepth 100000 in
theorem an_k283 : an_chk2 3000 283 = true := by decide +kernel
set_option maxRecDepth 100000 in
theorem an_k284 : an_chk2 3000 284 = true := by decide +kernel
set_option maxRecDepth 100000 in
theorem an_k286 : an_chk2 3000 286 = true := by decide +kernel
set_option maxRecDepth 100000 in
theorem an_k290 : an_chk2 3000 290 = true := by decide +kernel
set_option maxRecDepth 100000 in
theorem an_k317 : an_chk2 3000 317 = true := by decide +kernel
set_option maxRecDepth 100000 in
theorem an_k324 : an_chk2 3000 324 = true := by decide +kernel
