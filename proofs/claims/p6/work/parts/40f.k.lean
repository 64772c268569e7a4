set_option maxRecDepth 100000 in
theorem an_k18 : an_chk2 3000 18 = true := by decide +kernel
set_option maxRecDepth 100000 in
theorem an_k57 : an_chk2 3000 57 = true := by decide +kernel
set_option maxRecDepth 100000 in
theorem an_k60 : an_chk2 3000 60 = true := by decide +kernel
set_option maxRecDepth 100000 in
theorem an_k61 : an_chk2 3000 61 = true := by decide +kernel
set_option maxRecDepth 100000 in
theorem an_k64 : an_chk2 3000 64 = true := by decide +kernel
set_option maxRecDepth 100000 in
theorem an_k74 : an_chk2 3000 74 = true := by decide +kernel
set_option maxRecDepth 100000 in
theorem an_k78 : an_chk2 3000 78 = true := by decide +kernel
set_option maxRecDepth 100000 in
theorem an_k85 : an_chk2 3000 85 = true := by decide +kernel
set_option maxRecDepth 100000 in
theorem an_k92 : an_chk2 3000 92 = true := by decide +kernel
set_option maxRecDepth 100000 in
theorem an_k118 : an_chk2 3000 118 = true := by decide +kernel
set_option maxRecDepth 100000 in
theorem an_k121 : an_chk2 3000 121 = true := by decide +kernel
set_option maxRecDepth 100000 in
theorem an_k142 : an_chk2 3000 142 = true := by decide +kernel
set_option maxRecDepth 100000 in
theorem an_k153 : an_chk2 3000 153 = true := by decide +kernel
set_option maxRecDepth 100000 in
theorem an_k157 : an_chk2 3000 157 = true := by decide +kernel
set_option maxRecDepth 100000 in
theorem an_k158 : an_chk2 3000 158 = true := by decide +kernel
set_option maxRecDepth 100000 in
theorem an_k159 : an_chk2 3000 159 = true := by decide +kernel
set_option maxRecDepth 100000 in
theorem an_k161 : an_chk2 3000 161 = true := by decide +kernel
set_option maxRecDepth 100000 in
theorem an_k179 : an_chk2 3000 179 = true := by decide +kernel
set_option maxRecDepth 100000 in
theorem an_k182 : an_chk2 3000 182 = true := by decide +kernel
set_option maxRecDepth 100000 in
theorem an_k184 : an_chk2 3000 184 = true := by decide +kernel
set_option maxRecDepth 100000 in
theorem an_k195 : an_chk2 3000 195 = true := by decide +kernel
set_option maxRecDepth 100000 in
theorem an_k211 : an_chk2 3000 211 = true := by decide +kernel
set_option maxRecDepth 100000 in
theorem an_k225 : an_chk2 3000 225 = true := by decide +kernel
set_option maxRecDepth 100000 in
theorem an_k229 : an_chk2 3000 229 = true := by decide +kernel
set_option maxRecDepth 100000 in
theorem an_k230 : an_chk2 3000 230 = true := by decide +kernel
set_option maxRecDepth 100000 in
theorem an_k233 : an_chk2 3000 233 = true := by decide +kernel
set_option maxRecDepth 100000 in
theorem an_k240 : an_chk2 3000 240 = true := by decide +kernel
set_option maxRecDepth 100000 in
theorem an_k245 : an_chk2 3000 245 = true := by decide +kernel
set_option maxRecDepth 100000 in
theorem an_k269 : an_chk2 3000 269 = true := by decide +kernel
set_option maxRecDepth 100000 in
theorem an_k270 : an_chk2 3000 270 = true := by decide +kernel
set_option maxRecDepth 100000 in
theorem an_k271 : an_chk2 3000 271 = true := by decide +kernel
set_option maxRecDepth 100000 in
theorem an_k278 : an_chk2 3000 278 = true := by decide +kernel
set_option maxRecDepth 100000 in
theorem an_k289 : an_chk2 3000 289 = true := by decide +kernel
set_option maxRecDepth 100000 in
theorem an_k296 : an_chk2 3000 296 = true := by decide +kernel
set_option maxRecDepth 100000 in
theorem an_k308 : an_chk2 3000 308 = true := by decide +kernel
