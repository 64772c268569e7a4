set_option maxRecDepth 100000 in
theorem an_k49 : an_chk2 3000 49 = true := by decide +kernel
set_option maxRecDepth 100000 in
theorem an_k75 : an_chk2 3000 75 = true := by decide +kernel
set_option maxRecDepth 100000 in
theorem an_k76 : an_chk2 3000 76 = true := by decide +kernel
set_option maxRecDepth 100000 in
theorem an_k92 : an_chk2 3000 92 = true := by decide +kernel
set_option maxRecDepth 100000 in
theorem an_k103 : an_chk2 3000 103 = true := by decide +kernel
set_option maxRecDepth 100000 in
theorem an_k104 : an_chk2 3000 104 = true := by decide +kernel
set_option maxRecDepth 100000 in
theorem an_k114 : an_chk2 3000 114 = true := by decide +kernel
set_option maxRecDepth 100000 in
theorem an_k117 : an_chk2 3000 117 = true := by decide +kernel
set_option maxRecDepth 100000 in
theorem an_k135 : an_chk2 3000 135 = true := by decide +kernel
set_option maxRecDepth 100000 in
theorem an_k137 : an_chk2 3000 137 = true := by decide +kernel
set_option maxRecDepth 100000 in
theorem an_k142 : an_chk2 3000 142 = true := by decide +kernel
set_option maxRecDepth 100000 in
theorem an_k156 : an_chk2 3000 156 = true := by decide +kernel
set_option maxRecDepth 100000 in
theorem an_k158 : an_chk2 3000 158 = true := by decide +kernel
set_option maxRecDepth 100000 in
theorem an_k160 : an_chk2 3000 160 = true := by decide +kernel
set_option maxRecDepth 100000 in
theorem an_k190 : an_chk2 3000 190 = true := by decide +kernel
set_option maxRecDepth 100000 in
theorem an_k210 : an_chk2 3000 210 = true := by decide +kernel
set_option maxRecDepth 100000 in
theorem an_k224 : an_chk2 3000 224 = true := by decide +kernel
set_option maxRecDepth 100000 in
theorem an_k225 : an_chk2 3000 225 = true := by decide +kernel
set_option maxRecDepth 100000 in
theorem an_k226 : an_chk2 3000 226 = true := by decide +kernel
set_option maxRecDepth 100000 in
theorem an_k230 : an_chk2 3000 230 = true := by decide +kernel
set_option maxRecDepth 100000 in
theorem an_k232 : an_chk2 3000 232 = true := by decide +kernel
set_option maxRecDepth 100000 in
theorem an_k241 : an_chk2 3000 241 = true := by decide +kernel
set_option maxRecDepth 100000 in
theorem an_k243 : an_chk2 3000 243 = true := by decide +kernel
set_option maxRecDepth 100000 in
theorem an_k250 : an_chk2 3000 250 = true := by decide +kernel
set_option maxRecDepth 100000 in
theorem an_k263 : an_chk2 3000 263 = true := by decide +kernel
set_option maxRecDepth 100000 in
theorem an_k265 : an_chk2 3000 265 = true := by decide +kernel
set_option maxRecDepth 100000 in
theorem an_k268 : an_chk2 3000 268 = true := by decide +kernel
set_option maxRecDepth 100000 in
theorem an_k275 : an_chk2 3000 275 = true := by decide +kernel
set_option maxRecDepth 100000 in
theorem an_k276 : an_chk2 3000 276 = true := by decide +kernel
set_option maxRecDepth 100000 in
theorem an_k280 : an_chk2 3000 280 = true := by decide +kernel
set_option maxRecDepth 100000 in
theorem an_k293 : an_chk2 3000 293 = true := by decide +kernel
set_option maxRecDepth 100000 in
theorem an_k301 : an_chk2 3000 301 = true := by decide +kernel
set_option maxRecDepth 100000 in
theorem an_k310 : an_chk2 3000 310 = true := by decide +kernel
