set_option maxRecDepth 100000 in
theorem an_k65 : an_chk2 3000 65 = true := by decide +kernel
set_option maxRecDepth 100000 in
theorem an_k72 : an_chk2 3000 72 = true := by decide +kernel
set_option maxRecDepth 100000 in
theorem an_k75 : an_chk2 3000 75 = true := by decide +kernel
set_option maxRecDepth 100000 in
theorem an_k76 : an_chk2 3000 76 = true := by decide +kernel
set_option maxRecDepth 100000 in
theorem an_k100 : an_chk2 3000 100 = true := by decide +kernel
set_option maxRecDepth 100000 in
theorem an_k101 : an_chk2 3000 101 = true := by decide +kernel
set_option maxRecDepth 100000 in
theorem an_k102 : an_chk2 3000 102 = true := by decide +kernel
set_option maxRecDepth 100000 in
theorem an_k107 : an_chk2 3000 107 = true := by decide +kernel
set_option maxRecDepth 100000 in
theorem an_k130 : an_chk2 3000 130 = true := by decide +kernel
set_option maxRecDepth 100000 in
theorem an_k131 : an_chk2 3000 131 = true := by decide +kernel
set_option maxRecDepth 100000 in
theorem an_k137 : an_chk2 3000 137 = true := by decide +kernel
set_option maxRecDepth 100000 in
theorem an_k142 : an_chk2 3000 142 = true := by decide +kernel
set_option maxRecDepth 100000 in
theorem an_k150 : an_chk2 3000 150 = true := by decide +kernel
set_option maxRecDepth 100000 in
theorem an_k174 : an_chk2 3000 174 = true := by decide +kernel
set_option maxRecDepth 100000 in
theorem an_k177 : an_chk2 3000 177 = true := by decide +kernel
set_option maxRecDepth 100000 in
theorem an_k180 : an_chk2 3000 180 = true := by decide +kernel
set_option maxRecDepth 100000 in
theorem an_k206 : an_chk2 3000 206 = true := by decide +kernel
set_option maxRecDepth 100000 in
theorem an_k226 : an_chk2 3000 226 = true := by decide +kernel
set_option maxRecDepth 100000 in
theorem an_k227 : an_chk2 3000 227 = true := by decide +kernel
set_option maxRecDepth 100000 in
theorem an_k234 : an_chk2 3000 234 = true := by decide +kernel
set_option maxRecDepth 100000 in
theorem an_k235 : an_chk2 3000 235 = true := by decide +kernel
set_option maxRecDepth 100000 in
theorem an_k244 : an_chk2 3000 244 = true := by decide +kernel
set_option maxRecDepth 100000 in
theorem an_k260 : an_chk2 3000 260 = true := by decide +kernel
set_option maxRecDepth 100000 in
theorem an_k280 : an_chk2 3000 280 = true := by decide +kernel
set_option maxRecDepth 100000 in
theorem an_k286 : an_chk2 3000 286 = true := by decide +kernel
set_option maxRecDepth 100000 in
theorem an_k288 : an_chk2 3000 288 = true := by decide +kernel
set_option maxRecDepth 100000 in
theorem an_k290 : an_chk2 3000 290 = true := by decide +kernel
set_option maxRecDepth 100000 in
theorem an_k291 : an_chk2 3000 291 = true := by decide +kernel
set_option maxRecDepth 100000 in
theorem an_k302 : an_chk2 3000 302 = true := by decide +kernel
set_option maxRecDepth 100000 in
theorem an_k304 : an_chk2 3000 304 = true := by decide +kernel
set_option maxRecDepth 100000 in
theorem an_k307 : an_chk2 3000 307 = true := by decide +kernel
set_option maxRecDepth 100000 in
theorem an_k320 : an_chk2 3000 320 = true := by decide +kernel
set_option maxRecDepth 100000 in
theorem an_k328 : an_chk2 3000 328 = true := by decide +kernel
