set_option maxRecDepth 100000 in
theorem an_k29 : an_chk2 3000 29 = true := by decide +kernel
set_option maxRecDepth 100000 in
theorem an_k73 : an_chk2 3000 73 = true := by decide +kernel
set_option maxRecDepth 100000 in
theorem an_k76 : an_chk2 3000 76 = true := by decide +kernel
set_option maxRecDepth 100000 in
theorem an_k85 : an_chk2 3000 85 = true := by decide +kernel
set_option maxRecDepth 100000 in
theorem an_k100 : an_chk2 3000 100 = true := by decide +kernel
set_option maxRecDepth 100000 in
theorem an_k101 : an_chk2 3000 101 = true := by decide +kernel
set_option maxRecDepth 100000 in
theorem an_k102 : an_chk2 3000 102 = true := by decide +kernel
set_option maxRecDepth 100000 in
theorem an_k107 : an_chk2 3000 107 = true := by decide +kernel
set_option maxRecDepth 100000 in
theorem an_k130 : an_chk2 3000 130 = true := by decide +kernel
set_option maxRecDepth 100000 in
theorem an_k137 : an_chk2 3000 137 = true := by decide +kernel
set_option maxRecDepth 100000 in
theorem an_k153 : an_chk2 3000 153 = true := by decide +kernel
set_option maxRecDepth 100000 in
theorem an_k157 : an_chk2 3000 157 = true := by decide +kernel
set_option maxRecDepth 100000 in
theorem an_k158 : an_chk2 3000 158 = true := by decide +kernel
set_option maxRecDepth 100000 in
theorem an_k161 : an_chk2 3000 161 = true := by decide +kernel
set_option maxRecDepth 100000 in
theorem an_k179 : an_chk2 3000 179 = true := by decide +kernel
set_option maxRecDepth 100000 in
theorem an_k180 : an_chk2 3000 180 = true := by decide +kernel
set_option maxRecDepth 100000 in
theorem an_k211 : an_chk2 3000 211 = true := by decide +kernel
set_option maxRecDepth 100000 in
theorem an_k225 : an_chk2 3000 225 = true := by decide +kernel
set_option maxRecDepth 100000 in
theorem an_k226 : an_chk2 3000 226 = true := by decide +kernel
set_option maxRecDepth 100000 in
theorem an_k227 : an_chk2 3000 227 = true := by decide +kernel
set_option maxRecDepth 100000 in
theorem an_k230 : an_chk2 3000 230 = true := by decide +kernel
set_option maxRecDepth 100000 in
theorem an_k234 : an_chk2 3000 234 = true := by decide +kernel
set_option maxRecDepth 100000 in
theorem an_k240 : an_chk2 3000 240 = true := by decide +kernel
set_option maxRecDepth 100000 in
theorem an_k244 : an_chk2 3000 244 = true := by decide +kernel
set_option maxRecDepth 100000 in
theorem an_k247 : an_chk2 3000 247 = true := by decide +kernel
set_option maxRecDepth 100000 in
theorem an_k260 : an_chk2 3000 260 = true := by decide +kernel
set_option maxRecDepth 100000 in
theorem an_k270 : an_chk2 3000 270 = true := by decide +kernel
set_option maxRecDepth 100000 in
theorem an_k282 : an_chk2 3000 282 = true := by decide +kernel
set_option maxRecDepth 100000 in
theorem an_k288 : an_chk2 3000 288 = true := by decide +kernel
set_option maxRecDepth 100000 in
theorem an_k291 : an_chk2 3000 291 = true := by decide +kernel
set_option maxRecDepth 100000 in
theorem an_k302 : an_chk2 3000 302 = true := by decide +kernel
set_option maxRecDepth 100000 in
theorem an_k304 : an_chk2 3000 304 = true := by decide +kernel
set_option maxRecDepth 100000 in
theorem an_k308 : an_chk2 3000 308 = true := by decide +kernel
set_option maxRecDepth 100000 in
theorem an_k320 : an_chk2 3000 320 = true := by decide +kernel
