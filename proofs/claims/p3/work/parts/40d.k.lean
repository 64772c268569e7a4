set_option maxRecDepth 100000 in
theorem an_k18 : an_chk2 3000 18 = true := by decide +kernel
set_option maxRecDepth 100000 in
theorem an_k58 : an_chk2 3000 58 = true := by decide +kernel
set_option maxRecDepth 100000 in
theorem an_k64 : an_chk2 3000 64 = true := by decide +kernel
set_option maxRecDepth 100000 in
theorem an_k76 : an_chk2 3000 76 = true := by decide +kernel
set_option maxRecDepth 100000 in
theorem an_k100 : an_chk2 3000 100 = true := by decide +kernel
set_option maxRecDepth 100000 in
theorem an_k103 : an_chk2 3000 103 = true := by decide +kernel
set_option maxRecDepth 100000 in
theorem an_k104 : an_chk2 3000 104 = true := by decide +kernel
set_option maxRecDepth 100000 in
theorem an_k116 : an_chk2 3000 116 = true := by decide +kernel
set_option maxRecDepth 100000 in
theorem an_k137 : an_chk2 3000 137 = true := by decide +kernel
set_option maxRecDepth 100000 in
theorem an_k139 : an_chk2 3000 139 = true := by decide +kernel
set_option maxRecDepth 100000 in
theorem an_k142 : an_chk2 3000 142 = true := by decide +kernel
set_option maxRecDepth 100000 in
theorem an_k153 : an_chk2 3000 153 = true := by decide +kernel
set_option maxRecDepth 100000 in
theorem an_k157 : an_chk2 3000 157 = true := by decide +kernel
set_option maxRecDepth 100000 in
theorem an_k159 : an_chk2 3000 159 = true := by decide +kernel
set_option maxRecDepth 100000 in
theorem an_k163 : an_chk2 3000 163 = true := by decide +kernel
set_option maxRecDepth 100000 in
theorem an_k173 : an_chk2 3000 173 = true := by decide +kernel
set_option maxRecDepth 100000 in
theorem an_k174 : an_chk2 3000 174 = true := by decide +kernel
set_option maxRecDepth 100000 in
theorem an_k181 : an_chk2 3000 181 = true := by decide +kernel
set_option maxRecDepth 100000 in
theorem an_k192 : an_chk2 3000 192 = true := by decide +kernel
set_option maxRecDepth 100000 in
theorem an_k231 : an_chk2 3000 231 = true := by decide +kernel
set_option maxRecDepth 100000 in
theorem an_k234 : an_chk2 3000 234 = true := by decide +kernel
set_option maxRecDepth 100000 in
theorem an_k235 : an_chk2 3000 235 = true := by decide +kernel
set_option maxRecDepth 100000 in
theorem an_k243 : an_chk2 3000 243 = true := by decide +kernel
set_option maxRecDepth 100000 in
theorem an_k259 : an_chk2 3000 259 = true := by decide +kernel
set_option maxRecDepth 100000 in
theorem an_k261 : an_chk2 3000 261 = true := by decide +kernel
set_option maxRecDepth 100000 in
theorem an_k266 : an_chk2 3000 266 = true := by decide +kernel
set_option maxRecDepth 100000 in
theorem an_k267 : an_chk2 3000 267 = true := by decide +kernel
set_option maxRecDepth 100000 in
theorem an_k270 : an_chk2 3000 270 = true := by decide +kernel
set_option maxRecDepth 100000 in
theorem an_k273 : an_chk2 3000 273 = true := by decide +kernel
set_option maxRecDepth 100000 in
theorem an_k277 : an_chk2 3000 277 = true := by decide +kernel
set_option maxRecDepth 100000 in
theorem an_k280 : an_chk2 3000 280 = true := by decide +kernel
set_option maxRecDepth 100000 in
theorem an_k289 : an_chk2 3000 289 = true := by decide +kernel
set_option maxRecDepth 100000 in
theorem an_k304 : an_chk2 3000 304 = true := by decide +kernel
set_option maxRecDepth 100000 in
theorem an_k307 : an_chk2 3000 307 = true := by decide +kernel
