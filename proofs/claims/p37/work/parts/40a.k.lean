set_option maxRecDepth 100000 in
theorem an_k18 : an_chk2 3000 18 = true := by decide +kernel
set_option maxRecDepth 100000 in
theorem an_k99 : an_chk2 3000 99 = true := by decide +kernel
set_option maxRecDepth 100000 in
theorem an_k107 : an_chk2 3000 107 = true := by decide +kernel
set_option maxRecDepth 100000 in
theorem an_k114 : an_chk2 3000 114 = true := by decide +kernel
set_option maxRecDepth 100000 in
theorem an_k125 : an_chk2 3000 125 = true := by decide +kernel
set_option maxRecDepth 100000 in
theorem an_k130 : an_chk2 3000 130 = true := by decide +kernel
set_option maxRecDepth 100000 in
theorem an_k136 : an_chk2 3000 136 = true := by decide +kernel
set_option maxRecDepth 100000 in
theorem an_k146 : an_chk2 3000 146 = true := by decide +kernel
set_option maxRecDepth 100000 in
theorem an_k147 : an_chk2 3000 147 = true := by decide +kernel
set_option maxRecDepth 100000 in
theorem an_k149 : an_chk2 3000 149 = true := by decide +kernel
set_option maxRecDepth 100000 in
theorem an_k161 : an_chk2 3000 161 = true := by decide +kernel
set_option maxRecDepth 100000 in
theorem an_k179 : an_chk2 3000 179 = true := by decide +kernel
set_option maxRecDepth 100000 in
theorem an_k181 : an_chk2 3000 181 = true := by decide +kernel
set_option maxRecDepth 100000 in
theorem an_k184 : an_chk2 3000 184 = true := by decide +kernel
set_option maxRecDepth 100000 in
theorem an_k185 : an_chk2 3000 185 = true := by decide +kernel
set_option maxRecDepth 100000 in
theorem an_k205 : an_chk2 3000 205 = true := by decide +kernel
set_option maxRecDepth 100000 in
theorem an_k227 : an_chk2 3000 227 = true := by decide +kernel
set_option maxRecDepth 100000 in
theorem an_k246 : an_chk2 3000 246 = true := by decide +kernel
set_option maxRecDepth 100000 in
theorem an_k248 : an_chk2 3000 248 = true := by decide +kernel
set_option maxRecDepth 100000 in
theorem an_k249 : an_chk2 3000 249 = true := by decide +kernel
set_option maxRecDepth 100000 in
theorem an_k250 : an_chk2 3000 250 = true := by decide +kernel
set_option maxRecDepth 100000 in
theorem an_k252 : an_chk2 3000 252 = true := by decide +kernel
set_option maxRecDepth 100000 in
theorem an_k253 : an_chk2 3000 253 = true := by decide +kernel
set_option maxRecDepth 100000 in
theorem an_k258 : an_chk2 3000 258 = true := by decide +kernel
set_option maxRecDepth 100000 in
theorem an_k264 : an_chk2 3000 264 = true := by decide +kernel
set_option maxRecDepth 100000 in
theorem an_k268 : an_chk2 3000 268 = true := by decide +kernel
set_option maxRecDepth 100000 in
theorem an_k272 : an_chk2 3000 272 = true := by decide +kernel
set_option maxRecDepth 100000 in
theorem an_k289 : an_chk2 3000 289 = true := by decide +kernel
set_option maxRecDepth 100000 in
theorem an_k301 : an_chk2 3000 301 = true := by decide +kernel
set_option maxRecDepth 100000 in
theorem an_k303 : an_chk2 3000 303 = true := by decide +kernel
set_option maxRecDepth 100000 in
theorem an_k306 : an_chk2 3000 306 = true := by decide +kernel
set_option maxRecDepth 100000 in
theorem an_k314 : an_chk2 3000 314 = true := by decide +kernel
set_option maxRecDepth 100000 in
theorem an_k321 : an_chk2 3000 321 = true := by decide +kernel
