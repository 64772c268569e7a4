set_option maxRecDepth 100000 in
theorem an_k28 : an_chk2 3000 28 = true := by decide +kernel
set_option maxRecDepth 100000 in
theorem an_k30 : an_chk2 3000 30 = true := by decide +kernel
set_option maxRecDepth 100000 in
theorem an_k42 : an_chk2 3000 42 = true := by decide +kernel
set_option maxRecDepth 100000 in
theorem an_k49 : an_chk2 3000 49 = true := by decide +kernel
set_option maxRecDepth 100000 in
theorem an_k61 : an_chk2 3000 61 = true := by decide +kernel
set_option maxRecDepth 100000 in
theorem an_k63 : an_chk2 3000 63 = true := by decide +kernel
set_option maxRecDepth 100000 in
theorem an_k77 : an_chk2 3000 77 = true := by decide +kernel
set_option maxRecDepth 100000 in
theorem an_k92 : an_chk2 3000 92 = true := by decide +kernel
set_option maxRecDepth 100000 in
theorem an_k105 : an_chk2 3000 105 = true := by decide +kernel
set_option maxRecDepth 100000 in
theorem an_k109 : an_chk2 3000 109 = true := by decide +kernel
set_option maxRecDepth 100000 in
theorem an_k113 : an_chk2 3000 113 = true := by decide +kernel
set_option maxRecDepth 100000 in
theorem an_k127 : an_chk2 3000 127 = true := by decide +kernel
set_option maxRecDepth 100000 in
theorem an_k133 : an_chk2 3000 133 = true := by decide +kernel
set_option maxRecDepth 100000 in
theorem an_k134 : an_chk2 3000 134 = true := by decide +kernel
set_option maxRecDepth 100000 in
theorem an_k135 : an_chk2 3000 135 = true := by decide +kernel
set_option maxRecDepth 100000 in
theorem an_k144 : an_chk2 3000 144 = true := by decide +kernel
set_option maxRecDepth 100000 in
theorem an_k146 : an_chk2 3000 146 = true := by decide +kernel
set_option maxRecDepth 100000 in
theorem an_k158 : an_chk2 3000 158 = true := by decide +kernel
set_option maxRecDepth 100000 in
theorem an_k163 : an_chk2 3000 163 = true := by decide +kernel
set_option maxRecDepth 100000 in
theorem an_k173 : an_chk2 3000 173 = true := by decide +kernel
set_option maxRecDepth 100000 in
theorem an_k177 : an_chk2 3000 177 = true := by decide +kernel
set_option maxRecDepth 100000 in
theorem an_k194 : an_chk2 3000 194 = true := by decide +kernel
set_option maxRecDepth 100000 in
theorem an_k220 : an_chk2 3000 220 = true := by decide +kernel
set_option maxRecDepth 100000 in
theorem an_k233 : an_chk2 3000 233 = true := by decide +kernel
set_option maxRecDepth 100000 in
theorem an_k244 : an_chk2 3000 244 = true := by decide +kernel
set_option maxRecDepth 100000 in
theorem an_k248 : an_chk2 3000 248 = true := by decide +kernel
set_option maxRecDepth 100000 in
theorem an_k251 : an_chk2 3000 251 = true := by decide +kernel
set_option maxRecDepth 100000 in
theorem an_k254 : an_chk2 3000 254 = true := by decide +kernel
set_option maxRecDepth 100000 in
theorem an_k258 : an_chk2 3000 258 = true := by decide +kernel
set_option maxRecDepth 100000 in
theorem an_k259 : an_chk2 3000 259 = true := by decide +kernel
set_option maxRecDepth 100000 in
theorem an_k264 : an_chk2 3000 264 = true := by decide +kernel
set_option maxRecDepth 100000 in
theorem an_k265 : an_chk2 3000 265 = true := by decide +kernel
set_option maxRecDepth 100000 in
theorem an_k323 : an_chk2 3000 323 = true := by decide +kernel
set_option maxRecDepth 100000 in
theorem an_k325 : an_chk2 3000 325 = true := by decide +kernel
