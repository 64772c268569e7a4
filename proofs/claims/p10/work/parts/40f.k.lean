set_option maxRecDepth 100000 in
theorem an_k49 : an_chk2 3000 49 = true := by decide +kernel
set_option maxRecDepth 100000 in
theorem an_k50 : an_chk2 3000 50 = true := by decide +kernel
set_option maxRecDepth 100000 in
theorem an_k57 : an_chk2 3000 57 = true := by decide +kernel
set_option maxRecDepth 100000 in
theorem an_k60 : an_chk2 3000 60 = true := by decide +kernel
set_option maxRecDepth 100000 in
theorem an_k64 : an_chk2 3000 64 = true := by decide +kernel
set_option maxRecDepth 100000 in
theorem an_k69 : an_chk2 3000 69 = true := by decide +kernel
set_option maxRecDepth 100000 in
theorem an_k73 : an_chk2 3000 73 = true := by decide +kernel
set_option maxRecDepth 100000 in
theorem an_k77 : an_chk2 3000 77 = true := by decide +kernel
set_option maxRecDepth 100000 in
theorem an_k91 : an_chk2 3000 91 = true := by decide +kernel
set_option maxRecDepth 100000 in
theorem an_k104 : an_chk2 3000 104 = true := by decide +kernel
set_option maxRecDepth 100000 in
theorem an_k108 : an_chk2 3000 108 = true := by decide +kernel
set_option maxRecDepth 100000 in
theorem an_k109 : an_chk2 3000 109 = true := by decide +kernel
set_option maxRecDepth 100000 in
theorem an_k112 : an_chk2 3000 112 = true := by decide +kernel
set_option maxRecDepth 100000 in
theorem an_k115 : an_chk2 3000 115 = true := by decide +kernel
set_option maxRecDepth 100000 in
theorem an_k118 : an_chk2 3000 118 = true := by decide +kernel
set_option maxRecDepth 100000 in
theorem an_k121 : an_chk2 3000 121 = true := by decide +kernel
set_option maxRecDepth 100000 in
theorem an_k138 : an_chk2 3000 138 = true := by decide +kernel
set_option maxRecDepth 100000 in
theorem an_k153 : an_chk2 3000 153 = true := by decide +kernel
set_option maxRecDepth 100000 in
theorem an_k159 : an_chk2 3000 159 = true := by decide +kernel
set_option maxRecDepth 100000 in
theorem an_k161 : an_chk2 3000 161 = true := by decide +kernel
set_option maxRecDepth 100000 in
theorem an_k165 : an_chk2 3000 165 = true := by decide +kernel
set_option maxRecDepth 100000 in
theorem an_k179 : an_chk2 3000 179 = true := by decide +kernel
set_option maxRecDepth 100000 in
theorem an_k184 : an_chk2 3000 184 = true := by decide +kernel
set_option maxRecDepth 100000 in
theorem an_k223 : an_chk2 3000 223 = true := by decide +kernel
set_option maxRecDepth 100000 in
theorem an_k225 : an_chk2 3000 225 = true := by decide +kernel
set_option maxRecDepth 100000 in
theorem an_k229 : an_chk2 3000 229 = true := by decide +kernel
set_option maxRecDepth 100000 in
theorem an_k240 : an_chk2 3000 240 = true := by decide +kernel
set_option maxRecDepth 100000 in
theorem an_k262 : an_chk2 3000 262 = true := by decide +kernel
set_option maxRecDepth 100000 in
theorem an_k265 : an_chk2 3000 265 = true := by decide +kernel
set_option maxRecDepth 100000 in
theorem an_k267 : an_chk2 3000 267 = true := by decide +kernel
set_option maxRecDepth 100000 in
theorem an_k274 : an_chk2 3000 274 = true := by decide +kernel
set_option maxRecDepth 100000 in
theorem an_k278 : an_chk2 3000 278 = true := by decide +kernel
set_option maxRecDepth 100000 in
theorem an_k296 : an_chk2 3000 296 = true := by decide +kernel
set_option maxRecDepth 100000 in
theorem an_k327 : an_chk2 3000 327 = true := by decide +kernel
