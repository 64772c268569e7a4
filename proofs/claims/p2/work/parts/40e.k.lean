set_option maxRecDepth 100000 in
theorem an_k43 : an_chk2 3000 43 = true := by decide +kernel
set_option maxRecDepth 100000 in
theorem an_k50 : an_chk2 3000 50 = true := by decide +kernel
set_option maxRecDepth 100000 in
theorem an_k64 : an_chk2 3000 64 = true := by decide +kernel
set_option maxRecDepth 100000 in
theorem an_k72 : an_chk2 3000 72 = true := by decide +kernel
set_option maxRecDepth 100000 in
theorem an_k74 : an_chk2 3000 74 = true := by decide +kernel
set_option maxRecDepth 100000 in
theorem an_k77 : an_chk2 3000 77 = true := by decide +kernel
set_option maxRecDepth 100000 in
theorem an_k80 : an_chk2 3000 80 = true := by decide +kernel
set_option maxRecDepth 100000 in
theorem an_k85 : an_chk2 3000 85 = true := by decide +kernel
set_option maxRecDepth 100000 in
theorem an_k92 : an_chk2 3000 92 = true := by decide +kernel
set_option maxRecDepth 100000 in
theorem an_k99 : an_chk2 3000 99 = true := by decide +kernel
set_option maxRecDepth 100000 in
theorem an_k104 : an_chk2 3000 104 = true := by decide +kernel
set_option maxRecDepth 100000 in
theorem an_k108 : an_chk2 3000 108 = true := by decide +kernel
set_option maxRecDepth 100000 in
theorem an_k109 : an_chk2 3000 109 = true := by decide +kernel
set_option maxRecDepth 100000 in
theorem an_k113 : an_chk2 3000 113 = true := by decide +kernel
set_option maxRecDepth 100000 in
theorem an_k123 : an_chk2 3000 123 = true := by decide +kernel
set_option maxRecDepth 100000 in
theorem an_k136 : an_chk2 3000 136 = true := by decide +kernel
set_option maxRecDepth 100000 in
theorem an_k143 : an_chk2 3000 143 = true := by decide +kernel
set_option maxRecDepth 100000 in
theorem an_k161 : an_chk2 3000 161 = true := by decide +kernel
set_option maxRecDepth 100000 in
theorem an_k176 : an_chk2 3000 176 = true := by decide +kernel
set_option maxRecDepth 100000 in
theorem an_k180 : an_chk2 3000 180 = true := by decide +kernel
set_option maxRecDepth 100000 in
theorem an_k191 : an_chk2 3000 191 = true := by decide +kernel
set_option maxRecDepth 100000 in
theorem an_k198 : an_chk2 3000 198 = true := by decide +kernel
set_option maxRecDepth 100000 in
theorem an_k207 : an_chk2 3000 207 = true := by decide +kernel
set_option maxRecDepth 100000 in
theorem an_k215 : an_chk2 3000 215 = true := by decide +kernel
set_option maxRecDepth 100000 in
theorem an_k225 : an_chk2 3000 225 = true := by decide +kernel
set_option maxRecDepth 100000 in
theorem an_k226 : an_chk2 3000 226 = true := by decide +kernel
set_option maxRecDepth 100000 in
theorem an_k242 : an_chk2 3000 242 = true := by decide +kernel
set_option maxRecDepth 100000 in
theorem an_k243 : an_chk2 3000 243 = true := by decide +kernel
set_option maxRecDepth 100000 in
theorem an_k259 : an_chk2 3000 259 = true := by decide +kernel
set_option maxRecDepth 100000 in
theorem an_k267 : an_chk2 3000 267 = true := by decide +kernel
set_option maxRecDepth 100000 in
theorem an_k270 : an_chk2 3000 270 = true := by decide +kernel
set_option maxRecDepth 100000 in
theorem an_k274 : an_chk2 3000 274 = true := by decide +kernel
set_option maxRecDepth 100000 in
theorem an_k300 : an_chk2 3000 300 = true := by decide +kernel
set_option maxRecDepth 100000 in
theorem an_k322 : an_chk2 3000 322 = true := by decide +kernel
