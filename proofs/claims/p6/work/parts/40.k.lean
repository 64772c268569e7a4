set_option maxRecDepth 100000 in
theorem an_k18 : an_chk 3000 18 = true := by decide +kernel
set_option maxRecDepth 100000 in
theorem an_k27 : an_chk 3000 27 = true := by decide +kernel
set_option maxRecDepth 100000 in
theorem an_k28 : an_chk 3000 28 = true := by decide +kernel
set_option maxRecDepth 100000 in
theorem an_k29 : an_chk 3000 29 = true := by decide +kernel
set_option maxRecDepth 100000 in
theorem an_k30 : an_chk 3000 30 = true := by decide +kernel
set_option maxRecDepth 100000 in
theorem an_k35 : an_chk 3000 35 = true := by decide +kernel
set_option maxRecDepth 100000 in
theorem an_k36 : an_chk 3000 36 = true := by decide +kernel
set_option maxRecDepth 100000 in
theorem an_k42 : an_chk 3000 42 = true := by decide +kernel
set_option maxRecDepth 100000 in
theorem an_k48 : an_chk 3000 48 = true := by decide +kernel
set_option maxRecDepth 100000 in
theorem an_k49 : an_chk 3000 49 = true := by decide +kernel
set_option maxRecDepth 100000 in
theorem an_k50 : an_chk 3000 50 = true := by decide +kernel
set_option maxRecDepth 100000 in
theorem an_k52 : an_chk 3000 52 = true := by decide +kernel
set_option maxRecDepth 100000 in
theorem an_k57 : an_chk 3000 57 = true := by decide +kernel
set_option maxRecDepth 100000 in
theorem an_k60 : an_chk 3000 60 = true := by decide +kernel
set_option maxRecDepth 100000 in
theorem an_k61 : an_chk 3000 61 = true := by decide +kernel
set_option maxRecDepth 100000 in
theorem an_k62 : an_chk 3000 62 = true := by decide +kernel
set_option maxRecDepth 100000 in
theorem an_k63 : an_chk 3000 63 = true := by decide +kernel
set_option maxRecDepth 100000 in
theorem an_k64 : an_chk 3000 64 = true := by decide +kernel
set_option maxRecDepth 100000 in
theorem an_k65 : an_chk 3000 65 = true := by decide +kernel
set_option maxRecDepth 100000 in
theorem an_k67 : an_chk 3000 67 = true := by decide +kernel
set_option maxRecDepth 100000 in
theorem an_k68 : an_chk 3000 68 = true := by decide +kernel
set_option maxRecDepth 100000 in
theorem an_k73 : an_chk 3000 73 = true := by decide +kernel
set_option maxRecDepth 100000 in
theorem an_k74 : an_chk 3000 74 = true := by decide +kernel
set_option maxRecDepth 100000 in
theorem an_k76 : an_chk 3000 76 = true := by decide +kernel
set_option maxRecDepth 100000 in
theorem an_k77 : an_chk 3000 77 = true := by decide +kernel
set_option maxRecDepth 100000 in
theorem an_k78 : an_chk 3000 78 = true := by decide +kernel
set_option maxRecDepth 100000 in
theorem an_k80 : an_chk 3000 80 = true := by decide +kernel
set_option maxRecDepth 100000 in
theorem an_k84 : an_chk 3000 84 = true := by decide +kernel
set_option maxRecDepth 100000 in
theorem an_k85 : an_chk 3000 85 = true := by decide +kernel
set_option maxRecDepth 100000 in
theorem an_k86 : an_chk 3000 86 = true := by decide +kernel
set_option maxRecDepth 100000 in
theorem an_k91 : an_chk 3000 91 = true := by decide +kernel
set_option maxRecDepth 100000 in
theorem an_k92 : an_chk 3000 92 = true := by decide +kernel
set_option maxRecDepth 100000 in
theorem an_k93 : an_chk 3000 93 = true := by decide +kernel
set_option maxRecDepth 100000 in
theorem an_k95 : an_chk 3000 95 = true := by decide +kernel
set_option maxRecDepth 100000 in
theorem an_k98 : an_chk 3000 98 = true := by decide +kernel
set_option maxRecDepth 100000 in
theorem an_k99 : an_chk 3000 99 = true := by decide +kernel
set_option maxRecDepth 100000 in
theorem an_k100 : an_chk 3000 100 = true := by decide +kernel
set_option maxRecDepth 100000 in
theorem an_k101 : an_chk 3000 101 = true := by decide +kernel
set_option maxRecDepth 100000 in
theorem an_k102 : an_chk 3000 102 = true := by decide +kernel
set_option maxRecDepth 100000 in
theorem an_k103 : an_chk 3000 103 = true := by decide +kernel
set_option maxRecDepth 100000 in
theorem an_k104 : an_chk 3000 104 = true := by decide +kernel
set_option maxRecDepth 100000 in
theorem an_k105 : an_chk 3000 105 = true := by decide +kernel
set_option maxRecDepth 100000 in
theorem an_k107 : an_chk 3000 107 = true := by decide +kernel
set_option maxRecDepth 100000 in
theorem an_k108 : an_chk 3000 108 = true := by decide +kernel
set_option maxRecDepth 100000 in
theorem an_k109 : an_chk 3000 109 = true := by decide +kernel
set_option maxRecDepth 100000 in
theorem an_k110 : an_chk 3000 110 = true := by decide +kernel
set_option maxRecDepth 100000 in
theorem an_k112 : an_chk 3000 112 = true := by decide +kernel
set_option maxRecDepth 100000 in
theorem an_k113 : an_chk 3000 113 = true := by decide +kernel
set_option maxRecDepth 100000 in
theorem an_k114 : an_chk 3000 114 = true := by decide +kernel
set_option maxRecDepth 100000 in
theorem an_k115 : an_chk 3000 115 = true := by decide +kernel
set_option maxRecDepth 100000 in
theorem an_k116 : an_chk 3000 116 = true := by decide +kernel
set_option maxRecDepth 100000 in
theorem an_k117 : an_chk 3000 117 = true := by decide +kernel
set_option maxRecDepth 100000 in
theorem an_k118 : an_chk 3000 118 = true := by decide +kernel
set_option maxRecDepth 100000 in
theorem an_k121 : an_chk 3000 121 = true := by decide +kernel
set_option maxRecDepth 100000 in
theorem an_k122 : an_chk 3000 122 = true := by decide +kernel
set_option maxRecDepth 100000 in
theorem an_k123 : an_chk 3000 123 = true := by decide +kernel
set_option maxRecDepth 100000 in
theorem an_k126 : an_chk 3000 126 = true := by decide +kernel
set_option maxRecDepth 100000 in
theorem an_k127 : an_chk 3000 127 = true := by decide +kernel
set_option maxRecDepth 100000 in
theorem an_k129 : an_chk 3000 129 = true := by decide +kernel
set_option maxRecDepth 100000 in
theorem an_k130 : an_chk 3000 130 = true := by decide +kernel
set_option maxRecDepth 100000 in
theorem an_k131 : an_chk 3000 131 = true := by decide +kernel
set_option maxRecDepth 100000 in
theorem an_k132 : an_chk 3000 132 = true := by decide +kernel
set_option maxRecDepth 100000 in
theorem an_k133 : an_chk 3000 133 = true := by decide +kernel
set_option maxRecDepth 100000 in
theorem an_k134 : an_chk 3000 134 = true := by decide +kernel
set_option maxRecDepth 100000 in
theorem an_k135 : an_chk 3000 135 = true := by decide +kernel
set_option maxRecDepth 100000 in
theorem an_k136 : an_chk 3000 136 = true := by decide +kernel
set_option maxRecDepth 100000 in
theorem an_k137 : an_chk 3000 137 = true := by decide +kernel
set_option maxRecDepth 100000 in
theorem an_k138 : an_chk 3000 138 = true := by decide +kernel
set_option maxRecDepth 100000 in
theorem an_k139 : an_chk 3000 139 = true := by decide +kernel
set_option maxRecDepth 100000 in
theorem an_k142 : an_chk 3000 142 = true := by decide +kernel
set_option maxRecDepth 100000 in
theorem an_k143 : an_chk 3000 143 = true := by decide +kernel
set_option maxRecDepth 100000 in
theorem an_k144 : an_chk 3000 144 = true := by decide +kernel
set_option maxRecDepth 100000 in
theorem an_k145 : an_chk 3000 145 = true := by decide +kernel
set_option maxRecDepth 100000 in
theorem an_k146 : an_chk 3000 146 = true := by decide +kernel
set_option maxRecDepth 100000 in
theorem an_k147 : an_chk 3000 147 = true := by decide +kernel
set_option maxRecDepth 100000 in
theorem an_k148 : an_chk 3000 148 = true := by decide +kernel
set_option maxRecDepth 100000 in
theorem an_k149 : an_chk 3000 149 = true := by decide +kernel
set_option maxRecDepth 100000 in
theorem an_k150 : an_chk 3000 150 = true := by decide +kernel
set_option maxRecDepth 100000 in
theorem an_k155 : an_chk 3000 155 = true := by decide +kernel
set_option maxRecDepth 100000 in
theorem an_k157 : an_chk 3000 157 = true := by decide +kernel
set_option maxRecDepth 100000 in
theorem an_k158 : an_chk 3000 158 = true := by decide +kernel
set_option maxRecDepth 100000 in
theorem an_k159 : an_chk 3000 159 = true := by decide +kernel
set_option maxRecDepth 100000 in
theorem an_k160 : an_chk 3000 160 = true := by decide +kernel
set_option maxRecDepth 100000 in
theorem an_k161 : an_chk 3000 161 = true := by decide +kernel
set_option maxRecDepth 100000 in
theorem an_k164 : an_chk 3000 164 = true := by decide +kernel
set_option maxRecDepth 100000 in
theorem an_k165 : an_chk 3000 165 = true := by decide +kernel
set_option maxRecDepth 100000 in
theorem an_k173 : an_chk 3000 173 = true := by decide +kernel
set_option maxRecDepth 100000 in
theorem an_k175 : an_chk 3000 175 = true := by decide +kernel
set_option maxRecDepth 100000 in
theorem an_k176 : an_chk 3000 176 = true := by decide +kernel
set_option maxRecDepth 100000 in
theorem an_k177 : an_chk 3000 177 = true := by decide +kernel
set_option maxRecDepth 100000 in
theorem an_k179 : an_chk 3000 179 = true := by decide +kernel
set_option maxRecDepth 100000 in
theorem an_k180 : an_chk 3000 180 = true := by decide +kernel
set_option maxRecDepth 100000 in
theorem an_k181 : an_chk 3000 181 = true := by decide +kernel
set_option maxRecDepth 100000 in
theorem an_k182 : an_chk 3000 182 = true := by decide +kernel
set_option maxRecDepth 100000 in
theorem an_k184 : an_chk 3000 184 = true := by decide +kernel
set_option maxRecDepth 100000 in
theorem an_k185 : an_chk 3000 185 = true := by decide +kernel
set_option maxRecDepth 100000 in
theorem an_k186 : an_chk 3000 186 = true := by decide +kernel
set_option maxRecDepth 100000 in
theorem an_k191 : an_chk 3000 191 = true := by decide +kernel
set_option maxRecDepth 100000 in
theorem an_k192 : an_chk 3000 192 = true := by decide +kernel
set_option maxRecDepth 100000 in
theorem an_k194 : an_chk 3000 194 = true := by decide +kernel
set_option maxRecDepth 100000 in
theorem an_k195 : an_chk 3000 195 = true := by decide +kernel
set_option maxRecDepth 100000 in
theorem an_k197 : an_chk 3000 197 = true := by decide +kernel
