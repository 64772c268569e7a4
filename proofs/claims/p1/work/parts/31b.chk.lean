set_option maxRecDepth 100000 in
theorem am_mw165 : ∀ q ∈ (am_ZZ.drop 165).take 15, am_ZP q = true := List.all_eq_true.mp (by decide +kernel)
set_option maxRecDepth 100000 in
theorem am_mw180 : ∀ q ∈ (am_ZZ.drop 180).take 15, am_ZP q = true := List.all_eq_true.mp (by decide +kernel)
set_option maxRecDepth 100000 in
theorem am_mw195 : ∀ q ∈ (am_ZZ.drop 195).take 15, am_ZP q = true := List.all_eq_true.mp (by decide +kernel)
set_option maxRecDepth 100000 in
theorem am_mw210 : ∀ q ∈ (am_ZZ.drop 210).take 15, am_ZP q = true := List.all_eq_true.mp (by decide +kernel)
set_option maxRecDepth 100000 in
theorem am_mw225 : ∀ q ∈ (am_ZZ.drop 225).take 15, am_ZP q = true := List.all_eq_true.mp (by decide +kernel)
set_option maxRecDepth 100000 in
theorem am_mw240 : ∀ q ∈ (am_ZZ.drop 240).take 15, am_ZP q = true := List.all_eq_true.mp (by decide +kernel)
set_option maxRecDepth 100000 in
theorem am_mw255 : ∀ q ∈ (am_ZZ.drop 255).take 15, am_ZP q = true := List.all_eq_true.mp (by decide +kernel)
set_option maxRecDepth 100000 in
theorem am_mw270 : ∀ q ∈ (am_ZZ.drop 270).take 15, am_ZP q = true := List.all_eq_true.mp (by decide +kernel)
set_option maxRecDepth 100000 in
theorem am_mw285 : ∀ q ∈ (am_ZZ.drop 285).take 15, am_ZP q = true := List.all_eq_true.mp (by decide +kernel)
set_option maxRecDepth 100000 in
theorem am_mw300 : ∀ q ∈ (am_ZZ.drop 300).take 15, am_ZP q = true := List.all_eq_true.mp (by decide +kernel)
set_option maxRecDepth 100000 in
theorem am_mw315 : ∀ q ∈ (am_ZZ.drop 315).take 15, am_ZP q = true := List.all_eq_true.mp (by decide +kernel)
