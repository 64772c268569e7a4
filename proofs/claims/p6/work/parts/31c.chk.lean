set_option maxRecDepth 100000 in
theorem am_mw180 : ∀ q ∈ (am_ZZ.drop 180).take 15, am_ZP q = true := List.all_eq_true.mp (by decide +kernel)
set_option maxRecDepth 100000 in
theorem am_mw195 : ∀ q ∈ (am_ZZ.drop 195).take 15, am_ZP q = true := List.all_eq_true.mp (by decide +kernel)
set_option maxRecDepth 100000 in
theorem am_mw210 : ∀ q ∈ (am_ZZ.drop 210).take 15, am_ZP q = true := List.all_eq_true.mp (by decide +kernel)
set_option maxRecDepth 100000 in
theorem am_mw225 : ∀ q ∈ (am_ZZ.drop 225).take 15, am_ZP q = true := List.all_eq_true.mp (by decide +kernel)
set_option maxRecDepth 100000 in
theorem am_mw240 : ∀ q ∈ (am_ZZ.drop 240).take 15, am_ZP q = true := List.all_eq_true.mp (by decide +kernel)
