set_option maxRecDepth 100000 in
theorem am_mw90 : ∀ q ∈ (am_ZZ.drop 90).take 15, am_ZP q = true := List.all_eq_true.mp (by decide +kernel)
set_option maxRecDepth 100000 in
theorem am_mw105 : ∀ q ∈ (am_ZZ.drop 105).take 15, am_ZP q = true := List.all_eq_true.mp (by decide +kernel)
set_option maxRecDepth 100000 in
theorem am_mw120 : ∀ q ∈ (am_ZZ.drop 120).take 15, am_ZP q = true := List.all_eq_true.mp (by decide +kernel)
set_option maxRecDepth 100000 in
theorem am_mw135 : ∀ q ∈ (am_ZZ.drop 135).take 15, am_ZP q = true := List.all_eq_true.mp (by decide +kernel)
set_option maxRecDepth 100000 in
theorem am_mw150 : ∀ q ∈ (am_ZZ.drop 150).take 15, am_ZP q = true := List.all_eq_true.mp (by decide +kernel)
set_option maxRecDepth 100000 in
theorem am_mw165 : ∀ q ∈ (am_ZZ.drop 165).take 15, am_ZP q = true := List.all_eq_true.mp (by decide +kernel)
