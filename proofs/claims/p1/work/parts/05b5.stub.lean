def am_dlP (m : Nat) : Prop := ∀ j, am_M[m]? = some j → (∀ e ∈ am_code0 m, am_deOk j.2.1 e = true) ∧ (∀ e ∈ am_code0 m, am_ok j.1 m e = true)
theorem am_dlA : ∀ a, a < 330 → am_dlP a := sorry
