def am_ZZ : List (am_J × (Bool × Bool) × (Nat × Nat × Nat × Nat × Nat × Nat × Nat) × List Nat) := (am_M.zip (am_MS.zip (am_N.zip am_MWi))).take am_LAW
def am_ZP (q : am_J × (Bool × Bool) × (Nat × Nat × Nat × Nat × Nat × Nat × Nat) × List Nat) : Bool := ((am_MW q.1 q.2.1.1 q.2.1.2 q.2.2.1.2.2.2.2.2.2).zip q.2.2.2).all (fun x => decide (lw_tbl[x.2]? = some x.1)) && (decide ((am_MW q.1 q.2.1.1 q.2.1.2 q.2.2.1.2.2.2.2.2.2).length = q.2.2.2.length) && (am_MW q.1 q.2.1.1 q.2.1.2 q.2.2.1.2.2.2.2.2.2).all goodWord)
theorem am_cut15 {α : Type} {p : α → Prop} {l : List α} (a n : Nat) (h1 : ∀ q ∈ (l.drop a).take n, p q) (h2 : ∀ q ∈ l.drop (a + n), p q) : ∀ q ∈ l.drop a, p q := by
  intro q hq
  rw [← List.take_append_drop n (l.drop a)] at hq
  rcases List.mem_append.mp hq with hq | hq
  · exact h1 q hq
  · rw [List.drop_drop] at hq
    exact h2 q hq
set_option maxRecDepth 100000 in
theorem am_mw0 : ∀ q ∈ (am_ZZ.drop 0).take 15, am_ZP q = true := List.all_eq_true.mp (by decide +kernel)
set_option maxRecDepth 100000 in
theorem am_mw15 : ∀ q ∈ (am_ZZ.drop 15).take 15, am_ZP q = true := List.all_eq_true.mp (by decide +kernel)
set_option maxRecDepth 100000 in
theorem am_mw30 : ∀ q ∈ (am_ZZ.drop 30).take 15, am_ZP q = true := List.all_eq_true.mp (by decide +kernel)
set_option maxRecDepth 100000 in
theorem am_mw45 : ∀ q ∈ (am_ZZ.drop 45).take 15, am_ZP q = true := List.all_eq_true.mp (by decide +kernel)
set_option maxRecDepth 100000 in
theorem am_mw60 : ∀ q ∈ (am_ZZ.drop 60).take 15, am_ZP q = true := List.all_eq_true.mp (by decide +kernel)
set_option maxRecDepth 100000 in
theorem am_mw75 : ∀ q ∈ (am_ZZ.drop 75).take 15, am_ZP q = true := List.all_eq_true.mp (by decide +kernel)
