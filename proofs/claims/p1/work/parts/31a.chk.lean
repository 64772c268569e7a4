def am_ZZ : List (am_J × (Bool × Bool) × (Nat × Nat × Nat × Nat × Nat × Nat × Nat) × List Nat) := (am_M.zip (am_MS.zip (am_N.zip am_MWi))).take am_LAW
def am_lEq : List UInt8 → List UInt8 → Bool
  | [], [] => true
  | x :: xs, y :: ys => Nat.beq x.toNat y.toNat && am_lEq xs ys
  | _, _ => false
theorem am_lEq_ok : ∀ {a b : List UInt8}, am_lEq a b = true → a = b := by
  intro a
  induction a with
  | nil => intro b h; cases b with
    | nil => rfl
    | cons y ys => cases h
  | cons x xs ih => intro b h; cases b with
    | nil => cases h
    | cons y ys =>
      simp only [am_lEq, Bool.and_eq_true] at h
      rw [UInt8.toNat_inj.mp (Nat.eq_of_beq_eq_true h.1), ih h.2]
/-- bytes compared in their order -/
def am_bEq (a b : ByteArray) : Bool := am_lEq a.data.toList b.data.toList
theorem am_bEq_ok {a b : ByteArray} (h : am_bEq a b = true) : a = b := by
  obtain ⟨⟨a⟩⟩ := a
  obtain ⟨⟨b⟩⟩ := b
  have := am_lEq_ok h
  simp only at this
  rw [this]
def am_cEq : Cond → Cond → Bool
  | .code y b n r, .code y2 b2 n2 r2 => am_bEq b b2 && (decide (y = y2) && (decide (n = n2) && decide (r = r2)))
  | .codeWith y b n r t, .codeWith y2 b2 n2 r2 t2 => am_bEq b b2 && (decide (y = y2) && (decide (n = n2) && (decide (r = r2) && decide (t = t2))))
  | c, d => decide (c = d)
theorem am_cEq_ok {c d : Cond} (h : am_cEq c d = true) : c = d := by
  unfold am_cEq at h
  split at h
  · simp only [Bool.and_eq_true, decide_eq_true_eq] at h
    obtain ⟨h1, rfl, rfl, rfl⟩ := h
    rw [am_bEq_ok h1]
  · simp only [Bool.and_eq_true, decide_eq_true_eq] at h
    obtain ⟨h1, rfl, rfl, rfl, rfl⟩ := h
    rw [am_bEq_ok h1]
  · exact of_decide_eq_true h
def am_atT (x : Cond × Nat) : Bool := match lw_tbl[x.2]? with
  | some c => am_cEq c x.1
  | none => false
theorem am_atT_ok {x : Cond × Nat} (h : am_atT x = true) : lw_tbl[x.2]? = some x.1 := by
  unfold am_atT at h
  split at h
  · rename_i c hc
    rw [hc, am_cEq_ok h]
  · cases h
def am_ZP (q : am_J × (Bool × Bool) × (Nat × Nat × Nat × Nat × Nat × Nat × Nat) × List Nat) : Bool := ((am_MW q.1 q.2.1.1 q.2.1.2 q.2.2.1.2.2.2.2.2.2).zip q.2.2.2).all am_atT && (decide ((am_MW q.1 q.2.1.1 q.2.1.2 q.2.2.1.2.2.2.2.2.2).length = q.2.2.2.length) && (am_MW q.1 q.2.1.1 q.2.1.2 q.2.2.1.2.2.2.2.2.2).all goodWord)
theorem am_cut15 {α : Type} {p : α → Prop} {l : List α} (a n : Nat) (h1 : ∀ q ∈ (l.drop a).take n, p q) (h2 : ∀ q ∈ l.drop (a + n), p q) : ∀ q ∈ l.drop a, p q := by
  intro q hq
  rw [← List.take_append_drop n (l.drop a)] at hq
  rcases List.mem_append.mp hq with hq | hq
  · exact h1 q hq
  · rw [List.drop_drop] at hq
    exact h2 q hq
set_option maxRecDepth 100000 in
theorem am_mw0 : ∀ q ∈ (am_ZZ.drop 0).take 15, am_ZP q = true := List.all_eq_true.mp (by decide +kernel)
set_option maxRecDepth 100000 in
theorem am_mw15 : ∀ q ∈ (am_ZZ.drop 15).take 15, am_ZP q = true := List.all_eq_true.mp (by decide +kernel)
set_option maxRecDepth 100000 in
theorem am_mw30 : ∀ q ∈ (am_ZZ.drop 30).take 15, am_ZP q = true := List.all_eq_true.mp (by decide +kernel)
set_option maxRecDepth 100000 in
theorem am_mw45 : ∀ q ∈ (am_ZZ.drop 45).take 15, am_ZP q = true := List.all_eq_true.mp (by decide +kernel)
set_option maxRecDepth 100000 in
theorem am_mw60 : ∀ q ∈ (am_ZZ.drop 60).take 15, am_ZP q = true := List.all_eq_true.mp (by decide +kernel)
set_option maxRecDepth 100000 in
theorem am_mw75 : ∀ q ∈ (am_ZZ.drop 75).take 15, am_ZP q = true := List.all_eq_true.mp (by decide +kernel)
set_option maxRecDepth 100000 in
theorem am_mw90 : ∀ q ∈ (am_ZZ.drop 90).take 15, am_ZP q = true := List.all_eq_true.mp (by decide +kernel)
set_option maxRecDepth 100000 in
theorem am_mw105 : ∀ q ∈ (am_ZZ.drop 105).take 15, am_ZP q = true := List.all_eq_true.mp (by decide +kernel)
set_option maxRecDepth 100000 in
theorem am_mw120 : ∀ q ∈ (am_ZZ.drop 120).take 15, am_ZP q = true := List.all_eq_true.mp (by decide +kernel)
set_option maxRecDepth 100000 in
theorem am_mw135 : ∀ q ∈ (am_ZZ.drop 135).take 15, am_ZP q = true := List.all_eq_true.mp (by decide +kernel)
set_option maxRecDepth 100000 in
theorem am_mw150 : ∀ q ∈ (am_ZZ.drop 150).take 15, am_ZP q = true := List.all_eq_true.mp (by decide +kernel)
