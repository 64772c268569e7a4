/-! THE LIST'S OWN METHODS, by hand over the abstract machine. -/
section LI
variable {O : am_O} {X : Nat → ClassId}
theorem am_st5 {K : am_K} {Cl : Nat → List Value → va_W → am_Q → Prop} {Q : am_Q} {m pc ix ra : Nat} {l : am_L} {st : List Value} {k sl : Nat} {ws : va_W} (h : ∃ (a : Nat) (r : List Value), st = .ref a :: r ∧ am_wt r + 12 ≤ am_Lc m ∧ 1 ≤ am_F m ∧ K (pc + 3) l r k sl ws) : am_step O X K Cl Q m pc (.invokespecial ix) ra 5 l st k sl ws := h
theorem am_stS {K : am_K} {Cl : Nat → List Value → va_W → am_Q → Prop} {Q : am_Q} {m pc ix ra rb : Nat} {l : am_L} {st : List Value} {k sl : Nat} {ws : va_W} (hn : rb ≠ 5) (h : am_call K Cl Q m pc ra rb l st k sl ws) : am_step O X K Cl Q m pc (.invokespecial ix) ra rb l st k sl ws := by
  simp only [am_step]
  rw [if_neg hn]
  exact h
theorem am_stT {K : am_K} {Cl : Nat → List Value → va_W → am_Q → Prop} {Q : am_Q} {m pc ix ra rb : Nat} {l : am_L} {st : List Value} {k sl : Nat} {ws : va_W} (hn : rb ≠ 6) (h : am_call K Cl Q m pc ra rb l st k sl ws) : am_step O X K Cl Q m pc (.invokestatic ix) ra rb l st k sl ws := by
  simp only [am_step]
  rw [if_neg hn]
  exact h
theorem am_st6 {K : am_K} {Cl : Nat → List Value → va_W → am_Q → Prop} {Q : am_Q} {m pc ix ra : Nat} {l : am_L} {st : List Value} {k sl : Nat} {ws : va_W} (h : ∃ (n a : Nat) (r : List Value) (c : Nat) (f : Nat → Option Nat), st = .int (nI n) :: .ref a :: r ∧ (a, .inl (X 3, c, .inr (.inr (.inr (.inr f))))) ∈ ws ∧ (∀ i, i < c → ∀ y, f i = some y → ∃ vs, (y, .inr (11, vs)) ∈ ws) ∧ c ≤ n ∧ n ≤ 1000000 ∧ am_wt r ≤ 8 ∧ k + 1 ≤ am_mc m ∧ sl + n ≤ am_ms m ∧ 6 ≤ am_F m ∧ 200 ≤ am_Lc m ∧
    ∀ b, am_fresh ws b → K (pc + 3) l (.ref b :: r) (k + 1) (sl + n) (ws ++ [(b, .inl (X 3, n, .inr (.inr (.inr (.inr (fun j => if j < c then f j else none))))))])) : am_step O X K Cl Q m pc (.invokestatic ix) ra 6 l st k sl ws := h
theorem an_j1 {a : Nat} {ws : va_W} {Q : am_Q} (hQ : Q (.inl none) ws) : am_Safe O X 1 0 [(0, .ref a)] [] 0 0 ws Q := by
  refine am_go (List.mem_of_getElem? (i := 0) rfl) ⟨some a, by simp [va_rf], ?_⟩
  refine am_go (List.mem_of_getElem? (i := 1) rfl) (am_st5 ?_)
  refine ⟨a, [], rfl, Nat.le_of_ble_eq_true rfl, by decide +kernel, ?_⟩
  exact am_go (List.mem_of_getElem? (i := 2) rfl) ⟨rfl, by decide +kernel, by decide +kernel, by decide +kernel, hQ⟩
theorem an_j2 {a q : Nat} {fs : List Value} {ws : va_W} {Q : am_Q} (hw : ws[q]? = some (a, .inr (0, fs))) (hl : fs.length = 3) (hQ : Q (.inl none) (ws.set q (a, .inr (0, fs.set 0 (.int 0))))) : am_Safe O X 2 0 [(0, .ref a)] [] 0 0 ws Q := by
  refine am_go (List.mem_of_getElem? (i := 0) rfl) ⟨some a, by simp [va_rf], ?_⟩
  refine am_go (List.mem_of_getElem? (i := 1) rfl) (am_stS (by decide) ?_)
  refine ⟨[.ref a], [], rfl, rfl, by decide, Nat.le_of_ble_eq_true rfl, Nat.le_of_ble_eq_true rfl, fun h => (by cases h), fun _ => ⟨a, [], rfl⟩, by decide +kernel, by decide +kernel, by decide +kernel, by decide +kernel, fun r w => r = .inl none ∧ ws = w, an_j1 ⟨rfl, rfl⟩, ?_⟩
  rintro r w ⟨rfl, rfl⟩
  refine am_go (List.mem_of_getElem? (i := 2) rfl) ⟨some a, by simp [va_rf], ?_⟩
  refine am_go (List.mem_of_getElem? (i := 3) rfl) ?_
  refine am_go (List.mem_of_getElem? (i := 4) rfl) ⟨.int (Int32.ofInt 0), a, [], q, fs, rfl, hw, by omega, rfl, ?_⟩
  exact am_go (List.mem_of_getElem? (i := 5) rfl) ⟨rfl, by decide +kernel, by decide +kernel, by decide +kernel, hQ⟩
theorem an_fitA (a : Nat) : am_fit 0 1 (.ref a) = true := an_rf_fit (x := some a) (Or.inr ⟨_, rfl⟩)
theorem an_setset {ws : va_W} {q : Nat} {x y : Nat × va_E} : (ws.set q x).set q y = ws.set q y := by rw [List.set_set]
theorem an_getset {ws : va_W} {q : Nat} {x y : Nat × va_E} (h : ws[q]? = some x) : (ws.set q y)[q]? = some y := by
  rw [List.getElem?_set, if_pos rfl, if_pos (List.getElem?_eq_some_iff.mp h).1]
theorem an_j3 {a q : Nat} {fs : List Value} {ws : va_W} {Q : am_Q} (hw : ws[q]? = some (a, .inr (0, fs))) (hl : fs.length = 3) (hQ : Q (.inl none) (ws.set q (a, .inr (0, (fs.set 0 (.int 0)).set 1 (.ref (O 3).1))))) : am_Safe O X 3 0 [(0, .ref a)] [] 0 0 ws Q := by
  refine am_go (List.mem_of_getElem? (i := 0) rfl) ⟨some a, by simp [va_rf], ?_⟩
  refine am_go (List.mem_of_getElem? (i := 1) rfl) (am_stS (by decide) ?_)
  refine ⟨[.ref a], [], rfl, rfl, by decide, Nat.le_of_ble_eq_true rfl, Nat.le_of_ble_eq_true rfl, fun h => (by cases h), fun _ => ⟨a, [], rfl⟩, by decide +kernel, by decide +kernel, by decide +kernel, by decide +kernel, fun r w => r = .inl none ∧ w = ws.set q (a, .inr (0, fs.set 0 (.int 0))), an_j2 hw hl ⟨rfl, rfl⟩, ?_⟩
  rintro r w ⟨rfl, rfl⟩
  refine am_go (List.mem_of_getElem? (i := 2) rfl) ⟨some a, by simp [va_rf], ?_⟩
  refine am_go (List.mem_of_getElem? (i := 3) rfl) ?_
  refine am_go (List.mem_of_getElem? (i := 4) rfl) ⟨.ref (O 3).1, a, [], q, fs.set 0 (.int 0), rfl, an_getset hw, by simp only [List.length_set]; omega, an_fitA _, ?_⟩
  rw [an_setset]
  exact am_go (List.mem_of_getElem? (i := 5) rfl) ⟨rfl, by decide +kernel, by decide +kernel, by decide +kernel, hQ⟩
/-! get -/
theorem an_j37 {x n : Int32} {v : Value} {ws : va_W} {Q : am_Q} (h0 : 0 ≤ x.toInt) (h1 : x.toInt < n.toInt) (hQ : Q (.inl (some (.int x))) ws) : am_Safe O X 38 0 [(0, .int x), (1, .int n), (2, v)] [] 0 0 ws Q := by
  refine am_go (List.mem_of_getElem? (i := 0) rfl) ⟨x, by simp, ?_⟩
  refine am_go (List.mem_of_getElem? (i := 1) rfl) ⟨x, [], rfl, fun h => ?_, fun _ => ?_⟩
  · exfalso
    have := Int32.lt_iff_toInt_lt.mp (show x < 0 from h)
    simp at this
    omega
  refine am_go (List.mem_of_getElem? (i := 2) rfl) ⟨x, by simp, ?_⟩
  refine am_go (List.mem_of_getElem? (i := 3) rfl) ⟨n, by simp, ?_⟩
  refine am_go (List.mem_of_getElem? (i := 4) rfl) ⟨x, n, [], rfl, fun _ => ?_, fun h => ?_⟩
  · refine am_go (List.mem_of_getElem? (i := 10) rfl) ⟨x, by simp, ?_⟩
    exact am_go (List.mem_of_getElem? (i := 11) rfl) ⟨x, rfl, Or.inl (by decide +kernel), by decide +kernel, by decide +kernel, hQ⟩
  · exact absurd (Int32.lt_iff_toInt_lt.mpr h1) h
theorem an_j38 {x n : Int32} {ws : va_W} {Q : am_Q} (h0 : 0 ≤ x.toInt) (h1 : x.toInt < n.toInt) (hQ : Q (.inl (some (.int x))) ws) : am_Safe O X 39 0 [(0, .int x), (1, .int n)] [] 0 0 ws Q := by
  refine am_go (List.mem_of_getElem? (i := 0) rfl) ⟨x, by simp, ?_⟩
  refine am_go (List.mem_of_getElem? (i := 1) rfl) ⟨n, by simp, ?_⟩
  refine am_go (List.mem_of_getElem? (i := 2) rfl) ?_
  refine am_go (List.mem_of_getElem? (i := 3) rfl) (am_stT (by decide) ?_)
  refine ⟨[.int x, .int n, .null], [], rfl, rfl, by decide, Nat.le_of_ble_eq_true rfl, Nat.le_of_ble_eq_true rfl, fun h => (by cases h), fun h => (by rcases h with h | h <;> cases h), by decide +kernel, by decide +kernel, by decide +kernel, by decide +kernel, fun r w => r = .inl (some (.int x)) ∧ ws = w, an_j37 h0 h1 ⟨rfl, rfl⟩, ?_⟩
  rintro r w ⟨rfl, rfl⟩
  exact am_go (List.mem_of_getElem? (i := 4) rfl) ⟨x, rfl, Or.inl (by decide +kernel), by decide +kernel, by decide +kernel, hQ⟩
theorem an_j39 {a e n : Nat} {x : Int32} {fs : List Value} {f : Nat → Option Nat} {ws : va_W} {Q : am_Q} (ha : (a, .inr (0, fs)) ∈ ws) (he : fs[1]? = some (.ref e)) (hf : (e, .inl (X 3, n, .inr (.inr (.inr (.inr f))))) ∈ ws) (hx : vp_in x n) (hQ : Q (.inl (some (va_rf (f x.toNatClampNeg)))) ws) : am_Safe O X 40 0 [(0, .ref a), (1, .int x)] [] 0 0 ws Q := by
  refine am_go (List.mem_of_getElem? (i := 0) rfl) ⟨some a, by simp [va_rf], ?_⟩
  refine am_go (List.mem_of_getElem? (i := 1) rfl) ⟨a, [], fs, .ref e, rfl, ha, he, ?_⟩
  refine am_go (List.mem_of_getElem? (i := 2) rfl) ⟨x, by simp, ?_⟩
  refine am_go (List.mem_of_getElem? (i := 3) rfl) ⟨x, e, [], 3, n, f, rfl, Or.inr rfl, hf, hx, ?_⟩
  exact am_go (List.mem_of_getElem? (i := 4) rfl) ⟨f x.toNatClampNeg, rfl, by decide +kernel, by decide +kernel, by decide +kernel, hQ⟩
theorem an_j40 {a e n : Nat} {x s : Int32} {fs : List Value} {f : Nat → Option Nat} {ws : va_W} {Q : am_Q} (ha : (a, .inr (0, fs)) ∈ ws) (he : fs[1]? = some (.ref e)) (hs : fs[2]? = some (.int s)) (hf : (e, .inl (X 3, n, .inr (.inr (.inr (.inr f))))) ∈ ws) (h0 : 0 ≤ x.toInt) (h1 : x.toInt < s.toInt) (hx : vp_in x n) (hQ : Q (.inl (some (va_rf (f x.toNatClampNeg)))) ws) : am_Safe O X 41 0 [(0, .ref a), (1, .int x)] [] 0 0 ws Q := by
  refine am_go (List.mem_of_getElem? (i := 0) rfl) ⟨x, by simp, ?_⟩
  refine am_go (List.mem_of_getElem? (i := 1) rfl) ⟨some a, by simp [va_rf], ?_⟩
  refine am_go (List.mem_of_getElem? (i := 2) rfl) ⟨a, [.int x], fs, .int s, rfl, ha, hs, ?_⟩
  refine am_go (List.mem_of_getElem? (i := 3) rfl) (am_stT (by decide) ?_)
  refine ⟨[.int x, .int s], [], rfl, rfl, by decide, Nat.le_of_ble_eq_true rfl, Nat.le_of_ble_eq_true rfl, fun h => (by cases h), fun h => (by rcases h with h | h <;> cases h), by decide +kernel, by decide +kernel, by decide +kernel, by decide +kernel, fun r w => r = .inl (some (.int x)) ∧ ws = w, an_j38 h0 h1 ⟨rfl, rfl⟩, ?_⟩
  rintro r w ⟨rfl, rfl⟩
  refine am_go (List.mem_of_getElem? (i := 4) rfl) ⟨.int x, [], rfl, rfl, ?_⟩
  refine am_go (List.mem_of_getElem? (i := 5) rfl) ⟨some a, by simp [va_rf], ?_⟩
  refine am_go (List.mem_of_getElem? (i := 6) rfl) ⟨x, by simp, ?_⟩
  refine am_go (List.mem_of_getElem? (i := 7) rfl) ?_
  refine ⟨[.ref a, .int x], [], rfl, rfl, by decide, Nat.le_of_ble_eq_true rfl, Nat.le_of_ble_eq_true rfl, fun _ => ⟨a, [.int x], 0, fs, rfl, ha, rfl⟩, fun h => (by rcases h with h | h <;> cases h), by decide +kernel, by decide +kernel, by decide +kernel, by decide +kernel, fun r w => r = .inl (some (va_rf (f x.toNatClampNeg))) ∧ ws = w, an_j39 ha he hf hx ⟨rfl, rfl⟩, ?_⟩
  rintro r w ⟨rfl, rfl⟩
  exact am_go (List.mem_of_getElem? (i := 8) rfl) ⟨f x.toNatClampNeg, rfl, by decide +kernel, by decide +kernel, by decide +kernel, hQ⟩
/-! add -/
theorem an_j16 {x y : Int32} {ws : va_W} {Q : am_Q} (hQ : Q (.inl (some (.int (if x < y then y else x)))) ws) : am_Safe O X 16 0 [(0, .int x), (1, .int y)] [] 0 0 ws Q := by
  refine am_go (List.mem_of_getElem? (i := 0) rfl) ⟨x, by simp, ?_⟩
  refine am_go (List.mem_of_getElem? (i := 1) rfl) ⟨y, by simp, ?_⟩
  refine am_go (List.mem_of_getElem? (i := 2) rfl) ⟨x, y, [], rfl, fun h => ?_, fun h => ?_⟩
  · rw [if_pos (show x < y from h)] at hQ
    refine am_go (List.mem_of_getElem? (i := 5) rfl) ⟨y, by simp, ?_⟩
    exact am_go (List.mem_of_getElem? (i := 6) rfl) ⟨y, rfl, Or.inl (by decide +kernel), by decide +kernel, by decide +kernel, hQ⟩
  · rw [if_neg (show ¬ x < y from h)] at hQ
    refine am_go (List.mem_of_getElem? (i := 3) rfl) ⟨x, by simp, ?_⟩
    refine am_go (List.mem_of_getElem? (i := 4) rfl) ?_
    exact am_go (List.mem_of_getElem? (i := 6) rfl) ⟨x, rfl, Or.inl (by decide +kernel), by decide +kernel, by decide +kernel, hQ⟩
/-- n places and half as many more, at least one -/
def an_gr (n : Nat) : Nat := n + (if 1 < n / 2 then n / 2 else 1)
theorem an_grD : ∀ n, n < 16 → 1 ≤ n → (if (nI 1) < ((nI n) >>> ((Int32.ofInt 1) &&& 31)) then ((nI n) >>> ((Int32.ofInt 1) &&& 31)) else nI 1) + nI n = nI (an_gr n) ∧ n < an_gr n ∧ an_gr n ≤ 22 ∧ (nI (an_gr n)).toInt = an_gr n := by decide +kernel
theorem an_j22 {n : Nat} {p : Int32} {ws : va_W} {Q : am_Q} (hp : p = nI n >>> ((Int32.ofInt 1) &&& 31)) (h1 : 1 ≤ n) (h2 : n < 16) (hQ : Q (.inl (some (.int (nI (an_gr n))))) ws) : am_Safe O X 22 0 [(0, .int (nI n)), (1, .int (nI 1)), (2, .int p)] [] 0 0 ws Q := by
  obtain ⟨d1, d2, d3, d4⟩ := an_grD n h2 h1
  rw [← hp] at d1
  refine am_go (List.mem_of_getElem? (i := 0) rfl) ⟨nI n, by simp, ?_⟩
  refine am_go (List.mem_of_getElem? (i := 1) rfl) ⟨nI 1, by simp, ?_⟩
  refine am_go (List.mem_of_getElem? (i := 2) rfl) ⟨p, by simp, ?_⟩
  refine am_go (List.mem_of_getElem? (i := 3) rfl) (am_stT (by decide) ?_)
  refine ⟨[.int (nI 1), .int p], [.int (nI n)], rfl, rfl, by decide, Nat.le_of_ble_eq_true rfl, Nat.le_of_ble_eq_true rfl, fun h => (by cases h), fun h => (by rcases h with h | h <;> cases h), by decide +kernel, by decide +kernel, by decide +kernel, by decide +kernel, fun r w => r = .inl (some (.int (if nI 1 < p then p else nI 1))) ∧ ws = w, an_j16 ⟨rfl, rfl⟩, ?_⟩
  rintro r w ⟨rfl, rfl⟩
  refine am_go (List.mem_of_getElem? (i := 4) rfl) ⟨nI n, if nI 1 < p then p else nI 1, nI (an_gr n), [], rfl, ?_, ?_⟩
  · simp only [am_ib]
    rw [Int32.add_comm, d1]
  refine am_go (List.mem_of_getElem? (i := 5) rfl) ⟨nI (an_gr n), [], rfl, by decide +kernel, ?_⟩
  refine am_go (List.mem_of_getElem? (i := 6) rfl) ?_
  refine am_go (List.mem_of_getElem? (i := 7) rfl) ⟨nI (an_gr n), by simp (decide := true) [am_put1, va_rf, Value.category], ?_⟩
  refine am_go (List.mem_of_getElem? (i := 8) rfl) ⟨_, _, [], rfl, fun h => ?_, fun _ => ?_⟩
  · exfalso
    have := Int32.le_iff_toInt_le.mp (show nI (an_gr n) ≤ Int32.ofInt 0 from h)
    rw [d4] at this
    simp at this
    omega
  refine am_go (List.mem_of_getElem? (i := 9) rfl) ⟨nI (an_gr n), by simp (decide := true) [am_put1, va_rf, Value.category], ?_⟩
  refine am_go (List.mem_of_getElem? (i := 10) rfl) ?_
  refine am_go (List.mem_of_getElem? (i := 11) rfl) ⟨_, _, [], rfl, fun h => ?_, fun _ => ?_⟩
  · exfalso
    have := Int32.lt_iff_toInt_lt.mp (show Int32.ofNat 2147483639 < nI (an_gr n) from h)
    rw [d4, show (Int32.ofNat 2147483639).toInt = 2147483639 from by decide] at this
    omega
  refine am_go (List.mem_of_getElem? (i := 12) rfl) ⟨nI (an_gr n), by simp (decide := true) [am_put1, va_rf, Value.category], ?_⟩
  exact am_go (List.mem_of_getElem? (i := 13) rfl) ⟨_, rfl, Or.inl (by decide +kernel), by decide +kernel, by decide +kernel, hQ⟩
/-- what a list looks like: its row is the empty one of before, or one of n places -/
def an_rowO (O : am_O) (X : Nat → ClassId) (ws : va_W) (e n : Nat) (f : Nat → Option Nat) : Prop := (e = (O 3).1 ∧ n = 0) ∨ (1 ≤ n ∧ (e, .inl (X 3, n, .inr (.inr (.inr (.inr f))))) ∈ ws)
/-- the list behind growing -/
def an_gw (X : Nat → ClassId) (ws : va_W) (q a : Nat) (fs : List Value) (n : Nat) (f : Nat → Option Nat) (Q : am_Q) : Prop := ∀ (e2 n2 : Nat) (f2 : Nat → Option Nat), am_fresh ws e2 → n < n2 → n2 ≤ 22 → (∀ j, j < n → f2 j = f j) → Q (.inl (some (.ref e2))) ((ws ++ [((e2, .inl (X 3, n2, .inr (.inr (.inr (.inr f2))))) : Nat × va_E)]).set q (a, .inr (0, fs.set 1 (.ref e2))))
theorem an_getapp {ws : va_W} {q : Nat} {x y : Nat × va_E} (h : ws[q]? = some x) : (ws ++ [y])[q]? = some x := by
  rw [List.getElem?_append_left (List.getElem?_eq_some_iff.mp h).1]; exact h
theorem an_j23 {a q e n : Nat} {fs : List Value} {f : Nat → Option Nat} {ws : va_W} {Q : am_Q} (ha : ws[q]? = some (a, .inr (0, fs))) (hl : fs.length = 3) (he : fs[1]? = some (.ref e)) (hr : an_rowO O X ws e n f) (hn : n ≤ 15) (hT : ∀ i, i < n → ∀ y, f i = some y → ∃ vs, (y, .inr (11, vs)) ∈ ws) (hQ : an_gw X ws q a fs n f Q) : am_Safe O X 23 0 [(0, .ref a), (1, .int (nI (n + 1)))] [] 0 0 ws Q := by
  have ha2 := List.mem_of_getElem? ha
  refine am_go (List.mem_of_getElem? (i := 0) rfl) ⟨some a, by simp [va_rf], ?_⟩
  refine am_go (List.mem_of_getElem? (i := 1) rfl) ⟨a, [], fs, .ref e, rfl, ha2, he, ?_⟩
  refine am_go (List.mem_of_getElem? (i := 2) rfl) ⟨e, [], n, rfl, ?_, ?_⟩
  · rcases hr with ⟨h1, h2⟩ | ⟨-, h2⟩
    · exact Or.inr (Or.inr ⟨h2, h1⟩)
    · exact Or.inl ⟨3, _, by omega, h2⟩
  refine am_go (List.mem_of_getElem? (i := 3) rfl) ⟨_, [], rfl, by decide +kernel, ?_⟩
  refine am_go (List.mem_of_getElem? (i := 4) rfl) ⟨Int32.ofNat n, by simp (decide := true) [am_put1, va_rf, Value.category], ?_⟩
  have hpos : 1 ≤ n → (0 : Int32) < Int32.ofNat n := fun h => Int32.lt_iff_toInt_lt.mpr (by rw [an_ofNat (by omega)]; simp; omega)
  refine am_go (List.mem_of_getElem? (i := 5) rfl) ⟨_, [], rfl, fun h => ?_, fun h => ?_⟩
  · -- a row of n places is copied
    have h1 : 1 ≤ n := by
      have := Int32.lt_iff_toInt_lt.mp (show (0 : Int32) < Int32.ofNat n from h)
      rw [an_ofNat (by omega)] at this
      simp at this
      omega
    obtain ⟨d1, d2, d3, d4⟩ := an_grD n (by omega) h1
    have hm22 : am_ms 22 = 0 := by decide +kernel
    have hrow : (e, .inl (X 3, n, .inr (.inr (.inr (.inr f))))) ∈ ws := by
      rcases hr with ⟨_, h2⟩ | ⟨_, h2⟩
      · omega
      · exact h2
    refine am_go (List.mem_of_getElem? (i := 10) rfl) ⟨Int32.ofNat n, by simp (decide := true) [am_put1, va_rf, Value.category], ?_⟩
    refine am_go (List.mem_of_getElem? (i := 11) rfl) ⟨nI (n + 1), by simp (decide := true) [am_put1, va_rf, Value.category], ?_⟩
    refine am_go (List.mem_of_getElem? (i := 12) rfl) ⟨Int32.ofNat n, by simp (decide := true) [am_put1, va_rf, Value.category], ?_⟩
    refine am_go (List.mem_of_getElem? (i := 13) rfl) ⟨nI (n + 1), Int32.ofNat n, nI 1, [.int (Int32.ofNat n)], rfl, ?_, ?_⟩
    · simp only [am_ib, Option.some.injEq]
      refine Int32.toInt_inj.mp ?_
      have e1 : (nI (n + 1)).toInt = ((n + 1 : Nat) : Int) := an_ofNat (by omega)
      have e2 : (Int32.ofNat n).toInt = (n : Int) := an_ofNat (by omega)
      rw [an_subI (by rw [e1, e2]; simp only [an_MN]; omega) (by rw [e1, e2]; simp only [an_MX]; omega), e1, e2]
      show ((n + 1 : Nat) : Int) - n = 1
      omega
    refine am_go (List.mem_of_getElem? (i := 14) rfl) ⟨Int32.ofNat n, by simp (decide := true) [am_put1, va_rf, Value.category], ?_⟩
    refine am_go (List.mem_of_getElem? (i := 15) rfl) ?_
    refine am_go (List.mem_of_getElem? (i := 16) rfl) ⟨Int32.ofNat n, Int32.ofInt 1, nI n >>> ((Int32.ofInt 1) &&& 31), [.int (nI 1), .int (Int32.ofNat n)], rfl, rfl, ?_⟩
    refine am_go (List.mem_of_getElem? (i := 17) rfl) (am_stT (by decide) ?_)
    refine ⟨[.int (Int32.ofNat n), .int (nI 1), .int (nI n >>> ((Int32.ofInt 1) &&& 31))], [], rfl, rfl, by decide, Nat.le_of_ble_eq_true rfl, Nat.le_of_ble_eq_true rfl, fun h => (by cases h), fun h => (by rcases h with h | h <;> cases h), by decide +kernel, by decide +kernel, by decide +kernel, by decide +kernel, fun r w => r = .inl (some (.int (nI (an_gr n)))) ∧ ws = w, an_j22 rfl h1 (by omega) ⟨rfl, rfl⟩, ?_⟩
    rintro r w ⟨rfl, rfl⟩
    refine am_go (List.mem_of_getElem? (i := 18) rfl) ⟨_, [], rfl, by decide +kernel, ?_⟩
    refine am_go (List.mem_of_getElem? (i := 19) rfl) ⟨some a, by simp (decide := true) [am_put1, va_rf, Value.category], ?_⟩
    refine am_go (List.mem_of_getElem? (i := 20) rfl) ⟨some a, by simp (decide := true) [am_put1, va_rf, Value.category], ?_⟩
    refine am_go (List.mem_of_getElem? (i := 21) rfl) ⟨a, [.ref a], fs, .ref e, rfl, ha2, he, ?_⟩
    refine am_go (List.mem_of_getElem? (i := 22) rfl) ⟨nI (an_gr n), by simp (decide := true) [am_put1, va_rf, Value.category], ?_⟩
    refine am_go (List.mem_of_getElem? (i := 23) rfl) (am_st6 ?_)
    refine ⟨an_gr n, e, [.ref a], n, f, rfl, hrow, hT, by omega, by omega, Nat.le_of_ble_eq_true rfl, by decide +kernel, Nat.le_trans (show _ ≤ 22 by omega) (by decide +kernel), by decide +kernel, by decide +kernel, fun b hb => ?_⟩
    refine am_go (List.mem_of_getElem? (i := 24) rfl) ⟨.ref b, .ref a, [], rfl, rfl, rfl, ?_⟩
    refine am_go (List.mem_of_getElem? (i := 25) rfl) ⟨.ref b, a, [.ref b], q, fs, rfl, an_getapp ha, by omega, an_fitA _, ?_⟩
    exact am_go (List.mem_of_getElem? (i := 26) rfl) ⟨some b, rfl, by decide +kernel, by decide +kernel, Nat.le_trans (show _ ≤ 22 by omega) (by decide +kernel), hQ b (an_gr n) _ hb d2 d3 (fun j hj => if_pos hj)⟩
  · -- the first row
    have h0 : n = 0 := by
      by_cases h1 : 1 ≤ n
      · exact absurd (hpos h1) h
      · omega
    subst h0
    have he3 : e = (O 3).1 := by
      rcases hr with ⟨h1, -⟩ | ⟨h1, -⟩
      · exact h1
      · omega
    refine am_go (List.mem_of_getElem? (i := 6) rfl) ⟨some a, by simp (decide := true) [am_put1, va_rf, Value.category], ?_⟩
    refine am_go (List.mem_of_getElem? (i := 7) rfl) ⟨a, [], fs, .ref e, rfl, ha2, he, ?_⟩
    refine am_go (List.mem_of_getElem? (i := 8) rfl) ?_
    refine am_go (List.mem_of_getElem? (i := 9) rfl) ⟨some e, some (O 3).1, [], rfl, fun _ => ?_, fun h2 => absurd (by rw [he3]) h2⟩
    refine am_go (List.mem_of_getElem? (i := 27) rfl) ⟨some a, by simp (decide := true) [am_put1, va_rf, Value.category], ?_⟩
    refine am_go (List.mem_of_getElem? (i := 28) rfl) ?_
    refine am_go (List.mem_of_getElem? (i := 29) rfl) ⟨nI (0 + 1), by simp (decide := true) [am_put1, va_rf, Value.category], ?_⟩
    refine am_go (List.mem_of_getElem? (i := 30) rfl) (am_stT (by decide) ?_)
    refine ⟨[.int (Int8.ofInt 10).toInt32, .int (nI (0 + 1))], [.ref a], rfl, rfl, by decide, Nat.le_of_ble_eq_true rfl, Nat.le_of_ble_eq_true rfl, fun h => (by cases h), fun h => (by rcases h with h | h <;> cases h), by decide +kernel, by decide +kernel, by decide +kernel, by decide +kernel, fun r w => r = .inl (some (.int (nI 10))) ∧ ws = w, an_j16 ⟨by rw [if_neg (by decide)]; rfl, rfl⟩, ?_⟩
    rintro r w ⟨rfl, rfl⟩
    refine am_go (List.mem_of_getElem? (i := 31) rfl) ⟨10, [.ref a], rfl, Or.inr rfl, by omega, by decide +kernel, by decide +kernel, fun b hb => ?_⟩
    refine am_go (List.mem_of_getElem? (i := 32) rfl) ⟨.ref b, .ref a, [], rfl, rfl, rfl, ?_⟩
    refine am_go (List.mem_of_getElem? (i := 33) rfl) ⟨.ref b, a, [.ref b], q, fs, rfl, an_getapp ha, by omega, an_fitA _, ?_⟩
    exact am_go (List.mem_of_getElem? (i := 34) rfl) ⟨some b, rfl, by decide +kernel, by decide +kernel, by decide +kernel, hQ b 10 _ hb (by omega) (by omega) (fun j hj => by omega)⟩
theorem an_j24 {a q e n : Nat} {fs : List Value} {f : Nat → Option Nat} {ws : va_W} {Q : am_Q} (ha : ws[q]? = some (a, .inr (0, fs))) (hl : fs.length = 3) (he : fs[1]? = some (.ref e)) (hs : fs[2]? = some (.int (nI n))) (hr : an_rowO O X ws e n f) (hn : n ≤ 15) (hT : ∀ i, i < n → ∀ y, f i = some y → ∃ vs, (y, .inr (11, vs)) ∈ ws) (hQ : an_gw X ws q a fs n f Q) : am_Safe O X 24 0 [(0, .ref a)] [] 0 0 ws Q := by
  have ha2 := List.mem_of_getElem? ha
  refine am_go (List.mem_of_getElem? (i := 0) rfl) ⟨some a, by simp [va_rf], ?_⟩
  refine am_go (List.mem_of_getElem? (i := 1) rfl) ⟨some a, by simp [va_rf], ?_⟩
  refine am_go (List.mem_of_getElem? (i := 2) rfl) ⟨a, [.ref a], fs, .int (nI n), rfl, ha2, hs, ?_⟩
  refine am_go (List.mem_of_getElem? (i := 3) rfl) ?_
  refine am_go (List.mem_of_getElem? (i := 4) rfl) ⟨nI n, Int32.ofInt 1, nI (n + 1), [.ref a], rfl, ?_, ?_⟩
  · exact congrArg some (nI_add n 1)
  refine am_go (List.mem_of_getElem? (i := 5) rfl) ?_
  refine ⟨[.ref a, .int (nI (n + 1))], [], rfl, rfl, by decide, Nat.le_of_ble_eq_true rfl, Nat.le_of_ble_eq_true rfl, fun _ => ⟨a, [.int (nI (n + 1))], 0, fs, rfl, ha2, rfl⟩, fun h => (by rcases h with h | h <;> cases h), by decide +kernel, by decide +kernel, by decide +kernel, by decide +kernel, fun r w => ∃ e2, r = .inl (some (.ref e2)) ∧ Q (.inl (some (.ref e2))) w, an_j23 ha hl he hr hn hT (fun e2 n2 f2 a1 a2 a3 a4 => ⟨e2, rfl, hQ e2 n2 f2 a1 a2 a3 a4⟩), ?_⟩
  rintro r w ⟨e2, rfl, hq⟩
  exact am_go (List.mem_of_getElem? (i := 6) rfl) ⟨some e2, rfl, by decide +kernel, by decide +kernel, by decide +kernel, hq⟩
/-- behind 'add' of an element to a list of s -/
def an_ad (X : Nat → ClassId) (ws ws2 : va_W) (a e n s t : Nat) (fs : List Value) (f : Nat → Option Nat) : Prop := an_nd ws2 ∧ ∃ (e2 n2 : Nat) (f2 : Nat → Option Nat), s < n2 ∧ n2 ≤ 22 ∧ an_at ws2 a = some (.inr (0, (fs.set 1 (.ref e2)).set 2 (.int (nI (s + 1))))) ∧ an_at ws2 e2 = some (.inl (X 3, n2, .inr (.inr (.inr (.inr f2))))) ∧
  (∀ j, j < s → f2 j = f j) ∧ f2 s = some t ∧ (∀ b, b ≠ a → b ≠ e2 → an_at ws2 b = an_at ws b) ∧ ((e2 = e ∧ n2 = n ∧ 1 ≤ n ∧ ∀ j, j ≠ s → f2 j = f j) ∨ an_at ws e2 = none)
theorem an_clampN {s : Nat} (h : s < 2147483648) : (nI s).toNatClampNeg = s := nI_clamp (by omega)
theorem an_vpN {s n : Nat} (h : s < n) (h2 : n < 100) : vp_in (nI s) n := vp_in_iff.mpr (by rw [show (nI s).toInt = (s : Int) from an_ofNat (by omega)]; omega)
set_option maxHeartbeats 1000000 in
theorem an_j25 {a q e n s t : Nat} {fs vs : List Value} {f : Nat → Option Nat} {ws : va_W} {Q : am_Q} (hnd : an_nd ws) (ha : ws[q]? = some (a, .inr (0, fs))) (hl : fs.length = 3) (he : fs[1]? = some (.ref e)) (hs : fs[2]? = some (.int (nI s))) (hr : an_rowO O X ws e n f) (hea : 1 ≤ n → e ≠ a) (hsn : s ≤ n) (hn : n ≤ 22) (h15 : s ≤ 15) (ht : (t, .inr (11, vs)) ∈ ws) (hT : ∀ i, i < s → ∀ y, f i = some y → ∃ vs, (y, .inr (11, vs)) ∈ ws)
    (hQ : ∀ ws2, an_ad X ws ws2 a e n s t fs f → Q (.inl none) ws2) : am_Safe O X 25 0 [(0, .ref a), (1, .ref t), (2, .ref e), (3, .int (nI s))] [] 0 0 ws Q := by
  have ha2 := List.mem_of_getElem? ha
  obtain ⟨qt, hqt⟩ := List.getElem?_of_mem ht
  have hqq : qt ≠ q := by
    rintro rfl
    rw [ha] at hqt
    simp at hqt
  have hta : t ≠ a := by
    rintro rfl
    have h1 := an_mem_at hnd ht
    rw [an_mem_at hnd ha2] at h1
    simp at h1
  refine am_go (List.mem_of_getElem? (i := 0) rfl) ⟨nI s, by simp (decide := true), ?_⟩
  refine am_go (List.mem_of_getElem? (i := 1) rfl) ⟨some e, by simp [va_rf], ?_⟩
  refine am_go (List.mem_of_getElem? (i := 2) rfl) ⟨e, [.int (nI s)], n, rfl, ?_, ?_⟩
  · rcases hr with ⟨h1, h2⟩ | ⟨-, h2⟩
    · exact Or.inr (Or.inr ⟨h2, h1⟩)
    · exact Or.inl ⟨3, _, by omega, h2⟩
  have i1 : (nI s).toInt = (s : Int) := an_ofNat (by omega)
  have i2 : (Int32.ofNat n).toInt = (n : Int) := an_ofNat (by omega)
  have hsz : nI s + Int32.ofInt 1 = nI (s + 1) := nI_add s 1
  refine am_go (List.mem_of_getElem? (i := 3) rfl) ⟨nI s, Int32.ofNat n, [], rfl, fun h => ?_, fun h => ?_⟩
  · -- there is room
    have hlt : s < n := by
      by_cases h9 : s = n
      · subst h9; exact absurd rfl h
      · omega
    have hrow : (e, .inl (X 3, n, .inr (.inr (.inr (.inr f))))) ∈ ws := by
      rcases hr with ⟨_, h2⟩ | ⟨_, h2⟩
      · omega
      · exact h2
    obtain ⟨qe, hqe⟩ := List.getElem?_of_mem hrow
    have hqeq : qe ≠ q := by
      rintro rfl
      rw [ha] at hqe
      simp at hqe
    refine am_go (List.mem_of_getElem? (i := 7) rfl) ⟨some e, by simp [va_rf], ?_⟩
    refine am_go (List.mem_of_getElem? (i := 8) rfl) ⟨nI s, by simp (decide := true), ?_⟩
    refine am_go (List.mem_of_getElem? (i := 9) rfl) ⟨some t, by simp [va_rf], ?_⟩
    refine am_go (List.mem_of_getElem? (i := 10) rfl) ⟨t, nI s, e, [], qe, 3, n, 11, vs, f, rfl, Or.inr ⟨rfl, rfl⟩, ht, hqe, an_vpN hlt (by omega), ?_⟩
    rw [an_clampN (by omega)]
    refine am_go (List.mem_of_getElem? (i := 11) rfl) ⟨some a, by simp [va_rf], ?_⟩
    refine am_go (List.mem_of_getElem? (i := 12) rfl) ⟨nI s, by simp (decide := true), ?_⟩
    refine am_go (List.mem_of_getElem? (i := 13) rfl) ?_
    refine am_go (List.mem_of_getElem? (i := 14) rfl) ⟨nI s, Int32.ofInt 1, nI (s + 1), [.ref a], rfl, congrArg some hsz, ?_⟩
    have hq2 : (ws.set qe (e, .inl (X 3, n, .inr (.inr (.inr (.inr (va_up f s (some t))))))))[q]? = some (a, .inr (0, fs)) := by
      rw [List.getElem?_set_ne hqeq]; exact ha
    refine am_go (List.mem_of_getElem? (i := 15) rfl) ⟨.int (nI (s + 1)), a, [], q, fs, rfl, hq2, by omega, an_fitI 0 2 _ rfl, ?_⟩
    refine am_go (List.mem_of_getElem? (i := 16) rfl) ⟨rfl, by decide +kernel, by decide +kernel, by decide +kernel, hQ _ ?_⟩
    have hn1 := an_nd_set hnd hqe (e2 := .inl (X 3, n, .inr (.inr (.inr (.inr (va_up f s (some t)))))))
    have g2 := an_at_set hn1 hq2 (e2 := .inr (0, fs.set 2 (.int (nI (s + 1)))))
    have g1 := an_at_set hnd hqe (e2 := .inl (X 3, n, .inr (.inr (.inr (.inr (va_up f s (some t)))))))
    have hfs : fs.set 1 (.ref e) = fs := by
      refine List.ext_getElem? (fun i => ?_)
      rw [List.getElem?_set]
      split
      · rename_i h1
        subst h1
        rw [if_pos (by omega), he]
      · rfl
    refine ⟨an_nd_set hn1 hq2, e, n, va_up f s (some t), hlt, hn, ?_, ?_, fun j hj => ?_, by simp [va_up], fun b hb1 hb2 => ?_, Or.inl ⟨rfl, rfl, by omega, fun j hj => by simp [va_up, hj]⟩⟩
    · rw [g2, if_pos rfl, hfs]
    · rw [g2, if_neg (hea (by omega)), g1, if_pos rfl]
    · simp only [va_up]; rw [if_neg (by omega)]
    · rw [g2, if_neg hb1, g1, if_neg hb2]
  · -- it is full
    have hsn2 : s = n := by
      by_cases h9 : s = n
      · exact h9
      · exfalso
        refine h (show ¬ nI s = Int32.ofNat n from fun h8 => h9 ?_)
        have := congrArg Int32.toInt h8
        rw [i1, i2] at this
        omega
    subst hsn2
    refine am_go (List.mem_of_getElem? (i := 4) rfl) ⟨some a, by simp [va_rf], ?_⟩
    refine am_go (List.mem_of_getElem? (i := 5) rfl) ?_
    refine ⟨[.ref a], [], rfl, rfl, by decide, Nat.le_of_ble_eq_true rfl, Nat.le_of_ble_eq_true rfl, fun _ => ⟨a, [], 0, fs, rfl, ha2, rfl⟩, fun h => (by rcases h with h | h <;> cases h), by decide +kernel, by decide +kernel, by decide +kernel, by decide +kernel,
      fun r w => ∃ (e2 n2 : Nat) (f2 : Nat → Option Nat), am_fresh ws e2 ∧ s < n2 ∧ n2 ≤ 22 ∧ (∀ j, j < s → f2 j = f j) ∧ r = .inl (some (.ref e2)) ∧ w = ((ws ++ [((e2, .inl (X 3, n2, .inr (.inr (.inr (.inr f2))))) : Nat × va_E)]).set q (a, .inr (0, fs.set 1 (.ref e2)))), an_j24 ha hl he hs hr h15 hT (fun e2 n2 f2 a1 a2 a3 a4 => ⟨e2, n2, f2, a1, a2, a3, a4, rfl, rfl⟩), ?_⟩
    rintro r w ⟨e2, n2, f2, a1, a2, a3, a4, rfl, rfl⟩
    have hqlt := (List.getElem?_eq_some_iff.mp ha).1
    have hqtlt := (List.getElem?_eq_some_iff.mp hqt).1
    have hap := an_getapp (y := (e2, .inl (X 3, n2, .inr (.inr (.inr (.inr f2)))))) ha
    have hn0 := an_nd_app hnd (e := .inl (X 3, n2, .inr (.inr (.inr (.inr f2))))) a1
    have g0 := an_at_app (e := .inl (X 3, n2, .inr (.inr (.inr (.inr f2))))) a1
    have hn1 := an_nd_set hn0 hap (e2 := .inr (0, fs.set 1 (.ref e2)))
    have g1 := an_at_set hn0 hap (e2 := .inr (0, fs.set 1 (.ref e2)))
    generalize hw1 : (ws ++ [((e2, .inl (X 3, n2, .inr (.inr (.inr (.inr f2))))) : Nat × va_E)]).set q (a, .inr (0, fs.set 1 (.ref e2))) = w1 at hn1 g1
    have ht1 : (t, .inr (11, vs)) ∈ w1 := by
      rw [← hw1]
      refine List.mem_of_getElem? (i := qt) ?_
      rw [List.getElem?_set_ne (fun h => hqq h.symm)]
      exact an_getapp hqt
    have hle : w1[ws.length]? = some (e2, .inl (X 3, n2, .inr (.inr (.inr (.inr f2))))) := by
      rw [← hw1, List.getElem?_set_ne (by omega)]
      simp
    have hlq : w1[q]? = some (a, .inr (0, fs.set 1 (.ref e2))) := by rw [← hw1]; exact an_getset hap
    have hae2 : e2 ≠ a := fun h9 => a1 _ ha2 h9.symm
    refine am_go (List.mem_of_getElem? (i := 6) rfl) ⟨some e2, [], rfl, by decide +kernel, ?_⟩
    refine am_go (List.mem_of_getElem? (i := 7) rfl) ⟨some e2, by simp (decide := true) [am_put1, va_rf, Value.category], ?_⟩
    refine am_go (List.mem_of_getElem? (i := 8) rfl) ⟨nI s, by simp (decide := true) [am_put1, va_rf, Value.category], ?_⟩
    refine am_go (List.mem_of_getElem? (i := 9) rfl) ⟨some t, by simp (decide := true) [am_put1, va_rf, Value.category], ?_⟩
    refine am_go (List.mem_of_getElem? (i := 10) rfl) ⟨t, nI s, e2, [], ws.length, 3, n2, 11, vs, f2, rfl, Or.inr ⟨rfl, rfl⟩, ht1, hle, an_vpN a2 (by omega), ?_⟩
    rw [an_clampN (by omega)]
    refine am_go (List.mem_of_getElem? (i := 11) rfl) ⟨some a, by simp (decide := true) [am_put1, va_rf, Value.category], ?_⟩
    refine am_go (List.mem_of_getElem? (i := 12) rfl) ⟨nI s, by simp (decide := true) [am_put1, va_rf, Value.category], ?_⟩
    refine am_go (List.mem_of_getElem? (i := 13) rfl) ?_
    refine am_go (List.mem_of_getElem? (i := 14) rfl) ⟨nI s, Int32.ofInt 1, nI (s + 1), [.ref a], rfl, congrArg some hsz, ?_⟩
    have hq2 : (w1.set ws.length (e2, .inl (X 3, n2, .inr (.inr (.inr (.inr (va_up f2 s (some t))))))))[q]? = some (a, .inr (0, fs.set 1 (.ref e2))) := by
      rw [List.getElem?_set_ne (by omega)]; exact hlq
    refine am_go (List.mem_of_getElem? (i := 15) rfl) ⟨.int (nI (s + 1)), a, [], q, _, rfl, hq2, by simp only [List.length_set]; omega, an_fitI 0 2 _ rfl, ?_⟩
    refine am_go (List.mem_of_getElem? (i := 16) rfl) ⟨rfl, by decide +kernel, by decide +kernel, by decide +kernel, hQ _ ?_⟩
    have hn2 := an_nd_set hn1 hle (e2 := .inl (X 3, n2, .inr (.inr (.inr (.inr (va_up f2 s (some t)))))))
    have g2 := an_at_set hn1 hle (e2 := .inl (X 3, n2, .inr (.inr (.inr (.inr (va_up f2 s (some t)))))))
    have g3 := an_at_set hn2 hq2 (e2 := .inr (0, (fs.set 1 (.ref e2)).set 2 (.int (nI (s + 1)))))
    refine ⟨an_nd_set hn2 hq2, e2, n2, va_up f2 s (some t), a2, a3, ?_, ?_, fun j hj => ?_, by simp [va_up], fun b hb1 hb2 => ?_, Or.inr (an_at_fresh a1)⟩
    · rw [g3, if_pos rfl]
    · rw [g3, if_neg hae2, g2, if_pos rfl]
    · simp only [va_up]; rw [if_neg (by omega)]; exact a4 j hj
    · rw [g3, if_neg hb1, g2, if_neg hb2, g1, if_neg hb1, g0, if_neg hb2]
set_option maxHeartbeats 1000000 in
theorem an_j26 {a q e n s t : Nat} {m0 : Int32} {fs vs : List Value} {f : Nat → Option Nat} {ws : va_W} {Q : am_Q} (hnd : an_nd ws) (ha : ws[q]? = some (a, .inr (0, fs))) (hl : fs.length = 3) (hm : fs[0]? = some (.int m0)) (he : fs[1]? = some (.ref e)) (hs : fs[2]? = some (.int (nI s))) (hr : an_rowO O X ws e n f) (hea : 1 ≤ n → e ≠ a) (hsn : s ≤ n) (hn : n ≤ 22) (h15 : s ≤ 15) (ht : (t, .inr (11, vs)) ∈ ws) (hT : ∀ i, i < s → ∀ y, f i = some y → ∃ vs, (y, .inr (11, vs)) ∈ ws)
    (hQ : ∀ ws1 ws2, an_nd ws1 → (∀ b, an_at ws1 b = if b = a then some (.inr (0, fs.set 0 (.int (m0 + 1)))) else an_at ws b) → an_ad X ws1 ws2 a e n s t (fs.set 0 (.int (m0 + 1))) f → Q (.inl (some (.int 1))) ws2) : am_Safe O X 26 0 [(0, .ref a), (1, .ref t)] [] 0 0 ws Q := by
  have ha2 := List.mem_of_getElem? ha
  refine am_go (List.mem_of_getElem? (i := 0) rfl) ⟨some a, by simp [va_rf], ?_⟩
  refine am_go (List.mem_of_getElem? (i := 1) rfl) ⟨.ref a, [], rfl, rfl, ?_⟩
  refine am_go (List.mem_of_getElem? (i := 2) rfl) ⟨a, [.ref a], fs, .int m0, rfl, ha2, hm, ?_⟩
  refine am_go (List.mem_of_getElem? (i := 3) rfl) ?_
  refine am_go (List.mem_of_getElem? (i := 4) rfl) ⟨m0, Int32.ofInt 1, m0 + 1, [.ref a], rfl, rfl, ?_⟩
  refine am_go (List.mem_of_getElem? (i := 5) rfl) ⟨.int (m0 + 1), a, [], q, fs, rfl, ha, by omega, an_fitI 0 0 _ rfl, ?_⟩
  have hn1 := an_nd_set hnd ha (e2 := .inr (0, fs.set 0 (.int (m0 + 1))))
  have g1 := an_at_set hnd ha (e2 := .inr (0, fs.set 0 (.int (m0 + 1))))
  have hq1 := an_getset (y := (a, .inr (0, fs.set 0 (.int (m0 + 1))))) ha
  generalize hw1 : ws.set q (a, .inr (0, fs.set 0 (.int (m0 + 1)))) = w1 at hn1 g1 hq1
  have hta : t ≠ a := by
    rintro rfl
    have h1 := an_mem_at hnd ht
    rw [an_mem_at hnd ha2] at h1
    simp at h1
  have ht1 : (t, .inr (11, vs)) ∈ w1 := an_at_mem (by rw [g1, if_neg hta]; exact an_mem_at hnd ht)
  have hr1 : an_rowO O X w1 e n f := by
    rcases hr with h | ⟨h1, h2⟩
    · exact Or.inl h
    · exact Or.inr ⟨h1, an_at_mem (by rw [g1, if_neg (hea h1)]; exact an_mem_at hnd h2)⟩
  have hT1 : ∀ i, i < s → ∀ y, f i = some y → ∃ vs, (y, .inr (11, vs)) ∈ w1 := by
    intro i hi y hy
    obtain ⟨us, hus⟩ := hT i hi y hy
    refine ⟨us, an_at_mem ?_⟩
    have hya : y ≠ a := by
      rintro rfl
      have h1 := an_mem_at hnd hus
      rw [an_mem_at hnd ha2] at h1
      simp at h1
    rw [g1, if_neg hya]; exact an_mem_at hnd hus
  have hm1 := List.mem_of_getElem? hq1
  have he1 : (fs.set 0 (.int (m0 + 1)))[1]? = some (.ref e) := by rw [List.getElem?_set_ne (by omega)]; exact he
  have hs1 : (fs.set 0 (.int (m0 + 1)))[2]? = some (.int (nI s)) := by rw [List.getElem?_set_ne (by omega)]; exact hs
  refine am_go (List.mem_of_getElem? (i := 6) rfl) ⟨some a, by simp [va_rf], ?_⟩
  refine am_go (List.mem_of_getElem? (i := 7) rfl) ⟨some t, by simp [va_rf], ?_⟩
  refine am_go (List.mem_of_getElem? (i := 8) rfl) ⟨some a, by simp [va_rf], ?_⟩
  refine am_go (List.mem_of_getElem? (i := 9) rfl) ⟨a, _, _, .ref e, rfl, hm1, he1, ?_⟩
  refine am_go (List.mem_of_getElem? (i := 10) rfl) ⟨some a, by simp [va_rf], ?_⟩
  refine am_go (List.mem_of_getElem? (i := 11) rfl) ⟨a, _, _, .int (nI s), rfl, hm1, hs1, ?_⟩
  refine am_go (List.mem_of_getElem? (i := 12) rfl) ?_
  refine ⟨[.ref a, .ref t, .ref e, .int (nI s)], [], rfl, rfl, by decide, Nat.le_of_ble_eq_true rfl, Nat.le_of_ble_eq_true rfl, fun _ => ⟨a, [.ref t, .ref e, .int (nI s)], 0, _, rfl, hm1, rfl⟩, fun h => (by rcases h with h | h <;> cases h), by decide +kernel, by decide +kernel, by decide +kernel, by decide +kernel,
    fun r w => r = .inl none ∧ an_ad X w1 w a e n s t (fs.set 0 (.int (m0 + 1))) f, an_j25 hn1 hq1 (by simp only [List.length_set]; omega) he1 hs1 hr1 hea hsn hn h15 ht1 hT1 (fun w2 h => ⟨rfl, h⟩), ?_⟩
  rintro r w ⟨rfl, had⟩
  refine am_go (List.mem_of_getElem? (i := 13) rfl) ?_
  exact am_go (List.mem_of_getElem? (i := 14) rfl) ⟨_, rfl, Or.inr ⟨by decide +kernel, Or.inr rfl⟩, by decide +kernel, by decide +kernel, hQ w1 w hn1 g1 had⟩
end LI
