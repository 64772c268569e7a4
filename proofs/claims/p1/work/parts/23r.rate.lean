/-! RATE, by hand over the abstract machine. -/
section RT
variable {O : am_O} {X : Nat → ClassId}
theorem rt_p1 {l : am_L} {i j : Nat} {x : Int32} {v : Value} (h : (i, .int x) ∈ l) (h1 : i ≠ j) : (i, .int x) ∈ am_put1 l j v := by
  refine List.mem_cons_of_mem _ (List.mem_filter.mpr ⟨h, ?_⟩)
  simp [h1, Value.category]
theorem rt_p1L {l : am_L} {i j : Nat} {x : Int64} {v : Value} (h : (i, .long x) ∈ l) (h1 : i ≠ j) (h2 : i + 1 ≠ j) : (i, .long x) ∈ am_put1 l j v := by
  refine List.mem_cons_of_mem _ (List.mem_filter.mpr ⟨h, ?_⟩)
  simp [h1, h2]
theorem rt_p2 {l : am_L} {i j : Nat} {x : Int32} {v : Value} (h : (i, .int x) ∈ l) (h1 : i ≠ j) (h2 : i ≠ j + 1) : (i, .int x) ∈ am_put2 l j v := by
  refine List.mem_cons_of_mem _ (List.mem_filter.mpr ⟨h, ?_⟩)
  simp [h1, h2, Value.category]
theorem rt_p2L {l : am_L} {i j : Nat} {x : Int64} {v : Value} (h : (i, .long x) ∈ l) (h1 : i ≠ j) (h2 : i ≠ j + 1) (h3 : i + 1 ≠ j) : (i, .long x) ∈ am_put2 l j v := by
  refine List.mem_cons_of_mem _ (List.mem_filter.mpr ⟨h, ?_⟩)
  simp [h1, h2, h3]
theorem rt_h1 {l : am_L} {j : Nat} {v : Value} : (j, v) ∈ am_put1 l j v := List.mem_cons_self
theorem rt_h2 {l : am_L} {j : Nat} {v : Value} : (j, v) ∈ am_put2 l j v := List.mem_cons_self
theorem rt_dv {x w : Int64} (h : w ≠ 0) : am_lb .ldiv x w = some (x / w) := by
  show (if w = 0 then none else some (x / w)) = _
  rw [if_neg h]
theorem rt_inc {i : Int32} (h0 : -1000 < i.toInt) (h1 : i.toInt < 1000) : (i + Int32.ofInt 1).toInt = i.toInt + 1 := by
  have e : (Int32.ofInt 1).toInt = 1 := by decide +kernel
  rw [an_addI (by rw [e]; simp only [an_MN]; omega) (by rw [e]; simp only [an_MX]; omega), e]
theorem rt_wpF : ∀ k : Fin 16, rt_w (Int32.ofNat k.val) ≠ 0 ∧ (0 : Int32) < lg_cmp (rt_w (Int32.ofNat k.val)) (Int64.ofNat 0) := by decide +kernel
theorem rt_wp {q : Int32} (h : 0 ≤ q.toInt ∧ q.toInt ≤ 15) : rt_w q ≠ 0 ∧ (0 : Int32) < lg_cmp (rt_w q) (Int64.ofNat 0) := by
  obtain ⟨k, rfl, hk, -⟩ := an_nIof h.1
  exact rt_wpF ⟨k, by omega⟩
theorem rt_c1 : ¬ am_c .eq (Int32.ofInt 1) 0 := by
  show ¬ (Int32.ofInt 1 = (0 : Int32))
  decide +kernel
theorem rt_c0 : am_c .eq (Int32.ofInt 0) 0 := by
  show Int32.ofInt 0 = (0 : Int32)
  decide +kernel
theorem rt_n1 : am_c .ne (Int32.ofInt 1) 0 := by
  show ¬ (Int32.ofInt 1 = (0 : Int32))
  decide +kernel
theorem rt_n0 : ¬ am_c .ne (Int32.ofInt 0) 0 := by
  show ¬ ¬ (Int32.ofInt 0 = (0 : Int32))
  decide +kernel
theorem rt_thr {K : am_K} {Q : am_Q} {m pc j k sl : Nat} {l : am_L} {ws : va_W} (h : am_hnd m pc j = none) (hQ : k ≤ am_mc m ∧ sl ≤ am_ms m ∧ Q (.inr j) ws) : am_thr K Q m pc l j k sl ws := by
  unfold am_thr
  rw [h]
  exact hQ
theorem rt_lpT {n : Int32} {w : Int64} {ws : va_W} {Q : am_Q} (hw : w ≠ 0) (hn : n.toInt ≤ 99) : ∀ (r : Nat) (i : Int32) (v : Int64) (l : am_L), n.toInt = i.toInt + (r : Int) → 1 ≤ i.toInt → (0, .int n) ∈ l → (2, .long w) ∈ l → (4, .long v) ∈ l → (6, .int i) ∈ l → Q (.inl (some (.int (rt_i w r v).toInt32))) ws → am_Safe O X 318 25 l [] 0 0 ws Q := by
  intro r
  induction r with
  | zero =>
    intro i v l hr h1 m0 m2 m4 m6 hQ
    refine am_go (List.mem_of_getElem? (i := 19) rfl) ⟨i, m6, ?_⟩
    refine am_go (List.mem_of_getElem? (i := 20) rfl) ⟨n, m0, ?_⟩
    refine am_go (List.mem_of_getElem? (i := 21) rfl) ⟨i, n, [], rfl, fun _ => ?_, fun h => ?_⟩
    · refine am_go (List.mem_of_getElem? (i := 32) rfl) ⟨v, m4, ?_⟩
      refine am_go (List.mem_of_getElem? (i := 33) rfl) ⟨v, [], rfl, ?_⟩
      exact am_go (List.mem_of_getElem? (i := 34) rfl) ⟨_, rfl, Or.inl (by decide +kernel), by decide +kernel, by decide +kernel, hQ⟩
    · exact absurd (Int32.le_iff_toInt_le.mpr (by omega)) h
  | succ r ih =>
    intro i v l hr h1 m0 m2 m4 m6 hQ
    refine am_go (List.mem_of_getElem? (i := 19) rfl) ⟨i, m6, ?_⟩
    refine am_go (List.mem_of_getElem? (i := 20) rfl) ⟨n, m0, ?_⟩
    refine am_go (List.mem_of_getElem? (i := 21) rfl) ⟨i, n, [], rfl, fun h => ?_, fun _ => ?_⟩
    · exact absurd (Int32.le_iff_toInt_le.mp h) (by omega)
    refine am_go (List.mem_of_getElem? (i := 22) rfl) ⟨v, m4, ?_⟩
    refine am_go (List.mem_of_getElem? (i := 23) rfl) ⟨w, m2, ?_⟩
    refine am_go (List.mem_of_getElem? (i := 24) rfl) ?_
    refine am_go (List.mem_of_getElem? (i := 25) rfl) ⟨w, Int64.ofNat 1, w - Int64.ofNat 1, [.long v], rfl, rfl, ?_⟩
    refine am_go (List.mem_of_getElem? (i := 26) rfl) ⟨v, w - Int64.ofNat 1, v * (w - Int64.ofNat 1), [], rfl, rfl, ?_⟩
    refine am_go (List.mem_of_getElem? (i := 27) rfl) ⟨w, m2, ?_⟩
    refine am_go (List.mem_of_getElem? (i := 28) rfl) ⟨v * (w - Int64.ofNat 1), w, v * (w - Int64.ofNat 1) / w, [], rfl, rt_dv hw, ?_⟩
    refine am_go (List.mem_of_getElem? (i := 29) rfl) ⟨v * (w - Int64.ofNat 1) / w, [], rfl, by decide +kernel, ?_⟩
    refine am_go (List.mem_of_getElem? (i := 30) rfl) ⟨i, rt_p2 m6 (by decide) (by decide), ?_⟩
    refine am_go (List.mem_of_getElem? (i := 31) rfl) ?_
    exact ih (i + Int32.ofInt 1) (v * (w - Int64.ofNat 1) / w) _ (by rw [rt_inc (by omega) (by omega)]; omega) (by rw [rt_inc (by omega) (by omega)]; omega) (rt_p1 (rt_p2 m0 (by decide) (by decide)) (by decide)) (rt_p1L (rt_p2L m2 (by decide) (by decide) (by decide)) (by decide) (by decide)) (rt_p1L rt_h2 (by decide) (by decide)) rt_h1 hQ
theorem rt_T {n q : Int32} {ws : va_W} {Q : am_Q} (hn : 1 ≤ n.toInt ∧ n.toInt ≤ 99) (hq : 0 ≤ q.toInt ∧ q.toInt ≤ 15) (hQ : Q (.inl (some (.int (rt_v n q)))) ws) : am_Safe O X 318 0 [(0, .int n), (1, .int q)] [] 0 0 ws Q := by
  obtain ⟨hw0, hw1⟩ := rt_wp hq
  refine am_go (List.mem_of_getElem? (i := 0) rfl) ?_
  refine am_go (List.mem_of_getElem? (i := 1) rfl) ⟨q, by simp, ?_⟩
  refine am_go (List.mem_of_getElem? (i := 2) rfl) ⟨Int64.ofNat 1, q, [], rfl, ?_⟩
  refine am_go (List.mem_of_getElem? (i := 3) rfl) ⟨rt_w q, [], rfl, by decide +kernel, ?_⟩
  refine am_go (List.mem_of_getElem? (i := 4) rfl) ⟨rt_w q, rt_h2, ?_⟩
  refine am_go (List.mem_of_getElem? (i := 5) rfl) ?_
  refine am_go (List.mem_of_getElem? (i := 6) rfl) ⟨rt_w q, Int64.ofNat 0, [], rfl, ?_⟩
  refine am_go (List.mem_of_getElem? (i := 7) rfl) ⟨lg_cmp (rt_w q) (Int64.ofNat 0), [], rfl, fun _ => ?_, fun h => absurd hw1 h⟩
  refine am_go (List.mem_of_getElem? (i := 10) rfl) ?_
  refine am_go (List.mem_of_getElem? (i := 11) rfl) ⟨n, rt_p2 (by simp) (by decide) (by decide), ?_⟩
  refine am_go (List.mem_of_getElem? (i := 12) rfl) ⟨n, [.long (Int64.ofNat 1000000)], rfl, ?_⟩
  refine am_go (List.mem_of_getElem? (i := 13) rfl) ⟨Int64.ofNat 1000000, n.toInt64, Int64.ofNat 1000000 * n.toInt64, [], rfl, rfl, ?_⟩
  refine am_go (List.mem_of_getElem? (i := 14) rfl) ⟨rt_w q, rt_h2, ?_⟩
  refine am_go (List.mem_of_getElem? (i := 15) rfl) ⟨Int64.ofNat 1000000 * n.toInt64, rt_w q, Int64.ofNat 1000000 * n.toInt64 / rt_w q, [], rfl, rt_dv hw0, ?_⟩
  refine am_go (List.mem_of_getElem? (i := 16) rfl) ⟨Int64.ofNat 1000000 * n.toInt64 / rt_w q, [], rfl, by decide +kernel, ?_⟩
  refine am_go (List.mem_of_getElem? (i := 17) rfl) ?_
  refine am_go (List.mem_of_getElem? (i := 18) rfl) ⟨Int32.ofInt 1, [], rfl, by decide +kernel, ?_⟩
  have e1 : (Int32.ofInt 1).toInt = 1 := by decide +kernel
  exact rt_lpT hw0 hn.2 (n.toInt.toNat - 1) (Int32.ofInt 1) (Int64.ofNat 1000000 * n.toInt64 / rt_w q) _ (by rw [e1]; omega) (by rw [e1]; omega) (rt_p1 (rt_p2 (rt_p2 (by simp) (by decide) (by decide)) (by decide) (by decide)) (by decide)) (rt_p1L (rt_p2L rt_h2 (by decide) (by decide) (by decide)) (by decide) (by decide)) (rt_p1L rt_h2 (by decide) (by decide)) rt_h1 hQ
theorem rt_lpM {n : Int32} {w : Int64} {ws : va_W} {Q : am_Q} (hw : w ≠ 0) (hn : n.toInt ≤ 99) : ∀ (r : Nat) (i : Int32) (v : Int64) (l : am_L), n.toInt = i.toInt + (r : Int) → 1 ≤ i.toInt → (0, .int n) ∈ l → (2, .long w) ∈ l → (4, .long v) ∈ l → (6, .int i) ∈ l → Q (.inl (some (.int (rt_i w r v).toInt32))) ws → am_Safe O X 322 17 l [] 0 0 ws Q := by
  intro r
  induction r with
  | zero =>
    intro i v l hr h1 m0 m2 m4 m6 hQ
    refine am_go (List.mem_of_getElem? (i := 13) rfl) ⟨i, m6, ?_⟩
    refine am_go (List.mem_of_getElem? (i := 14) rfl) ⟨n, m0, ?_⟩
    refine am_go (List.mem_of_getElem? (i := 15) rfl) ⟨i, n, [], rfl, fun _ => ?_, fun h => ?_⟩
    · refine am_go (List.mem_of_getElem? (i := 26) rfl) ⟨v, m4, ?_⟩
      refine am_go (List.mem_of_getElem? (i := 27) rfl) ⟨v, [], rfl, ?_⟩
      exact am_go (List.mem_of_getElem? (i := 28) rfl) ⟨_, rfl, Or.inl (by decide +kernel), by decide +kernel, by decide +kernel, hQ⟩
    · exact absurd (Int32.le_iff_toInt_le.mpr (by omega)) h
  | succ r ih =>
    intro i v l hr h1 m0 m2 m4 m6 hQ
    refine am_go (List.mem_of_getElem? (i := 13) rfl) ⟨i, m6, ?_⟩
    refine am_go (List.mem_of_getElem? (i := 14) rfl) ⟨n, m0, ?_⟩
    refine am_go (List.mem_of_getElem? (i := 15) rfl) ⟨i, n, [], rfl, fun h => ?_, fun _ => ?_⟩
    · exact absurd (Int32.le_iff_toInt_le.mp h) (by omega)
    refine am_go (List.mem_of_getElem? (i := 16) rfl) ⟨v, m4, ?_⟩
    refine am_go (List.mem_of_getElem? (i := 17) rfl) ⟨w, m2, ?_⟩
    refine am_go (List.mem_of_getElem? (i := 18) rfl) ?_
    refine am_go (List.mem_of_getElem? (i := 19) rfl) ⟨w, Int64.ofNat 1, w - Int64.ofNat 1, [.long v], rfl, rfl, ?_⟩
    refine am_go (List.mem_of_getElem? (i := 20) rfl) ⟨v, w - Int64.ofNat 1, v * (w - Int64.ofNat 1), [], rfl, rfl, ?_⟩
    refine am_go (List.mem_of_getElem? (i := 21) rfl) ⟨w, m2, ?_⟩
    refine am_go (List.mem_of_getElem? (i := 22) rfl) ⟨v * (w - Int64.ofNat 1), w, v * (w - Int64.ofNat 1) / w, [], rfl, rt_dv hw, ?_⟩
    refine am_go (List.mem_of_getElem? (i := 23) rfl) ⟨v * (w - Int64.ofNat 1) / w, [], rfl, by decide +kernel, ?_⟩
    refine am_go (List.mem_of_getElem? (i := 24) rfl) ⟨i, rt_p2 m6 (by decide) (by decide), ?_⟩
    refine am_go (List.mem_of_getElem? (i := 25) rfl) ?_
    exact ih (i + Int32.ofInt 1) (v * (w - Int64.ofNat 1) / w) _ (by rw [rt_inc (by omega) (by omega)]; omega) (by rw [rt_inc (by omega) (by omega)]; omega) (rt_p1 (rt_p2 m0 (by decide) (by decide)) (by decide)) (rt_p1L (rt_p2L m2 (by decide) (by decide) (by decide)) (by decide) (by decide)) (rt_p1L rt_h2 (by decide) (by decide)) rt_h1 hQ
theorem rt_M {n q : Int32} {ws : va_W} {Q : am_Q} (hn : 1 ≤ n.toInt ∧ n.toInt ≤ 99) (hq : 0 ≤ q.toInt ∧ q.toInt ≤ 15) (hQ : Q (.inl (some (.int (rt_v n q)))) ws) : am_Safe O X 322 0 [(0, .int n), (1, .int q)] [] 0 0 ws Q := by
  obtain ⟨hw0, hw1⟩ := rt_wp hq
  refine am_go (List.mem_of_getElem? (i := 0) rfl) ?_
  refine am_go (List.mem_of_getElem? (i := 1) rfl) ⟨q, by simp, ?_⟩
  refine am_go (List.mem_of_getElem? (i := 2) rfl) ⟨Int64.ofNat 1, q, [], rfl, ?_⟩
  refine am_go (List.mem_of_getElem? (i := 3) rfl) ⟨rt_w q, [], rfl, by decide +kernel, ?_⟩
  refine am_go (List.mem_of_getElem? (i := 4) rfl) ?_
  refine am_go (List.mem_of_getElem? (i := 5) rfl) ⟨n, rt_p2 (by simp) (by decide) (by decide), ?_⟩
  refine am_go (List.mem_of_getElem? (i := 6) rfl) ⟨n, [.long (Int64.ofNat 1000000)], rfl, ?_⟩
  refine am_go (List.mem_of_getElem? (i := 7) rfl) ⟨Int64.ofNat 1000000, n.toInt64, Int64.ofNat 1000000 * n.toInt64, [], rfl, rfl, ?_⟩
  refine am_go (List.mem_of_getElem? (i := 8) rfl) ⟨rt_w q, rt_h2, ?_⟩
  refine am_go (List.mem_of_getElem? (i := 9) rfl) ⟨Int64.ofNat 1000000 * n.toInt64, rt_w q, Int64.ofNat 1000000 * n.toInt64 / rt_w q, [], rfl, rt_dv hw0, ?_⟩
  refine am_go (List.mem_of_getElem? (i := 10) rfl) ⟨Int64.ofNat 1000000 * n.toInt64 / rt_w q, [], rfl, by decide +kernel, ?_⟩
  refine am_go (List.mem_of_getElem? (i := 11) rfl) ?_
  refine am_go (List.mem_of_getElem? (i := 12) rfl) ⟨Int32.ofInt 1, [], rfl, by decide +kernel, ?_⟩
  have e1 : (Int32.ofInt 1).toInt = 1 := by decide +kernel
  exact rt_lpM hw0 hn.2 (n.toInt.toNat - 1) (Int32.ofInt 1) (Int64.ofNat 1000000 * n.toInt64 / rt_w q) _ (by rw [e1]; omega) (by rw [e1]; omega) (rt_p1 (rt_p2 (rt_p2 (by simp) (by decide) (by decide)) (by decide) (by decide)) (by decide)) (rt_p1L (rt_p2L rt_h2 (by decide) (by decide) (by decide)) (by decide) (by decide)) (rt_p1L rt_h2 (by decide) (by decide)) rt_h1 hQ
theorem rt_lbT {n : Int32} {ws : va_W} {Q : am_Q} (hn : 1 ≤ n.toInt ∧ n.toInt ≤ 99) : ∀ (r : Nat) (q b : Int32) (l : am_L) (k sl : Nat), k = 0 → sl = 0 → q.toInt + (r : Int) = 16 → 1 ≤ q.toInt → (0 ≤ b.toInt ∧ b.toInt ≤ 15) → (0, .int n) ∈ l → (1, .int b) ∈ l → (2, .int q) ∈ l → Q (.inl (some (.int (rt_b n r q b)))) ws → am_Safe O X 319 4 l [] k sl ws Q := by
  have e15 : ((Int8.ofInt 15).toInt32).toInt = 15 := by decide +kernel
  intro r
  induction r with
  | zero =>
    intro q b l k sl hk hs hr h1 hb mn mb mq hQ
    subst hk hs
    refine am_go (List.mem_of_getElem? (i := 4) rfl) ⟨q, mq, ?_⟩
    refine am_go (List.mem_of_getElem? (i := 5) rfl) ?_
    refine am_go (List.mem_of_getElem? (i := 6) rfl) ⟨q, _, [], rfl, fun _ => ?_, fun h => ?_⟩
    · refine am_go (List.mem_of_getElem? (i := 18) rfl) ⟨b, mb, ?_⟩
      exact am_go (List.mem_of_getElem? (i := 19) rfl) ⟨_, rfl, Or.inl (by decide +kernel), by decide +kernel, by decide +kernel, hQ⟩
    · exact absurd (Int32.lt_iff_toInt_lt.mpr (by rw [e15]; omega)) h
  | succ r ih =>
    intro q b l k sl hk hs hr h1 hb mn mb mq hQ
    subst hk hs
    refine am_go (List.mem_of_getElem? (i := 4) rfl) ⟨q, mq, ?_⟩
    refine am_go (List.mem_of_getElem? (i := 5) rfl) ?_
    refine am_go (List.mem_of_getElem? (i := 6) rfl) ⟨q, _, [], rfl, fun h => ?_, fun _ => ?_⟩
    · exact absurd (Int32.lt_iff_toInt_lt.mp h) (by rw [e15]; omega)
    refine am_go (List.mem_of_getElem? (i := 7) rfl) ⟨n, mn, ?_⟩
    refine am_go (List.mem_of_getElem? (i := 8) rfl) ⟨q, mq, ?_⟩
    refine am_go (List.mem_of_getElem? (i := 9) rfl) (am_stT (by decide) ?_)
    refine ⟨[.int n, .int q], [], rfl, rfl, by decide, Nat.le_of_ble_eq_true rfl, Nat.le_of_ble_eq_true rfl, fun h => (by cases h), fun h => (by rcases h with h | h <;> cases h), by decide +kernel, by decide +kernel, by decide +kernel, by decide +kernel, fun r w => r = .inl (some (.int (rt_v n q))) ∧ ws = w, rt_T hn ⟨by omega, by omega⟩ ⟨rfl, rfl⟩, ?_⟩
    rintro r1 w1 ⟨rfl, rfl⟩
    refine am_go (List.mem_of_getElem? (i := 10) rfl) ⟨n, mn, ?_⟩
    refine am_go (List.mem_of_getElem? (i := 11) rfl) ⟨b, mb, ?_⟩
    refine am_go (List.mem_of_getElem? (i := 12) rfl) (am_stT (by decide) ?_)
    refine ⟨[.int n, .int b], [.int (rt_v n q)], rfl, rfl, by decide, Nat.le_of_ble_eq_true rfl, Nat.le_of_ble_eq_true rfl, fun h => (by cases h), fun h => (by rcases h with h | h <;> cases h), by decide +kernel, by decide +kernel, by decide +kernel, by decide +kernel, fun r w => r = .inl (some (.int (rt_v n b))) ∧ ws = w, rt_T hn ⟨by omega, by omega⟩ ⟨rfl, rfl⟩, ?_⟩
    rintro r1 w1 ⟨rfl, rfl⟩
    refine am_go (List.mem_of_getElem? (i := 13) rfl) ⟨rt_v n q, rt_v n b, [], rfl, fun h => ?_, fun h => ?_⟩
    · refine am_go (List.mem_of_getElem? (i := 16) rfl) ⟨q, mq, ?_⟩
      refine am_go (List.mem_of_getElem? (i := 17) rfl) ?_
      exact ih (q + Int32.ofInt 1) b _ _ _ (by decide +kernel) (by decide +kernel) (by rw [rt_inc (by omega) (by omega)]; omega) (by rw [rt_inc (by omega) (by omega)]; omega) hb (rt_p1 mn (by decide)) (rt_p1 mb (by decide)) rt_h1 (by have h2 : rt_v n q ≤ rt_v n b := h; simpa only [rt_b, if_pos h2] using hQ)
    · refine am_go (List.mem_of_getElem? (i := 14) rfl) ⟨q, mq, ?_⟩
      refine am_go (List.mem_of_getElem? (i := 15) rfl) ⟨q, [], rfl, by decide +kernel, ?_⟩
      refine am_go (List.mem_of_getElem? (i := 16) rfl) ⟨q, rt_p1 mq (by decide), ?_⟩
      refine am_go (List.mem_of_getElem? (i := 17) rfl) ?_
      exact ih (q + Int32.ofInt 1) q _ _ _ (by decide +kernel) (by decide +kernel) (by rw [rt_inc (by omega) (by omega)]; omega) (by rw [rt_inc (by omega) (by omega)]; omega) ⟨by omega, by omega⟩ (rt_p1 (rt_p1 mn (by decide)) (by decide)) (rt_p1 rt_h1 (by decide)) rt_h1 (by have h2 : ¬ rt_v n q ≤ rt_v n b := h; simpa only [rt_b, if_neg h2] using hQ)
theorem rt_lbM {n : Int32} {ws : va_W} {Q : am_Q} (hn : 1 ≤ n.toInt ∧ n.toInt ≤ 99) : ∀ (r : Nat) (q b : Int32) (l : am_L) (k sl : Nat), k = 0 → sl = 0 → q.toInt + (r : Int) = 16 → 1 ≤ q.toInt → (0 ≤ b.toInt ∧ b.toInt ≤ 15) → (1, .int n) ∈ l → (3, .int b) ∈ l → (4, .int q) ∈ l → Q (.inl (some (.int (rt_b n r q b)))) ws → am_Safe O X 323 56 l [] k sl ws Q := by
  have e15 : ((Int8.ofInt 16).toInt32).toInt = 16 := by decide +kernel
  intro r
  induction r with
  | zero =>
    intro q b l k sl hk hs hr h1 hb mn mb mq hQ
    subst hk hs
    refine am_go (List.mem_of_getElem? (i := 33) rfl) ⟨q, mq, ?_⟩
    refine am_go (List.mem_of_getElem? (i := 34) rfl) ?_
    refine am_go (List.mem_of_getElem? (i := 35) rfl) ⟨q, _, [], rfl, fun _ => ?_, fun h => ?_⟩
    · refine am_go (List.mem_of_getElem? (i := 47) rfl) ⟨b, mb, ?_⟩
      exact am_go (List.mem_of_getElem? (i := 48) rfl) ⟨_, rfl, Or.inl (by decide +kernel), by decide +kernel, by decide +kernel, hQ⟩
    · exact absurd (Int32.le_iff_toInt_le.mpr (by rw [e15]; omega)) h
  | succ r ih =>
    intro q b l k sl hk hs hr h1 hb mn mb mq hQ
    subst hk hs
    refine am_go (List.mem_of_getElem? (i := 33) rfl) ⟨q, mq, ?_⟩
    refine am_go (List.mem_of_getElem? (i := 34) rfl) ?_
    refine am_go (List.mem_of_getElem? (i := 35) rfl) ⟨q, _, [], rfl, fun h => ?_, fun _ => ?_⟩
    · exact absurd (Int32.le_iff_toInt_le.mp h) (by rw [e15]; omega)
    refine am_go (List.mem_of_getElem? (i := 36) rfl) ⟨n, mn, ?_⟩
    refine am_go (List.mem_of_getElem? (i := 37) rfl) ⟨q, mq, ?_⟩
    refine am_go (List.mem_of_getElem? (i := 38) rfl) (am_stT (by decide) ?_)
    refine ⟨[.int n, .int q], [], rfl, rfl, by decide, Nat.le_of_ble_eq_true rfl, Nat.le_of_ble_eq_true rfl, fun h => (by cases h), fun h => (by rcases h with h | h <;> cases h), by decide +kernel, by decide +kernel, by decide +kernel, by decide +kernel, fun r w => r = .inl (some (.int (rt_v n q))) ∧ ws = w, rt_M hn ⟨by omega, by omega⟩ ⟨rfl, rfl⟩, ?_⟩
    rintro r1 w1 ⟨rfl, rfl⟩
    refine am_go (List.mem_of_getElem? (i := 39) rfl) ⟨n, mn, ?_⟩
    refine am_go (List.mem_of_getElem? (i := 40) rfl) ⟨b, mb, ?_⟩
    refine am_go (List.mem_of_getElem? (i := 41) rfl) (am_stT (by decide) ?_)
    refine ⟨[.int n, .int b], [.int (rt_v n q)], rfl, rfl, by decide, Nat.le_of_ble_eq_true rfl, Nat.le_of_ble_eq_true rfl, fun h => (by cases h), fun h => (by rcases h with h | h <;> cases h), by decide +kernel, by decide +kernel, by decide +kernel, by decide +kernel, fun r w => r = .inl (some (.int (rt_v n b))) ∧ ws = w, rt_M hn ⟨by omega, by omega⟩ ⟨rfl, rfl⟩, ?_⟩
    rintro r1 w1 ⟨rfl, rfl⟩
    refine am_go (List.mem_of_getElem? (i := 42) rfl) ⟨rt_v n q, rt_v n b, [], rfl, fun h => ?_, fun h => ?_⟩
    · refine am_go (List.mem_of_getElem? (i := 45) rfl) ⟨q, mq, ?_⟩
      refine am_go (List.mem_of_getElem? (i := 46) rfl) ?_
      exact ih (q + Int32.ofInt 1) b _ _ _ (by decide +kernel) (by decide +kernel) (by rw [rt_inc (by omega) (by omega)]; omega) (by rw [rt_inc (by omega) (by omega)]; omega) hb (rt_p1 mn (by decide)) (rt_p1 mb (by decide)) rt_h1 (by have h2 : rt_v n q ≤ rt_v n b := h; simpa only [rt_b, if_pos h2] using hQ)
    · refine am_go (List.mem_of_getElem? (i := 43) rfl) ⟨q, mq, ?_⟩
      refine am_go (List.mem_of_getElem? (i := 44) rfl) ⟨q, [], rfl, by decide +kernel, ?_⟩
      refine am_go (List.mem_of_getElem? (i := 45) rfl) ⟨q, rt_p1 mq (by decide), ?_⟩
      refine am_go (List.mem_of_getElem? (i := 46) rfl) ?_
      exact ih (q + Int32.ofInt 1) q _ _ _ (by decide +kernel) (by decide +kernel) (by rw [rt_inc (by omega) (by omega)]; omega) (by rw [rt_inc (by omega) (by omega)]; omega) ⟨by omega, by omega⟩ (rt_p1 (rt_p1 mn (by decide)) (by decide)) (rt_p1 rt_h1 (by decide)) rt_h1 (by have h2 : ¬ rt_v n q ≤ rt_v n b := h; simpa only [rt_b, if_neg h2] using hQ)
theorem rt_B {n : Int32} {ws : va_W} {Q : am_Q} (hn : 1 ≤ n.toInt ∧ n.toInt ≤ 99) (hQ : Q (.inl (some (.int (rt_b n 15 (Int32.ofInt 1) (Int32.ofInt 0))))) ws) : am_Safe O X 319 0 [(0, .int n)] [] 0 0 ws Q := by
  have e1 : (Int32.ofInt 1).toInt = 1 := by decide +kernel
  have e0 : (Int32.ofInt 0).toInt = 0 := by decide +kernel
  refine am_go (List.mem_of_getElem? (i := 0) rfl) ?_
  refine am_go (List.mem_of_getElem? (i := 1) rfl) ⟨Int32.ofInt 0, [], rfl, by decide +kernel, ?_⟩
  refine am_go (List.mem_of_getElem? (i := 2) rfl) ?_
  refine am_go (List.mem_of_getElem? (i := 3) rfl) ⟨Int32.ofInt 1, [], rfl, by decide +kernel, ?_⟩
  exact rt_lbT hn 15 (Int32.ofInt 1) (Int32.ofInt 0) _ 0 0 rfl rfl (by rw [e1]; rfl) (by rw [e1]; omega) (by rw [e0]; omega) (rt_p1 (rt_p1 (by simp) (by decide)) (by decide)) (rt_p1 rt_h1 (by decide)) rt_h1 hQ
theorem rt_nr {v : Value} {n lo hi : Int32} {ws : va_W} {Q : am_Q} (h0 : lo.toInt ≤ n.toInt → n.toInt ≤ hi.toInt → Q (.inl none) ws) (h1 : ¬ (lo.toInt ≤ n.toInt ∧ n.toInt ≤ hi.toInt) → Q (.inr 0) ws) : am_Safe O X 13 0 [(0, v), (1, .int n), (2, .int lo), (3, .int hi)] [] 0 0 ws Q := by
  refine am_go (List.mem_of_getElem? (i := 0) rfl) ⟨n, by simp, ?_⟩
  refine am_go (List.mem_of_getElem? (i := 1) rfl) ⟨lo, by simp, ?_⟩
  refine am_go (List.mem_of_getElem? (i := 2) rfl) ⟨n, lo, [], rfl, fun h => ?_, fun h => ?_⟩
  · refine am_go (List.mem_of_getElem? (i := 6) rfl) ⟨rfl, by decide +kernel, by decide +kernel, rfl, by decide +kernel, by decide +kernel, h1 ?_⟩
    have h := Int32.lt_iff_toInt_lt.mp h
    omega
  · have h2 : ¬ n.toInt < lo.toInt := fun q => h (Int32.lt_iff_toInt_lt.mpr q)
    refine am_go (List.mem_of_getElem? (i := 3) rfl) ⟨n, by simp, ?_⟩
    refine am_go (List.mem_of_getElem? (i := 4) rfl) ⟨hi, (show (3, Value.int hi) ∈ [(0, v), (1, Value.int n), (2, Value.int lo), (3, Value.int hi)] by simp), ?_⟩
    refine am_go (List.mem_of_getElem? (i := 5) rfl) ⟨n, hi, [], rfl, fun h => ?_, fun h => ?_⟩
    · have h3 := Int32.le_iff_toInt_le.mp h
      exact am_go (List.mem_of_getElem? (i := 10) rfl) ⟨rfl, by decide +kernel, by decide +kernel, by decide +kernel, h0 (by omega) h3⟩
    · have h3 : ¬ n.toInt ≤ hi.toInt := fun q => h (Int32.le_iff_toInt_le.mpr q)
      refine am_go (List.mem_of_getElem? (i := 6) rfl) ⟨rfl, by decide +kernel, by decide +kernel, rfl, by decide +kernel, by decide +kernel, h1 ?_⟩
      omega
set_option maxHeartbeats 1000000 in
theorem rt_RT {a : Nat} {fs : List Value} {n q : Int32} {ws : va_W} {Q : am_Q} (ha : (a, .inr (12, fs)) ∈ ws) (hQ : rt_ok n q → Q (.inl (some (.int (rt_a n q)))) ws) (hB : ¬ rt_ok n q → Q (.inr 0) ws) : am_Safe O X 320 0 [(0, .ref a), (1, .int n), (2, .int q)] [] 0 0 ws Q := by
  have e1 : (Int32.ofInt 1).toInt = 1 := by decide +kernel
  have e99 : ((Int8.ofInt 99).toInt32).toInt = 99 := by decide +kernel
  have em : (Int32.ofInt (-1)).toInt = -1 := by decide +kernel
  have e15 : ((Int8.ofInt 15).toInt32).toInt = 15 := by decide +kernel
  refine am_go (List.mem_of_getElem? (i := 0) rfl) ⟨some a, by simp [va_rf], ?_⟩
  refine am_go (List.mem_of_getElem? (i := 1) rfl) ⟨n, by simp, ?_⟩
  refine am_go (List.mem_of_getElem? (i := 2) rfl) ?_
  refine am_go (List.mem_of_getElem? (i := 3) rfl) ?_
  refine am_go (List.mem_of_getElem? (i := 4) rfl) ?_
  refine ⟨[.ref a, .int n, .int (Int32.ofInt 1), .int ((Int8.ofInt 99).toInt32)], [], rfl, rfl, by decide, Nat.le_of_ble_eq_true rfl, Nat.le_of_ble_eq_true rfl, fun _ => ⟨a, _, 12, fs, rfl, ha, by decide +kernel⟩, fun h => (by rcases h with h | h <;> cases h), by decide +kernel, by decide +kernel, by decide +kernel, by decide +kernel, fun r w => ws = w ∧ ((r = .inl none ∧ (1 ≤ n.toInt ∧ n.toInt ≤ 99)) ∨ (r = .inr 0 ∧ ¬ (1 ≤ n.toInt ∧ n.toInt ≤ 99))), rt_nr (fun p1 p2 => ⟨rfl, Or.inl ⟨rfl, ?_⟩⟩) (fun p1 => ⟨rfl, Or.inr ⟨rfl, ?_⟩⟩), ?_⟩
  · rw [e1] at p1; rw [e99] at p2; exact ⟨p1, p2⟩
  · rw [e1, e99] at p1; exact p1
  rintro r1 w1 ⟨rfl, ⟨rfl, hn⟩ | ⟨rfl, hn⟩⟩
  rotate_left
  · have eh : am_hnd 320 5 0 = none := by decide +kernel
    exact rt_thr eh ⟨by decide +kernel, by decide +kernel, hB (fun h => hn h.1)⟩
  refine am_go (List.mem_of_getElem? (i := 5) rfl) ⟨some a, by simp [va_rf], ?_⟩
  refine am_go (List.mem_of_getElem? (i := 6) rfl) ⟨q, by simp, ?_⟩
  refine am_go (List.mem_of_getElem? (i := 7) rfl) ?_
  refine am_go (List.mem_of_getElem? (i := 8) rfl) ?_
  refine am_go (List.mem_of_getElem? (i := 9) rfl) ?_
  refine ⟨[.ref a, .int q, .int (Int32.ofInt (-1)), .int ((Int8.ofInt 15).toInt32)], [], rfl, rfl, by decide, Nat.le_of_ble_eq_true rfl, Nat.le_of_ble_eq_true rfl, fun _ => ⟨a, _, 12, fs, rfl, ha, by decide +kernel⟩, fun h => (by rcases h with h | h <;> cases h), by decide +kernel, by decide +kernel, by decide +kernel, by decide +kernel, fun r w => ws = w ∧ ((r = .inl none ∧ (-1 ≤ q.toInt ∧ q.toInt ≤ 15)) ∨ (r = .inr 0 ∧ ¬ (-1 ≤ q.toInt ∧ q.toInt ≤ 15))), rt_nr (fun p1 p2 => ⟨rfl, Or.inl ⟨rfl, ?_⟩⟩) (fun p1 => ⟨rfl, Or.inr ⟨rfl, ?_⟩⟩), ?_⟩
  · rw [em] at p1; rw [e15] at p2; exact ⟨p1, p2⟩
  · rw [em, e15] at p1; exact p1
  rintro r1 w1 ⟨rfl, ⟨rfl, hq⟩ | ⟨rfl, hq⟩⟩
  rotate_left
  · have eh : am_hnd 320 13 0 = none := by decide +kernel
    exact rt_thr eh ⟨by decide +kernel, by decide +kernel, hB (fun h => hq h.2)⟩
  have hQ2 := hQ ⟨hn, hq⟩
  refine am_go (List.mem_of_getElem? (i := 10) rfl) ⟨q, by simp, ?_⟩
  refine am_go (List.mem_of_getElem? (i := 11) rfl) ?_
  refine am_go (List.mem_of_getElem? (i := 12) rfl) ⟨q, Int32.ofInt (-1), [], rfl, fun h => ?_, fun h => ?_⟩
  · have h2 : q.toInt ≠ -1 := fun q2 => h (Int32.toInt_inj.mp (by rw [q2, em]))
    simp only [rt_a, if_neg h2] at hQ2
    refine am_go (List.mem_of_getElem? (i := 16) rfl) ⟨n, by simp, ?_⟩
    refine am_go (List.mem_of_getElem? (i := 17) rfl) ⟨q, by simp, ?_⟩
    refine am_go (List.mem_of_getElem? (i := 18) rfl) (am_stT (by decide) ?_)
    refine ⟨[.int n, .int q], [], rfl, rfl, by decide, Nat.le_of_ble_eq_true rfl, Nat.le_of_ble_eq_true rfl, fun h => (by cases h), fun h => (by rcases h with h | h <;> cases h), by decide +kernel, by decide +kernel, by decide +kernel, by decide +kernel, fun r w => r = .inl (some (.int (rt_v n q))) ∧ ws = w, rt_T hn ⟨by omega, by omega⟩ ⟨rfl, rfl⟩, ?_⟩
    rintro r1 w1 ⟨rfl, rfl⟩
    exact am_go (List.mem_of_getElem? (i := 19) rfl) ⟨_, rfl, Or.inl (by decide +kernel), by decide +kernel, by decide +kernel, hQ2⟩
  · have h2 : q.toInt = -1 := by
      have h3 : ¬ q ≠ Int32.ofInt (-1) := h
      have h4 : q = Int32.ofInt (-1) := Classical.not_not.mp h3
      rw [h4, em]
    simp only [rt_a, if_pos h2] at hQ2
    refine am_go (List.mem_of_getElem? (i := 13) rfl) ⟨n, by simp, ?_⟩
    refine am_go (List.mem_of_getElem? (i := 14) rfl) (am_stT (by decide) ?_)
    refine ⟨[.int n], [], rfl, rfl, by decide, Nat.le_of_ble_eq_true rfl, Nat.le_of_ble_eq_true rfl, fun h => (by cases h), fun h => (by rcases h with h | h <;> cases h), by decide +kernel, by decide +kernel, by decide +kernel, by decide +kernel, fun r w => r = .inl (some (.int (rt_b n 15 (Int32.ofInt 1) (Int32.ofInt 0)))) ∧ ws = w, rt_B hn ⟨rfl, rfl⟩, ?_⟩
    rintro r1 w1 ⟨rfl, rfl⟩
    refine am_go (List.mem_of_getElem? (i := 15) rfl) ?_
    exact am_go (List.mem_of_getElem? (i := 19) rfl) ⟨_, rfl, Or.inl (by decide +kernel), by decide +kernel, by decide +kernel, hQ2⟩
theorem rt_in {n lo hi : Int32} {ws : va_W} {Q : am_Q} (h1 : lo.toInt ≤ n.toInt ∧ n.toInt ≤ hi.toInt → Q (.inl (some (.int (Int32.ofInt 1)))) ws) (h0 : ¬ (lo.toInt ≤ n.toInt ∧ n.toInt ≤ hi.toInt) → Q (.inl (some (.int (Int32.ofInt 0)))) ws) : am_Safe O X 32 0 [(0, .int n), (1, .int lo), (2, .int hi)] [] 0 0 ws Q := by
  refine am_go (List.mem_of_getElem? (i := 0) rfl) ⟨n, by simp, ?_⟩
  refine am_go (List.mem_of_getElem? (i := 1) rfl) ⟨lo, by simp, ?_⟩
  refine am_go (List.mem_of_getElem? (i := 2) rfl) ⟨n, lo, [], rfl, fun h => ?_, fun h => ?_⟩
  · have h := Int32.lt_iff_toInt_lt.mp h
    refine am_go (List.mem_of_getElem? (i := 8) rfl) ?_
    refine am_go (List.mem_of_getElem? (i := 9) rfl) ⟨_, rfl, Or.inr ⟨by decide +kernel, Or.inl (by decide +kernel)⟩, by decide +kernel, by decide +kernel, h0 ?_⟩
    omega
  · have h2 : ¬ n.toInt < lo.toInt := fun q => h (Int32.lt_iff_toInt_lt.mpr q)
    refine am_go (List.mem_of_getElem? (i := 3) rfl) ⟨n, by simp, ?_⟩
    refine am_go (List.mem_of_getElem? (i := 4) rfl) ⟨hi, by simp, ?_⟩
    refine am_go (List.mem_of_getElem? (i := 5) rfl) ⟨n, hi, [], rfl, fun h => ?_, fun h => ?_⟩
    · have h := Int32.lt_iff_toInt_lt.mp h
      refine am_go (List.mem_of_getElem? (i := 8) rfl) ?_
      refine am_go (List.mem_of_getElem? (i := 9) rfl) ⟨_, rfl, Or.inr ⟨by decide +kernel, Or.inl (by decide +kernel)⟩, by decide +kernel, by decide +kernel, h0 ?_⟩
      omega
    · have h3 : ¬ hi.toInt < n.toInt := fun q => h (Int32.lt_iff_toInt_lt.mpr q)
      refine am_go (List.mem_of_getElem? (i := 6) rfl) ?_
      refine am_go (List.mem_of_getElem? (i := 7) rfl) ?_
      exact am_go (List.mem_of_getElem? (i := 9) rfl) ⟨_, rfl, Or.inr ⟨by decide +kernel, Or.inr (by decide +kernel)⟩, by decide +kernel, by decide +kernel, h1 ⟨by omega, by omega⟩⟩
theorem rt_fit (x : Int32) : am_fit 13 0 (.int x) = true := an_fitI 13 0 x rfl
theorem rt_th0 {a : Nat} {c : Int32} {ws : va_W} {Q : am_Q} (hQ : Q (.inl (some (.int (Int32.ofInt 0)))) ws) : am_Safe O X 33 0 [(0, .ref a), (1, .int (Int32.ofInt 0)), (2, .int c)] [] 0 0 ws Q := by
  refine am_go (List.mem_of_getElem? (i := 0) rfl) ⟨Int32.ofInt 0, by simp, ?_⟩
  refine am_go (List.mem_of_getElem? (i := 1) rfl) ⟨Int32.ofInt 0, [], rfl, fun _ => ?_, fun h => absurd rt_c0 h⟩
  refine am_go (List.mem_of_getElem? (i := 5) rfl) ⟨Int32.ofInt 0, by simp, ?_⟩
  exact am_go (List.mem_of_getElem? (i := 6) rfl) ⟨_, rfl, Or.inr ⟨by decide +kernel, Or.inl (by decide +kernel)⟩, by decide +kernel, by decide +kernel, hQ⟩
theorem rt_th1 {a q : Nat} {fs : List Value} {c : Int32} {ws : va_W} {Q : am_Q} (hw : ws[q]? = some (a, .inr (13, fs))) (hl : 0 < fs.length) (hQ : Q (.inl (some (.int (Int32.ofInt 1)))) (ws.set q (a, .inr (13, fs.set 0 (.int c))))) : am_Safe O X 33 0 [(0, .ref a), (1, .int (Int32.ofInt 1)), (2, .int c)] [] 0 0 ws Q := by
  refine am_go (List.mem_of_getElem? (i := 0) rfl) ⟨Int32.ofInt 1, by simp, ?_⟩
  refine am_go (List.mem_of_getElem? (i := 1) rfl) ⟨Int32.ofInt 1, [], rfl, fun h => absurd h rt_c1, fun _ => ?_⟩
  refine am_go (List.mem_of_getElem? (i := 2) rfl) ⟨some a, by simp [va_rf], ?_⟩
  refine am_go (List.mem_of_getElem? (i := 3) rfl) ⟨c, by simp, ?_⟩
  refine am_go (List.mem_of_getElem? (i := 4) rfl) ⟨.int c, a, [], q, fs, rfl, hw, hl, rt_fit _, ?_⟩
  refine am_go (List.mem_of_getElem? (i := 5) rfl) ⟨Int32.ofInt 1, by simp, ?_⟩
  exact am_go (List.mem_of_getElem? (i := 6) rfl) ⟨_, rfl, Or.inr ⟨by decide +kernel, Or.inr (by decide +kernel)⟩, by decide +kernel, by decide +kernel, hQ⟩
set_option maxHeartbeats 1000000 in
theorem rt_MB {a x : Nat} {fs : List Value} {n q : Int32} {k sl : Nat} {ws : va_W} {Q : am_Q} (hk : k = 0) (hs : sl = 0) (hw : ws[x]? = some (a, .inr (13, fs))) (hl : 0 < fs.length) (hB : Q (.inl (some (.int (Int32.ofInt 0)))) (ws.set x (a, .inr (13, fs.set 0 (.int (Int32.ofInt 1)))))) : am_Safe O X 323 26 [(0, .ref a), (1, .int n), (2, .int q)] [.ref a] k sl ws Q := by
  subst hk hs
  refine am_go (List.mem_of_getElem? (i := 14) rfl) ?_
  refine am_go (List.mem_of_getElem? (i := 15) rfl) ?_
  refine am_go (List.mem_of_getElem? (i := 17) rfl) ?_
  refine am_go (List.mem_of_getElem? (i := 18) rfl) ?_
  refine ⟨[.ref a, .int (Int32.ofInt 1), .int (Int32.ofInt 1)], [], rfl, rfl, by decide, Nat.le_of_ble_eq_true rfl, Nat.le_of_ble_eq_true rfl, fun _ => ⟨a, _, 13, fs, rfl, List.mem_of_getElem? hw, by decide +kernel⟩, fun h => (by rcases h with h | h <;> cases h), by decide +kernel, by decide +kernel, by decide +kernel, by decide +kernel, fun r w => r = .inl (some (.int (Int32.ofInt 1))) ∧ (ws.set x (a, .inr (13, fs.set 0 (.int (Int32.ofInt 1))))) = w, rt_th1 hw hl ⟨rfl, rfl⟩, ?_⟩
  rintro r1 w1 ⟨rfl, rfl⟩
  refine am_go (List.mem_of_getElem? (i := 19) rfl) ⟨Int32.ofInt 1, [], rfl, fun h => absurd h rt_c1, fun _ => ?_⟩
  refine am_go (List.mem_of_getElem? (i := 20) rfl) ?_
  exact am_go (List.mem_of_getElem? (i := 21) rfl) ⟨_, rfl, Or.inl (by decide +kernel), by decide +kernel, by decide +kernel, hB⟩
set_option maxHeartbeats 1000000 in
theorem rt_MG {a : Nat} {fs : List Value} {n q : Int32} {k sl : Nat} {ws : va_W} {Q : am_Q} (hk : k = 0) (hs : sl = 0) (hw : (a, .inr (13, fs)) ∈ ws) (hn : 1 ≤ n.toInt ∧ n.toInt ≤ 99) (hq : -1 ≤ q.toInt ∧ q.toInt ≤ 15) (hQ : Q (.inl (some (.int (rt_a n q)))) ws) : am_Safe O X 323 30 [(0, .ref a), (1, .int n), (2, .int q)] [.ref a] k sl ws Q := by
  subst hk hs
  have em : (Int32.ofInt (-1)).toInt = -1 := by decide +kernel
  have e1 : (Int32.ofInt 1).toInt = 1 := by decide +kernel
  have e0 : (Int32.ofInt 0).toInt = 0 := by decide +kernel
  refine am_go (List.mem_of_getElem? (i := 16) rfl) ?_
  refine am_go (List.mem_of_getElem? (i := 17) rfl) ?_
  refine am_go (List.mem_of_getElem? (i := 18) rfl) ?_
  refine ⟨[.ref a, .int (Int32.ofInt 0), .int (Int32.ofInt 1)], [], rfl, rfl, by decide, Nat.le_of_ble_eq_true rfl, Nat.le_of_ble_eq_true rfl, fun _ => ⟨a, _, 13, fs, rfl, hw, by decide +kernel⟩, fun h => (by rcases h with h | h <;> cases h), by decide +kernel, by decide +kernel, by decide +kernel, by decide +kernel, fun r w => r = .inl (some (.int (Int32.ofInt 0))) ∧ ws = w, rt_th0 ⟨rfl, rfl⟩, ?_⟩
  rintro r1 w1 ⟨rfl, rfl⟩
  refine am_go (List.mem_of_getElem? (i := 19) rfl) ⟨Int32.ofInt 0, [], rfl, fun _ => ?_, fun h => absurd rt_c0 h⟩
  refine am_go (List.mem_of_getElem? (i := 22) rfl) ⟨q, by simp, ?_⟩
  refine am_go (List.mem_of_getElem? (i := 23) rfl) ?_
  refine am_go (List.mem_of_getElem? (i := 24) rfl) ⟨q, Int32.ofInt (-1), [], rfl, fun h => ?_, fun h => ?_⟩
  · have h2 : q.toInt = -1 := by
      have h4 : q = Int32.ofInt (-1) := h
      rw [h4, em]
    simp only [rt_a, if_pos h2] at hQ
    refine am_go (List.mem_of_getElem? (i := 29) rfl) ?_
    refine am_go (List.mem_of_getElem? (i := 30) rfl) ⟨Int32.ofInt 0, [], rfl, by decide +kernel, ?_⟩
    refine am_go (List.mem_of_getElem? (i := 31) rfl) ?_
    refine am_go (List.mem_of_getElem? (i := 32) rfl) ⟨Int32.ofInt 1, [], rfl, by decide +kernel, ?_⟩
    exact rt_lbM hn 15 (Int32.ofInt 1) (Int32.ofInt 0) _ _ _ (by decide +kernel) (by decide +kernel) (by rw [e1]; rfl) (by rw [e1]; omega) (by rw [e0]; omega) (rt_p1 (rt_p1 (by simp) (by decide)) (by decide)) (rt_p1 rt_h1 (by decide)) rt_h1 hQ
  · have h2 : q.toInt ≠ -1 := fun q2 => h (Int32.toInt_inj.mp (by rw [q2, em]))
    simp only [rt_a, if_neg h2] at hQ
    refine am_go (List.mem_of_getElem? (i := 25) rfl) ⟨n, by simp, ?_⟩
    refine am_go (List.mem_of_getElem? (i := 26) rfl) ⟨q, by simp, ?_⟩
    refine am_go (List.mem_of_getElem? (i := 27) rfl) (am_stT (by decide) ?_)
    refine ⟨[.int n, .int q], [], rfl, rfl, by decide, Nat.le_of_ble_eq_true rfl, Nat.le_of_ble_eq_true rfl, fun h => (by cases h), fun h => (by rcases h with h | h <;> cases h), by decide +kernel, by decide +kernel, by decide +kernel, by decide +kernel, fun r w => r = .inl (some (.int (rt_v n q))) ∧ ws = w, rt_M hn ⟨by omega, by omega⟩ ⟨rfl, rfl⟩, ?_⟩
    rintro r1 w1 ⟨rfl, rfl⟩
    exact am_go (List.mem_of_getElem? (i := 28) rfl) ⟨_, rfl, Or.inl (by decide +kernel), by decide +kernel, by decide +kernel, hQ⟩
set_option maxHeartbeats 1000000 in
theorem rt_MC {a x : Nat} {fs : List Value} {n q : Int32} {ws : va_W} {Q : am_Q} (hw2 : ws[x]? = some (a, .inr (13, fs))) (hl2 : 0 < fs.length) (hQ : rt_ok n q → Q (.inl (some (.int (rt_a n q)))) ws) (hB2 : ¬ rt_ok n q → Q (.inl (some (.int (Int32.ofInt 0)))) (ws.set x (a, .inr (13, fs.set 0 (.int (Int32.ofInt 1)))))) : am_Safe O X 323 5 [(0, .ref a), (1, .int n), (2, .int q)] [] 0 0 ws Q := by
  have e1 : (Int32.ofInt 1).toInt = 1 := by decide +kernel
  have e99 : ((Int8.ofInt 99).toInt32).toInt = 99 := by decide +kernel
  have em : (Int32.ofInt (-1)).toInt = -1 := by decide +kernel
  have e15 : ((Int8.ofInt 15).toInt32).toInt = 15 := by decide +kernel
  refine am_go (List.mem_of_getElem? (i := 3) rfl) ⟨some a, by simp [va_rf], ?_⟩
  refine am_go (List.mem_of_getElem? (i := 4) rfl) ⟨n, by simp, ?_⟩
  refine am_go (List.mem_of_getElem? (i := 5) rfl) ?_
  refine am_go (List.mem_of_getElem? (i := 6) rfl) ?_
  refine am_go (List.mem_of_getElem? (i := 7) rfl) (am_stT (by decide) ?_)
  refine ⟨[.int n, .int (Int32.ofInt 1), .int ((Int8.ofInt 99).toInt32)], [.ref a], rfl, rfl, by decide, Nat.le_of_ble_eq_true rfl, Nat.le_of_ble_eq_true rfl, fun h => (by cases h), fun h => (by rcases h with h | h <;> cases h), by decide +kernel, by decide +kernel, by decide +kernel, by decide +kernel, fun r w => ws = w ∧ ((r = .inl (some (.int (Int32.ofInt 1))) ∧ (1 ≤ n.toInt ∧ n.toInt ≤ 99)) ∨ (r = .inl (some (.int (Int32.ofInt 0))) ∧ ¬ (1 ≤ n.toInt ∧ n.toInt ≤ 99))), rt_in (fun p1 => ⟨rfl, Or.inl ⟨rfl, ?_⟩⟩) (fun p1 => ⟨rfl, Or.inr ⟨rfl, ?_⟩⟩), ?_⟩
  · rw [e1, e99] at p1; exact p1
  · rw [e1, e99] at p1; exact p1
  rintro r1 w1 ⟨rfl, ⟨rfl, hn⟩ | ⟨rfl, hn⟩⟩
  rotate_left
  · refine am_go (List.mem_of_getElem? (i := 8) rfl) ⟨Int32.ofInt 0, [.ref a], rfl, fun _ => ?_, fun h => absurd rt_c0 h⟩
    exact rt_MB (by decide +kernel) (by decide +kernel) hw2 hl2 (hB2 (fun h => hn h.1))
  refine am_go (List.mem_of_getElem? (i := 8) rfl) ⟨Int32.ofInt 1, [.ref a], rfl, fun h => absurd h rt_c1, fun _ => ?_⟩
  refine am_go (List.mem_of_getElem? (i := 9) rfl) ⟨q, by simp, ?_⟩
  refine am_go (List.mem_of_getElem? (i := 10) rfl) ?_
  refine am_go (List.mem_of_getElem? (i := 11) rfl) ?_
  refine am_go (List.mem_of_getElem? (i := 12) rfl) (am_stT (by decide) ?_)
  refine ⟨[.int q, .int (Int32.ofInt (-1)), .int ((Int8.ofInt 15).toInt32)], [.ref a], rfl, rfl, by decide, Nat.le_of_ble_eq_true rfl, Nat.le_of_ble_eq_true rfl, fun h => (by cases h), fun h => (by rcases h with h | h <;> cases h), by decide +kernel, by decide +kernel, by decide +kernel, by decide +kernel, fun r w => ws = w ∧ ((r = .inl (some (.int (Int32.ofInt 1))) ∧ (-1 ≤ q.toInt ∧ q.toInt ≤ 15)) ∨ (r = .inl (some (.int (Int32.ofInt 0))) ∧ ¬ (-1 ≤ q.toInt ∧ q.toInt ≤ 15))), rt_in (fun p1 => ⟨rfl, Or.inl ⟨rfl, ?_⟩⟩) (fun p1 => ⟨rfl, Or.inr ⟨rfl, ?_⟩⟩), ?_⟩
  · rw [em, e15] at p1; exact p1
  · rw [em, e15] at p1; exact p1
  rintro r1 w1 ⟨rfl, ⟨rfl, hq⟩ | ⟨rfl, hq⟩⟩
  rotate_left
  · refine am_go (List.mem_of_getElem? (i := 13) rfl) ⟨Int32.ofInt 0, [.ref a], rfl, fun h => absurd h rt_n0, fun _ => ?_⟩
    exact rt_MB (by decide +kernel) (by decide +kernel) hw2 hl2 (hB2 (fun h => hq h.2))
  refine am_go (List.mem_of_getElem? (i := 13) rfl) ⟨Int32.ofInt 1, [.ref a], rfl, fun _ => ?_, fun h => absurd rt_n1 h⟩
  exact rt_MG (by decide +kernel) (by decide +kernel) (List.mem_of_getElem? hw2) hn hq (hQ ⟨hn, hq⟩)
theorem rt_RM {a x : Nat} {fs : List Value} {n q : Int32} {ws : va_W} {Q : am_Q} (hw : ws[x]? = some (a, .inr (13, fs))) (hl : 0 < fs.length) (hQ : rt_ok n q → Q (.inl (some (.int (rt_a n q)))) (ws.set x (a, .inr (13, fs.set 0 (.int (Int32.ofInt 0)))))) (hB : ¬ rt_ok n q → Q (.inl (some (.int (Int32.ofInt 0)))) (ws.set x (a, .inr (13, fs.set 0 (.int (Int32.ofInt 1)))))) : am_Safe O X 323 0 [(0, .ref a), (1, .int n), (2, .int q)] [] 0 0 ws Q := by
  refine am_go (List.mem_of_getElem? (i := 0) rfl) ⟨some a, by simp [va_rf], ?_⟩
  refine am_go (List.mem_of_getElem? (i := 1) rfl) ?_
  refine am_go (List.mem_of_getElem? (i := 2) rfl) ⟨.int (Int32.ofInt 0), a, [], x, fs, rfl, hw, hl, rt_fit _, ?_⟩
  exact rt_MC (an_getset hw) (by simp only [List.length_set]; exact hl) hQ (by rw [an_setset, List.set_set]; exact hB)
end RT
/-! what the checker says of both -/
theorem rt_kO : an_ki an_KO = (0, 12, [(1, 7, 0), (1, 76, 0), (1, 23, 0), (1, 14, 0), (1, 8, 0), (1, 18, 0), (1, 5, 0), (1, 9, 0), (1, 12, 0), (1, 62, 0), (1, 63, 0), (1, 64, 0), (1, 65, 0)], 0, 0, (9, 0, 0)) := rfl
theorem rt_kM : an_ki an_KM = (0, 13, [(0, (-2147483648), 2147483647), (0, 0, 99999), (0, 0, 999), (0, 0, 9999), (0, 0, 9999), (0, (-2147483648), 2147483647), (0, 0, 16), (0, (-2147483648), 2147483647), (1, 24, 0), (1, 25, 0), (1, 26, 0), (1, 27, 0), (1, 28, 0), (1, 29, 0), (1, 30, 0), (1, 31, 0), (1, 32, 0), (1, 33, 0), (1, 34, 0), (1, 35, 0), (1, 51, 0), (1, 52, 0), (1, 53, 0), (1, 36, 0), (1, 54, 0), (1, 37, 0), (1, 38, 0), (1, 39, 0), (1, 40, 0), (1, 41, 0), (1, 42, 0), (1, 43, 0), (1, 44, 0), (1, 45, 0), (1, 46, 0), (1, 47, 0), (1, 55, 0), (1, 48, 0), (1, 49, 0), (0, 0, 3), (0, 0, 255), (0, 0, 31), (0, (-2147483648), 2147483647), (0, 0, 8), (0, (-2147483648), 2147483647), (0, 0, 16), (0, (-1), 15), (1, 56, 0), (1, 57, 0), (0, 0, 8), (1, 58, 0), (1, 59, 0), (1, 60, 0), (0, 0, 128), (1, 61, 0), (0, 0, 40), (1, 50, 0)], 0, 0, (9, 0, 0)) := rfl
theorem rt_k0 : an_KO ≠ 0 ∧ an_KM ≠ 0 ∧ an_KM ≠ an_KL := by decide
theorem an_rq_ok {B : an_B} {σ : List Int} {eq : an_E} {q : Int} (h : an_ok B σ) (hq : an_ev σ eq = some q) : ∀ (n c : Nat), c < n → q = (c : Int) - 1 → ∃ B1, (c, B1) ∈ an_rq B eq n ∧ an_ok B1 σ := by
  intro n
  induction n with
  | zero => intro c hc _; omega
  | succ n ih =>
    intro c hc hqc
    simp only [an_rq]
    by_cases hcn : c = n
    · subst hcn
      obtain ⟨B1, e, h1⟩ := an_eq_ok (e2 := (0, (c : Int) - 1)) h hq (by rw [hqc]; rfl)
      rw [e]
      exact ⟨B1, List.mem_cons_self, h1⟩
    · obtain ⟨B1, m1, h1⟩ := ih c (by omega) hqc
      refine ⟨B1, ?_, h1⟩
      split
      · exact List.mem_cons_of_mem _ m1
      · exact m1
theorem an_rts_ok {B : an_B} {σ : List Int} {en eq : an_E} {n q : Int} (h : an_ok B σ) (hn : an_ev σ en = some n) (hq : an_ev σ eq = some q) : ∃ p ∈ an_rts B en eq, an_ok p.2 σ ∧ ((p.1 < 17 ∧ q = (p.1 : Int) - 1 ∧ 1 ≤ n ∧ n ≤ 99 ∧ -1 ≤ q ∧ q ≤ 15) ∨ (p.1 = 17 ∧ ¬ ((1 ≤ n ∧ n ≤ 99) ∧ (-1 ≤ q ∧ q ≤ 15)))) := by
  simp only [an_rts]
  by_cases c1 : n ≤ 0
  · obtain ⟨B1, e, h1⟩ := an_le_ok (e2 := (0, 0)) (k := 0) h hn rfl (by omega)
    exact ⟨(17, B1), List.mem_append_left _ (by rw [e]; exact List.mem_singleton.mpr rfl), h1, Or.inr ⟨rfl, by omega⟩⟩
  by_cases c2 : 100 ≤ n
  · obtain ⟨B1, e, h1⟩ := an_le_ok (e1 := (0, 100)) (k := 0) h rfl hn (by omega)
    exact ⟨(17, B1), List.mem_append_right _ (List.mem_append_left _ (by rw [e]; exact List.mem_singleton.mpr rfl)), h1, Or.inr ⟨rfl, by omega⟩⟩
  obtain ⟨B1, e1, h1⟩ := an_le_ok (e1 := (0, 1)) (k := 0) h rfl hn (by omega)
  obtain ⟨B2, e2, h2⟩ := an_le_ok (e2 := (0, 99)) (k := 0) h1 hn rfl (by omega)
  by_cases c3 : q ≤ -2
  · obtain ⟨B3, e, h3⟩ := an_le_ok (e2 := (0, -2)) (k := 0) h2 hq rfl (by omega)
    exact ⟨(17, B3), List.mem_append_right _ (List.mem_append_right _ (by rw [e1]; simp only [an_rl]; rw [e2]; exact List.mem_append_left _ (by rw [e]; exact List.mem_singleton.mpr rfl))), h3, Or.inr ⟨rfl, by omega⟩⟩
  by_cases c4 : 16 ≤ q
  · obtain ⟨B3, e, h3⟩ := an_le_ok (e1 := (0, 16)) (k := 0) h2 rfl hq (by omega)
    exact ⟨(17, B3), List.mem_append_right _ (List.mem_append_right _ (by rw [e1]; simp only [an_rl]; rw [e2]; exact List.mem_append_right _ (List.mem_append_left _ (by rw [e]; exact List.mem_singleton.mpr rfl)))), h3, Or.inr ⟨rfl, by omega⟩⟩
  obtain ⟨B3, m3, h3⟩ := an_rq_ok h2 hq 17 (q + 1).toNat (by omega) (by omega)
  exact ⟨((q + 1).toNat, B3), List.mem_append_right _ (List.mem_append_right _ (by rw [e1]; simp only [an_rl]; rw [e2]; exact List.mem_append_right _ (List.mem_append_right _ m3))), h3, Or.inl ⟨by simp only; omega, by simp only; omega, by omega, by omega, by omega, by omega⟩⟩
theorem an_rx_ok {O : am_O} {X : Nat → ClassId} {G : an_G} {S : an_S} {σ : List Int} {ρ : List Nat} {κ : an_Ka} {ws : va_W} (hO : an_Ook O) (hc : an_cfg O X G S σ ρ κ ws) {en : an_E} {n q : Int32} {p : Nat × an_B} (hn : an_ev σ en = some n.toInt) (hB : an_ok p.2 σ) (hp : p.1 < 17) (hq : q.toInt = (p.1 : Int) - 1) (h1 : 1 ≤ n.toInt) :
    an_xok O X G σ ρ (an_rx S en p) (.inl (some (.int (rt_a n q)))) ws := by
  have hc2 : an_cfg O X G (p.2, S.2) σ ρ κ ws := hc.num an_px.rf hB hc.2.1.2.1
  have hnr := an_nrm_ok hB hn
  have hov : an_old O (p.1 + 5) n.toInt = rt_a n q := by
    simp only [an_old, if_neg (by omega : ¬ n.toInt < 0)]
    rw [hO.2]
    have a1 : Int32.ofNat n.toInt.toNat = n := Int32.toInt_inj.mp (by rw [an_ofNat (by have := (an_i32 n).2; simp only [an_MX] at this; omega)]; omega)
    have a2 : Int32.ofInt ((p.1 : Int) - 1) = q := by rw [← hq]; exact Int32.ofInt_toInt q
    rw [a1, a2]
  unfold an_rx
  rw [if_neg (by rw [beq_iff_eq]; omega)]
  split
  · rename_i v hv
    rcases hc2.2.1.2.2.2.2 _ (an_tget_mem hv) with ⟨-, i, hi, hgv⟩ | ⟨h0, -⟩ | ⟨h0, -⟩
    · simp only at hi hgv
      have := Option.some.inj (hi.symm.trans hnr)
      rw [this, hov] at hgv
      exact ⟨σ, ρ, κ, an_px.rf, an_pr.rf, hc2, _, rfl, hgv⟩
    · exact absurd rfl h0.1
    · cases h0
  · obtain ⟨σ2, p1, p2, p3, p4⟩ := an_resF (rt_a n q) hc2.2.1.1 hc2.2.1.2.1
    exact ⟨σ2, ρ, κ, p1, an_pr.rf, (hc2.num p1 p2 p3).addO (p1.ev hnr) (by rw [hov]; exact ⟨_, rfl, p4⟩), _, rfl, ⟨_, rfl, p4⟩⟩
theorem an_ls3 {O : am_O} {X : Nat → ClassId} {G : an_G} {as : List an_V} {S : an_S} {xs : List an_X} {σ : List Int} {ρ : List Nat} {κ : an_Ka} {asc : List Value} {ws : va_W} (hO : an_Ook O) (h : an_lopR S as = some xs) (hc : an_cfg O X G S σ ρ κ ws) (hs : an_sok O σ ρ as asc) :
    ∃ Q1 : am_Q, am_Safe O X 320 0 (lv_args 0 asc) [] 0 0 ws Q1 ∧ ∀ r w2, Q1 r w2 → ∃ x ∈ xs, an_xok O X G σ ρ x r w2 := by
  unfold an_lopR at h
  split at h
  · rename_i r f en f2 eq f3
    split at h
    · rename_i hrk
      rw [beq_iff_eq] at hrk
      simp only [Option.some.injEq] at h
      subst h
      obtain ⟨w0, rc, rfl, ⟨a, rfl, hr⟩, h2⟩ := hs.cons
      obtain ⟨w1, rc, rfl, ⟨n, rfl, hn⟩, h3⟩ := h2.cons
      obtain ⟨w2, rc, rfl, ⟨q, rfl, hq⟩, h4⟩ := h3.cons
      have := h4.nil
      subst this
      obtain ⟨hka, -, fs, q1, -⟩ := an_objK hc hr (by rw [hrk]; exact rt_kO)
      refine ⟨fun r w => w = ws ∧ ((rt_ok n q ∧ r = .inl (some (.int (rt_a n q)))) ∨ (¬ rt_ok n q ∧ r = .inr 0)), rt_RT (an_at_mem q1) (fun h => ⟨rfl, Or.inl ⟨h, rfl⟩⟩) (fun h => ⟨rfl, Or.inr ⟨h, rfl⟩⟩), ?_⟩
      rintro r1 w2 ⟨rfl, hr1⟩
      obtain ⟨p, hp, hB, hcase⟩ := an_rts_ok hc.2.1.1 hn hq
      refine ⟨_, List.mem_map.mpr ⟨p, hp, rfl⟩, ?_⟩
      rcases hcase with ⟨k1, k2, k3, k4, k5, k6⟩ | ⟨k1, k2⟩
      · rcases hr1 with ⟨-, rfl⟩ | ⟨hno, -⟩
        · exact an_rx_ok hO hc hn hB k1 k2 k3
        · exact absurd ⟨⟨k3, k4⟩, k5, k6⟩ hno
      · rcases hr1 with ⟨hno, -⟩ | ⟨-, rfl⟩
        · exact absurd hno k2
        · unfold an_rx
          rw [if_pos (by rw [beq_iff_eq]; exact k1)]
          exact ⟨σ, ρ, κ, an_px.rf, an_pr.rf, hc.num an_px.rf hB hc.2.1.2.1, rfl⟩
    · cases h
  · cases h
set_option maxHeartbeats 1000000 in
theorem an_ls4 {O : am_O} {X : Nat → ClassId} {G : an_G} {as : List an_V} {S : an_S} {xs : List an_X} {σ : List Int} {ρ : List Nat} {κ : an_Ka} {asc : List Value} {ws : va_W} (hO : an_Ook O) (h : an_lopM G.2.2.1 S as = some xs) (hc : an_cfg O X G S σ ρ κ ws) (hs : an_sok O σ ρ as asc) :
    ∃ Q1 : am_Q, am_Safe O X 323 0 (lv_args 0 asc) [] 0 0 ws Q1 ∧ ∀ r w2, Q1 r w2 → ∃ x ∈ xs, an_xok O X G σ ρ x r w2 := by
  obtain ⟨z1, z2, z3⟩ := rt_k0
  have e0 : (Int32.ofInt 0).toInt = 0 := by decide +kernel
  have e1 : (Int32.ofInt 1).toInt = 1 := by decide +kernel
  unfold an_lopM at h
  split at h
  · rename_i r f en f2 eq f3
    split at h
    · rename_i hb
      rw [Bool.and_eq_true, beq_iff_eq] at hb
      obtain ⟨hrk, hm⟩ := hb
      simp only [Option.some.injEq] at h
      subst h
      obtain ⟨w0, rc, rfl, ⟨a, rfl, hr⟩, h2⟩ := hs.cons
      obtain ⟨w1, rc, rfl, ⟨n, rfl, hn⟩, h3⟩ := h2.cons
      obtain ⟨w2, rc, rfl, ⟨q, rfl, hq⟩, h4⟩ := h3.cons
      have := h4.nil
      subst this
      obtain ⟨hka, -, fs, q1, q2, -⟩ := an_objK hc hr (by rw [hrk]; exact rt_kM)
      have hl : 0 < fs.length := by rw [q2]; decide
      obtain ⟨x, hx⟩ := an_at_ix q1
      have hput : ∀ (B1 : an_B), an_ok B1 σ → ∀ (c : Int32) (ci : Int), c.toInt = ci → an_cfg O X G (an_tput (B1, S.2) r.1 0 (0, 0) (0, (0, ci), (0, 0))) σ ρ κ (ws.set x (a, .inr (13, fs.set 0 (.int c)))) := by
        intro B1 hB1 c ci hci
        have hc2 : an_cfg O X G (B1, S.2) σ ρ κ ws := hc.num an_px.rf hB1 hc.2.1.2.1
        have hrk2 : an_rk (B1, S.2) r.1 = an_KM := hrk
        refine hc2.put hr (by rw [hrk2]; exact z2) (by rw [hrk2]; exact z3) (by rw [hrk2]; exact hm) (an_nd_set hc.1 hx) (an_upd_field hc.1 hx hl (by decide)) ?_ ⟨c, rfl, by rw [hci]; rfl⟩ (j := 0) rfl (by decide)
        rw [hrk2]
        unfold an_kt
        rw [rt_kM]
        intro t ht
        cases ht
        exact ⟨c, rfl, (an_i32 c).1, (an_i32 c).2⟩
      refine ⟨fun r w => (rt_ok n q ∧ r = .inl (some (.int (rt_a n q))) ∧ w = ws.set x (a, .inr (13, fs.set 0 (.int (Int32.ofInt 0))))) ∨ (¬ rt_ok n q ∧ r = .inl (some (.int (Int32.ofInt 0))) ∧ w = ws.set x (a, .inr (13, fs.set 0 (.int (Int32.ofInt 1))))), rt_RM hx hl (fun h => Or.inl ⟨h, rfl, rfl⟩) (fun h => Or.inr ⟨h, rfl, rfl⟩), ?_⟩
      intro r1 w2 hr1
      obtain ⟨p, hp, hB, hcase⟩ := an_rts_ok hc.2.1.1 hn hq
      refine ⟨_, List.mem_map.mpr ⟨p, hp, rfl⟩, ?_⟩
      unfold an_ry
      rcases hcase with ⟨k1, k2, k3, k4, k5, k6⟩ | ⟨k1, k2⟩
      · rw [if_neg (by rw [beq_iff_eq]; omega)]
        rcases hr1 with ⟨-, rfl, rfl⟩ | ⟨hno, -⟩
        · exact an_rx_ok hO (hput p.2 hB _ _ e0) hn hB k1 k2 k3
        · exact absurd ⟨⟨k3, k4⟩, k5, k6⟩ hno
      · rw [if_pos (by rw [beq_iff_eq]; exact k1)]
        rcases hr1 with ⟨hno, -⟩ | ⟨-, rfl, rfl⟩
        · exact absurd hno k2
        · exact ⟨σ, ρ, κ, an_px.rf, an_pr.rf, hput p.2 hB _ _ e1, _, rfl, Int32.ofInt 0, rfl, by rw [e0]; rfl⟩
    · cases h
  · cases h
theorem an_LSok {O : am_O} {X : Nat → ClassId} (hO : an_Ook O) : an_LS O X := by
  intro w m2 hw G as S xs σ ρ κ asc ws hx hc hs
  simp only [an_lno, an_LM] at hw
  split at hw
  · rename_i h1
    rw [beq_iff_eq] at h1
    cases hw
    subst h1
    exact an_ls0 hx hc hs
  · split at hw
    · rename_i h1
      rw [beq_iff_eq] at h1
      cases hw
      subst h1
      exact an_ls1 hx hc hs
    · split at hw
      · rename_i h1
        rw [beq_iff_eq] at h1
        cases hw
        subst h1
        exact an_ls2 hx hc hs
      · split at hw
        · rename_i h1
          rw [beq_iff_eq] at h1
          cases hw
          subst h1
          exact an_ls3 hO hx hc hs
        · split at hw
          · rename_i h1
            rw [beq_iff_eq] at h1
            cases hw
            subst h1
            exact an_ls4 hO hx hc hs
          · cases hw
