/-! CHANCES, by hand over the abstract machine. -/
section CK
variable {O : am_O} {X : Nat → ClassId}
theorem ck_e0 : ∀ b : Bool, ck_bi b = 0 ↔ b = false := by decide +kernel
theorem ck_01 : ∀ b : Bool, ck_bi b = 0 ∨ ck_bi b = 1 := by decide +kernel
theorem ck_nt : am_c .ne (ck_bi true) 0 := by
  show ¬ (ck_bi true = 0)
  decide +kernel
theorem ck_p1 {l : am_L} {i j : Nat} {v w : Value} (h : (i, v) ∈ l) (h1 : i ≠ j) (hc : v.category = 1) : (i, v) ∈ am_put1 l j w := by
  refine List.mem_cons_of_mem _ (List.mem_filter.mpr ⟨h, ?_⟩)
  simp [h1, hc]
theorem ck_h1 {l : am_L} {j : Nat} {v : Value} : (j, v) ∈ am_put1 l j v := List.mem_cons_self
theorem ck_m0 {a : Nat × Value} {l : am_L} : a ∈ a :: l := List.mem_cons_self
theorem ck_m1 {a b : Nat × Value} {l : am_L} : b ∈ a :: b :: l := List.mem_cons_of_mem _ ck_m0
theorem ck_m2 {a b c : Nat × Value} {l : am_L} : c ∈ a :: b :: c :: l := List.mem_cons_of_mem _ ck_m1
theorem ck_m3 {a b c d : Nat × Value} {l : am_L} : d ∈ a :: b :: c :: d :: l := List.mem_cons_of_mem _ ck_m2
theorem ck_inc (a : Nat) : nI a + Int32.ofInt 1 = nI (a + 1) := by
  rw [show Int32.ofInt 1 = 1 from by decide +kernel]
  exact nI_1 a
theorem ck_ti {a : Nat} (h : a < 2147483648) : (nI a).toInt = (a : Int) := an_ofNat h
theorem ck_z0 : (0 : Int32).toInt = 0 := by decide
theorem ck_o0 : Int32.ofInt 0 = nI 0 := by decide +kernel
theorem ck_rm {p q : Int32} (h : q ≠ 0) : am_ib .irem p q = some (p - p / q * q) := by
  show (if q = 0 then none else some (p - p / q * q)) = _
  rw [if_neg h]
theorem ck_ss {ws : va_W} {q : Nat} {y : Nat × va_E} (h : ws[q]? = some y) : ws.set q y = ws := by
  apply List.ext_getElem?
  intro i
  rw [List.getElem?_set]
  by_cases hi : q = i
  · subst hi
    rw [if_pos rfl, if_pos (List.getElem?_eq_some_iff.mp h).1, h]
  · rw [if_neg hi]
theorem ck_ic0 {K : am_K} {Cl : Nat → List Value → va_W → am_Q → Prop} {Q : am_Q} {m pc ra rb : Nat} {l : am_L} {st : List Value} {k sl : Nat} {ws : va_W} (h : K (pc + 1) l (.int (nI 0) :: st) k sl ws) : am_step O X K Cl Q m pc (.iconst 0) ra rb l st k sl ws := by
  show K (pc + 1) l (.int (Int32.ofInt 0) :: st) k sl ws
  rw [ck_o0]
  exact h
theorem ck_nrw {rr ta n k : Nat} {c d : ClassId} {z : (Nat → Int64) ⊕ (Nat → UInt32) ⊕ (Nat → UInt64) ⊕ (Nat → Option Nat)} {f0 : Nat → Int32} : ((rr, .inl (c, n, .inr z)) : Nat × va_E) ≠ (ta, .inl (d, k, .inl f0)) := by
  intro e
  have h1 := (Prod.mk.inj e).2
  have h2 := Sum.inl.inj h1
  have h3 := (Prod.mk.inj (Prod.mk.inj h2).2).2
  cases h3
theorem ck_ms2 {ws : va_W} {q : Nat} {p y z : Nat × va_E} (h : p ∈ ws) (hq : ws[q]? = some y) (hn : p ≠ y) : p ∈ ws.set q z := by
  obtain ⟨i, hi⟩ := List.getElem?_of_mem h
  refine List.mem_of_getElem? (i := i) ?_
  rw [List.getElem?_set_ne]
  · exact hi
  · rintro rfl
    rw [hi] at hq
    exact hn (Option.some.inj hq)
/-- the class's cells -/
def ck_T (X : Nat → ClassId) (ws : va_W) (x : Nat) (fs : List Value) (F : Int32) (w : Nat) (u v : Nat → Int32) : Prop := ∃ (cs : List Value) (c rr : Nat) (f : Nat → Option Nat), (x, .inr (12, fs)) ∈ ws ∧ fs[0]? = some (.ref c) ∧ (c, .inr (2, cs)) ∈ ws ∧ cs[1]? = some (.int F) ∧ fs[1]? = some (.ref rr) ∧ (rr, .inl (X 2, 4, .inr (.inr (.inr (.inr f))))) ∈ ws ∧
  ∀ i, i < 4 → ∃ (b : Nat) (rs : List Value), f i = some b ∧ (b, .inr (9, rs)) ∈ ws ∧ rs[0]? = some (.int (ck_bi (w.testBit i))) ∧ rs[1]? = some (.int (u i)) ∧ rs[2]? = some (.int (v i))
/-- the reference's cells -/
def ck_M (X : Nat → ClassId) (ws : va_W) (m : Nat) (fs : List Value) (F : Int32) (w : Nat) (u v rr : Nat → Int32) : Prop := ∃ (fa tk ra : Nat), (m, .inr (13, fs)) ∈ ws ∧ fs[2]? = some (.int F) ∧ fs[5]? = some (.int (nI w)) ∧ fs[8]? = some (.ref fa) ∧ (fa, .inl (X 0, 4, .inl u)) ∈ ws ∧ fs[9]? = some (.ref tk) ∧ (tk, .inl (X 0, 4, .inl v)) ∈ ws ∧ fs[18]? = some (.ref ra) ∧ (ra, .inl (X 0, 16, .inl rr)) ∈ ws
theorem ck_T.set {ws : va_W} {x q ta : Nat} {fs : List Value} {F : Int32} {w : Nat} {u v f0 f1 : Nat → Int32} (h : ck_T X ws x fs F w u v) (hq : ws[q]? = some (ta, .inl (X 0, 16, .inl f0))) : ck_T X (ws.set q (ta, .inl (X 0, 16, .inl f1))) x fs F w u v := by
  obtain ⟨cs, c, rr, f, t1, t2, t3, t4, t5, t6, t7⟩ := h
  refine ⟨cs, c, rr, f, ck_ms2 t1 hq (fun e => by cases e), t2, ck_ms2 t3 hq (fun e => by cases e), t4, t5, ck_ms2 t6 hq ck_nrw, fun i hi => ?_⟩
  obtain ⟨b, rs, b1, b2, b3, b4, b5⟩ := t7 i hi
  exact ⟨b, rs, b1, ck_ms2 b2 hq (fun e => by cases e), b3, b4, b5⟩
theorem ck_ib {b : Nat} {rs : List Value} {w : Bool} {p u v : Int32} {ws : va_W} {Q : am_Q} (hb : (b, .inr (9, rs)) ∈ ws) (h1 : rs[0]? = some (.int (ck_bi w))) (h2 : rs[1]? = some (.int u)) (h3 : rs[2]? = some (.int v)) (hQ : Q (.inl (some (.int (ck_bi (w && ck_in p u v))))) ws) : am_Safe O X 100 0 [(0, .ref b), (1, .int p)] [] 0 0 ws Q := by
  have no : (w && ck_in p u v) = false → am_Safe O X 100 32 [(0, .ref b), (1, .int p)] [] 0 0 ws Q := by
    intro e
    rw [e] at hQ
    refine am_go (List.mem_of_getElem? (i := 16) rfl) ?_
    exact am_go (List.mem_of_getElem? (i := 17) rfl) ⟨_, rfl, Or.inr ⟨by decide +kernel, Or.inl (by decide +kernel)⟩, by decide +kernel, by decide +kernel, hQ⟩
  refine am_go (List.mem_of_getElem? (i := 0) rfl) ⟨some b, ck_m0, ?_⟩
  refine am_go (List.mem_of_getElem? (i := 1) rfl) ⟨b, [], rs, _, rfl, hb, h1, ?_⟩
  refine am_go (List.mem_of_getElem? (i := 2) rfl) ⟨ck_bi w, [], rfl, fun h0 => no ?_, fun h0 => ?_⟩
  · rw [(ck_e0 w).mp h0]; rfl
  have hw : w = true := by
    cases w with
    | false => exact absurd ((ck_e0 false).mpr rfl) h0
    | true => rfl
  subst hw
  refine am_go (List.mem_of_getElem? (i := 3) rfl) ⟨p, ck_m1, ?_⟩
  refine am_go (List.mem_of_getElem? (i := 4) rfl) ⟨some b, ck_m0, ?_⟩
  refine am_go (List.mem_of_getElem? (i := 5) rfl) ⟨b, [.int p], rs, _, rfl, hb, h2, ?_⟩
  refine am_go (List.mem_of_getElem? (i := 6) rfl) ⟨p, u, [], rfl, fun h0 => no ?_, fun h0 => ?_⟩
  · have h4 := Int32.lt_iff_toInt_lt.mp h0
    rw [ck_in, decide_eq_false (show ¬ u.toInt ≤ p.toInt by omega)]; rfl
  have h5 : ¬ p.toInt < u.toInt := fun q => h0 (Int32.lt_iff_toInt_lt.mpr q)
  refine am_go (List.mem_of_getElem? (i := 7) rfl) ⟨p, ck_m1, ?_⟩
  refine am_go (List.mem_of_getElem? (i := 8) rfl) ⟨some b, ck_m0, ?_⟩
  refine am_go (List.mem_of_getElem? (i := 9) rfl) ⟨b, [.int p], rs, _, rfl, hb, h2, ?_⟩
  refine am_go (List.mem_of_getElem? (i := 10) rfl) ⟨some b, ck_m0, ?_⟩
  refine am_go (List.mem_of_getElem? (i := 11) rfl) ⟨b, [.int u, .int p], rs, _, rfl, hb, h3, ?_⟩
  refine am_go (List.mem_of_getElem? (i := 12) rfl) ⟨u, v, u + v, [.int p], rfl, rfl, ?_⟩
  refine am_go (List.mem_of_getElem? (i := 13) rfl) ⟨p, u + v, [], rfl, fun h0 => no ?_, fun h0 => ?_⟩
  · have h4 := Int32.le_iff_toInt_le.mp h0
    rw [ck_in, decide_eq_false (show ¬ p.toInt < (u + v).toInt by omega), Bool.and_false]; rfl
  have h6 : ¬ (u + v).toInt ≤ p.toInt := fun q => h0 (Int32.le_iff_toInt_le.mpr q)
  have e : (true && ck_in p u v) = true := by
    rw [ck_in, decide_eq_true (show u.toInt ≤ p.toInt by omega), decide_eq_true (show p.toInt < (u + v).toInt by omega)]; rfl
  rw [e] at hQ
  refine am_go (List.mem_of_getElem? (i := 14) rfl) ?_
  refine am_go (List.mem_of_getElem? (i := 15) rfl) ?_
  exact am_go (List.mem_of_getElem? (i := 17) rfl) ⟨_, rfl, Or.inr ⟨by decide +kernel, Or.inr (by decide +kernel)⟩, by decide +kernel, by decide +kernel, hQ⟩
def ck_acc (B : Nat → Bool) : Nat → Nat → Int32 → Int32
  | 0, _, z => z
  | r + 1, i, z => ck_acc B r (i + 1) (if B i = true then z ||| (Int32.ofInt 1 <<< (nI i &&& 31)) else z)
theorem ck_accT {B : Nat → Bool} {r i : Nat} {z : Int32} (h : B i = true) : ck_acc B (r + 1) i z = ck_acc B r (i + 1) (z ||| (Int32.ofInt 1 <<< (nI i &&& 31))) := by
  show ck_acc B r (i + 1) (if B i = true then z ||| (Int32.ofInt 1 <<< (nI i &&& 31)) else z) = _
  rw [if_pos h]
theorem ck_accF {B : Nat → Bool} {r i : Nat} {z : Int32} (h : ¬ B i = true) : ck_acc B (r + 1) i z = ck_acc B r (i + 1) z := by
  show ck_acc B r (i + 1) (if B i = true then z ||| (Int32.ofInt 1 <<< (nI i &&& 31)) else z) = _
  rw [if_neg h]
theorem ck_acc4 : ∀ b0 b1 b2 b3 : Bool, (let z0 := nI 0; let z1 := (if b0 = true then z0 ||| (Int32.ofInt 1 <<< (nI 0 &&& 31)) else z0); let z2 := (if b1 = true then z1 ||| (Int32.ofInt 1 <<< (nI 1 &&& 31)) else z1); let z3 := (if b2 = true then z2 ||| (Int32.ofInt 1 <<< (nI 2 &&& 31)) else z2); if b3 = true then z3 ||| (Int32.ofInt 1 <<< (nI 3 &&& 31)) else z3) = nI ((if b0 then 1 else 0) + (if b1 then 2 else 0) + (if b2 then 4 else 0) + (if b3 then 8 else 0)) := by decide +kernel
theorem ck_accM (B : Nat → Bool) : ck_acc B 4 0 (nI 0) = nI (ck_mask B) := ck_acc4 (B 0) (B 1) (B 2) (B 3)
theorem ck_msP {F : Int32} {w t : Nat} {u v : Nat → Int32} (h : 0 < F.toInt) : ck_ms F w u v t = ck_mask (ck_bb w (ck_pl F t) u v) := by
  have e : ck_bs F w u v t = ck_bb w (ck_pl F t) u v := by
    funext i
    unfold ck_bs
    rw [decide_eq_true h, Bool.true_and]
  rw [ck_ms, e]
theorem ck_msN {F : Int32} {w t : Nat} {u v : Nat → Int32} (h : ¬ 0 < F.toInt) : ck_ms F w u v t = 0 := by
  have e : ck_bs F w u v t = fun _ => false := by
    funext i
    unfold ck_bs
    rw [decide_eq_false h, Bool.false_and]
  rw [ck_ms, e]
  rfl
theorem ck_bl {x : Nat} {fs : List Value} {F p : Int32} {w : Nat} {u v : Nat → Int32} {ws : va_W} {Q : am_Q} (hT : ck_T X ws x fs F w u v) : ∀ (r i : Nat) (z : Int32) (l : am_L) (k sl : Nat), k = 0 → sl = 0 → i + r = 4 → (0, .ref x) ∈ l → (3, .int p) ∈ l → (4, .int z) ∈ l → (5, .int (nI i)) ∈ l → Q (.inl (some (.int (ck_acc (ck_bb w p u v) r i z)))) ws → am_Safe O X 101 24 l [] k sl ws Q := by
  obtain ⟨cs, c, rr, f, t1, t2, t3, t4, t5, t6, t7⟩ := hT
  intro r
  induction r with
  | zero =>
    intro i z l k sl hk hs hr m0 m3 m4 m5 hQ
    subst hk hs
    have hi : i = 4 := by omega
    subst hi
    refine am_go (List.mem_of_getElem? (i := 16) rfl) ⟨nI 4, m5, ?_⟩
    refine am_go (List.mem_of_getElem? (i := 17) rfl) ⟨some x, m0, ?_⟩
    refine am_go (List.mem_of_getElem? (i := 18) rfl) ⟨x, [.int (nI 4)], fs, .ref rr, rfl, t1, t5, ?_⟩
    refine am_go (List.mem_of_getElem? (i := 19) rfl) ⟨rr, [.int (nI 4)], 4, rfl, Or.inl ⟨2, _, by decide, t6⟩, ?_⟩
    refine am_go (List.mem_of_getElem? (i := 20) rfl) ⟨nI 4, Int32.ofNat 4, [], rfl, fun _ => ?_, fun h => absurd (Int32.le_iff_toInt_le.mpr (by decide +kernel)) h⟩
    refine am_go (List.mem_of_getElem? (i := 36) rfl) ⟨z, m4, ?_⟩
    exact am_go (List.mem_of_getElem? (i := 37) rfl) ⟨_, rfl, Or.inl (by decide +kernel), by decide +kernel, by decide +kernel, hQ⟩
  | succ r ih =>
    intro i z l k sl hk hs hr m0 m3 m4 m5 hQ
    subst hk hs
    have hi : i < 4 := by omega
    have e4 : (Int32.ofNat 4).toInt = 4 := by decide +kernel
    have ei : (nI i).toInt = (i : Int) := ck_ti (by omega)
    obtain ⟨b, rs, b1, b2, b3, b4, b5⟩ := t7 i hi
    have en : nI i + Int32.ofInt 1 = nI (i + 1) := ck_inc i
    have ec : (nI i).toNatClampNeg = i := an_clampN (by omega)
    refine am_go (List.mem_of_getElem? (i := 16) rfl) ⟨nI i, m5, ?_⟩
    refine am_go (List.mem_of_getElem? (i := 17) rfl) ⟨some x, m0, ?_⟩
    refine am_go (List.mem_of_getElem? (i := 18) rfl) ⟨x, [.int (nI i)], fs, .ref rr, rfl, t1, t5, ?_⟩
    refine am_go (List.mem_of_getElem? (i := 19) rfl) ⟨rr, [.int (nI i)], 4, rfl, Or.inl ⟨2, _, by decide, t6⟩, ?_⟩
    refine am_go (List.mem_of_getElem? (i := 20) rfl) ⟨nI i, Int32.ofNat 4, [], rfl, fun h => absurd (Int32.le_iff_toInt_le.mp h) (by rw [e4, ei]; omega), fun _ => ?_⟩
    refine am_go (List.mem_of_getElem? (i := 21) rfl) ⟨some x, m0, ?_⟩
    refine am_go (List.mem_of_getElem? (i := 22) rfl) ⟨x, [], fs, .ref rr, rfl, t1, t5, ?_⟩
    refine am_go (List.mem_of_getElem? (i := 23) rfl) ⟨nI i, m5, ?_⟩
    refine am_go (List.mem_of_getElem? (i := 24) rfl) ⟨nI i, rr, [], 2, 4, f, rfl, Or.inl rfl, t6, vp_in_iff.mpr ⟨by rw [ei]; omega, by rw [ei]; omega⟩, ?_⟩
    rw [ec, b1]
    refine am_go (List.mem_of_getElem? (i := 25) rfl) ⟨p, m3, ?_⟩
    refine am_go (List.mem_of_getElem? (i := 26) rfl) ?_
    refine ⟨[.ref b, .int p], [], rfl, rfl, by decide, Nat.le_of_ble_eq_true rfl, Nat.le_of_ble_eq_true rfl, fun _ => ⟨b, _, 9, rs, rfl, b2, by decide +kernel⟩, fun h => (by rcases h with h | h <;> cases h), by decide +kernel, by decide +kernel, by decide +kernel, by decide +kernel, fun r9 w9 => r9 = .inl (some (.int (ck_bi (ck_bb w p u v i)))) ∧ ws = w9, ck_ib b2 b3 b4 b5 ⟨rfl, rfl⟩, ?_⟩
    rintro r9 w9 ⟨rfl, rfl⟩
    by_cases hB : ck_bb w p u v i = true
    · refine am_go (List.mem_of_getElem? (i := 27) rfl) ⟨ck_bi (ck_bb w p u v i), [], rfl, fun h => absurd ((ck_e0 _).mp h) (by rw [hB]; decide), fun _ => ?_⟩
      refine am_go (List.mem_of_getElem? (i := 28) rfl) ⟨z, m4, ?_⟩
      refine am_go (List.mem_of_getElem? (i := 29) rfl) ?_
      refine am_go (List.mem_of_getElem? (i := 30) rfl) ⟨nI i, m5, ?_⟩
      refine am_go (List.mem_of_getElem? (i := 31) rfl) ⟨Int32.ofInt 1, nI i, Int32.ofInt 1 <<< (nI i &&& 31), [.int z], rfl, rfl, ?_⟩
      refine am_go (List.mem_of_getElem? (i := 32) rfl) ⟨z, Int32.ofInt 1 <<< (nI i &&& 31), z ||| (Int32.ofInt 1 <<< (nI i &&& 31)), [], rfl, rfl, ?_⟩
      refine am_go (List.mem_of_getElem? (i := 33) rfl) ⟨z ||| (Int32.ofInt 1 <<< (nI i &&& 31)), [], rfl, by decide +kernel, ?_⟩
      refine am_go (List.mem_of_getElem? (i := 34) rfl) ⟨nI i, ck_p1 m5 (by decide) rfl, ?_⟩
      refine am_go (List.mem_of_getElem? (i := 35) rfl) ?_
      rw [en]
      refine ih (i + 1) _ _ _ _ (by decide +kernel) (by decide +kernel) (by omega) (ck_p1 (ck_p1 m0 (by decide) rfl) (by decide) rfl) (ck_p1 (ck_p1 m3 (by decide) rfl) (by decide) rfl) (ck_p1 ck_h1 (by decide) rfl) ck_h1 ?_
      rw [ck_accT hB] at hQ
      exact hQ
    · have hB0 : ck_bb w p u v i = false := by
        cases h9 : ck_bb w p u v i with
        | false => rfl
        | true => exact absurd h9 hB
      refine am_go (List.mem_of_getElem? (i := 27) rfl) ⟨ck_bi (ck_bb w p u v i), [], rfl, fun _ => ?_, fun h => absurd ((ck_e0 _).mpr hB0) h⟩
      refine am_go (List.mem_of_getElem? (i := 34) rfl) ⟨nI i, m5, ?_⟩
      refine am_go (List.mem_of_getElem? (i := 35) rfl) ?_
      rw [en]
      refine ih (i + 1) _ _ _ _ (by decide +kernel) (by decide +kernel) (by omega) (ck_p1 m0 (by decide) rfl) (ck_p1 m3 (by decide) rfl) (ck_p1 m4 (by decide) rfl) ck_h1 ?_
      rw [ck_accF hB] at hQ
      exact hQ
theorem ck_ba {x t : Nat} {fs : List Value} {F : Int32} {w : Nat} {u v : Nat → Int32} {ws : va_W} {Q : am_Q} (hT : ck_T X ws x fs F w u v) (hQ : Q (.inl (some (.int (nI (ck_ms F w u v t))))) ws) : am_Safe O X 101 0 [(0, .ref x), (1, .int (nI t))] [] 0 0 ws Q := by
  obtain ⟨cs, c, rr, f, t1, t2, t3, t4, t5, t6, t7⟩ := id hT
  refine am_go (List.mem_of_getElem? (i := 0) rfl) ⟨some x, ck_m0, ?_⟩
  refine am_go (List.mem_of_getElem? (i := 1) rfl) ⟨x, [], fs, .ref c, rfl, t1, t2, ?_⟩
  refine am_go (List.mem_of_getElem? (i := 2) rfl) ⟨c, [], cs, .int F, rfl, t3, t4, ?_⟩
  refine am_go (List.mem_of_getElem? (i := 3) rfl) ⟨F, [], rfl, by decide +kernel, ?_⟩
  refine am_go (List.mem_of_getElem? (i := 4) rfl) ⟨F, ck_h1, ?_⟩
  refine am_go (List.mem_of_getElem? (i := 5) rfl) ⟨F, [], rfl, fun h => ?_, fun h => ?_⟩
  · have h1 := Int32.lt_iff_toInt_lt.mp h
    rw [ck_z0] at h1
    have hF : F ≠ 0 := by
      rintro rfl
      rw [ck_z0] at h1
      omega
    refine am_go (List.mem_of_getElem? (i := 8) rfl) ⟨nI t, ck_p1 ck_m1 (by decide) rfl, ?_⟩
    refine am_go (List.mem_of_getElem? (i := 9) rfl) ⟨F, ck_h1, ?_⟩
    refine am_go (List.mem_of_getElem? (i := 10) rfl) ⟨nI t, F, ck_pl F t, [], rfl, ck_rm hF, ?_⟩
    refine am_go (List.mem_of_getElem? (i := 11) rfl) ⟨ck_pl F t, [], rfl, by decide +kernel, ?_⟩
    refine am_go (List.mem_of_getElem? (i := 12) rfl) ?_
    refine am_go (List.mem_of_getElem? (i := 13) rfl) ⟨Int32.ofInt 0, [], rfl, by decide +kernel, ?_⟩
    refine am_go (List.mem_of_getElem? (i := 14) rfl) ?_
    refine am_go (List.mem_of_getElem? (i := 15) rfl) ⟨Int32.ofInt 0, [], rfl, by decide +kernel, ?_⟩
    rw [ck_o0]
    refine ck_bl (p := ck_pl F t) hT 4 0 (nI 0) _ _ _ rfl rfl rfl (ck_p1 (ck_p1 (ck_p1 (ck_p1 ck_m0 (by decide) rfl) (by decide) rfl) (by decide) rfl) (by decide) rfl) (ck_p1 (ck_p1 ck_h1 (by decide) rfl) (by decide) rfl) (ck_p1 ck_h1 (by decide) rfl) ck_h1 ?_
    rw [ck_accM, ← ck_msP h1]
    exact hQ
  · have h1 : ¬ 0 < F.toInt := fun q => h (Int32.lt_iff_toInt_lt.mpr (by rw [ck_z0]; exact q))
    rw [ck_msN h1, ← ck_o0] at hQ
    refine am_go (List.mem_of_getElem? (i := 6) rfl) ?_
    exact am_go (List.mem_of_getElem? (i := 7) rfl) ⟨_, rfl, Or.inl (by decide +kernel), by decide +kernel, by decide +kernel, hQ⟩
theorem ck_he {x t r b : Nat} {fs ts : List Value} {F : Int32} {w wd : Nat} {u v : Nat → Int32} {ws : va_W} {Q : am_Q} (hT : ck_T X ws x fs F w u v) (ht : (t, .inr (11, ts)) ∈ ws) (hg : ts[4]? = some (.int (nI wd))) (hr : r < 4) (hQ : Q (.inl (some (.int (ck_bi (w.testBit r && ck_hh wd r b))))) ws) : am_Safe O X 102 0 [(0, .ref x), (1, .ref t), (2, .int (nI r)), (3, .int (nI b))] [] 0 0 ws Q := by
  obtain ⟨cs, c, rr, f, t1, t2, t3, t4, t5, t6, t7⟩ := hT
  have e4 : (Int32.ofNat 4).toInt = 4 := by decide +kernel
  have er : (nI r).toInt = (r : Int) := ck_ti (by omega)
  obtain ⟨d, rs, b1, b2, b3, b4, b5⟩ := t7 r hr
  have ec : (nI r).toNatClampNeg = r := an_clampN (by omega)
  refine am_go (List.mem_of_getElem? (i := 0) rfl) ⟨nI r, ck_m2, ?_⟩
  refine am_go (List.mem_of_getElem? (i := 1) rfl) ⟨nI r, [], rfl, fun h => absurd (Int32.lt_iff_toInt_lt.mp h) (by rw [er, ck_z0]; omega), fun _ => ?_⟩
  refine am_go (List.mem_of_getElem? (i := 2) rfl) ⟨nI r, ck_m2, ?_⟩
  refine am_go (List.mem_of_getElem? (i := 3) rfl) ⟨some x, ck_m0, ?_⟩
  refine am_go (List.mem_of_getElem? (i := 4) rfl) ⟨x, [.int (nI r)], fs, .ref rr, rfl, t1, t5, ?_⟩
  refine am_go (List.mem_of_getElem? (i := 5) rfl) ⟨rr, [.int (nI r)], 4, rfl, Or.inl ⟨2, _, by decide, t6⟩, ?_⟩
  refine am_go (List.mem_of_getElem? (i := 6) rfl) ⟨nI r, Int32.ofNat 4, [], rfl, fun h => absurd (Int32.le_iff_toInt_le.mp h) (by rw [e4, er]; omega), fun _ => ?_⟩
  refine am_go (List.mem_of_getElem? (i := 7) rfl) ⟨some x, ck_m0, ?_⟩
  refine am_go (List.mem_of_getElem? (i := 8) rfl) ⟨x, [], fs, .ref rr, rfl, t1, t5, ?_⟩
  refine am_go (List.mem_of_getElem? (i := 9) rfl) ⟨nI r, ck_m2, ?_⟩
  refine am_go (List.mem_of_getElem? (i := 10) rfl) ⟨nI r, rr, [], 2, 4, f, rfl, Or.inl rfl, t6, vp_in_iff.mpr ⟨by rw [er]; omega, by rw [er]; omega⟩, ?_⟩
  rw [ec, b1]
  refine am_go (List.mem_of_getElem? (i := 11) rfl) ⟨d, [], rs, _, rfl, b2, b3, ?_⟩
  cases hw : w.testBit r with
  | false =>
    rw [hw] at hQ
    refine am_go (List.mem_of_getElem? (i := 12) rfl) ⟨ck_bi false, [], rfl, fun h => absurd ((ck_e0 false).mpr rfl) h, fun _ => ?_⟩
    refine am_go (List.mem_of_getElem? (i := 13) rfl) ?_
    exact am_go (List.mem_of_getElem? (i := 14) rfl) ⟨_, rfl, Or.inr ⟨by decide +kernel, Or.inl (by decide +kernel)⟩, by decide +kernel, by decide +kernel, hQ⟩
  | true =>
    rw [hw] at hQ
    refine am_go (List.mem_of_getElem? (i := 12) rfl) ⟨ck_bi true, [], rfl, fun _ => ?_, fun h => absurd ck_nt h⟩
    refine am_go (List.mem_of_getElem? (i := 15) rfl) ?_
    refine am_go (List.mem_of_getElem? (i := 16) rfl) ⟨nI r, ck_m2, ?_⟩
    refine am_go (List.mem_of_getElem? (i := 17) rfl) ⟨Int32.ofInt 1, nI r, ck_ow r, [], rfl, rfl, ?_⟩
    refine am_go (List.mem_of_getElem? (i := 18) rfl) ⟨ck_ow r, [], rfl, by decide +kernel, ?_⟩
    have no : (true && ck_hh wd r b) = false → am_Safe O X 102 60 (am_put1 [(0, .ref x), (1, .ref t), (2, .int (nI r)), (3, .int (nI b))] 4 (.int (ck_ow r))) [] 0 0 ws Q := by
      intro e
      rw [e] at hQ
      refine am_go (List.mem_of_getElem? (i := 35) rfl) ?_
      exact am_go (List.mem_of_getElem? (i := 36) rfl) ⟨_, rfl, Or.inr ⟨by decide +kernel, Or.inl (by decide +kernel)⟩, by decide +kernel, by decide +kernel, hQ⟩
    refine am_go (List.mem_of_getElem? (i := 19) rfl) ⟨some t, ck_p1 ck_m1 (by decide) rfl, ?_⟩
    refine am_go (List.mem_of_getElem? (i := 20) rfl) ⟨t, [], ts, _, rfl, ht, hg, ?_⟩
    refine am_go (List.mem_of_getElem? (i := 21) rfl) ⟨ck_ow r, ck_h1, ?_⟩
    refine am_go (List.mem_of_getElem? (i := 22) rfl) ⟨nI wd, ck_ow r, nI wd &&& ck_ow r, [], rfl, rfl, ?_⟩
    refine am_go (List.mem_of_getElem? (i := 23) rfl) ⟨nI wd &&& ck_ow r, [], rfl, fun h => no ?_, fun h => ?_⟩
    · have h : nI wd &&& ck_ow r = 0 := h
      rw [ck_hh, decide_eq_true h]; rfl
    have h1 : ¬ (nI wd &&& ck_ow r = 0) := h
    refine am_go (List.mem_of_getElem? (i := 24) rfl) ⟨some t, ck_p1 ck_m1 (by decide) rfl, ?_⟩
    refine am_go (List.mem_of_getElem? (i := 25) rfl) ⟨t, [], ts, _, rfl, ht, hg, ?_⟩
    refine am_go (List.mem_of_getElem? (i := 26) rfl) ⟨nI b, ck_p1 ck_m3 (by decide) rfl, ?_⟩
    refine am_go (List.mem_of_getElem? (i := 27) rfl) ⟨nI wd, nI b, nI wd &&& nI b, [], rfl, rfl, ?_⟩
    refine am_go (List.mem_of_getElem? (i := 28) rfl) ⟨ck_ow r, ck_h1, ?_⟩
    refine am_go (List.mem_of_getElem? (i := 29) rfl) ?_
    refine am_go (List.mem_of_getElem? (i := 30) rfl) ⟨ck_ow r, Int32.ofInt (-1), ck_ow r ^^^ Int32.ofInt (-1), [.int (nI wd &&& nI b)], rfl, rfl, ?_⟩
    refine am_go (List.mem_of_getElem? (i := 31) rfl) ⟨nI wd &&& nI b, ck_ow r ^^^ Int32.ofInt (-1), nI wd &&& nI b &&& (ck_ow r ^^^ Int32.ofInt (-1)), [], rfl, rfl, ?_⟩
    refine am_go (List.mem_of_getElem? (i := 32) rfl) ⟨nI wd &&& nI b &&& (ck_ow r ^^^ Int32.ofInt (-1)), [], rfl, fun h => no ?_, fun h => ?_⟩
    · have h : ¬ (nI wd &&& nI b &&& (ck_ow r ^^^ Int32.ofInt (-1)) = 0) := h
      rw [ck_hh, decide_eq_false h, Bool.and_false]; rfl
    have h2 : ¬ ¬ (nI wd &&& nI b &&& (ck_ow r ^^^ Int32.ofInt (-1)) = 0) := h
    have e : (true && ck_hh wd r b) = true := by
      rw [ck_hh, decide_eq_false h1, decide_eq_true (Classical.not_not.mp h2)]; rfl
    rw [e] at hQ
    refine am_go (List.mem_of_getElem? (i := 33) rfl) ?_
    refine am_go (List.mem_of_getElem? (i := 34) rfl) ?_
    exact am_go (List.mem_of_getElem? (i := 36) rfl) ⟨_, rfl, Or.inr ⟨by decide +kernel, Or.inr (by decide +kernel)⟩, by decide +kernel, by decide +kernel, hQ⟩
theorem ck_fl {ta q : Nat} {Q : am_Q} : ∀ (r i : Nat) (f : Nat → Int32) (ws : va_W) (l : am_L) (k sl : Nat), k = 0 → sl = 0 → i + r = 16 → (∀ j, j < i → f j = nI 0) → (0, .ref ta) ∈ l → (1, .int (nI 0)) ∈ l → (2, .int (nI i)) ∈ l → (3, .int (nI 16)) ∈ l → ws[q]? = some (ta, .inl (X 0, 16, .inl f)) → (∀ f2 : Nat → Int32, (∀ j, j < 16 → f2 j = nI 0) → Q (.inl none) (ws.set q (ta, .inl (X 0, 16, .inl f2)))) → am_Safe O X 245 5 l [] k sl ws Q := by
  intro r
  induction r with
  | zero =>
    intro i f ws l k sl hk hs hr hf m0 m1 m2 m3 hw hQ
    subst hk hs
    have hi : i = 16 := by omega
    subst hi
    have hQ := hQ f hf
    rw [ck_ss hw] at hQ
    refine am_go (List.mem_of_getElem? (i := 5) rfl) ⟨nI 16, m2, ?_⟩
    refine am_go (List.mem_of_getElem? (i := 6) rfl) ⟨nI 16, m3, ?_⟩
    refine am_go (List.mem_of_getElem? (i := 7) rfl) ⟨nI 16, nI 16, [], rfl, fun _ => ?_, fun h => absurd (Int32.le_iff_toInt_le.mpr (Int.le_refl _)) h⟩
    exact am_go (List.mem_of_getElem? (i := 14) rfl) ⟨rfl, by decide +kernel, by decide +kernel, by decide +kernel, hQ⟩
  | succ r ih =>
    intro i f ws l k sl hk hs hr hf m0 m1 m2 m3 hw hQ
    subst hk hs
    have ei : (nI i).toInt = (i : Int) := ck_ti (by omega)
    have e16 : (nI 16).toInt = 16 := by decide +kernel
    have ec : (nI i).toNatClampNeg = i := an_clampN (by omega)
    refine am_go (List.mem_of_getElem? (i := 5) rfl) ⟨nI i, m2, ?_⟩
    refine am_go (List.mem_of_getElem? (i := 6) rfl) ⟨nI 16, m3, ?_⟩
    refine am_go (List.mem_of_getElem? (i := 7) rfl) ⟨nI i, nI 16, [], rfl, fun h => absurd (Int32.le_iff_toInt_le.mp h) (by rw [ei, e16]; omega), fun _ => ?_⟩
    refine am_go (List.mem_of_getElem? (i := 8) rfl) ⟨some ta, m0, ?_⟩
    refine am_go (List.mem_of_getElem? (i := 9) rfl) ⟨nI i, m2, ?_⟩
    refine am_go (List.mem_of_getElem? (i := 10) rfl) ⟨nI 0, m1, ?_⟩
    refine am_go (List.mem_of_getElem? (i := 11) rfl) ⟨nI 0, nI i, ta, [], q, 16, f, rfl, hw, vp_in_iff.mpr ⟨by rw [ei]; omega, by rw [ei]; omega⟩, ?_⟩
    rw [ec]
    refine am_go (List.mem_of_getElem? (i := 12) rfl) ⟨nI i, m2, ?_⟩
    refine am_go (List.mem_of_getElem? (i := 13) rfl) ?_
    rw [ck_inc]
    refine ih (i + 1) (upd f i (nI 0)) _ _ _ _ rfl rfl (by omega) (fun j hj => ?_) (ck_p1 m0 (by decide) rfl) (ck_p1 m1 (by decide) rfl) ck_h1 (ck_p1 m3 (by decide) rfl) (an_getset hw) (fun f2 h2 => by rw [an_setset]; exact hQ f2 h2)
    simp only [upd]
    split
    · rfl
    · exact hf j (by omega)
theorem ck_fi {ta q : Nat} {f : Nat → Int32} {ws : va_W} {Q : am_Q} (hw : ws[q]? = some (ta, .inl (X 0, 16, .inl f))) (hQ : ∀ f2 : Nat → Int32, (∀ j, j < 16 → f2 j = nI 0) → Q (.inl none) (ws.set q (ta, .inl (X 0, 16, .inl f2)))) : am_Safe O X 245 0 [(0, .ref ta), (1, .int (nI 0))] [] 0 0 ws Q := by
  refine am_go (List.mem_of_getElem? (i := 0) rfl) ?_
  refine am_go (List.mem_of_getElem? (i := 1) rfl) ⟨Int32.ofInt 0, [], rfl, by decide +kernel, ?_⟩
  refine am_go (List.mem_of_getElem? (i := 2) rfl) ⟨some ta, ck_p1 ck_m0 (by decide) rfl, ?_⟩
  refine am_go (List.mem_of_getElem? (i := 3) rfl) ⟨ta, [], 16, rfl, Or.inl ⟨0, .inl f, by decide, List.mem_of_getElem? hw⟩, ?_⟩
  refine am_go (List.mem_of_getElem? (i := 4) rfl) ⟨Int32.ofNat 16, [], rfl, by decide +kernel, ?_⟩
  rw [ck_o0]
  exact ck_fl 16 0 f ws _ _ _ rfl rfl rfl (fun j hj => absurd hj (by omega)) (ck_p1 (ck_p1 ck_m0 (by decide) rfl) (by decide) rfl) (ck_p1 (ck_p1 ck_m1 (by decide) rfl) (by decide) rfl) (ck_p1 ck_h1 (by decide) rfl) ck_h1 hw hQ
theorem ck_mx {a b : Int32} {ws : va_W} {Q : am_Q} (h1 : b.toInt ≤ a.toInt → Q (.inl (some (.int a))) ws) (h2 : ¬ b.toInt ≤ a.toInt → Q (.inl (some (.int b))) ws) : am_Safe O X 16 0 [(0, .int a), (1, .int b)] [] 0 0 ws Q := by
  refine am_go (List.mem_of_getElem? (i := 0) rfl) ⟨a, ck_m0, ?_⟩
  refine am_go (List.mem_of_getElem? (i := 1) rfl) ⟨b, ck_m1, ?_⟩
  refine am_go (List.mem_of_getElem? (i := 2) rfl) ⟨a, b, [], rfl, fun h => ?_, fun h => ?_⟩
  · have h3 := Int32.lt_iff_toInt_lt.mp h
    refine am_go (List.mem_of_getElem? (i := 5) rfl) ⟨b, ck_m1, ?_⟩
    exact am_go (List.mem_of_getElem? (i := 6) rfl) ⟨_, rfl, Or.inl (by decide +kernel), by decide +kernel, by decide +kernel, h2 (by omega)⟩
  · have h3 : ¬ a.toInt < b.toInt := fun q => h (Int32.lt_iff_toInt_lt.mpr q)
    refine am_go (List.mem_of_getElem? (i := 3) rfl) ⟨a, ck_m0, ?_⟩
    refine am_go (List.mem_of_getElem? (i := 4) rfl) ?_
    exact am_go (List.mem_of_getElem? (i := 6) rfl) ⟨_, rfl, Or.inl (by decide +kernel), by decide +kernel, by decide +kernel, h1 (by omega)⟩
theorem ck_cl {x ta q n : Nat} {fs : List Value} {F : Int32} {w : Nat} {u v : Nat → Int32} {Q : am_Q} (hta : fs[10]? = some (.ref ta)) (hn : n < 2147483647) : ∀ (r t : Nat) (f : Nat → Int32) (ws : va_W) (l : am_L) (k sl : Nat), k = 0 → sl = 0 → t + r = n → ws[q]? = some (ta, .inl (X 0, 16, .inl f)) → ck_T X ws x fs F w u v → (∀ b, b < 16 → f b = nI (ck_cb F w u v t b)) → (0, .ref x) ∈ l → (1, .int (nI n)) ∈ l → (2, .int (nI t)) ∈ l → (∀ f2 : Nat → Int32, (∀ b, b < 16 → f2 b = nI (ck_cb F w u v n b)) → Q (.inl none) (ws.set q (ta, .inl (X 0, 16, .inl f2)))) → am_Safe O X 264 22 l [] k sl ws Q := by
  intro r
  induction r with
  | zero =>
    intro t f ws l k sl hk hs hr hw hT hf m0 m1 m2 hQ
    subst hk hs
    have ht : t = n := by omega
    subst ht
    have hQ := hQ f hf
    rw [ck_ss hw] at hQ
    refine am_go (List.mem_of_getElem? (i := 12) rfl) ⟨nI t, m2, ?_⟩
    refine am_go (List.mem_of_getElem? (i := 13) rfl) ⟨nI t, m1, ?_⟩
    refine am_go (List.mem_of_getElem? (i := 14) rfl) ⟨nI t, nI t, [], rfl, fun _ => ?_, fun h => absurd (Int32.le_iff_toInt_le.mpr (Int.le_refl _)) h⟩
    exact am_go (List.mem_of_getElem? (i := 36) rfl) ⟨rfl, by decide +kernel, by decide +kernel, by decide +kernel, hQ⟩
  | succ r ih =>
    intro t f ws l k sl hk hs hr hw hT hf m0 m1 m2 hQ
    subst hk hs
    have et : (nI t).toInt = (t : Int) := ck_ti (by omega)
    have en : (nI n).toInt = (n : Int) := ck_ti (by omega)
    obtain ⟨cs, c, rr, ff, t1, t2, t3, t4, t5, t6, t7⟩ := id hT
    generalize hms : ck_ms F w u v t = b0
    have hb0 : b0 < 16 := by rw [← hms]; exact ck_ms_lt _ _ _ _ _
    have eb : (nI b0).toInt = (b0 : Int) := ck_ti (by omega)
    have ec : (nI b0).toNatClampNeg = b0 := an_clampN (by omega)
    have e16 : (Int32.ofNat 16).toInt = 16 := by decide +kernel
    have hin : vp_in (nI b0) 16 := vp_in_iff.mpr ⟨by rw [eb]; omega, by rw [eb]; omega⟩
    refine am_go (List.mem_of_getElem? (i := 12) rfl) ⟨nI t, m2, ?_⟩
    refine am_go (List.mem_of_getElem? (i := 13) rfl) ⟨nI n, m1, ?_⟩
    refine am_go (List.mem_of_getElem? (i := 14) rfl) ⟨nI t, nI n, [], rfl, fun h => absurd (Int32.le_iff_toInt_le.mp h) (by rw [et, en]; omega), fun _ => ?_⟩
    refine am_go (List.mem_of_getElem? (i := 15) rfl) ⟨some x, m0, ?_⟩
    refine am_go (List.mem_of_getElem? (i := 16) rfl) ⟨nI t, m2, ?_⟩
    refine am_go (List.mem_of_getElem? (i := 17) rfl) ?_
    refine ⟨[.ref x, .int (nI t)], [], rfl, rfl, by decide, Nat.le_of_ble_eq_true rfl, Nat.le_of_ble_eq_true rfl, fun _ => ⟨x, _, 12, fs, rfl, t1, by decide +kernel⟩, fun h => (by rcases h with h | h <;> cases h), by decide +kernel, by decide +kernel, by decide +kernel, by decide +kernel, fun r9 w9 => r9 = .inl (some (.int (nI b0))) ∧ ws = w9, ck_ba hT (by rw [hms]; exact ⟨rfl, rfl⟩), ?_⟩
    rintro r9 w9 ⟨rfl, rfl⟩
    refine am_go (List.mem_of_getElem? (i := 18) rfl) ⟨nI b0, [], rfl, by decide +kernel, ?_⟩
    refine am_go (List.mem_of_getElem? (i := 19) rfl) ⟨nI b0, ck_h1, ?_⟩
    refine am_go (List.mem_of_getElem? (i := 20) rfl) ⟨nI b0, [], rfl, fun h => absurd (Int32.lt_iff_toInt_lt.mp h) (by rw [eb, ck_z0]; omega), fun _ => ?_⟩
    refine am_go (List.mem_of_getElem? (i := 21) rfl) ⟨nI b0, ck_h1, ?_⟩
    refine am_go (List.mem_of_getElem? (i := 22) rfl) ⟨some x, ck_p1 m0 (by decide) rfl, ?_⟩
    refine am_go (List.mem_of_getElem? (i := 23) rfl) ⟨x, [.int (nI b0)], fs, .ref ta, rfl, t1, hta, ?_⟩
    refine am_go (List.mem_of_getElem? (i := 24) rfl) ⟨ta, [.int (nI b0)], 16, rfl, Or.inl ⟨0, .inl f, by decide, List.mem_of_getElem? hw⟩, ?_⟩
    refine am_go (List.mem_of_getElem? (i := 25) rfl) ⟨nI b0, Int32.ofNat 16, [], rfl, fun h => absurd (Int32.le_iff_toInt_le.mp h) (by rw [eb, e16]; omega), fun _ => ?_⟩
    refine am_go (List.mem_of_getElem? (i := 26) rfl) ⟨some x, ck_p1 m0 (by decide) rfl, ?_⟩
    refine am_go (List.mem_of_getElem? (i := 27) rfl) ⟨x, [], fs, .ref ta, rfl, t1, hta, ?_⟩
    refine am_go (List.mem_of_getElem? (i := 28) rfl) ⟨nI b0, ck_h1, ?_⟩
    refine am_go (List.mem_of_getElem? (i := 29) rfl) ⟨.int (nI b0), .ref ta, [], rfl, rfl, rfl, ?_⟩
    refine am_go (List.mem_of_getElem? (i := 30) rfl) ⟨nI b0, ta, [.int (nI b0), .ref ta], 16, f, rfl, Or.inl (List.mem_of_getElem? hw), hin, ?_⟩
    rw [ec, hf b0 hb0]
    refine am_go (List.mem_of_getElem? (i := 31) rfl) ?_
    refine am_go (List.mem_of_getElem? (i := 32) rfl) ⟨nI (ck_cb F w u v t b0), Int32.ofInt 1, nI (ck_cb F w u v t b0) + Int32.ofInt 1, [.int (nI b0), .ref ta], rfl, rfl, ?_⟩
    refine am_go (List.mem_of_getElem? (i := 33) rfl) ⟨nI (ck_cb F w u v t b0) + Int32.ofInt 1, nI b0, ta, [], q, 16, f, rfl, hw, hin, ?_⟩
    rw [ec, ck_inc]
    refine am_go (List.mem_of_getElem? (i := 34) rfl) ⟨nI t, ck_p1 m2 (by decide) rfl, ?_⟩
    refine am_go (List.mem_of_getElem? (i := 35) rfl) ?_
    rw [ck_inc]
    refine ih (t + 1) _ _ _ _ _ (by decide +kernel) (by decide +kernel) (by omega) (an_getset hw) (hT.set hw) (fun b hb => ?_) (ck_p1 (ck_p1 m0 (by decide) rfl) (by decide) rfl) (ck_p1 (ck_p1 m1 (by decide) rfl) (by decide) rfl) ck_h1 (fun f2 h2 => by rw [an_setset]; exact hQ f2 h2)
    have e : ck_cb F w u v (t + 1) b = ck_cb F w u v t b + (if (b0 == b) then 1 else 0) := by
      rw [← hms]
      rfl
    rw [e]
    simp only [upd]
    split
    · rename_i hbb
      subst hbb
      rw [if_pos (by simp)]
    · rename_i hbb
      rw [if_neg (by simp only [beq_iff_eq]; exact fun h => hbb h.symm), Nat.add_zero]
      exact hf b hb
theorem ck_ct {x ta q : Nat} {fs : List Value} {F : Int32} {w : Nat} {u v f : Nat → Int32} {ws : va_W} {Q : am_Q} (hta : fs[10]? = some (.ref ta)) (hF : F.toInt ≤ 999) (hw : ws[q]? = some (ta, .inl (X 0, 16, .inl f))) (hT : ck_T X ws x fs F w u v) (hQ : ∀ f2 : Nat → Int32, (∀ b, b < 16 → f2 b = nI (ck_cb F w u v (ck_n F) b)) → Q (.inl none) (ws.set q (ta, .inl (X 0, 16, .inl f2)))) : am_Safe O X 264 0 [(0, .ref x)] [] 0 0 ws Q := by
  obtain ⟨cs, c, rr, ff, t1, t2, t3, t4, t5, t6, t7⟩ := id hT
  refine am_go (List.mem_of_getElem? (i := 0) rfl) ⟨some x, ck_m0, ?_⟩
  refine am_go (List.mem_of_getElem? (i := 1) rfl) ⟨x, [], fs, .ref ta, rfl, t1, hta, ?_⟩
  refine am_go (List.mem_of_getElem? (i := 2) rfl) (ck_ic0 ?_)
  refine am_go (List.mem_of_getElem? (i := 3) rfl) (am_stT (by decide) ?_)
  refine ⟨[.ref ta, .int (nI 0)], [], rfl, rfl, by decide, Nat.le_of_ble_eq_true rfl, Nat.le_of_ble_eq_true rfl, fun h => (by cases h), fun h => (by rcases h with h | h <;> cases h), by decide +kernel, by decide +kernel, by decide +kernel, by decide +kernel, fun r9 w9 => r9 = .inl none ∧ ∃ f2 : Nat → Int32, (∀ j, j < 16 → f2 j = nI 0) ∧ w9 = ws.set q (ta, .inl (X 0, 16, .inl f2)), ck_fi hw (fun f2 h2 => ⟨rfl, f2, h2, rfl⟩), ?_⟩
  rintro r9 w9 ⟨rfl, f2, h2, rfl⟩
  have hT2 := hT.set (f1 := f2) hw
  have hw2 : (ws.set q (ta, .inl (X 0, 16, .inl f2)))[q]? = some (ta, .inl (X 0, 16, .inl f2)) := an_getset hw
  obtain ⟨cs, c, rr, ff, t1, t2, t3, t4, t5, t6, t7⟩ := id hT2
  refine am_go (List.mem_of_getElem? (i := 4) rfl) ?_
  refine am_go (List.mem_of_getElem? (i := 5) rfl) ⟨some x, ck_m0, ?_⟩
  refine am_go (List.mem_of_getElem? (i := 6) rfl) ⟨x, [.int (Int32.ofInt 1)], fs, .ref c, rfl, t1, t2, ?_⟩
  refine am_go (List.mem_of_getElem? (i := 7) rfl) ⟨c, [.int (Int32.ofInt 1)], cs, .int F, rfl, t3, t4, ?_⟩
  refine am_go (List.mem_of_getElem? (i := 8) rfl) (am_stT (by decide) ?_)
  have e1 : (Int32.ofInt 1).toInt = 1 := by decide +kernel
  have hn1 := ck_n1 hF
  refine ⟨[.int (Int32.ofInt 1), .int F], [], rfl, rfl, by decide, Nat.le_of_ble_eq_true rfl, Nat.le_of_ble_eq_true rfl, fun h => (by cases h), fun h => (by rcases h with h | h <;> cases h), by decide +kernel, by decide +kernel, by decide +kernel, by decide +kernel, fun r9 w9 => r9 = .inl (some (.int (nI (ck_n F)))) ∧ ws.set q (ta, .inl (X 0, 16, .inl f2)) = w9, ck_mx (fun h => ⟨?_, rfl⟩) (fun h => ⟨?_, rfl⟩), ?_⟩
  · have e : Int32.ofInt 1 = nI (ck_n F) := Int32.toInt_inj.mp (by rw [ck_ti (by omega), e1]; rw [e1] at h; unfold ck_n; omega)
    rw [← e]
  · have e : F = nI (ck_n F) := Int32.toInt_inj.mp (by rw [ck_ti (by omega)]; rw [e1] at h; unfold ck_n; omega)
    rw [← e]
  rintro r9 w9 ⟨rfl, rfl⟩
  refine am_go (List.mem_of_getElem? (i := 9) rfl) ⟨nI (ck_n F), [], rfl, by decide +kernel, ?_⟩
  refine am_go (List.mem_of_getElem? (i := 10) rfl) ?_
  refine am_go (List.mem_of_getElem? (i := 11) rfl) ⟨Int32.ofInt 0, [], rfl, by decide +kernel, ?_⟩
  rw [ck_o0]
  exact ck_cl hta (n := ck_n F) (by omega) (ck_n F) 0 f2 _ _ _ _ (by decide +kernel) (by decide +kernel) (by omega) hw2 hT2 (fun b hb => h2 b hb) (ck_p1 (ck_p1 ck_m0 (by decide) rfl) (by decide) rfl) (ck_p1 ck_h1 (by decide) rfl) ck_h1 (fun f3 h3 => by rw [an_setset]; exact hQ f3 h3)
theorem ck_tl {x t r ta : Nat} {fs ts : List Value} {F : Int32} {w wd : Nat} {u v f : Nat → Int32} {cc : Nat → Nat} {ws : va_W} {Q : am_Q} (hta : fs[10]? = some (.ref ta)) (hw : (ta, .inl (X 0, 16, .inl f)) ∈ ws) (hT : ck_T X ws x fs F w u v) (ht : (t, .inr (11, ts)) ∈ ws) (hg : ts[4]? = some (.int (nI wd))) (hr : r < 4) (hf : ∀ b, b < 16 → f b = nI (cc b)) (hQ : Q (.inl (some (.int (nI (ch_sum (fun b => if (w.testBit r && ck_hh wd r b) then cc b else 0) 16))))) ws) : ∀ (j b : Nat) (l : am_L) (k sl : Nat), k = 0 → sl = 0 → b + j = 16 → (0, .ref x) ∈ l → (1, .int (nI r)) ∈ l → (2, .ref t) ∈ l → (3, .int (nI (ch_sum (fun b => if (w.testBit r && ck_hh wd r b) then cc b else 0) b))) ∈ l → (4, .int (nI b)) ∈ l → am_Safe O X 265 5 l [] k sl ws Q := by
  obtain ⟨cs, c, rr, ff, t1, t2, t3, t4, t5, t6, t7⟩ := id hT
  have e16 : (Int32.ofNat 16).toInt = 16 := by decide +kernel
  intro j
  induction j with
  | zero =>
    intro b l k sl hk hs hj m0 m1 m2 m3 m4
    subst hk hs
    have hb : b = 16 := by omega
    subst hb
    refine am_go (List.mem_of_getElem? (i := 4) rfl) ⟨nI 16, m4, ?_⟩
    refine am_go (List.mem_of_getElem? (i := 5) rfl) ⟨some x, m0, ?_⟩
    refine am_go (List.mem_of_getElem? (i := 6) rfl) ⟨x, [.int (nI 16)], fs, .ref ta, rfl, t1, hta, ?_⟩
    refine am_go (List.mem_of_getElem? (i := 7) rfl) ⟨ta, [.int (nI 16)], 16, rfl, Or.inl ⟨0, .inl f, by decide, hw⟩, ?_⟩
    refine am_go (List.mem_of_getElem? (i := 8) rfl) ⟨nI 16, Int32.ofNat 16, [], rfl, fun _ => ?_, fun h => absurd (Int32.le_iff_toInt_le.mpr (by decide +kernel)) h⟩
    refine am_go (List.mem_of_getElem? (i := 24) rfl) ⟨_, m3, ?_⟩
    exact am_go (List.mem_of_getElem? (i := 25) rfl) ⟨_, rfl, Or.inl (by decide +kernel), by decide +kernel, by decide +kernel, hQ⟩
  | succ j ih =>
    intro b l k sl hk hs hj m0 m1 m2 m3 m4
    subst hk hs
    have eb : (nI b).toInt = (b : Int) := ck_ti (by omega)
    have ec : (nI b).toNatClampNeg = b := an_clampN (by omega)
    refine am_go (List.mem_of_getElem? (i := 4) rfl) ⟨nI b, m4, ?_⟩
    refine am_go (List.mem_of_getElem? (i := 5) rfl) ⟨some x, m0, ?_⟩
    refine am_go (List.mem_of_getElem? (i := 6) rfl) ⟨x, [.int (nI b)], fs, .ref ta, rfl, t1, hta, ?_⟩
    refine am_go (List.mem_of_getElem? (i := 7) rfl) ⟨ta, [.int (nI b)], 16, rfl, Or.inl ⟨0, .inl f, by decide, hw⟩, ?_⟩
    refine am_go (List.mem_of_getElem? (i := 8) rfl) ⟨nI b, Int32.ofNat 16, [], rfl, fun h => absurd (Int32.le_iff_toInt_le.mp h) (by rw [eb, e16]; omega), fun _ => ?_⟩
    refine am_go (List.mem_of_getElem? (i := 9) rfl) ⟨some x, m0, ?_⟩
    refine am_go (List.mem_of_getElem? (i := 10) rfl) ⟨some t, m2, ?_⟩
    refine am_go (List.mem_of_getElem? (i := 11) rfl) ⟨nI r, m1, ?_⟩
    refine am_go (List.mem_of_getElem? (i := 12) rfl) ⟨nI b, m4, ?_⟩
    refine am_go (List.mem_of_getElem? (i := 13) rfl) ?_
    refine ⟨[.ref x, .ref t, .int (nI r), .int (nI b)], [], rfl, rfl, by decide, Nat.le_of_ble_eq_true rfl, Nat.le_of_ble_eq_true rfl, fun _ => ⟨x, _, 12, fs, rfl, t1, by decide +kernel⟩, fun h => (by rcases h with h | h <;> cases h), by decide +kernel, by decide +kernel, by decide +kernel, by decide +kernel, fun r9 w9 => r9 = .inl (some (.int (ck_bi (w.testBit r && ck_hh wd r b)))) ∧ ws = w9, ck_he hT ht hg hr ⟨rfl, rfl⟩, ?_⟩
    rintro r9 w9 ⟨rfl, rfl⟩
    have hsu : ch_sum (fun b => if (w.testBit r && ck_hh wd r b) then cc b else 0) (b + 1) = ch_sum (fun b => if (w.testBit r && ck_hh wd r b) then cc b else 0) b + (if (w.testBit r && ck_hh wd r b) then cc b else 0) := rfl
    cases hB : (w.testBit r && ck_hh wd r b) with
    | false =>
      rw [hB] at hsu
      refine am_go (List.mem_of_getElem? (i := 14) rfl) ⟨ck_bi false, [], rfl, fun _ => ?_, fun h => absurd ((ck_e0 false).mpr rfl) h⟩
      refine am_go (List.mem_of_getElem? (i := 22) rfl) ⟨nI b, m4, ?_⟩
      refine am_go (List.mem_of_getElem? (i := 23) rfl) ?_
      rw [ck_inc]
      refine ih (b + 1) _ _ _ (by decide +kernel) (by decide +kernel) (by omega) (ck_p1 m0 (by decide) rfl) (ck_p1 m1 (by decide) rfl) (ck_p1 m2 (by decide) rfl) (ck_p1 ?_ (by decide) rfl) ck_h1
      rw [hsu, if_neg Bool.false_ne_true, Nat.add_zero]
      exact m3
    | true =>
      rw [hB] at hsu
      refine am_go (List.mem_of_getElem? (i := 14) rfl) ⟨ck_bi true, [], rfl, fun h => absurd ((ck_e0 true).mp h) (by decide), fun _ => ?_⟩
      refine am_go (List.mem_of_getElem? (i := 15) rfl) ⟨_, m3, ?_⟩
      refine am_go (List.mem_of_getElem? (i := 16) rfl) ⟨some x, m0, ?_⟩
      refine am_go (List.mem_of_getElem? (i := 17) rfl) ⟨x, [.int (nI (ch_sum (fun b => if (w.testBit r && ck_hh wd r b) then cc b else 0) b))], fs, .ref ta, rfl, t1, hta, ?_⟩
      refine am_go (List.mem_of_getElem? (i := 18) rfl) ⟨nI b, m4, ?_⟩
      refine am_go (List.mem_of_getElem? (i := 19) rfl) ⟨nI b, ta, [.int (nI (ch_sum (fun b => if (w.testBit r && ck_hh wd r b) then cc b else 0) b))], 16, f, rfl, Or.inl hw, vp_in_iff.mpr ⟨by rw [eb]; omega, by rw [eb]; omega⟩, ?_⟩
      rw [ec, hf b (by omega)]
      refine am_go (List.mem_of_getElem? (i := 20) rfl) ⟨nI (ch_sum (fun b => if (w.testBit r && ck_hh wd r b) then cc b else 0) b), nI (cc b), nI (ch_sum (fun b => if (w.testBit r && ck_hh wd r b) then cc b else 0) b) + nI (cc b), [], rfl, rfl, ?_⟩
      refine am_go (List.mem_of_getElem? (i := 21) rfl) ⟨nI (ch_sum (fun b => if (w.testBit r && ck_hh wd r b) then cc b else 0) b) + nI (cc b), [], rfl, by decide +kernel, ?_⟩
      refine am_go (List.mem_of_getElem? (i := 22) rfl) ⟨nI b, ck_p1 m4 (by decide) rfl, ?_⟩
      refine am_go (List.mem_of_getElem? (i := 23) rfl) ?_
      rw [ck_inc]
      refine ih (b + 1) _ _ _ (by decide +kernel) (by decide +kernel) (by omega) (ck_p1 (ck_p1 m0 (by decide) rfl) (by decide) rfl) (ck_p1 (ck_p1 m1 (by decide) rfl) (by decide) rfl) (ck_p1 (ck_p1 m2 (by decide) rfl) (by decide) rfl) (ck_p1 ?_ (by decide) rfl) ck_h1
      rw [hsu, if_pos rfl, ← nI_add]
      exact ck_h1
theorem ck_tc {x t r ta : Nat} {fs ts : List Value} {F : Int32} {w wd : Nat} {u v f : Nat → Int32} {ws : va_W} {Q : am_Q} (hta : fs[10]? = some (.ref ta)) (hw : (ta, .inl (X 0, 16, .inl f)) ∈ ws) (hT : ck_T X ws x fs F w u v) (ht : (t, .inr (11, ts)) ∈ ws) (hg : ts[4]? = some (.int (nI wd))) (hr : r < 4) (hwd : wd < 16) (hf : ∀ b, b < 16 → f b = nI (ck_cb F w u v (ck_n F) b)) (hQ : Q (.inl (some (.int (nI (ck_ch F w u v wd r))))) ws) : am_Safe O X 265 0 [(0, .ref x), (1, .int (nI r)), (2, .ref t)] [] 0 0 ws Q := by
  rw [← ck_tot hwd hr] at hQ
  refine am_go (List.mem_of_getElem? (i := 0) rfl) ?_
  refine am_go (List.mem_of_getElem? (i := 1) rfl) ⟨Int32.ofInt 0, [], rfl, by decide +kernel, ?_⟩
  refine am_go (List.mem_of_getElem? (i := 2) rfl) ?_
  refine am_go (List.mem_of_getElem? (i := 3) rfl) ⟨Int32.ofInt 0, [], rfl, by decide +kernel, ?_⟩
  rw [ck_o0]
  exact ck_tl hta hw hT ht hg hr hf hQ 16 0 _ _ _ rfl rfl rfl (ck_p1 (ck_p1 ck_m0 (by decide) rfl) (by decide) rfl) (ck_p1 (ck_p1 ck_m1 (by decide) rfl) (by decide) rfl) (ck_p1 (ck_p1 ck_m2 (by decide) rfl) (by decide) rfl) (ck_p1 ck_h1 (by decide) rfl) ck_h1
theorem ck_hoF : ∀ (w : Fin 16) (k : Fin 4), decide ((nI w.val >>> (nI k.val &&& 31)) &&& Int32.ofInt 1 = Int32.ofInt 1) = w.val.testBit k.val := by decide +kernel
theorem ck_ho {w k : Nat} {ws : va_W} {Q : am_Q} (hw : w < 16) (hk : k < 4) (hQ : Q (.inl (some (.int (ck_bi (w.testBit k))))) ws) : am_Safe O X 55 0 [(0, .int (nI w)), (1, .int (nI k))] [] 0 0 ws Q := by
  have e : decide ((nI w >>> (nI k &&& 31)) &&& Int32.ofInt 1 = Int32.ofInt 1) = w.testBit k := ck_hoF ⟨w, hw⟩ ⟨k, hk⟩
  rw [← e] at hQ
  refine am_go (List.mem_of_getElem? (i := 0) rfl) ⟨nI w, ck_m0, ?_⟩
  refine am_go (List.mem_of_getElem? (i := 1) rfl) ⟨nI k, ck_m1, ?_⟩
  refine am_go (List.mem_of_getElem? (i := 2) rfl) ⟨nI w, nI k, nI w >>> (nI k &&& 31), [], rfl, rfl, ?_⟩
  refine am_go (List.mem_of_getElem? (i := 3) rfl) ?_
  refine am_go (List.mem_of_getElem? (i := 4) rfl) ⟨nI w >>> (nI k &&& 31), Int32.ofInt 1, (nI w >>> (nI k &&& 31)) &&& Int32.ofInt 1, [], rfl, rfl, ?_⟩
  refine am_go (List.mem_of_getElem? (i := 5) rfl) ?_
  refine am_go (List.mem_of_getElem? (i := 6) rfl) ⟨(nI w >>> (nI k &&& 31)) &&& Int32.ofInt 1, Int32.ofInt 1, [], rfl, fun h => ?_, fun h => ?_⟩
  · have h : ¬ ((nI w >>> (nI k &&& 31)) &&& Int32.ofInt 1 = Int32.ofInt 1) := h
    rw [decide_eq_false h] at hQ
    refine am_go (List.mem_of_getElem? (i := 9) rfl) ?_
    exact am_go (List.mem_of_getElem? (i := 10) rfl) ⟨_, rfl, Or.inr ⟨by decide +kernel, Or.inl (by decide +kernel)⟩, by decide +kernel, by decide +kernel, hQ⟩
  · have h : ¬ ¬ ((nI w >>> (nI k &&& 31)) &&& Int32.ofInt 1 = Int32.ofInt 1) := h
    rw [decide_eq_true (Classical.not_not.mp h)] at hQ
    refine am_go (List.mem_of_getElem? (i := 7) rfl) ?_
    refine am_go (List.mem_of_getElem? (i := 8) rfl) ?_
    exact am_go (List.mem_of_getElem? (i := 10) rfl) ⟨_, rfl, Or.inr ⟨by decide +kernel, Or.inr (by decide +kernel)⟩, by decide +kernel, by decide +kernel, hQ⟩
theorem ck_im {p a b : Int32} {ws : va_W} {Q : am_Q} (hQ : Q (.inl (some (.int (ck_bi (decide (a.toInt ≤ p.toInt) && decide (p.toInt ≤ b.toInt)))))) ws) : am_Safe O X 32 0 [(0, .int p), (1, .int a), (2, .int b)] [] 0 0 ws Q := by
  refine am_go (List.mem_of_getElem? (i := 0) rfl) ⟨p, ck_m0, ?_⟩
  refine am_go (List.mem_of_getElem? (i := 1) rfl) ⟨a, ck_m1, ?_⟩
  refine am_go (List.mem_of_getElem? (i := 2) rfl) ⟨p, a, [], rfl, fun h => ?_, fun h => ?_⟩
  · have h := Int32.lt_iff_toInt_lt.mp h
    rw [decide_eq_false (show ¬ a.toInt ≤ p.toInt by omega)] at hQ
    refine am_go (List.mem_of_getElem? (i := 8) rfl) ?_
    exact am_go (List.mem_of_getElem? (i := 9) rfl) ⟨_, rfl, Or.inr ⟨by decide +kernel, Or.inl (by decide +kernel)⟩, by decide +kernel, by decide +kernel, hQ⟩
  · have h2 : ¬ p.toInt < a.toInt := fun q => h (Int32.lt_iff_toInt_lt.mpr q)
    rw [decide_eq_true (show a.toInt ≤ p.toInt by omega)] at hQ
    refine am_go (List.mem_of_getElem? (i := 3) rfl) ⟨p, ck_m0, ?_⟩
    refine am_go (List.mem_of_getElem? (i := 4) rfl) ⟨b, ck_m2, ?_⟩
    refine am_go (List.mem_of_getElem? (i := 5) rfl) ⟨p, b, [], rfl, fun h => ?_, fun h => ?_⟩
    · have h := Int32.lt_iff_toInt_lt.mp h
      rw [decide_eq_false (show ¬ p.toInt ≤ b.toInt by omega)] at hQ
      refine am_go (List.mem_of_getElem? (i := 8) rfl) ?_
      exact am_go (List.mem_of_getElem? (i := 9) rfl) ⟨_, rfl, Or.inr ⟨by decide +kernel, Or.inl (by decide +kernel)⟩, by decide +kernel, by decide +kernel, hQ⟩
    · have h3 : ¬ b.toInt < p.toInt := fun q => h (Int32.lt_iff_toInt_lt.mpr q)
      rw [decide_eq_true (show p.toInt ≤ b.toInt by omega)] at hQ
      refine am_go (List.mem_of_getElem? (i := 6) rfl) ?_
      refine am_go (List.mem_of_getElem? (i := 7) rfl) ?_
      exact am_go (List.mem_of_getElem? (i := 9) rfl) ⟨_, rfl, Or.inr ⟨by decide +kernel, Or.inr (by decide +kernel)⟩, by decide +kernel, by decide +kernel, hQ⟩
theorem ck_io {k : Nat} {m : Nat} {fs : List Value} {F : Int32} {w : Nat} {u v rr : Nat → Int32} {ws : va_W} {Q : am_Q} (hM : ck_M X ws m fs F w u v rr) (hw : w < 16) (hk : k < 4) (hQ : Q (.inl (some (.int (ck_bi (w.testBit k))))) ws) : am_Safe O X 56 0 [(0, .ref m), (1, .int (nI k))] [] 0 0 ws Q := by
  obtain ⟨fa, tk, ra, t1, t2, t3, t4, t5, t6, t7, t8, t9⟩ := id hM
  refine am_go (List.mem_of_getElem? (i := 0) rfl) ⟨some m, ck_m0, ?_⟩
  refine am_go (List.mem_of_getElem? (i := 1) rfl) ⟨m, [], fs, _, rfl, t1, t3, ?_⟩
  refine am_go (List.mem_of_getElem? (i := 2) rfl) ⟨nI k, ck_m1, ?_⟩
  refine am_go (List.mem_of_getElem? (i := 3) rfl) (am_stT (by decide) ?_)
  refine ⟨[.int (nI w), .int (nI k)], [], rfl, rfl, by decide, Nat.le_of_ble_eq_true rfl, Nat.le_of_ble_eq_true rfl, fun h => (by cases h), fun h => (by rcases h with h | h <;> cases h), by decide +kernel, by decide +kernel, by decide +kernel, by decide +kernel, fun r9 w9 => r9 = .inl (some (.int (ck_bi (w.testBit k)))) ∧ ws = w9, ck_ho hw hk ⟨rfl, rfl⟩, ?_⟩
  rintro r9 w9 ⟨rfl, rfl⟩
  exact am_go (List.mem_of_getElem? (i := 4) rfl) ⟨_, rfl, Or.inr ⟨by decide +kernel, ck_01 _⟩, by decide +kernel, by decide +kernel, hQ⟩
theorem ck_mb {k t : Nat} {m : Nat} {fs : List Value} {F : Int32} {w : Nat} {u v rr : Nat → Int32} {ws : va_W} {Q : am_Q} (hM : ck_M X ws m fs F w u v rr) (hw : w < 16) (hk : k < 4) (hu : 0 ≤ (u k).toInt ∧ (u k).toInt ≤ 999) (hv : 0 ≤ (v k).toInt ∧ (v k).toInt ≤ 999) (hQ : Q (.inl (some (.int (ck_bi (ck_bs F w u v t k))))) ws) : am_Safe O X 156 0 [(0, .ref m), (1, .int (nI k)), (2, .int (nI t))] [] 0 0 ws Q := by
  obtain ⟨fa, tk, ra, t1, t2, t3, t4, t5, t6, t7, t8, t9⟩ := id hM
  have ek : (nI k).toInt = (k : Int) := ck_ti (by omega)
  have ec : (nI k).toNatClampNeg = k := an_clampN (by omega)
  have hin : vp_in (nI k) 4 := vp_in_iff.mpr ⟨by rw [ek]; omega, by rw [ek]; omega⟩
  have no : ∀ (k9 s9 : Nat), k9 = 0 → s9 = 0 → ck_bs F w u v t k = false → am_Safe O X 156 52 [(0, .ref m), (1, .int (nI k)), (2, .int (nI t))] [] k9 s9 ws Q := by
    intro k9 s9 hk9 hs9 e
    subst hk9 hs9
    rw [e] at hQ
    refine am_go (List.mem_of_getElem? (i := 30) rfl) ?_
    exact am_go (List.mem_of_getElem? (i := 31) rfl) ⟨_, rfl, Or.inr ⟨by decide +kernel, Or.inl (by decide +kernel)⟩, by decide +kernel, by decide +kernel, hQ⟩
  refine am_go (List.mem_of_getElem? (i := 0) rfl) ⟨some m, ck_m0, ?_⟩
  refine am_go (List.mem_of_getElem? (i := 1) rfl) ⟨nI k, ck_m1, ?_⟩
  refine am_go (List.mem_of_getElem? (i := 2) rfl) ?_
  refine ⟨[.ref m, .int (nI k)], [], rfl, rfl, by decide, Nat.le_of_ble_eq_true rfl, Nat.le_of_ble_eq_true rfl, fun _ => ⟨m, _, 13, fs, rfl, t1, by decide +kernel⟩, fun h => (by rcases h with h | h <;> cases h), by decide +kernel, by decide +kernel, by decide +kernel, by decide +kernel, fun r9 w9 => r9 = .inl (some (.int (ck_bi (w.testBit k)))) ∧ ws = w9, ck_io hM hw hk ⟨rfl, rfl⟩, ?_⟩
  rintro r9 w9 ⟨rfl, rfl⟩
  refine am_go (List.mem_of_getElem? (i := 3) rfl) ⟨ck_bi (w.testBit k), [], rfl, fun h => no _ _ (by decide +kernel) (by decide +kernel) ?_, fun h => ?_⟩
  · unfold ck_bs ck_bb
    rw [(ck_e0 _).mp h, Bool.false_and, Bool.and_false]
  have hwk : w.testBit k = true := by
    cases h9 : w.testBit k with
    | false => rw [h9] at h; exact absurd ((ck_e0 false).mpr rfl) h
    | true => rfl
  refine am_go (List.mem_of_getElem? (i := 4) rfl) ⟨some m, ck_m0, ?_⟩
  refine am_go (List.mem_of_getElem? (i := 5) rfl) ⟨m, [], fs, _, rfl, t1, t2, ?_⟩
  refine am_go (List.mem_of_getElem? (i := 6) rfl) ⟨F, [], rfl, fun h => no _ _ (by decide +kernel) (by decide +kernel) ?_, fun h => ?_⟩
  · have h := Int32.le_iff_toInt_le.mp h
    rw [ck_z0] at h
    unfold ck_bs
    rw [decide_eq_false (show ¬ 0 < F.toInt by omega), Bool.false_and]
  have hF : ¬ F.toInt ≤ 0 := fun q => h (Int32.le_iff_toInt_le.mpr (by rw [ck_z0]; exact q))
  have hF0 : F ≠ 0 := by
    rintro rfl
    rw [ck_z0] at hF
    omega
  refine am_go (List.mem_of_getElem? (i := 7) rfl) ⟨nI t, ck_m2, ?_⟩
  refine am_go (List.mem_of_getElem? (i := 8) rfl) ⟨some m, ck_m0, ?_⟩
  refine am_go (List.mem_of_getElem? (i := 9) rfl) ⟨m, [.int (nI t)], fs, _, rfl, t1, t2, ?_⟩
  refine am_go (List.mem_of_getElem? (i := 10) rfl) ⟨nI t, F, ck_pl F t, [], rfl, ck_rm hF0, ?_⟩
  refine am_go (List.mem_of_getElem? (i := 11) rfl) ⟨some m, ck_m0, ?_⟩
  refine am_go (List.mem_of_getElem? (i := 12) rfl) ⟨m, [.int (ck_pl F t)], fs, _, rfl, t1, t4, ?_⟩
  refine am_go (List.mem_of_getElem? (i := 13) rfl) ⟨nI k, ck_m1, ?_⟩
  refine am_go (List.mem_of_getElem? (i := 14) rfl) ⟨nI k, fa, [.int (ck_pl F t)], 4, u, rfl, Or.inl t5, hin, ?_⟩
  rw [ec]
  refine am_go (List.mem_of_getElem? (i := 15) rfl) ⟨some m, ck_m0, ?_⟩
  refine am_go (List.mem_of_getElem? (i := 16) rfl) ⟨m, [.int (u k), .int (ck_pl F t)], fs, _, rfl, t1, t4, ?_⟩
  refine am_go (List.mem_of_getElem? (i := 17) rfl) ⟨nI k, ck_m1, ?_⟩
  refine am_go (List.mem_of_getElem? (i := 18) rfl) ⟨nI k, fa, [.int (u k), .int (ck_pl F t)], 4, u, rfl, Or.inl t5, hin, ?_⟩
  rw [ec]
  refine am_go (List.mem_of_getElem? (i := 19) rfl) ⟨some m, ck_m0, ?_⟩
  refine am_go (List.mem_of_getElem? (i := 20) rfl) ⟨m, [.int (u k), .int (u k), .int (ck_pl F t)], fs, _, rfl, t1, t6, ?_⟩
  refine am_go (List.mem_of_getElem? (i := 21) rfl) ⟨nI k, ck_m1, ?_⟩
  refine am_go (List.mem_of_getElem? (i := 22) rfl) ⟨nI k, tk, [.int (u k), .int (u k), .int (ck_pl F t)], 4, v, rfl, Or.inl t7, hin, ?_⟩
  rw [ec]
  refine am_go (List.mem_of_getElem? (i := 23) rfl) ⟨u k, v k, u k + v k, [.int (u k), .int (ck_pl F t)], rfl, rfl, ?_⟩
  refine am_go (List.mem_of_getElem? (i := 24) rfl) ?_
  refine am_go (List.mem_of_getElem? (i := 25) rfl) ⟨u k + v k, Int32.ofInt 1, u k + v k - Int32.ofInt 1, [.int (u k), .int (ck_pl F t)], rfl, rfl, ?_⟩
  have e1 : (Int32.ofInt 1).toInt = 1 := by decide +kernel
  have ea : (u k + v k).toInt = (u k).toInt + (v k).toInt := an_addI (by simp only [an_MN]; omega) (by simp only [an_MX]; omega)
  have es : (u k + v k - Int32.ofInt 1).toInt = (u k).toInt + (v k).toInt - 1 := by
    rw [an_subI (by rw [ea, e1]; simp only [an_MN]; omega) (by rw [ea, e1]; simp only [an_MX]; omega), ea, e1]
  have eb : ck_bs F w u v t k = (decide ((u k).toInt ≤ (ck_pl F t).toInt) && decide ((ck_pl F t).toInt ≤ (u k + v k - Int32.ofInt 1).toInt)) := by
    unfold ck_bs ck_bb ck_in
    rw [decide_eq_true (show 0 < F.toInt by omega), hwk, Bool.true_and, Bool.true_and, es, ea]
    congr 1
    exact decide_eq_decide.mpr ⟨fun h => by omega, fun h => by omega⟩
  refine am_go (List.mem_of_getElem? (i := 26) rfl) (am_stT (by decide) ?_)
  refine ⟨[.int (ck_pl F t), .int (u k), .int (u k + v k - Int32.ofInt 1)], [], rfl, rfl, by decide, Nat.le_of_ble_eq_true rfl, Nat.le_of_ble_eq_true rfl, fun h => (by cases h), fun h => (by rcases h with h | h <;> cases h), by decide +kernel, by decide +kernel, by decide +kernel, by decide +kernel, fun r9 w9 => r9 = .inl (some (.int (ck_bi (ck_bs F w u v t k)))) ∧ ws = w9, ck_im (by rw [← eb]; exact ⟨rfl, rfl⟩), ?_⟩
  rintro r9 w9 ⟨rfl, rfl⟩
  cases hB : ck_bs F w u v t k with
  | false =>
    refine am_go (List.mem_of_getElem? (i := 27) rfl) ⟨ck_bi false, [], rfl, fun _ => no _ _ (by decide +kernel) (by decide +kernel) hB, fun h => absurd ((ck_e0 false).mpr rfl) h⟩
  | true =>
    rw [hB] at hQ
    refine am_go (List.mem_of_getElem? (i := 27) rfl) ⟨ck_bi true, [], rfl, fun h => absurd ((ck_e0 true).mp h) (by decide), fun _ => ?_⟩
    refine am_go (List.mem_of_getElem? (i := 28) rfl) ?_
    refine am_go (List.mem_of_getElem? (i := 29) rfl) ?_
    exact am_go (List.mem_of_getElem? (i := 31) rfl) ⟨_, rfl, Or.inr ⟨by decide +kernel, Or.inr (by decide +kernel)⟩, by decide +kernel, by decide +kernel, hQ⟩
theorem ck_hl {tg r t wd : Nat} {m : Nat} {fs : List Value} {F : Int32} {w : Nat} {u v rr : Nat → Int32} {ws : va_W} {Q : am_Q} (hM : ck_M X ws m fs F w u v rr) (hw : w < 16) (hu : ∀ i, i < 4 → 0 ≤ (u i).toInt ∧ (u i).toInt ≤ 999) (hv : ∀ i, i < 4 → 0 ≤ (v i).toInt ∧ (v i).toInt ≤ 999) (hg : tg < 16) (hrt : rr tg = nI wd) (hwd : wd < 16) (hr : r < 4) : ∀ (n o : Nat) (l : am_L) (k sl : Nat), k = 0 → sl = 0 → o + n = 4 → (0, .ref m) ∈ l → (1, .int (nI tg)) ∈ l → (2, .int (nI r)) ∈ l → (3, .int (nI t)) ∈ l → (4, .int (nI o)) ∈ l → Q (.inl (some (.int (ck_bi (ck_al (ck_A F w u v wd r t) n o))))) ws → am_Safe O X 157 26 l [] k sl ws Q := by
  obtain ⟨fa, tk, ra, t1, t2, t3, t4, t5, t6, t7, t8, t9⟩ := id hM
  have e4 : (Int32.ofInt 4).toInt = 4 := by decide +kernel
  have eg : (nI tg).toInt = (tg : Int) := ck_ti (by omega)
  have ec : (nI tg).toNatClampNeg = tg := an_clampN (by omega)
  have hin : vp_in (nI tg) 16 := vp_in_iff.mpr ⟨by rw [eg]; omega, by rw [eg]; omega⟩
  intro n
  induction n with
  | zero =>
    intro o l k sl hk hs ho m0 m1 m2 m3 m4 hQ
    subst hk hs
    have ho : o = 4 := by omega
    subst ho
    refine am_go (List.mem_of_getElem? (i := 15) rfl) ⟨nI 4, m4, ?_⟩
    refine am_go (List.mem_of_getElem? (i := 16) rfl) ?_
    refine am_go (List.mem_of_getElem? (i := 17) rfl) ⟨nI 4, Int32.ofInt 4, [], rfl, fun _ => ?_, fun h => absurd (Int32.le_iff_toInt_le.mpr (by decide +kernel)) h⟩
    refine am_go (List.mem_of_getElem? (i := 37) rfl) ?_
    exact am_go (List.mem_of_getElem? (i := 38) rfl) ⟨_, rfl, Or.inr ⟨by decide +kernel, Or.inr (by decide +kernel)⟩, by decide +kernel, by decide +kernel, hQ⟩
  | succ n ih =>
    intro o l k sl hk hs ho m0 m1 m2 m3 m4 hQ
    subst hk hs
    have eo : (nI o).toInt = (o : Int) := ck_ti (by omega)
    have hal : ck_al (ck_A F w u v wd r t) (n + 1) o = (ck_A F w u v wd r t o && ck_al (ck_A F w u v wd r t) n (o + 1)) := rfl
    rw [hal] at hQ
    have nx : ∀ (k9 s9 : Nat), k9 = 0 → s9 = 0 → ck_A F w u v wd r t o = true → am_Safe O X 157 64 l [] k9 s9 ws Q := by
      intro k9 s9 hk9 hs9 e
      subst hk9 hs9
      rw [e, Bool.true_and] at hQ
      refine am_go (List.mem_of_getElem? (i := 35) rfl) ⟨nI o, m4, ?_⟩
      refine am_go (List.mem_of_getElem? (i := 36) rfl) ?_
      rw [ck_inc]
      exact ih (o + 1) _ _ _ rfl rfl (by omega) (ck_p1 m0 (by decide) rfl) (ck_p1 m1 (by decide) rfl) (ck_p1 m2 (by decide) rfl) (ck_p1 m3 (by decide) rfl) ck_h1 hQ
    refine am_go (List.mem_of_getElem? (i := 15) rfl) ⟨nI o, m4, ?_⟩
    refine am_go (List.mem_of_getElem? (i := 16) rfl) ?_
    refine am_go (List.mem_of_getElem? (i := 17) rfl) ⟨nI o, Int32.ofInt 4, [], rfl, fun h => absurd (Int32.le_iff_toInt_le.mp h) (by rw [eo, e4]; omega), fun _ => ?_⟩
    refine am_go (List.mem_of_getElem? (i := 18) rfl) ⟨nI o, m4, ?_⟩
    refine am_go (List.mem_of_getElem? (i := 19) rfl) ⟨nI r, m2, ?_⟩
    refine am_go (List.mem_of_getElem? (i := 20) rfl) ⟨nI o, nI r, [], rfl, fun h => nx _ _ (by decide +kernel) (by decide +kernel) ?_, fun h => ?_⟩
    · have h : nI o = nI r := h
      have h9 : o = r := (nI_eq (by omega) (by omega)).mp h
      unfold ck_A
      rw [decide_eq_true h9, Bool.true_or]
    have hor : ¬ o = r := by
      rintro rfl
      exact h rfl
    refine am_go (List.mem_of_getElem? (i := 21) rfl) ⟨some m, m0, ?_⟩
    refine am_go (List.mem_of_getElem? (i := 22) rfl) ⟨m, [], fs, _, rfl, t1, t8, ?_⟩
    refine am_go (List.mem_of_getElem? (i := 23) rfl) ⟨nI tg, m1, ?_⟩
    refine am_go (List.mem_of_getElem? (i := 24) rfl) ⟨nI tg, ra, [], 16, rr, rfl, Or.inl t9, hin, ?_⟩
    rw [ec, hrt]
    refine am_go (List.mem_of_getElem? (i := 25) rfl) ⟨nI o, m4, ?_⟩
    refine am_go (List.mem_of_getElem? (i := 26) rfl) (am_stT (by decide) ?_)
    refine ⟨[.int (nI wd), .int (nI o)], [], rfl, rfl, by decide, Nat.le_of_ble_eq_true rfl, Nat.le_of_ble_eq_true rfl, fun h => (by cases h), fun h => (by rcases h with h | h <;> cases h), by decide +kernel, by decide +kernel, by decide +kernel, by decide +kernel, fun r9 w9 => r9 = .inl (some (.int (ck_bi (wd.testBit o)))) ∧ ws = w9, ck_ho hwd (by omega) ⟨rfl, rfl⟩, ?_⟩
    rintro r9 w9 ⟨rfl, rfl⟩
    cases hB : wd.testBit o with
    | false =>
      refine am_go (List.mem_of_getElem? (i := 27) rfl) ⟨ck_bi false, [], rfl, fun _ => nx _ _ (by decide +kernel) (by decide +kernel) ?_, fun h => absurd ((ck_e0 false).mpr rfl) h⟩
      unfold ck_A
      rw [hB, Bool.not_false, Bool.true_or, Bool.or_true]
    | true =>
      refine am_go (List.mem_of_getElem? (i := 27) rfl) ⟨ck_bi true, [], rfl, fun h => absurd ((ck_e0 true).mp h) (by decide), fun _ => ?_⟩
      refine am_go (List.mem_of_getElem? (i := 28) rfl) ⟨some m, m0, ?_⟩
      refine am_go (List.mem_of_getElem? (i := 29) rfl) ⟨nI o, m4, ?_⟩
      refine am_go (List.mem_of_getElem? (i := 30) rfl) ⟨nI t, m3, ?_⟩
      refine am_go (List.mem_of_getElem? (i := 31) rfl) ?_
      refine ⟨[.ref m, .int (nI o), .int (nI t)], [], rfl, rfl, by decide, Nat.le_of_ble_eq_true rfl, Nat.le_of_ble_eq_true rfl, fun _ => ⟨m, _, 13, fs, rfl, t1, by decide +kernel⟩, fun h => (by rcases h with h | h <;> cases h), by decide +kernel, by decide +kernel, by decide +kernel, by decide +kernel, fun r9 w9 => r9 = .inl (some (.int (ck_bi (ck_bs F w u v t o)))) ∧ ws = w9, ck_mb hM hw (by omega) (hu o (by omega)) (hv o (by omega)) ⟨rfl, rfl⟩, ?_⟩
      rintro r9 w9 ⟨rfl, rfl⟩
      have hA : ck_A F w u v wd r t o = !(ck_bs F w u v t o) := by
        unfold ck_A
        rw [hB, decide_eq_false hor, Bool.not_true, Bool.false_or, Bool.false_or]
      cases hC : ck_bs F w u v t o with
      | false =>
        refine am_go (List.mem_of_getElem? (i := 32) rfl) ⟨ck_bi false, [], rfl, fun _ => nx _ _ (by decide +kernel) (by decide +kernel) (by rw [hA, hC]; rfl), fun h => absurd ((ck_e0 false).mpr rfl) h⟩
      | true =>
        rw [hA, hC, Bool.not_true, Bool.false_and] at hQ
        refine am_go (List.mem_of_getElem? (i := 32) rfl) ⟨ck_bi true, [], rfl, fun h => absurd ((ck_e0 true).mp h) (by decide), fun _ => ?_⟩
        refine am_go (List.mem_of_getElem? (i := 33) rfl) ?_
        exact am_go (List.mem_of_getElem? (i := 34) rfl) ⟨_, rfl, Or.inr ⟨by decide +kernel, Or.inl (by decide +kernel)⟩, by decide +kernel, by decide +kernel, hQ⟩
theorem ck_ha {tg r t wd : Nat} {m : Nat} {fs : List Value} {F : Int32} {w : Nat} {u v rr : Nat → Int32} {ws : va_W} {Q : am_Q} (hM : ck_M X ws m fs F w u v rr) (hw : w < 16) (hu : ∀ i, i < 4 → 0 ≤ (u i).toInt ∧ (u i).toInt ≤ 999) (hv : ∀ i, i < 4 → 0 ≤ (v i).toInt ∧ (v i).toInt ≤ 999) (hg : tg < 16) (hrt : rr tg = nI wd) (hwd : wd < 16) (hr : r < 4) (hQ : Q (.inl (some (.int (ck_bi (ck_hm F w u v wd r t))))) ws) : am_Safe O X 157 0 [(0, .ref m), (1, .int (nI tg)), (2, .int (nI r)), (3, .int (nI t))] [] 0 0 ws Q := by
  obtain ⟨fa, tk, ra, t1, t2, t3, t4, t5, t6, t7, t8, t9⟩ := id hM
  have eg : (nI tg).toInt = (tg : Int) := ck_ti (by omega)
  have ec : (nI tg).toNatClampNeg = tg := an_clampN (by omega)
  have hin : vp_in (nI tg) 16 := vp_in_iff.mpr ⟨by rw [eg]; omega, by rw [eg]; omega⟩
  unfold ck_hm at hQ
  have no : ∀ (k9 s9 : Nat), k9 = 0 → s9 = 0 → (w.testBit r && (wd.testBit r && ck_al (ck_A F w u v wd r t) 4 0)) = false → am_Safe O X 157 21 [(0, .ref m), (1, .int (nI tg)), (2, .int (nI r)), (3, .int (nI t))] [] k9 s9 ws Q := by
    intro k9 s9 hk9 hs9 e
    subst hk9 hs9
    rw [e] at hQ
    refine am_go (List.mem_of_getElem? (i := 11) rfl) ?_
    exact am_go (List.mem_of_getElem? (i := 12) rfl) ⟨_, rfl, Or.inr ⟨by decide +kernel, Or.inl (by decide +kernel)⟩, by decide +kernel, by decide +kernel, hQ⟩
  refine am_go (List.mem_of_getElem? (i := 0) rfl) ⟨some m, ck_m0, ?_⟩
  refine am_go (List.mem_of_getElem? (i := 1) rfl) ⟨nI r, ck_m2, ?_⟩
  refine am_go (List.mem_of_getElem? (i := 2) rfl) ?_
  refine ⟨[.ref m, .int (nI r)], [], rfl, rfl, by decide, Nat.le_of_ble_eq_true rfl, Nat.le_of_ble_eq_true rfl, fun _ => ⟨m, _, 13, fs, rfl, t1, by decide +kernel⟩, fun h => (by rcases h with h | h <;> cases h), by decide +kernel, by decide +kernel, by decide +kernel, by decide +kernel, fun r9 w9 => r9 = .inl (some (.int (ck_bi (w.testBit r)))) ∧ ws = w9, ck_io hM hw hr ⟨rfl, rfl⟩, ?_⟩
  rintro r9 w9 ⟨rfl, rfl⟩
  cases hB : w.testBit r with
  | false =>
    refine am_go (List.mem_of_getElem? (i := 3) rfl) ⟨ck_bi false, [], rfl, fun _ => no _ _ (by decide +kernel) (by decide +kernel) (by rw [hB, Bool.false_and]), fun h => absurd ((ck_e0 false).mpr rfl) h⟩
  | true =>
    refine am_go (List.mem_of_getElem? (i := 3) rfl) ⟨ck_bi true, [], rfl, fun h => absurd ((ck_e0 true).mp h) (by decide), fun _ => ?_⟩
    refine am_go (List.mem_of_getElem? (i := 4) rfl) ⟨some m, ck_m0, ?_⟩
    refine am_go (List.mem_of_getElem? (i := 5) rfl) ⟨m, [], fs, _, rfl, t1, t8, ?_⟩
    refine am_go (List.mem_of_getElem? (i := 6) rfl) ⟨nI tg, ck_m1, ?_⟩
    refine am_go (List.mem_of_getElem? (i := 7) rfl) ⟨nI tg, ra, [], 16, rr, rfl, Or.inl t9, hin, ?_⟩
    rw [ec, hrt]
    refine am_go (List.mem_of_getElem? (i := 8) rfl) ⟨nI r, ck_m2, ?_⟩
    refine am_go (List.mem_of_getElem? (i := 9) rfl) (am_stT (by decide) ?_)
    refine ⟨[.int (nI wd), .int (nI r)], [], rfl, rfl, by decide, Nat.le_of_ble_eq_true rfl, Nat.le_of_ble_eq_true rfl, fun h => (by cases h), fun h => (by rcases h with h | h <;> cases h), by decide +kernel, by decide +kernel, by decide +kernel, by decide +kernel, fun r9 w9 => r9 = .inl (some (.int (ck_bi (wd.testBit r)))) ∧ ws = w9, ck_ho hwd hr ⟨rfl, rfl⟩, ?_⟩
    rintro r9 w9 ⟨rfl, rfl⟩
    cases hC : wd.testBit r with
    | false =>
      refine am_go (List.mem_of_getElem? (i := 10) rfl) ⟨ck_bi false, [], rfl, fun h => absurd ((ck_e0 false).mpr rfl) h, fun _ => no _ _ (by decide +kernel) (by decide +kernel) (by rw [hC, Bool.false_and, Bool.and_false])⟩
    | true =>
      rw [hB, hC, Bool.true_and, Bool.true_and] at hQ
      refine am_go (List.mem_of_getElem? (i := 10) rfl) ⟨ck_bi true, [], rfl, fun _ => ?_, fun h => absurd ck_nt h⟩
      refine am_go (List.mem_of_getElem? (i := 13) rfl) ?_
      refine am_go (List.mem_of_getElem? (i := 14) rfl) ⟨Int32.ofInt 0, [], rfl, by decide +kernel, ?_⟩
      rw [ck_o0]
      exact ck_hl hM hw hu hv hg hrt hwd hr 4 0 _ _ _ (by decide +kernel) (by decide +kernel) rfl (ck_p1 ck_m0 (by decide) rfl) (ck_p1 ck_m1 (by decide) rfl) (ck_p1 ck_m2 (by decide) rfl) (ck_p1 ck_m3 (by decide) rfl) ck_h1 hQ
theorem ck_ml {tg r wd n : Nat} {m : Nat} {fs : List Value} {F : Int32} {w : Nat} {u v rr : Nat → Int32} {ws : va_W} {Q : am_Q} (hM : ck_M X ws m fs F w u v rr) (hw : w < 16) (hu : ∀ i, i < 4 → 0 ≤ (u i).toInt ∧ (u i).toInt ≤ 999) (hv : ∀ i, i < 4 → 0 ≤ (v i).toInt ∧ (v i).toInt ≤ 999) (hF : 0 ≤ F.toInt ∧ F.toInt ≤ 999) (hg : tg < 16) (hrt : rr tg = nI wd) (hwd : wd < 16) (hr : r < 4) (hn : n = ck_n F) (hQ : Q (.inl (some (.int (nI (ch_cnt (fun s => ck_hm F w u v wd r s) n))))) ws) : ∀ (j t : Nat) (l : am_L) (k sl : Nat), k = 0 → sl = 0 → t + j = n → (0, .ref m) ∈ l → (1, .int (nI r)) ∈ l → (2, .int (nI tg)) ∈ l → (3, .int (nI (ch_cnt (fun s => ck_hm F w u v wd r s) t))) ∈ l → (4, .int (nI t)) ∈ l → am_Safe O X 268 5 l [] k sl ws Q := by
  obtain ⟨fa, tk, ra, t1, t2, t3, t4, t5, t6, t7, t8, t9⟩ := id hM
  have hn1 := ck_n1 hF.2
  have e1 : (Int32.ofInt 1).toInt = 1 := by decide +kernel
  -- to place 22 with the number of ticks
  have top : ∀ (t : Nat) (l : am_L), (0, .ref m) ∈ l → (4, .int (nI t)) ∈ l → (∀ z : Int32, z.toInt = (n : Int) → am_Safe O X 268 22 l [.int z, .int (nI t)] 0 0 ws Q) → am_Safe O X 268 5 l [] 0 0 ws Q := by
    intro t l m0 m4 h22
    refine am_go (List.mem_of_getElem? (i := 4) rfl) ⟨nI t, m4, ?_⟩
    refine am_go (List.mem_of_getElem? (i := 5) rfl) ⟨some m, m0, ?_⟩
    refine am_go (List.mem_of_getElem? (i := 6) rfl) ⟨m, [.int (nI t)], fs, _, rfl, t1, t2, ?_⟩
    refine am_go (List.mem_of_getElem? (i := 7) rfl) ⟨F, [.int (nI t)], rfl, fun h => ?_, fun h => ?_⟩
    · have h : ¬ F = 0 := h
      have hF0 : F.toInt ≠ 0 := fun q => h (Int32.toInt_inj.mp (by rw [q, ck_z0]))
      refine am_go (List.mem_of_getElem? (i := 10) rfl) ⟨some m, m0, ?_⟩
      refine am_go (List.mem_of_getElem? (i := 11) rfl) ⟨m, [.int (nI t)], fs, _, rfl, t1, t2, ?_⟩
      exact h22 F (by rw [hn]; unfold ck_n; omega)
    · have h : ¬ ¬ F = 0 := h
      have hF0 : F.toInt = 0 := by rw [Classical.not_not.mp h, ck_z0]
      refine am_go (List.mem_of_getElem? (i := 8) rfl) ?_
      refine am_go (List.mem_of_getElem? (i := 9) rfl) ?_
      exact h22 _ (by rw [hn, e1]; unfold ck_n; omega)
  intro j
  induction j with
  | zero =>
    intro t l k sl hk hs hj m0 m1 m2 m3 m4
    subst hk hs
    have ht : t = n := by omega
    subst ht
    refine top t l m0 m4 (fun z hz => ?_)
    have et : (nI t).toInt = (t : Int) := ck_ti (by omega)
    refine am_go (List.mem_of_getElem? (i := 12) rfl) ⟨nI t, z, [], rfl, fun _ => ?_, fun h => absurd (Int32.le_iff_toInt_le.mpr (by rw [et, hz]; exact Int.le_refl _)) h⟩
    refine am_go (List.mem_of_getElem? (i := 27) rfl) ⟨_, m3, ?_⟩
    exact am_go (List.mem_of_getElem? (i := 28) rfl) ⟨_, rfl, Or.inl (by decide +kernel), by decide +kernel, by decide +kernel, hQ⟩
  | succ j ih =>
    intro t l k sl hk hs hj m0 m1 m2 m3 m4
    subst hk hs
    refine top t l m0 m4 (fun z hz => ?_)
    have et : (nI t).toInt = (t : Int) := ck_ti (by omega)
    refine am_go (List.mem_of_getElem? (i := 12) rfl) ⟨nI t, z, [], rfl, fun h => absurd (Int32.le_iff_toInt_le.mp h) (by rw [et, hz]; omega), fun _ => ?_⟩
    refine am_go (List.mem_of_getElem? (i := 13) rfl) ⟨_, m3, ?_⟩
    refine am_go (List.mem_of_getElem? (i := 14) rfl) ⟨some m, m0, ?_⟩
    refine am_go (List.mem_of_getElem? (i := 15) rfl) ⟨nI tg, m2, ?_⟩
    refine am_go (List.mem_of_getElem? (i := 16) rfl) ⟨nI r, m1, ?_⟩
    refine am_go (List.mem_of_getElem? (i := 17) rfl) ⟨nI t, m4, ?_⟩
    refine am_go (List.mem_of_getElem? (i := 18) rfl) ?_
    refine ⟨[.ref m, .int (nI tg), .int (nI r), .int (nI t)], [(.int (nI (ch_cnt (fun s => ck_hm F w u v wd r s) t)))], rfl, rfl, by decide, Nat.le_of_ble_eq_true rfl, Nat.le_of_ble_eq_true rfl, fun _ => ⟨m, _, 13, fs, rfl, t1, by decide +kernel⟩, fun h => (by rcases h with h | h <;> cases h), by decide +kernel, by decide +kernel, by decide +kernel, by decide +kernel, fun r9 w9 => r9 = .inl (some (.int (ck_bi (ck_hm F w u v wd r t)))) ∧ ws = w9, ck_ha hM hw hu hv hg hrt hwd hr ⟨rfl, rfl⟩, ?_⟩
    rintro r9 w9 ⟨rfl, rfl⟩
    have hct : ch_cnt (fun s => ck_hm F w u v wd r s) (t + 1) = ch_cnt (fun s => ck_hm F w u v wd r s) t + (if ck_hm F w u v wd r t then 1 else 0) := rfl
    have fin : ∀ (d k9 s9 : Nat), k9 = 0 → s9 = 0 → d = (if ck_hm F w u v wd r t then 1 else 0) → am_Safe O X 268 42 l [.int (nI d), .int (nI (ch_cnt (fun s => ck_hm F w u v wd r s) t))] k9 s9 ws Q := by
      intro d k9 s9 hk9 hs9 hd
      subst hk9 hs9
      refine am_go (List.mem_of_getElem? (i := 23) rfl) ⟨nI (ch_cnt (fun s => ck_hm F w u v wd r s) t), nI d, nI (ch_cnt (fun s => ck_hm F w u v wd r s) t) + nI d, [], rfl, rfl, ?_⟩
      refine am_go (List.mem_of_getElem? (i := 24) rfl) ⟨nI (ch_cnt (fun s => ck_hm F w u v wd r s) t) + nI d, [], rfl, by decide +kernel, ?_⟩
      refine am_go (List.mem_of_getElem? (i := 25) rfl) ⟨nI t, ck_p1 m4 (by decide) rfl, ?_⟩
      refine am_go (List.mem_of_getElem? (i := 26) rfl) ?_
      rw [ck_inc]
      refine ih (t + 1) _ _ _ rfl rfl (by omega) (ck_p1 (ck_p1 m0 (by decide) rfl) (by decide) rfl) (ck_p1 (ck_p1 m1 (by decide) rfl) (by decide) rfl) (ck_p1 (ck_p1 m2 (by decide) rfl) (by decide) rfl) (ck_p1 ?_ (by decide) rfl) ck_h1
      rw [hct, ← hd, ← nI_add]
      exact ck_h1
    cases hB : ck_hm F w u v wd r t with
    | false =>
      rw [hB] at fin
      refine am_go (List.mem_of_getElem? (i := 19) rfl) ⟨ck_bi false, [(.int (nI (ch_cnt (fun s => ck_hm F w u v wd r s) t)))], rfl, fun _ => ?_, fun h => absurd ((ck_e0 false).mpr rfl) h⟩
      refine am_go (List.mem_of_getElem? (i := 22) rfl) (ck_ic0 ?_)
      exact fin 0 _ _ (by decide +kernel) (by decide +kernel) rfl
    | true =>
      rw [hB] at fin
      refine am_go (List.mem_of_getElem? (i := 19) rfl) ⟨ck_bi true, [(.int (nI (ch_cnt (fun s => ck_hm F w u v wd r s) t)))], rfl, fun h => absurd ((ck_e0 true).mp h) (by decide), fun _ => ?_⟩
      refine am_go (List.mem_of_getElem? (i := 20) rfl) ?_
      refine am_go (List.mem_of_getElem? (i := 21) rfl) ?_
      rw [show Int32.ofInt 1 = nI 1 from by decide +kernel]
      exact fin 1 _ _ (by decide +kernel) (by decide +kernel) rfl
theorem ck_mc {tg r wd : Nat} {m : Nat} {fs : List Value} {F : Int32} {w : Nat} {u v rr : Nat → Int32} {ws : va_W} {Q : am_Q} (hM : ck_M X ws m fs F w u v rr) (hw : w < 16) (hu : ∀ i, i < 4 → 0 ≤ (u i).toInt ∧ (u i).toInt ≤ 999) (hv : ∀ i, i < 4 → 0 ≤ (v i).toInt ∧ (v i).toInt ≤ 999) (hF : 0 ≤ F.toInt ∧ F.toInt ≤ 999) (hg : tg < 16) (hrt : rr tg = nI wd) (hwd : wd < 16) (hr : r < 4) (hQ : Q (.inl (some (.int (nI (ck_ch F w u v wd r))))) ws) : am_Safe O X 268 0 [(0, .ref m), (1, .int (nI r)), (2, .int (nI tg))] [] 0 0 ws Q := by
  refine am_go (List.mem_of_getElem? (i := 0) rfl) ?_
  refine am_go (List.mem_of_getElem? (i := 1) rfl) ⟨Int32.ofInt 0, [], rfl, by decide +kernel, ?_⟩
  refine am_go (List.mem_of_getElem? (i := 2) rfl) ?_
  refine am_go (List.mem_of_getElem? (i := 3) rfl) ⟨Int32.ofInt 0, [], rfl, by decide +kernel, ?_⟩
  rw [ck_o0]
  exact ck_ml hM hw hu hv hF hg hrt hwd hr rfl hQ (ck_n F) 0 _ _ _ rfl rfl (by omega) (ck_p1 (ck_p1 ck_m0 (by decide) rfl) (by decide) rfl) (ck_p1 (ck_p1 ck_m1 (by decide) rfl) (by decide) rfl) (ck_p1 (ck_p1 ck_m2 (by decide) rfl) (by decide) rfl) (ck_p1 ck_h1 (by decide) rfl) ck_h1
end CK
