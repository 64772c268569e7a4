/-! THE HEAP, SEEN BY THE CHECKER: what stands at an address, its shape, what is read there. -/
def an_at : va_W → Nat → Option va_E
  | [], _ => none
  | q :: ws, a => if q.1 = a then some q.2 else an_at ws a
def an_nd (ws : va_W) : Prop := (ws.map (fun q => q.1)).Nodup
theorem an_at_mem {ws : va_W} {a : Nat} {e : va_E} (h : an_at ws a = some e) : (a, e) ∈ ws := by
  induction ws with
  | nil => cases h
  | cons q ws ih =>
    simp only [an_at] at h
    split at h
    · rename_i hq
      cases h
      subst hq
      exact List.mem_cons_self
    · exact List.mem_cons_of_mem _ (ih h)
theorem an_mem_at {ws : va_W} (hn : an_nd ws) {a : Nat} {e : va_E} (h : (a, e) ∈ ws) : an_at ws a = some e := by
  induction ws with
  | nil => cases h
  | cons q ws ih =>
    simp only [an_nd, List.map_cons, List.nodup_cons] at hn
    simp only [an_at]
    rcases List.mem_cons.mp h with rfl | h
    · simp
    · rw [if_neg]
      · exact ih hn.2 h
      · intro hq
        exact hn.1 (List.mem_map.mpr ⟨(a, e), h, hq.symm⟩)
theorem an_at_ix {ws : va_W} {a : Nat} {e : va_E} (h : an_at ws a = some e) : ∃ q : Nat, ws[q]? = some (a, e) := List.getElem?_of_mem (an_at_mem h)
theorem an_at_none {ws : va_W} {a : Nat} (h : ∀ q ∈ ws, q.1 ≠ a) : an_at ws a = none := by
  induction ws with
  | nil => rfl
  | cons q ws ih =>
    simp only [an_at]
    rw [if_neg (h q List.mem_cons_self)]
    exact ih (fun x hx => h x (List.mem_cons_of_mem _ hx))
theorem an_map_set {ws : va_W} {q a : Nat} {e e2 : va_E} (h : ws[q]? = some (a, e)) : (ws.set q (a, e2)).map (fun q => q.1) = ws.map (fun q => q.1) := by
  apply List.ext_getElem?
  intro i
  rw [List.getElem?_map, List.getElem?_map, List.getElem?_set]
  by_cases hi : q = i
  · subst hi
    have hl := (List.getElem?_eq_some_iff.mp h).1
    rw [if_pos rfl, if_pos hl, h]
    rfl
  · rw [if_neg hi]
theorem an_nd_set {ws : va_W} (hn : an_nd ws) {q a : Nat} {e e2 : va_E} (h : ws[q]? = some (a, e)) : an_nd (ws.set q (a, e2)) := by
  simp only [an_nd, an_map_set h]; exact hn
theorem an_at_set {ws : va_W} (hn : an_nd ws) {q a : Nat} {e e2 : va_E} (h : ws[q]? = some (a, e)) (b : Nat) : an_at (ws.set q (a, e2)) b = if b = a then some e2 else an_at ws b := by
  have hn2 := an_nd_set (e2 := e2) hn h
  have hl := (List.getElem?_eq_some_iff.mp h).1
  by_cases hb : b = a
  · rw [if_pos hb, hb]
    refine an_mem_at hn2 (List.mem_of_getElem? (i := q) ?_)
    simp [hl]
  · rw [if_neg hb]
    cases hw : an_at ws b with
    | none =>
      refine an_at_none (fun x hx hxb => ?_)
      obtain ⟨i, hi⟩ := List.getElem?_of_mem hx
      rw [List.getElem?_set] at hi
      split at hi
      · first
        | (split at hi
           · cases hi; exact hb hxb.symm
           · cases hi)
        | (cases hi; exact hb hxb.symm)
      · have h9 : (b, x.2) ∈ ws := by rw [← hxb]; exact List.mem_of_getElem? hi
        have := an_mem_at hn h9
        rw [hw] at this
        cases this
    | some e3 =>
      obtain ⟨i, hi⟩ := an_at_ix hw
      have hne : q ≠ i := by
        intro he
        subst he
        rw [h] at hi
        cases hi
        exact hb rfl
      refine an_mem_at hn2 (List.mem_of_getElem? (i := i) ?_)
      rw [List.getElem?_set_ne hne]
      exact hi
theorem an_at_app {ws : va_W} {a : Nat} {e : va_E} (hf : am_fresh ws a) (b : Nat) : an_at (ws ++ [(a, e)]) b = if b = a then some e else an_at ws b := by
  induction ws with
  | nil =>
    simp only [List.nil_append, an_at]
    by_cases hb : b = a
    · rw [if_pos hb, if_pos hb.symm]
    · rw [if_neg hb, if_neg (Ne.symm hb)]
  | cons q ws ih =>
    simp only [List.cons_append, an_at]
    have hq := hf q List.mem_cons_self
    rw [ih (fun x hx => hf x (List.mem_cons_of_mem _ hx))]
    by_cases hqb : q.1 = b
    · rw [if_pos hqb, if_pos hqb, if_neg (fun h => hq (hqb.trans h))]
    · rw [if_neg hqb, if_neg hqb]
theorem an_nd_app {ws : va_W} (hn : an_nd ws) {a : Nat} {e : va_E} (hf : am_fresh ws a) : an_nd (ws ++ [(a, e)]) := by
  simp only [an_nd, List.map_append, List.map_cons, List.map_nil]
  rw [List.nodup_append]
  refine ⟨hn, by simp, fun x hx y hy => ?_⟩
  rw [List.mem_singleton] at hy
  subst hy
  obtain ⟨q, hq, rfl⟩ := List.mem_map.mp hx
  exact hf q hq
theorem an_at_fresh {ws : va_W} {a : Nat} (hf : am_fresh ws a) : an_at ws a = none := an_at_none hf
abbrev an_Mu : Type := Nat → Option va_E
abbrev an_Ka : Type := Nat → Option Nat
abbrev an_Sh : Type := (Nat × Nat) ⊕ (ClassId × Nat × Nat)
/-- the shape: class and number of fields, or class and length of a row and of what it is -/
def an_sh : va_E → an_Sh
  | .inr (ci, fs) => .inl (ci, fs.length)
  | .inl (c, n, .inl _) => .inr (c, n, 0)
  | .inl (c, n, .inr (.inl _)) => .inr (c, n, 1)
  | .inl (c, n, .inr (.inr (.inl _))) => .inr (c, n, 2)
  | .inl (c, n, .inr (.inr (.inr (.inl _)))) => .inr (c, n, 3)
  | .inl (c, n, .inr (.inr (.inr (.inr _)))) => .inr (c, n, 4)
/-- what stands in field 'key', at place i of a row (1000), its length (1001) -/
def an_rde (e : va_E) (key i : Nat) : Option Value := match e with
  | .inr (_, fs) => if key < 1000 ∧ i = 0 then fs[key]? else none
  | .inl (_, n, z) => if key = 1001 ∧ i = 0 then some (.int (Int32.ofNat n)) else if key = 1000 then (match z with
    | .inl f => some (.int (f i))
    | .inr (.inl f) => some (.long (f i))
    | .inr (.inr (.inr (.inr f))) => some (va_rf (f i))
    | _ => none) else none
def an_rd (μ : an_Mu) (a key i : Nat) : Option Value := (μ a).bind (fun e => an_rde e key i)
/-- one place is told anew, nothing else -/
def an_upd (μ μ2 : an_Mu) (a key j : Nat) (v : Value) : Prop := (∀ b, (μ2 b).map an_sh = (μ b).map an_sh) ∧ an_rd μ2 a key j = some v ∧ (∀ b k i, ¬ (b = a ∧ k = key ∧ i = j) → an_rd μ2 b k i = an_rd μ b k i)
theorem an_upd_field {ws : va_W} (hn : an_nd ws) {q a ci k : Nat} {fs : List Value} {v : Value} (h : ws[q]? = some (a, .inr (ci, fs))) (hk : k < fs.length) (hk2 : k < 1000) : an_upd (an_at ws) (an_at (ws.set q (a, .inr (ci, fs.set k v)))) a k 0 v := by
  have h0 : an_at ws a = some (.inr (ci, fs)) := an_mem_at hn (List.mem_of_getElem? h)
  refine ⟨fun b => ?_, ?_, fun b kk i hb => ?_⟩
  · rw [an_at_set hn h]
    split
    · rename_i hb; subst hb; rw [h0]; simp [an_sh]
    · rfl
  · simp only [an_rd, an_at_set hn h, if_true, Option.bind_some, an_rde]
    rw [if_pos (by first | exact ⟨hk2, rfl⟩ | exact ⟨hk2, trivial⟩)]
    simp [hk]
  · simp only [an_rd, an_at_set hn h]
    split
    · rename_i hba
      subst hba
      rw [h0]
      simp only [Option.bind_some, an_rde]
      split
      · rename_i hc
        rw [List.getElem?_set]
        split
        · rename_i hkk
          exact absurd ⟨rfl, hkk.symm, hc.2⟩ hb
        · rfl
      · rfl
    · rfl
theorem an_upd_row {ws : va_W} (hn : an_nd ws) {q a n j : Nat} {c : ClassId} {z z2 : (Nat → Int32) ⊕ (Nat → Int64) ⊕ (Nat → UInt32) ⊕ (Nat → UInt64) ⊕ (Nat → Option Nat)} {v : Value} (h : ws[q]? = some (a, .inl (c, n, z))) (hs : an_sh (.inl (c, n, z2)) = an_sh (.inl (c, n, z)))
    (h1 : an_rde (.inl (c, n, z2)) 1000 j = some v) (h2 : ∀ i, i ≠ j → an_rde (.inl (c, n, z2)) 1000 i = an_rde (.inl (c, n, z)) 1000 i) : an_upd (an_at ws) (an_at (ws.set q (a, .inl (c, n, z2)))) a 1000 j v := by
  have h0 : an_at ws a = some (.inl (c, n, z)) := an_mem_at hn (List.mem_of_getElem? h)
  refine ⟨fun b => ?_, ?_, fun b kk i hb => ?_⟩
  · rw [an_at_set hn h]
    split
    · rename_i hb; subst hb; rw [h0]; simp [hs]
    · rfl
  · simp only [an_rd, an_at_set hn h, if_true, Option.bind_some]
    exact h1
  · simp only [an_rd, an_at_set hn h]
    split
    · rename_i hba
      subst hba
      rw [h0]
      simp only [Option.bind_some]
      by_cases hk : kk = 1000
      · subst hk
        exact h2 i (fun he => hb ⟨rfl, rfl, he⟩)
      · simp only [an_rde, if_neg hk]
    · rfl
/-- an element of a list -/
def an_rle (μ : an_Mu) (a i : Nat) : Option Value := match an_rd μ a 2 0, an_rd μ a 1 0 with
  | some (.int s), some (.ref e) => if (i : Int) < s.toInt then an_rd μ e 1000 i else none
  | _, _ => none
/-- what stands at a place of a cell of a kind (1004: an element of a list) -/
def an_rp (kd : Nat) (μ : an_Mu) (a key j : Nat) : Option Value := if key = 1004 then (if kd = an_KL then an_rle μ a j else none) else an_rd μ a key j
theorem an_rp_ne {kd key : Nat} {μ : an_Mu} {a j : Nat} (h : key ≠ 1004) : an_rp kd μ a key j = an_rd μ a key j := if_neg h
theorem an_rp_L {μ : an_Mu} {a j : Nat} : an_rp an_KL μ a 1004 j = an_rle μ a j := by
  unfold an_rp
  rw [if_pos rfl, if_pos rfl]
theorem an_rp_O {kd : Nat} {μ : an_Mu} {a j : Nat} (h : kd ≠ an_KL) : an_rp kd μ a 1004 j = none := by
  unfold an_rp
  rw [if_pos rfl, if_neg h]
theorem an_rl_lt {μ : an_Mu} {a i : Nat} {w : Value} (h : an_rle μ a i = some w) : i < 2147483648 := by
  unfold an_rle at h
  split at h
  · rename_i s e _ _
    split at h
    · rename_i hi
      have := s.toInt_lt
      have e31 : (2 : Int) ^ 31 = 2147483648 := by decide
      omega
    · cases h
  · cases h
section ANH
variable (O : am_O) (X : Nat → ClassId)
/-- a value of a type -/
def an_vt (κ : an_Ka) (t : an_Ty) (w : Value) : Prop := match t with
  | (0, lo, hi) => ∃ x : Int32, w = .int x ∧ lo ≤ x.toInt ∧ x.toInt ≤ hi
  | (1, kd, _) => ∃ a, w = .ref a ∧ κ a = some kd.toNat ∧ 0 < kd
  | (2, _, _) => ∃ x, w = va_rf x
  | (3, _, _) => ∃ x : Int64, w = .long x
  | _ => False
/-- the cell at a is of a kind -/
def an_kh (κ : an_Ka) (μ : an_Mu) (a kd : Nat) : Prop := match an_ki kd with
  | (0, ci, tys, _) => (μ a).map an_sh = some (.inl (ci, tys.length)) ∧ tys.length < 1000 ∧ ∀ i t, tys[i]? = some t → ∃ w, an_rd μ a i 0 = some w ∧ an_vt κ t w
  | (1, _, _, lo, hi, t) => ∃ n : Nat, (μ a).map an_sh = some (.inr (X 0, n, 0)) ∧ n < 2147483648 ∧ lo ≤ (n : Int) ∧ (n : Int) ≤ hi ∧ ∀ i, i < n → ∃ w, an_rd μ a 1000 i = some w ∧ an_vt κ t w
  | (2, _, _, lo, hi, t) => ∃ n : Nat, (μ a).map an_sh = some (.inr (X 1, n, 1)) ∧ n < 2147483648 ∧ lo ≤ (n : Int) ∧ (n : Int) ≤ hi ∧ ∀ i, i < n → ∃ w, an_rd μ a 1000 i = some w ∧ an_vt κ t w
  | (3, x, _, lo, hi, t) => ∃ n : Nat, (μ a).map an_sh = some (.inr (X x, n, 4)) ∧ (x = 2 ∨ x = 3) ∧ n < 2147483648 ∧ lo ≤ (n : Int) ∧ (n : Int) ≤ hi ∧ ∀ i, i < n → ∃ w, an_rd μ a 1000 i = some w ∧ an_vt κ t w
  | _ => False
/-- the list: its row is the empty one of before, or one that no other kind has; what it holds are tags -/
def an_lh (κ : an_Ka) (μ : an_Mu) (a : Nat) : Prop := ∃ (e n : Nat) (s : Int32), an_rd μ a 1 0 = some (.ref e) ∧ an_rd μ a 2 0 = some (.int s) ∧ 0 ≤ s.toInt ∧ s.toInt ≤ (n : Int) ∧ (n ≤ 22 ∧ (n = 0 → e = (O 3).1)) ∧ ((e = (O 3).1 ∧ n = 0) ∨ (κ e = none ∧ (μ e).map an_sh = some (.inr (X 3, n, 4)))) ∧
  ∀ i : Nat, (i : Int) < s.toInt → ∃ b, an_rd μ e 1000 i = some (.ref b) ∧ κ b = some an_KTg
def an_hi2 (κ : an_Ka) (μ : an_Mu) : Prop := (∀ a kd, κ a = some kd → an_kh X κ μ a kd) ∧ ∀ a, κ a = some an_KL → an_lh O X κ μ a
end ANH
theorem an_rl_eq {O : am_O} {X : Nat → ClassId} {κ : an_Ka} {μ μ2 : an_Mu} {b : Nat} (h : an_lh O X κ μ b) (h1 : an_rd μ2 b 1 0 = an_rd μ b 1 0) (h2 : an_rd μ2 b 2 0 = an_rd μ b 2 0) (h3 : ∀ e i n, κ e = none → (μ e).map an_sh = some (.inr (X 3, n, 4)) → an_rd μ2 e 1000 i = an_rd μ e 1000 i) (i : Nat) : an_rle μ2 b i = an_rle μ b i := by
  obtain ⟨e, n, s, l1, l2, l3, l4, ⟨l5, l5b⟩, l6, l7⟩ := h
  simp only [an_rle, h1, h2, l1, l2]
  split
  · rename_i hi
    rcases l6 with ⟨-, l6⟩ | ⟨l6, l8⟩
    · omega
    · exact h3 e i n l6 l8
  · rfl
/-- one place is told: all others stand -/
theorem an_rp_upd {O : am_O} {X : Nat → ClassId} {κ : an_Ka} {μ μ2 : an_Mu} {a key j kd : Nat} {w : Value} (hi : an_hi2 O X κ μ) (hu : an_upd μ μ2 a key j w) (ha : κ a = some kd) (hkl : kd ≠ an_KL) {b kb k i : Nat} (hb : κ b = some kb) (hn : ¬ (b = a ∧ k = key ∧ i = j)) : an_rp kb μ2 b k i = an_rp kb μ b k i := by
  obtain ⟨u1, u2, u3⟩ := hu
  by_cases hk : k = 1004
  · subst hk
    by_cases hl : kb = an_KL
    · subst hl
      have hba : b ≠ a := by
        rintro rfl
        exact hkl (Option.some.inj (ha.symm.trans hb))
      rw [an_rp_L, an_rp_L]
      refine an_rl_eq (hi.2 b hb) (u3 _ _ _ (fun h => hba h.1)) (u3 _ _ _ (fun h => hba h.1)) (fun e i2 n he _ => u3 _ _ _ ?_) i
      rintro ⟨rfl, -⟩
      rw [he] at ha
      cases ha
    · rw [an_rp_O hl, an_rp_O hl]
  · rw [an_rp_ne hk, an_rp_ne hk]
    exact u3 _ _ _ hn
